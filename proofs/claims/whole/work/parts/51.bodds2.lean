/-! ===== the class's odds ===== -/
def cnt (s : Nat) : Nat → Nat
  | 0 => 0
  | k + 1 => cnt s k + bt1 s k
theorem cnt_pop : ∀ m, m ≤ 6 → ∀ s, s < 64 → s < 2 ^ m → pop s = cnt s m := by decide +kernel
theorem owN_c {p s : Nat} : ∀ k, cnt s k ≤ k ∧ owN p s k = p ^ cnt s k * (10 - p) ^ (k - cnt s k)
  | 0 => ⟨Nat.le_refl _, rfl⟩
  | k + 1 => by
    obtain ⟨h1, h2⟩ := owN_c (p := p) (s := s) k
    have hb := bt1_le s k
    show cnt s k + bt1 s k ≤ k + 1 ∧ owN p s k * (if bt1 s k = 1 then p else 10 - p) = p ^ (cnt s k + bt1 s k) * (10 - p) ^ (k + 1 - (cnt s k + bt1 s k))
    rcases (show bt1 s k = 0 ∨ bt1 s k = 1 by omega) with e | e
    · rw [e, if_neg (by omega), h2]
      refine ⟨by omega, ?_⟩
      rw [show k + 1 - (cnt s k + 0) = (k - cnt s k) + 1 by omega, Nat.pow_succ, Nat.add_zero, Nat.mul_assoc]
    · rw [e, if_pos rfl, h2]
      refine ⟨by omega, ?_⟩
      rw [show k + 1 - (cnt s k + 1) = k - cnt s k by omega, Nat.pow_succ, Nat.mul_right_comm]
theorem b_odds (Γ : Cx) (I : MemI) (J : MemJ) (n : Nat) (t : Nat → Int32) (V : Vw I n t) (hok : okT n t) (a p m w : Nat) (d : Int32) (ha : a ≤ 20) (hp : p ≤ 10) (hm : m ≤ 6) (hd : 0 ≤ d ∧ d ≤ 99) (hw : w < 2) : Ct Γ M_Bo_odds [.ref 1, .int (nI a), .int (nI p), .int (nI m), .int d, .int (nI w)] S0 I J (bsQ (some (.long (odR (oaN n t a p m d (2 ^ m)) (10 ^ m) w))) I J) := by
  have hn := V.1
  obtain ⟨sh, sh2⟩ := shl1 m hm
  have hl1 := p10_le hm
  have hl0 := p10_pos m
  have hu := oaN_le (n := n) (t := t) (a := a) (d := d) hp hm (2 ^ m)
  have LP : ∀ (f s : Nat) (v u1 u2 : Value) (I1 : MemI), v.category = 1 → s + f = 2 ^ m → scF I I1 → WP Γ M_Bo_odds (0, 0) S0 I1 J 73 [.ref 1, .int (nI a), .int (nI p), .int (nI m), .int d, .int (nI w), .int (nI 1), .long (lN (oaN n t a p m d s)), .null, .int (nI s), v, u1, u2] [] (bsQ (some (.long (odR (oaN n t a p m d (2 ^ m)) (10 ^ m) w))) I J) := by
    intro f
    induction f with
    | zero =>
      intro s v u1 u2 I1 hv hsf hF0
      obtain rfl : s = 2 ^ m := by omega
      have gp : 0 < Nat.gcd (10 ^ m) (oaN n t a p m d (2 ^ m)) := Nat.gcd_pos_of_pos_left _ hl0
      have gl : Nat.gcd (10 ^ m) (oaN n t a p m d (2 ^ m)) ≤ (10 ^ m) := Nat.gcd_le_left _ hl0
      refine p_iload d_Bo_odds_73 rfl ?_
      refine p_ic_1 d_Bo_odds_75 ?_
      refine p_iload_n d_Bo_odds_76 rfl ?_
      refine p_ishl d_Bo_odds_77 ?_
      refine p_eqI sh ?_
      refine p_icmpgeN (tgt := 130) ((2 ^ m)) ((2 ^ m)) d_Bo_odds_78 (by decide) rfl rfl (by omega) (by omega) (fun h78 => ?_) (fun h78 => ?_)
      · refine p_bi_10 d_Bo_odds_130 ?_
        refine p_iload_n d_Bo_odds_132 rfl ?_
        refine q_S1 d_Bo_odds_133 ml_Bo_221 sb_Bo_power ⟨leb rfl, leb rfl⟩ (b_power Γ S0 I1 J 10 m (by omega) hm) rfl rfl rfl ?_
        refine p_ls_9 d_Bo_odds_136 (by decide) rfl ?_
        refine p_lload d_Bo_odds_138 rfl ?_
        refine p_lload d_Bo_odds_140 rfl ?_
        refine q_S1 d_Bo_odds_142 ml_Bo_225 sb_Bo_commonDivisor ⟨leb rfl, leb rfl⟩ (b_gcd Γ S0 I1 J (10 ^ m) (oaN n t a p m d (2 ^ m)) (by omega) (by omega)) rfl rfl rfl ?_
        refine p_ls_11 d_Bo_odds_145 (by decide) rfl ?_
        refine p_lload d_Bo_odds_147 rfl ?_
        refine p_lc_0 d_Bo_odds_149 ?_
        refine p_lcmp d_Bo_odds_150 ?_
        refine p_ifne (tgt := 158) d_Bo_odds_151 (by decide) (fun h151 => ?_) (fun h151 => ?_)
        · refine p_iload d_Bo_odds_158 rfl ?_
          refine p_ifne (tgt := 168) d_Bo_odds_160 (by decide) (fun h160 => ?_) (fun h160 => ?_)
          · have gw : ¬ w = 0 := fun z => h160 (by rw [z]; rfl)
            refine p_lload d_Bo_odds_168 rfl ?_
            refine p_lload d_Bo_odds_170 rfl ?_
            refine p_ldiv d_Bo_odds_172 (fun z => by have := (pk_lEQ (a := (Nat.gcd (10 ^ m) (oaN n t a p m d (2 ^ m)))) (b := 0) (by omega) (by omega)).mp z; omega) ?_
            refine p_lret d_Bo_odds_173 rfl ?_
            refine ⟨?_, rfl, rfl, hF0⟩
            unfold odR
            rw [Nat.gcd_comm (oaN n t a p m d (2 ^ m)) (10 ^ m)]
            first | (rw [if_pos gw, pk_lDiv (by omega) (by omega) (by omega)]; done) | (rw [if_neg gw, pk_lDiv (by omega) (by omega) (by omega)]; done)
          · have gw : w = 0 := by
              rcases Nat.eq_zero_or_pos w with z | z
              · exact z
              · exact absurd h160 (nI_ne0 z (by omega))
            refine p_lload d_Bo_odds_163 rfl ?_
            refine p_goto (tgt := 170) d_Bo_odds_165 (by decide) ?_
            refine p_lload d_Bo_odds_170 rfl ?_
            refine p_ldiv d_Bo_odds_172 (fun z => by have := (pk_lEQ (a := (Nat.gcd (10 ^ m) (oaN n t a p m d (2 ^ m)))) (b := 0) (by omega) (by omega)).mp z; omega) ?_
            refine p_lret d_Bo_odds_173 rfl ?_
            refine ⟨?_, rfl, rfl, hF0⟩
            unfold odR
            rw [Nat.gcd_comm (oaN n t a p m d (2 ^ m)) (10 ^ m)]
            first | (rw [if_pos gw, pk_lDiv (by omega) (by omega) (by omega)]; done) | (rw [if_neg gw, pk_lDiv (by omega) (by omega) (by omega)]; done)
        · exact absurd ((lg_cmp0 (by omega)).mp h151) (by omega)
      · exact absurd (Nat.le_refl _) h78
    | succ f ih =>
      intro s v u1 u2 I1 hv hsf hF0
      have s64 : s < 64 := by omega
      have hpc := cnt_pop m hm s s64 (by omega)
      obtain ⟨ho1, ho2⟩ := owN_c (p := p) (s := s) m
      rw [← hpc] at ho1 ho2
      have hp6 := pop_le s s64
      refine p_iload d_Bo_odds_73 rfl ?_
      refine p_ic_1 d_Bo_odds_75 ?_
      refine p_iload_n d_Bo_odds_76 rfl ?_
      refine p_ishl d_Bo_odds_77 ?_
      refine p_eqI sh ?_
      refine p_icmpgeN (tgt := 130) (s) ((2 ^ m)) d_Bo_odds_78 (by decide) rfl rfl (by omega) (by omega) (fun h78 => ?_) (fun h78 => ?_)
      · exact absurd h78 (by omega)
      · refine p_aload_n d_Bo_odds_81 rfl ?_
        refine p_iload_n d_Bo_odds_82 rfl ?_
        refine p_iload_n d_Bo_odds_83 rfl ?_
        refine p_iload d_Bo_odds_84 rfl ?_
        refine q_V d_Bo_odds_86 ml_Bo_218 vb_Bo_apartByPlays kd_1 ⟨leb rfl, leb rfl⟩ (b_byPlays Γ I1 J n t (V.sc hF0) hok a m s hm s64) rfl rfl rfl (fun r S1 IS J1 hQ => ?_)
        obtain ⟨rfl, rfl, hJ, sF⟩ := hQ
        obtain rfl := hJ.symm
        refine p_iload d_Bo_odds_89 rfl ?_
        refine p_icmpgt (tgt := 124) d_Bo_odds_91 (by decide) (fun h91 => ?_) (fun h91 => ?_)
        · refine p_incN_9_1 d_Bo_odds_124 (by decide) rfl ?_
          refine p_goto (tgt := 73) d_Bo_odds_127 (by decide) ?_
          first
            | exact ih (s + 1) _ _ _ IS rfl (by omega) (hF0.tr sF)
            | (have e : oaN n t a p m d s = oaN n t a p m d (s + 1) := by
                 show _ = oaN n t a p m d s + (if _ then _ else _)
                 rw [if_neg (i32_nle.mpr h91), Nat.add_zero]
               rw [e]
               exact ih (s + 1) _ _ _ IS hv (by omega) (hF0.tr sF))
        · refine p_iload d_Bo_odds_94 rfl ?_
          refine q_S1 d_Bo_odds_96 ml_Bo_178 sb_In_bitCount ⟨leb rfl, leb rfl⟩ (c_bitCount Γ S0 _ J s s64) rfl rfl rfl ?_
          refine p_is_10 d_Bo_odds_99 (by decide) rfl ?_
          refine p_lload d_Bo_odds_101 rfl ?_
          refine p_iload_n d_Bo_odds_103 rfl ?_
          refine p_iload d_Bo_odds_104 rfl ?_
          refine q_S1 d_Bo_odds_106 ml_Bo_221 sb_Bo_power ⟨leb rfl, leb rfl⟩ (b_power Γ S0 _ J p (pop s) hp hp6) rfl rfl rfl ?_
          refine p_bi_10 d_Bo_odds_109 ?_
          refine p_iload_n d_Bo_odds_111 rfl ?_
          refine p_isubN (10) (p) d_Bo_odds_112 rfl rfl (by omega) ?_
          refine p_iload_n d_Bo_odds_113 rfl ?_
          refine p_iload d_Bo_odds_114 rfl ?_
          refine p_isubN (m) ((pop s)) d_Bo_odds_116 rfl rfl (by omega) ?_
          refine q_S1 d_Bo_odds_117 ml_Bo_221 sb_Bo_power ⟨leb rfl, leb rfl⟩ (b_power Γ S0 _ J (10 - p) (m - pop s) (by omega) (by omega)) rfl rfl rfl ?_
          refine p_lmul d_Bo_odds_120 ?_
          refine p_eqL (y := lN (owN p s m)) (by rw [lN_mul, ho2]) ?_
          refine p_ladd d_Bo_odds_121 ?_
          refine p_eqL (y := lN (oaN n t a p m d (s + 1))) (by rw [lN_add]; show _ = lN (oaN n t a p m d s + (if _ then _ else _)); rw [if_pos (i32_nlt.mp h91)]) ?_
          refine p_ls_7 d_Bo_odds_122 (by decide) rfl ?_
          refine p_incN_9_1 d_Bo_odds_124 (by decide) rfl ?_
          refine p_goto (tgt := 73) d_Bo_odds_127 (by decide) ?_
          first
            | exact ih (s + 1) _ _ _ IS rfl (by omega) (hF0.tr sF)
            | (have e : oaN n t a p m d s = oaN n t a p m d (s + 1) := by
                 show _ = oaN n t a p m d s + (if _ then _ else _)
                 rw [if_neg (i32_nle.mpr h91), Nat.add_zero]
               rw [e]
               exact ih (s + 1) _ _ _ IS hv (by omega) (hF0.tr sF))
  refine ct_of [.ref 1, .int (nI a), .int (nI p), .int (nI m), .int d, .int (nI w), .null, .null, .null, .null, .null, .null, .null] (by decide +kernel) rfl (leb rfl) rfl ?_
  refine p_iload_n d_Bo_odds_0 rfl ?_
  refine p_ic_0 d_Bo_odds_1 ?_
  refine p_bi_20 d_Bo_odds_2 ?_
  refine q_S1 d_Bo_odds_4 ml_Bo_64 sb_Bo_within ⟨leb rfl, leb rfl⟩ (c_within Γ S0 _ _ (nI a) 0 20) rfl rfl rfl ?_
  refine p_ifeqB (tgt := 55) d_Bo_odds_7 (by decide) (fun h7 => ?_) (fun h7 => ?_)
  · first | exact absurd (i20 a ha) h7 | exact absurd (i10 p hp) h17 | exact absurd (i6 m hm) h27 | exact absurd hd h38 | exact absurd (i1 w hw) h48
  · refine p_iload_n d_Bo_odds_10 rfl ?_
    refine p_ic_0 d_Bo_odds_11 ?_
    refine p_bi_10 d_Bo_odds_12 ?_
    refine q_S1 d_Bo_odds_14 ml_Bo_64 sb_Bo_within ⟨leb rfl, leb rfl⟩ (c_within Γ S0 _ _ (nI p) 0 10) rfl rfl rfl ?_
    refine p_ifeqB (tgt := 55) d_Bo_odds_17 (by decide) (fun h17 => ?_) (fun h17 => ?_)
    · first | exact absurd (i20 a ha) h7 | exact absurd (i10 p hp) h17 | exact absurd (i6 m hm) h27 | exact absurd hd h38 | exact absurd (i1 w hw) h48
    · refine p_iload_n d_Bo_odds_20 rfl ?_
      refine p_ic_0 d_Bo_odds_21 ?_
      refine p_bi_6 d_Bo_odds_22 ?_
      refine q_S1 d_Bo_odds_24 ml_Bo_64 sb_Bo_within ⟨leb rfl, leb rfl⟩ (c_within Γ S0 _ _ (nI m) 0 6) rfl rfl rfl ?_
      refine p_ifeqB (tgt := 55) d_Bo_odds_27 (by decide) (fun h27 => ?_) (fun h27 => ?_)
      · first | exact absurd (i20 a ha) h7 | exact absurd (i10 p hp) h17 | exact absurd (i6 m hm) h27 | exact absurd hd h38 | exact absurd (i1 w hw) h48
      · refine p_iload d_Bo_odds_30 rfl ?_
        refine p_ic_0 d_Bo_odds_32 ?_
        refine p_bi_99 d_Bo_odds_33 ?_
        refine q_S1 d_Bo_odds_35 ml_Bo_64 sb_Bo_within ⟨leb rfl, leb rfl⟩ (c_within Γ S0 _ _ d 0 99) rfl rfl rfl ?_
        refine p_ifeqB (tgt := 55) d_Bo_odds_38 (by decide) (fun h38 => ?_) (fun h38 => ?_)
        · first | exact absurd (i20 a ha) h7 | exact absurd (i10 p hp) h17 | exact absurd (i6 m hm) h27 | exact absurd hd h38 | exact absurd (i1 w hw) h48
        · refine p_iload d_Bo_odds_41 rfl ?_
          refine p_ic_0 d_Bo_odds_43 ?_
          refine p_ic_1 d_Bo_odds_44 ?_
          refine q_S1 d_Bo_odds_45 ml_Bo_64 sb_Bo_within ⟨leb rfl, leb rfl⟩ (c_within Γ S0 _ _ (nI w) 0 1) rfl rfl rfl ?_
          refine p_ifeqB (tgt := 55) d_Bo_odds_48 (by decide) (fun h48 => ?_) (fun h48 => ?_)
          · first | exact absurd (i20 a ha) h7 | exact absurd (i10 p hp) h17 | exact absurd (i6 m hm) h27 | exact absurd hd h38 | exact absurd (i1 w hw) h48
          · refine p_ic_1 d_Bo_odds_51 ?_
            refine p_goto (tgt := 56) d_Bo_odds_52 (by decide) ?_
            refine p_is_6 d_Bo_odds_56 (by decide) rfl ?_
            refine p_iload d_Bo_odds_58 rfl ?_
            refine p_ifne (tgt := 67) d_Bo_odds_60 (by decide) (fun h60 => ?_) (fun h60 => ?_)
            · refine p_lc_0 d_Bo_odds_67 ?_
              refine p_ls_7 d_Bo_odds_68 (by decide) rfl ?_
              refine p_ic_0 d_Bo_odds_70 ?_
              refine p_is_9 d_Bo_odds_71 (by decide) rfl ?_
              exact LP (2 ^ m) 0 _ _ _ I rfl (by omega) scF.rf
            · exact absurd h60 (by decide)
theorem b_odds_bad (Γ : Cx) (I : MemI) (J : MemJ) (x1 x2 x3 x4 x5 : Int32) (hb : ¬ ((0 ≤ x1 ∧ x1 ≤ 20) ∧ (0 ≤ x2 ∧ x2 ≤ 10) ∧ (0 ≤ x3 ∧ x3 ≤ 6) ∧ (0 ≤ x4 ∧ x4 ≤ 99) ∧ (0 ≤ x5 ∧ x5 ≤ 1))) : Ct Γ M_Bo_odds [.ref 1, .int x1, .int x2, .int x3, .int x4, .int x5] S0 I J (eqQ (some (.long (-1000001))) S0 I J) := by
  refine ct_of [.ref 1, .int x1, .int x2, .int x3, .int x4, .int x5, .null, .null, .null, .null, .null, .null, .null] (by decide +kernel) rfl (leb rfl) rfl ?_
  refine p_iload_n d_Bo_odds_0 rfl ?_
  refine p_ic_0 d_Bo_odds_1 ?_
  refine p_bi_20 d_Bo_odds_2 ?_
  refine q_S1 d_Bo_odds_4 ml_Bo_64 sb_Bo_within ⟨leb rfl, leb rfl⟩ (c_within Γ S0 _ _ x1 0 20) rfl rfl rfl ?_
  refine p_ifeqB (tgt := 55) d_Bo_odds_7 (by decide) (fun h7 => ?_) (fun h7 => ?_)
  · refine p_ic_0 d_Bo_odds_55 ?_
    refine p_is_6 d_Bo_odds_56 (by decide) rfl ?_
    refine p_iload d_Bo_odds_58 rfl ?_
    refine p_ifne (tgt := 67) d_Bo_odds_60 (by decide) (fun h60 => ?_) (fun h60 => ?_)
    · exact absurd rfl h60
    · refine p_ldc2 d_Bo_odds_63 kl_Bo_216 ?_
      refine p_lret d_Bo_odds_66 rfl ?_
      exact ⟨rfl, rfl, rfl, rfl⟩
  · refine p_iload_n d_Bo_odds_10 rfl ?_
    refine p_ic_0 d_Bo_odds_11 ?_
    refine p_bi_10 d_Bo_odds_12 ?_
    refine q_S1 d_Bo_odds_14 ml_Bo_64 sb_Bo_within ⟨leb rfl, leb rfl⟩ (c_within Γ S0 _ _ x2 0 10) rfl rfl rfl ?_
    refine p_ifeqB (tgt := 55) d_Bo_odds_17 (by decide) (fun h17 => ?_) (fun h17 => ?_)
    · refine p_ic_0 d_Bo_odds_55 ?_
      refine p_is_6 d_Bo_odds_56 (by decide) rfl ?_
      refine p_iload d_Bo_odds_58 rfl ?_
      refine p_ifne (tgt := 67) d_Bo_odds_60 (by decide) (fun h60 => ?_) (fun h60 => ?_)
      · exact absurd rfl h60
      · refine p_ldc2 d_Bo_odds_63 kl_Bo_216 ?_
        refine p_lret d_Bo_odds_66 rfl ?_
        exact ⟨rfl, rfl, rfl, rfl⟩
    · refine p_iload_n d_Bo_odds_20 rfl ?_
      refine p_ic_0 d_Bo_odds_21 ?_
      refine p_bi_6 d_Bo_odds_22 ?_
      refine q_S1 d_Bo_odds_24 ml_Bo_64 sb_Bo_within ⟨leb rfl, leb rfl⟩ (c_within Γ S0 _ _ x3 0 6) rfl rfl rfl ?_
      refine p_ifeqB (tgt := 55) d_Bo_odds_27 (by decide) (fun h27 => ?_) (fun h27 => ?_)
      · refine p_ic_0 d_Bo_odds_55 ?_
        refine p_is_6 d_Bo_odds_56 (by decide) rfl ?_
        refine p_iload d_Bo_odds_58 rfl ?_
        refine p_ifne (tgt := 67) d_Bo_odds_60 (by decide) (fun h60 => ?_) (fun h60 => ?_)
        · exact absurd rfl h60
        · refine p_ldc2 d_Bo_odds_63 kl_Bo_216 ?_
          refine p_lret d_Bo_odds_66 rfl ?_
          exact ⟨rfl, rfl, rfl, rfl⟩
      · refine p_iload d_Bo_odds_30 rfl ?_
        refine p_ic_0 d_Bo_odds_32 ?_
        refine p_bi_99 d_Bo_odds_33 ?_
        refine q_S1 d_Bo_odds_35 ml_Bo_64 sb_Bo_within ⟨leb rfl, leb rfl⟩ (c_within Γ S0 _ _ x4 0 99) rfl rfl rfl ?_
        refine p_ifeqB (tgt := 55) d_Bo_odds_38 (by decide) (fun h38 => ?_) (fun h38 => ?_)
        · refine p_ic_0 d_Bo_odds_55 ?_
          refine p_is_6 d_Bo_odds_56 (by decide) rfl ?_
          refine p_iload d_Bo_odds_58 rfl ?_
          refine p_ifne (tgt := 67) d_Bo_odds_60 (by decide) (fun h60 => ?_) (fun h60 => ?_)
          · exact absurd rfl h60
          · refine p_ldc2 d_Bo_odds_63 kl_Bo_216 ?_
            refine p_lret d_Bo_odds_66 rfl ?_
            exact ⟨rfl, rfl, rfl, rfl⟩
        · refine p_iload d_Bo_odds_41 rfl ?_
          refine p_ic_0 d_Bo_odds_43 ?_
          refine p_ic_1 d_Bo_odds_44 ?_
          refine q_S1 d_Bo_odds_45 ml_Bo_64 sb_Bo_within ⟨leb rfl, leb rfl⟩ (c_within Γ S0 _ _ x5 0 1) rfl rfl rfl ?_
          refine p_ifeqB (tgt := 55) d_Bo_odds_48 (by decide) (fun h48 => ?_) (fun h48 => ?_)
          · refine p_ic_0 d_Bo_odds_55 ?_
            refine p_is_6 d_Bo_odds_56 (by decide) rfl ?_
            refine p_iload d_Bo_odds_58 rfl ?_
            refine p_ifne (tgt := 67) d_Bo_odds_60 (by decide) (fun h60 => ?_) (fun h60 => ?_)
            · exact absurd rfl h60
            · refine p_ldc2 d_Bo_odds_63 kl_Bo_216 ?_
              refine p_lret d_Bo_odds_66 rfl ?_
              exact ⟨rfl, rfl, rfl, rfl⟩
          · exact absurd ⟨h7, h17, h27, h38, h48⟩ hb
