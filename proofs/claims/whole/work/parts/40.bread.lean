/-! ===== the class's own calls: what is read ===== -/
/-- the class's state is row t -/
def Vw (I : MemI) (n : Nat) (t : Nat → Int32) : Prop := n ≤ 6 ∧ t 0 = nI n ∧ ChR I 4 n t ∧ SgR I 16 n t ∧ I 16 6 = t 38 ∧ I 4 6 = t 2 ∧ I 4 7 = t 3
theorem b_has (Γ : Cx) (I : MemI) (J : MemJ) (n : Nat) (x : Int32) (h0 : I 4 4 = nI n) : Ct Γ M_Ch_has [.ref 4, .int x] S0 I J (eqQ (some (.int (bI (0 ≤ x ∧ x < nI n)))) S0 I J) := by
  have := c_has Γ I J 4 ch_4 x
  rw [h0] at this
  exact this
theorem chR_cho {x y : Int32} (h : chR x y) : x = choT y := by
  unfold choT
  rcases h with ⟨h1, h2⟩ | ⟨k, hk, h1, h2⟩
  · rw [h1, h2, if_pos (by decide)]
  · rw [h1, h2, if_neg]
    rw [i32_nlt]
    exact nI_pos' (by omega)
theorem bt_i {b k : Nat} : (if nI (bt1 b k) = 1 then (1 : Int32) else 0) = nI (bt1 b k) := by
  have := bt1_le b k
  rcases (show bt1 b k = 0 ∨ bt1 b k = 1 by omega) with e | e
  · rw [e]; rfl
  · rw [e]; rfl
theorem mxA_c {f g : Nat → Int32} : ∀ {n : Nat}, (∀ k, k < n → f k = g k) → mxA f n = mxA g n
  | 0, _ => rfl
  | 1, h => h 0 (by omega)
  | n + 2, h => by
    have ih := mxA_c (f := f) (g := g) (n := n + 1) (fun k hk => h k (by omega))
    have e := h (n + 1) (by omega)
    unfold mxA
    rw [ih, e]
theorem mnA_c {f g : Nat → Int32} : ∀ {n : Nat}, (∀ k, k < n → f k = g k) → mnA f n = mnA g n
  | 0, _ => rfl
  | 1, h => h 0 (by omega)
  | n + 2, h => by
    have ih := mnA_c (f := f) (g := g) (n := n + 1) (fun k hk => h k (by omega))
    have e := h (n + 1) (by omega)
    unfold mnA
    rw [ih, e]
theorem grA_c {f g : Nat → Int32} : ∀ {n : Nat}, (∀ k, k < n → f k = g k) → grA f n = grA g n
  | 0, _ => rfl
  | n + 1, h => by
    have ih := grA_c (f := f) (g := g) (n := n) (fun k hk => h k (by omega))
    have e := h n (by omega)
    unfold grA
    rw [ih, e]
theorem ap_k {I : MemI} {a n : Nat} {t : Nat → Int32} (h : ∀ k, k < n → I (a + 1) k = t (28 + k)) : mxA (fun k => I (a + 1) k) n - mnA (fun k => I (a + 1) k) n = apT n t := by
  unfold apT
  rw [mxA_c (g := fun k => t (28 + k)) h, mnA_c (g := fun k => t (28 + k)) h]
theorem ap_c {I : MemI} {a n : Nat} {t : Nat → Int32} (h : SgR I a n t) : mxA (fun k => I (a + 1) k) n - mnA (fun k => I (a + 1) k) n = apT n t := ap_k h.1
theorem gr_k {I : MemI} {a n : Nat} {t : Nat → Int32} (h : ∀ k, k < n → I (a + 1) k = t (28 + k)) : grA (fun k => I (a + 1) k) n = grT n t := grA_c (g := fun k => t (28 + k)) h
theorem b_type_bad (Γ : Cx) (I : MemI) (J : MemJ) (x : Int32) (hb : ¬ (0 ≤ x ∧ x ≤ 255)) : Ct Γ M_Bo_type [.ref 1, .int x] S0 I J (eqQ (some (.int (-1000001))) S0 I J) := by
  refine ct_of [.ref 1, .int x] (by decide +kernel) rfl (leb rfl) rfl ?_
  refine p_iload_n d_Bo_type_0 rfl ?_
  refine p_ic_0 d_Bo_type_1 ?_
  refine p_si_255 d_Bo_type_2 ?_
  refine q_S1 d_Bo_type_5 ml_Bo_64 sb_Bo_within ⟨leb rfl, leb rfl⟩ (c_within Γ S0 _ _ x 0 255) rfl rfl rfl ?_
  refine p_ifneB (tgt := 14) d_Bo_type_8 (by decide) (fun h8 => ?_) (fun h8 => ?_)
  · exact absurd h8 hb
  · refine p_ldc d_Bo_type_11 kc_Bo_68 ?_
    refine p_iret d_Bo_type_13 rfl rfl ?_
    exact ⟨rfl, rfl, rfl, rfl⟩
theorem b_type_full (Γ : Cx) (I : MemI) (J : MemJ) (x : Int32) (hb : 0 ≤ x ∧ x ≤ 255) (hl : I 2 1 = nI 200) : Ct Γ M_Bo_type [.ref 1, .int x] S0 I J (eqQ (some (.int (-1000003))) S0 I J) := by
  refine ct_of [.ref 1, .int x] (by decide +kernel) rfl (leb rfl) rfl ?_
  refine p_iload_n d_Bo_type_0 rfl ?_
  refine p_ic_0 d_Bo_type_1 ?_
  refine p_si_255 d_Bo_type_2 ?_
  refine q_S1 d_Bo_type_5 ml_Bo_64 sb_Bo_within ⟨leb rfl, leb rfl⟩ (c_within Γ S0 _ _ x 0 255) rfl rfl rfl ?_
  refine p_ifneB (tgt := 14) d_Bo_type_8 (by decide) (fun h8 => ?_) (fun h8 => ?_)
  · refine p_aload_n d_Bo_type_14 rfl ?_
    refine p_getR d_Bo_type_15 fl_Bo_10 kd_1 rfl rf_1_0 ?_
    refine p_iload_n d_Bo_type_18 rfl ?_
    refine q_V1 d_Bo_type_19 ml_Bo_69 vb_Re_add kd_2 ⟨leb rfl, leb rfl⟩ (c_add_full Γ I J x hl) rfl rfl rfl ?_
    refine p_ifeq (tgt := 35) d_Bo_type_22 (by decide) (fun h22 => ?_) (fun h22 => ?_)
    · refine p_ldc d_Bo_type_35 kc_Bo_77 ?_
      refine p_iret d_Bo_type_37 rfl rfl ?_
      exact ⟨rfl, rfl, rfl, rfl⟩
    · exact absurd rfl h22
  · exact absurd hb h8
theorem b_type_ok (Γ : Cx) (I : MemI) (J : MemJ) (x : Int32) (l : Nat) (hb : 0 ≤ x ∧ x ≤ 255) (hl : I 2 1 = nI l) (h2 : l < 200) : Ct Γ M_Bo_type [.ref 1, .int x] S0 I J (eqQ (some (.int (nI (l + 1)))) S0 (up2 (up2 I 3 l x) 2 1 (nI (l + 1))) J) := by
  refine ct_of [.ref 1, .int x] (by decide +kernel) rfl (leb rfl) rfl ?_
  refine p_iload_n d_Bo_type_0 rfl ?_
  refine p_ic_0 d_Bo_type_1 ?_
  refine p_si_255 d_Bo_type_2 ?_
  refine q_S1 d_Bo_type_5 ml_Bo_64 sb_Bo_within ⟨leb rfl, leb rfl⟩ (c_within Γ S0 _ _ x 0 255) rfl rfl rfl ?_
  refine p_ifneB (tgt := 14) d_Bo_type_8 (by decide) (fun h8 => ?_) (fun h8 => ?_)
  · refine p_aload_n d_Bo_type_14 rfl ?_
    refine p_getR d_Bo_type_15 fl_Bo_10 kd_1 rfl rf_1_0 ?_
    refine p_iload_n d_Bo_type_18 rfl ?_
    refine q_V1 d_Bo_type_19 ml_Bo_69 vb_Re_add kd_2 ⟨leb rfl, leb rfl⟩ (c_add Γ I J x l hl h2) rfl rfl rfl ?_
    refine p_ifeq (tgt := 35) d_Bo_type_22 (by decide) (fun h22 => ?_) (fun h22 => ?_)
    · exact absurd h22 (by decide)
    · refine p_aload_n d_Bo_type_25 rfl ?_
      refine p_getR d_Bo_type_26 fl_Bo_10 kd_1 rfl rf_1_0 ?_
      refine p_getI d_Bo_type_29 fl_Bo_73 kd_2 (Or.inl rfl) ?_
      refine p_goto (tgt := 37) d_Bo_type_32 (by decide) ?_
      refine p_iret d_Bo_type_37 rfl rfl ?_
      exact ⟨by simp [up2], rfl, rfl, rfl⟩
  · exact absurd hb h8
theorem b_clear (Γ : Cx) (I : MemI) (J : MemJ) : Ct Γ M_Bo_clear [.ref 1] S0 I J (eqQ (some (.int (I 2 1))) S0 (up2 I 2 1 0) J) := by
  refine ct_of [.ref 1] (by decide +kernel) rfl (leb rfl) rfl ?_
  refine p_aload_n d_Bo_clear_0 rfl ?_
  refine p_getR d_Bo_clear_1 fl_Bo_10 kd_1 rfl rf_1_0 ?_
  refine q_V1 d_Bo_clear_4 ml_Bo_78 vb_Re_empty kd_2 ⟨leb rfl, leb rfl⟩ (c_Reempty Γ I J) rfl rfl rfl ?_
  refine p_iret d_Bo_clear_7 rfl rfl ?_
  exact ⟨rfl, rfl, rfl, rfl⟩
theorem b_forget (Γ : Cx) (I : MemI) (J : MemJ) : Ct Γ M_Bo_forget [.ref 1] S0 I J (eqQ (some (.int (I 1 12))) S0 (up2 I 1 12 0) J) := by
  refine ct_of [.ref 1, .null] (by decide +kernel) rfl (leb rfl) rfl ?_
  refine p_aload_n d_Bo_forget_0 rfl ?_
  refine p_getI d_Bo_forget_1 fl_Bo_103 kd_1 (Or.inl rfl) ?_
  refine p_is_1 d_Bo_forget_4 (by decide) rfl ?_
  refine p_aload_n d_Bo_forget_5 rfl ?_
  refine p_ic_0 d_Bo_forget_6 ?_
  refine p_putI d_Bo_forget_7 fl_Bo_103 kd_1 rfl nf_4_12 ?_
  refine p_iload_n d_Bo_forget_10 rfl ?_
  refine p_iret d_Bo_forget_11 rfl rfl ?_
  exact ⟨rfl, rfl, rfl, rfl⟩
theorem b_trace (Γ : Cx) (I : MemI) (J : MemJ) : Ct Γ M_Bo_trace [.ref 1] S0 I J (eqQ (some (.long (J 1 13))) S0 I J) := by
  refine ct_of [.ref 1] (by decide +kernel) rfl (leb rfl) rfl ?_
  refine p_aload_n d_Bo_trace_0 rfl ?_
  refine p_getJ d_Bo_trace_1 fl_Bo_247 kd_1 rfl ?_
  refine p_lret d_Bo_trace_4 rfl ?_
  exact ⟨rfl, rfl, rfl, rfl⟩
theorem b_pew (Γ : Cx) (I : MemI) (J : MemJ) (n : Nat) (t : Nat → Int32) (V : Vw I n t) (k q b : Nat) (hk : k < n) (hq : q ≤ 6) (hb : b < 64) (hkn : t 37 = nI b) : Ct Γ M_Bo_pew [.ref 1, .int (nI k), .int (nI q)] S0 I J (eqQ (some (.int (pewT t k q))) S0 I J) := by
  have hn := V.1
  refine ct_of [.ref 1, .int (nI k), .int (nI q)] (by decide +kernel) rfl (leb rfl) rfl ?_
  refine p_aload_n d_Bo_pew_0 rfl ?_
  refine p_getR d_Bo_pew_1 fl_Bo_19 kd_1 rfl rf_1_1 ?_
  refine p_iload_n d_Bo_pew_4 rfl ?_
  refine q_V1 d_Bo_pew_5 ml_Bo_106 vb_Ch_has kd_4 ⟨leb rfl, leb rfl⟩ (b_has Γ _ _ n (nI k) (V.2.2.1.1)) rfl rfl rfl ?_
  refine p_ifneB (tgt := 14) d_Bo_pew_8 (by decide) (fun h8 => ?_) (fun h8 => ?_)
  · refine p_iload_n d_Bo_pew_14 rfl ?_
    by_cases hs0 : (nI q) = 0
    · refine p_tabIn (off := 41) (tgt := 56) d_Bo_pew_15 (by rw [hs0]; decide) (by rw [hs0]; decide) (by rw [hs0]; decide) (by decide) ?_
      refine p_aload_n d_Bo_pew_56 rfl ?_
      refine p_getR d_Bo_pew_57 fl_Bo_19 kd_1 rfl rf_1_1 ?_
      refine p_getR d_Bo_pew_60 fl_Bo_109 kd_4 rfl rf_4_0 ?_
      refine p_iload_n d_Bo_pew_63 rfl ?_
      refine p_ialdN (k) d_Bo_pew_64 ar_5 rfl (by omega) rfl ?_
      refine p_iret d_Bo_pew_65 rfl rfl ?_
      have gq : q = 0 := (nI_eq (a := q) (b := 0) (by omega) (by omega)).mp hs0
      subst gq
      refine ⟨?_, rfl, rfl, rfl⟩
      rw [(V.2.2.1.2 k hk).1]
      simp [pewT]
    by_cases hs1 : (nI q) = 1
    · refine p_tabIn (off := 51) (tgt := 66) d_Bo_pew_15 (by rw [hs1]; decide) (by rw [hs1]; decide) (by rw [hs1]; decide) (by decide) ?_
      refine p_aload_n d_Bo_pew_66 rfl ?_
      refine p_getR d_Bo_pew_67 fl_Bo_19 kd_1 rfl rf_1_1 ?_
      refine p_getR d_Bo_pew_70 fl_Bo_112 kd_4 rfl rf_4_1 ?_
      refine p_iload_n d_Bo_pew_73 rfl ?_
      refine p_ialdN (k) d_Bo_pew_74 ar_6 rfl (by omega) rfl ?_
      refine p_iret d_Bo_pew_75 rfl rfl ?_
      have gq : q = 1 := (nI_eq (a := q) (b := 1) (by omega) (by omega)).mp hs1
      subst gq
      refine ⟨?_, rfl, rfl, rfl⟩
      rw [(V.2.2.1.2 k hk).2.1]
      simp [pewT]
    by_cases hs2 : (nI q) = 2
    · refine p_tabIn (off := 61) (tgt := 76) d_Bo_pew_15 (by rw [hs2]; decide) (by rw [hs2]; decide) (by rw [hs2]; decide) (by decide) ?_
      refine p_aload_n d_Bo_pew_76 rfl ?_
      refine p_getR d_Bo_pew_77 fl_Bo_19 kd_1 rfl rf_1_1 ?_
      refine p_getR d_Bo_pew_80 fl_Bo_115 kd_4 rfl rf_4_2 ?_
      refine p_iload_n d_Bo_pew_83 rfl ?_
      refine p_ialdN (k) d_Bo_pew_84 ar_7 rfl (by omega) rfl ?_
      refine p_iret d_Bo_pew_85 rfl rfl ?_
      have gq : q = 2 := (nI_eq (a := q) (b := 2) (by omega) (by omega)).mp hs2
      subst gq
      refine ⟨?_, rfl, rfl, rfl⟩
      rw [(V.2.2.1.2 k hk).2.2.1]
      simp [pewT]
    by_cases hs3 : (nI q) = 3
    · refine p_tabIn (off := 71) (tgt := 86) d_Bo_pew_15 (by rw [hs3]; decide) (by rw [hs3]; decide) (by rw [hs3]; decide) (by decide) ?_
      refine p_aload_n d_Bo_pew_86 rfl ?_
      refine p_getR d_Bo_pew_87 fl_Bo_19 kd_1 rfl rf_1_1 ?_
      refine p_getR d_Bo_pew_90 fl_Bo_118 kd_4 rfl rf_4_3 ?_
      refine p_iload_n d_Bo_pew_93 rfl ?_
      refine p_ialdN (k) d_Bo_pew_94 ar_8 rfl (by omega) rfl ?_
      refine p_iret d_Bo_pew_95 rfl rfl ?_
      have gq : q = 3 := (nI_eq (a := q) (b := 3) (by omega) (by omega)).mp hs3
      subst gq
      refine ⟨?_, rfl, rfl, rfl⟩
      rw [(V.2.2.1.2 k hk).2.2.2]
      simp [pewT]
    by_cases hs4 : (nI q) = 4
    · refine p_tabIn (off := 81) (tgt := 96) d_Bo_pew_15 (by rw [hs4]; decide) (by rw [hs4]; decide) (by rw [hs4]; decide) (by decide) ?_
      refine p_aload_n d_Bo_pew_96 rfl ?_
      refine p_getR d_Bo_pew_97 fl_Bo_29 kd_1 rfl rf_1_3 ?_
      refine p_getR d_Bo_pew_100 fl_Bo_121 kd_16 rfl rf_16_0 ?_
      refine p_iload_n d_Bo_pew_103 rfl ?_
      refine p_ialdN (k) d_Bo_pew_104 ar_17 rfl (by omega) rfl ?_
      refine p_iret d_Bo_pew_105 rfl rfl ?_
      have gq : q = 4 := (nI_eq (a := q) (b := 4) (by omega) (by omega)).mp hs4
      subst gq
      refine ⟨?_, rfl, rfl, rfl⟩
      rw [V.2.2.2.1.1 k hk]
      simp [pewT]
    by_cases hs5 : (nI q) = 5
    · refine p_tabIn (off := 91) (tgt := 106) d_Bo_pew_15 (by rw [hs5]; decide) (by rw [hs5]; decide) (by rw [hs5]; decide) (by decide) ?_
      refine p_aload_n d_Bo_pew_106 rfl ?_
      refine p_getR d_Bo_pew_107 fl_Bo_19 kd_1 rfl rf_1_1 ?_
      refine p_iload_n d_Bo_pew_110 rfl ?_
      refine q_V1 d_Bo_pew_111 ml_Bo_124 vb_Ch_lag kd_4 ⟨leb rfl, leb rfl⟩ (c_lag Γ I J 4 k ch_4 (by omega)) rfl rfl rfl ?_
      refine p_iret d_Bo_pew_114 rfl rfl ?_
      have gq : q = 5 := (nI_eq (a := q) (b := 5) (by omega) (by omega)).mp hs5
      subst gq
      refine ⟨?_, rfl, rfl, rfl⟩
      rw [(V.2.2.1.2 k hk).1]
      simp [pewT]
    by_cases hs6 : (nI q) = 6
    · refine p_tabIn (off := 100) (tgt := 115) d_Bo_pew_15 (by rw [hs6]; decide) (by rw [hs6]; decide) (by rw [hs6]; decide) (by decide) ?_
      refine p_aload_n d_Bo_pew_115 rfl ?_
      refine p_getR d_Bo_pew_116 fl_Bo_29 kd_1 rfl rf_1_3 ?_
      refine p_iload_n d_Bo_pew_119 rfl ?_
      refine q_V1 d_Bo_pew_120 ml_Bo_128 vb_Si_isKnower kd_16 ⟨leb rfl, leb rfl⟩ (c_isKnower Γ I J 16 si_16 (nI k)) rfl rfl rfl ?_
      refine p_ifeqB (tgt := 130) d_Bo_pew_123 (by decide) (fun h123 => ?_) (fun h123 => ?_)
      · refine p_ic_0 d_Bo_pew_130 ?_
        refine p_iret d_Bo_pew_131 rfl rfl ?_
        have gq : q = 6 := (nI_eq (a := q) (b := 6) (by omega) (by omega)).mp hs6
        subst gq
        refine ⟨?_, rfl, rfl, rfl⟩
        rw [V.2.2.2.1.2.2.2.1, hkn, shr1 b hb k (by omega)] at h123
        have e : pewT t k 6 = nI (bt1 b k) := by
          unfold pewT
          rw [if_neg (by omega), if_neg (by omega), hkn, shr1 b hb k (by omega)]
        rw [e, ← bt_i]
        first | (rw [if_pos h123]; done) | (rw [if_neg h123])
      · refine p_ic_1 d_Bo_pew_126 ?_
        refine p_goto (tgt := 131) d_Bo_pew_127 (by decide) ?_
        refine p_iret d_Bo_pew_131 rfl rfl ?_
        have gq : q = 6 := (nI_eq (a := q) (b := 6) (by omega) (by omega)).mp hs6
        subst gq
        refine ⟨?_, rfl, rfl, rfl⟩
        rw [V.2.2.2.1.2.2.2.1, hkn, shr1 b hb k (by omega)] at h123
        have e : pewT t k 6 = nI (bt1 b k) := by
          unfold pewT
          rw [if_neg (by omega), if_neg (by omega), hkn, shr1 b hb k (by omega)]
        rw [e, ← bt_i]
        first | (rw [if_pos h123]; done) | (rw [if_neg h123])
    refine p_tabOut (tgt := 132) d_Bo_pew_15 (by have q := fun (z : Int32) (k : Int) (h : ¬ (nI q) = z) (hk : z.toInt = k) => lv_neT h hk; have q0 := lv_neT (a := 0) hs0 (by decide); have q1 := lv_neT (a := 1) hs1 (by decide); have q2 := lv_neT (a := 2) hs2 (by decide); have q3 := lv_neT (a := 3) hs3 (by decide); have q4 := lv_neT (a := 4) hs4 (by decide); have q5 := lv_neT (a := 5) hs5 (by decide); have q6 := lv_neT (a := 6) hs6 (by decide); omega) (by decide) ?_
    refine p_ldc d_Bo_pew_132 kc_Bo_68 ?_
    refine p_iret d_Bo_pew_134 rfl rfl ?_
    exfalso
    have z0 : q ≠ 0 := fun z => hs0 (by rw [z]; rfl)
    have z1 : q ≠ 1 := fun z => hs1 (by rw [z]; rfl)
    have z2 : q ≠ 2 := fun z => hs2 (by rw [z]; rfl)
    have z3 : q ≠ 3 := fun z => hs3 (by rw [z]; rfl)
    have z4 : q ≠ 4 := fun z => hs4 (by rw [z]; rfl)
    have z5 : q ≠ 5 := fun z => hs5 (by rw [z]; rfl)
    have z6 : q ≠ 6 := fun z => hs6 (by rw [z]; rfl)
    omega
  · exact absurd (isP_nI hn hk) h8
theorem b_pew_bad (Γ : Cx) (I : MemI) (J : MemJ) (n : Nat) (t : Nat → Int32) (V : Vw I n t) (x w : Int32) (hb : ¬ ((0 ≤ x ∧ x < nI n) ∧ (0 ≤ w ∧ w ≤ 6))) : Ct Γ M_Bo_pew [.ref 1, .int x, .int w] S0 I J (eqQ (some (.int (-1000001))) S0 I J) := by
  have hn := V.1
  have hbw : (0 ≤ x ∧ x < nI n) → ∀ c, 0 ≤ c → c ≤ 6 → ¬ w = c := fun a c p1 p2 e => hb ⟨a, by rw [e]; exact ⟨p1, p2⟩⟩
  refine ct_of [.ref 1, .int x, .int w] (by decide +kernel) rfl (leb rfl) rfl ?_
  refine p_aload_n d_Bo_pew_0 rfl ?_
  refine p_getR d_Bo_pew_1 fl_Bo_19 kd_1 rfl rf_1_1 ?_
  refine p_iload_n d_Bo_pew_4 rfl ?_
  refine q_V1 d_Bo_pew_5 ml_Bo_106 vb_Ch_has kd_4 ⟨leb rfl, leb rfl⟩ (b_has Γ _ _ n x (V.2.2.1.1)) rfl rfl rfl ?_
  refine p_ifneB (tgt := 14) d_Bo_pew_8 (by decide) (fun h8 => ?_) (fun h8 => ?_)
  · refine p_iload_n d_Bo_pew_14 rfl ?_
    by_cases hs0 : w = 0
    · refine p_tabIn (off := 41) (tgt := 56) d_Bo_pew_15 (by rw [hs0]; decide) (by rw [hs0]; decide) (by rw [hs0]; decide) (by decide) ?_
      exact absurd hs0 (hbw h8 0 (by decide) (by decide))
    by_cases hs1 : w = 1
    · refine p_tabIn (off := 51) (tgt := 66) d_Bo_pew_15 (by rw [hs1]; decide) (by rw [hs1]; decide) (by rw [hs1]; decide) (by decide) ?_
      exact absurd hs1 (hbw h8 1 (by decide) (by decide))
    by_cases hs2 : w = 2
    · refine p_tabIn (off := 61) (tgt := 76) d_Bo_pew_15 (by rw [hs2]; decide) (by rw [hs2]; decide) (by rw [hs2]; decide) (by decide) ?_
      exact absurd hs2 (hbw h8 2 (by decide) (by decide))
    by_cases hs3 : w = 3
    · refine p_tabIn (off := 71) (tgt := 86) d_Bo_pew_15 (by rw [hs3]; decide) (by rw [hs3]; decide) (by rw [hs3]; decide) (by decide) ?_
      exact absurd hs3 (hbw h8 3 (by decide) (by decide))
    by_cases hs4 : w = 4
    · refine p_tabIn (off := 81) (tgt := 96) d_Bo_pew_15 (by rw [hs4]; decide) (by rw [hs4]; decide) (by rw [hs4]; decide) (by decide) ?_
      exact absurd hs4 (hbw h8 4 (by decide) (by decide))
    by_cases hs5 : w = 5
    · refine p_tabIn (off := 91) (tgt := 106) d_Bo_pew_15 (by rw [hs5]; decide) (by rw [hs5]; decide) (by rw [hs5]; decide) (by decide) ?_
      exact absurd hs5 (hbw h8 5 (by decide) (by decide))
    by_cases hs6 : w = 6
    · refine p_tabIn (off := 100) (tgt := 115) d_Bo_pew_15 (by rw [hs6]; decide) (by rw [hs6]; decide) (by rw [hs6]; decide) (by decide) ?_
      exact absurd hs6 (hbw h8 6 (by decide) (by decide))
    refine p_tabOut (tgt := 132) d_Bo_pew_15 (by have q := fun (z : Int32) (k : Int) (h : ¬ w = z) (hk : z.toInt = k) => lv_neT h hk; have q0 := lv_neT (a := 0) hs0 (by decide); have q1 := lv_neT (a := 1) hs1 (by decide); have q2 := lv_neT (a := 2) hs2 (by decide); have q3 := lv_neT (a := 3) hs3 (by decide); have q4 := lv_neT (a := 4) hs4 (by decide); have q5 := lv_neT (a := 5) hs5 (by decide); have q6 := lv_neT (a := 6) hs6 (by decide); omega) (by decide) ?_
    refine p_ldc d_Bo_pew_132 kc_Bo_68 ?_
    refine p_iret d_Bo_pew_134 rfl rfl ?_
    exact ⟨rfl, rfl, rfl, rfl⟩
  · refine p_ldc d_Bo_pew_11 kc_Bo_68 ?_
    refine p_iret d_Bo_pew_13 rfl rfl ?_
    exact ⟨rfl, rfl, rfl, rfl⟩
theorem b_now (Γ : Cx) (I : MemI) (J : MemJ) (n : Nat) (t : Nat → Int32) (V : Vw I n t) (w : Int32) : Ct Γ M_Bo_now [.ref 1, .int w] S0 I J (eqQ (some (.int (nowT n t (I 22 2) w))) S0 I J) := by
  have hn := V.1
  refine ct_of [.ref 1, .int w] (by decide +kernel) rfl (leb rfl) rfl ?_
  refine p_iload_n d_Bo_now_0 rfl ?_
  by_cases hs0 : w = 0
  · refine p_tabIn (off := 43) (tgt := 44) d_Bo_now_1 (by rw [hs0]; decide) (by rw [hs0]; decide) (by rw [hs0]; decide) (by decide) ?_
    refine p_aload_n d_Bo_now_44 rfl ?_
    refine p_getR d_Bo_now_45 fl_Bo_29 kd_1 rfl rf_1_3 ?_
    refine p_getI d_Bo_now_48 fl_Bo_131 kd_16 (Or.inl rfl) ?_
    refine p_iret d_Bo_now_51 rfl rfl ?_
    refine ⟨?_, rfl, rfl, rfl⟩
    rw [V.2.2.2.2.1]
    subst hs0
    rfl
  by_cases hs1 : w = 1
  · refine p_tabIn (off := 51) (tgt := 52) d_Bo_now_1 (by rw [hs1]; decide) (by rw [hs1]; decide) (by rw [hs1]; decide) (by decide) ?_
    refine p_aload_n d_Bo_now_52 rfl ?_
    refine p_getR d_Bo_now_53 fl_Bo_29 kd_1 rfl rf_1_3 ?_
    refine p_getI d_Bo_now_56 fl_Bo_134 kd_16 (Or.inl rfl) ?_
    refine p_iret d_Bo_now_59 rfl rfl ?_
    refine ⟨?_, rfl, rfl, rfl⟩
    rw [V.2.2.2.1.2.2.2.2.2]
    subst hs1
    rfl
  by_cases hs2 : w = 2
  · refine p_tabIn (off := 59) (tgt := 60) d_Bo_now_1 (by rw [hs2]; decide) (by rw [hs2]; decide) (by rw [hs2]; decide) (by decide) ?_
    refine p_aload_n d_Bo_now_60 rfl ?_
    refine p_getR d_Bo_now_61 fl_Bo_29 kd_1 rfl rf_1_3 ?_
    refine p_getI d_Bo_now_64 fl_Bo_137 kd_16 (Or.inl rfl) ?_
    refine p_iret d_Bo_now_67 rfl rfl ?_
    refine ⟨?_, rfl, rfl, rfl⟩
    rw [V.2.2.2.1.2.1]
    subst hs2
    rfl
  by_cases hs3 : w = 3
  · refine p_tabIn (off := 67) (tgt := 68) d_Bo_now_1 (by rw [hs3]; decide) (by rw [hs3]; decide) (by rw [hs3]; decide) (by decide) ?_
    refine p_aload_n d_Bo_now_68 rfl ?_
    refine p_getR d_Bo_now_69 fl_Bo_29 kd_1 rfl rf_1_3 ?_
    refine p_getI d_Bo_now_72 fl_Bo_140 kd_16 (Or.inl rfl) ?_
    refine p_iret d_Bo_now_75 rfl rfl ?_
    refine ⟨?_, rfl, rfl, rfl⟩
    rw [chR_cho V.2.2.2.1.2.2.1]
    subst hs3
    rfl
  by_cases hs4 : w = 4
  · refine p_tabIn (off := 75) (tgt := 76) d_Bo_now_1 (by rw [hs4]; decide) (by rw [hs4]; decide) (by rw [hs4]; decide) (by decide) ?_
    refine p_aload_n d_Bo_now_76 rfl ?_
    refine p_getR d_Bo_now_77 fl_Bo_29 kd_1 rfl rf_1_3 ?_
    refine p_getI d_Bo_now_80 fl_Bo_143 kd_16 (Or.inl rfl) ?_
    refine p_iret d_Bo_now_83 rfl rfl ?_
    refine ⟨?_, rfl, rfl, rfl⟩
    rw [V.2.2.2.1.2.2.2.2.1]
    subst hs4
    rfl
  by_cases hs5 : w = 5
  · refine p_tabIn (off := 83) (tgt := 84) d_Bo_now_1 (by rw [hs5]; decide) (by rw [hs5]; decide) (by rw [hs5]; decide) (by decide) ?_
    refine p_aload_n d_Bo_now_84 rfl ?_
    refine p_getR d_Bo_now_85 fl_Bo_29 kd_1 rfl rf_1_3 ?_
    refine p_aload_n d_Bo_now_88 rfl ?_
    refine p_getR d_Bo_now_89 fl_Bo_19 kd_1 rfl rf_1_1 ?_
    refine p_getI d_Bo_now_92 fl_Bo_146 kd_4 (Or.inl rfl) ?_
    refine p_eqI (y := nI n) (V.2.2.1.1) ?_
    refine q_V1 d_Bo_now_95 ml_Bo_149 vb_Si_apart kd_16 ⟨leb rfl, leb rfl⟩ (c_apart Γ I J 16 n si_16 hn) rfl rfl rfl ?_
    refine p_iret d_Bo_now_98 rfl rfl ?_
    refine ⟨?_, rfl, rfl, rfl⟩
    rw [ap_c V.2.2.2.1]
    subst hs5
    rfl
  by_cases hs6 : w = 6
  · refine p_tabIn (off := 98) (tgt := 99) d_Bo_now_1 (by rw [hs6]; decide) (by rw [hs6]; decide) (by rw [hs6]; decide) (by decide) ?_
    refine p_aload_n d_Bo_now_99 rfl ?_
    refine p_getR d_Bo_now_100 fl_Bo_42 kd_1 rfl rf_1_6 ?_
    refine p_getI d_Bo_now_103 fl_Bo_100 kd_22 (Or.inl rfl) ?_
    refine p_iret d_Bo_now_106 rfl rfl ?_
    refine ⟨?_, rfl, rfl, rfl⟩
    subst hs6
    rfl
  refine p_tabOut (tgt := 107) d_Bo_now_1 (by have q := fun (z : Int32) (k : Int) (h : ¬ w = z) (hk : z.toInt = k) => lv_neT h hk; have q0 := lv_neT (a := 0) hs0 (by decide); have q1 := lv_neT (a := 1) hs1 (by decide); have q2 := lv_neT (a := 2) hs2 (by decide); have q3 := lv_neT (a := 3) hs3 (by decide); have q4 := lv_neT (a := 4) hs4 (by decide); have q5 := lv_neT (a := 5) hs5 (by decide); have q6 := lv_neT (a := 6) hs6 (by decide); omega) (by decide) ?_
  refine p_ldc d_Bo_now_107 kc_Bo_68 ?_
  refine p_iret d_Bo_now_109 rfl rfl ?_
  exact ⟨by simp [nowT, hs0, hs1, hs2, hs3, hs4, hs5, hs6], rfl, rfl, rfl⟩
theorem b_count (Γ : Cx) (I : MemI) (J : MemJ) (n : Nat) (t : Nat → Int32) (V : Vw I n t) (w : Int32) : Ct Γ M_Bo_count [.ref 1, .int w] S0 I J (eqQ (some (.int (cntT t (I 1 12) (I 2 1) w))) S0 I J) := by
  have hn := V.1
  refine ct_of [.ref 1, .int w] (by decide +kernel) rfl (leb rfl) rfl ?_
  refine p_iload_n d_Bo_count_0 rfl ?_
  by_cases hs0 : w = 0
  · refine p_tabIn (off := 35) (tgt := 36) d_Bo_count_1 (by rw [hs0]; decide) (by rw [hs0]; decide) (by rw [hs0]; decide) (by decide) ?_
    refine p_aload_n d_Bo_count_36 rfl ?_
    refine p_getR d_Bo_count_37 fl_Bo_19 kd_1 rfl rf_1_1 ?_
    refine p_getI d_Bo_count_40 fl_Bo_146 kd_4 (Or.inl rfl) ?_
    refine p_iret d_Bo_count_43 rfl rfl ?_
    refine ⟨?_, rfl, rfl, rfl⟩
    rw [V.2.2.1.1, ← V.2.1]
    subst hs0
    rfl
  by_cases hs1 : w = 1
  · refine p_tabIn (off := 43) (tgt := 44) d_Bo_count_1 (by rw [hs1]; decide) (by rw [hs1]; decide) (by rw [hs1]; decide) (by decide) ?_
    refine p_aload_n d_Bo_count_44 rfl ?_
    refine p_getR d_Bo_count_45 fl_Bo_19 kd_1 rfl rf_1_1 ?_
    refine p_getI d_Bo_count_48 fl_Bo_160 kd_4 (Or.inl rfl) ?_
    refine p_iret d_Bo_count_51 rfl rfl ?_
    refine ⟨?_, rfl, rfl, rfl⟩
    rw [V.2.2.2.2.2.1]
    subst hs1
    rfl
  by_cases hs2 : w = 2
  · refine p_tabIn (off := 51) (tgt := 52) d_Bo_count_1 (by rw [hs2]; decide) (by rw [hs2]; decide) (by rw [hs2]; decide) (by decide) ?_
    refine p_aload_n d_Bo_count_52 rfl ?_
    refine p_getR d_Bo_count_53 fl_Bo_19 kd_1 rfl rf_1_1 ?_
    refine p_getI d_Bo_count_56 fl_Bo_167 kd_4 (Or.inl rfl) ?_
    refine p_iret d_Bo_count_59 rfl rfl ?_
    refine ⟨?_, rfl, rfl, rfl⟩
    rw [V.2.2.2.2.2.2]
    subst hs2
    rfl
  by_cases hs3 : w = 3
  · refine p_tabIn (off := 59) (tgt := 60) d_Bo_count_1 (by rw [hs3]; decide) (by rw [hs3]; decide) (by rw [hs3]; decide) (by decide) ?_
    refine p_aload_n d_Bo_count_60 rfl ?_
    refine p_getI d_Bo_count_61 fl_Bo_103 kd_1 (Or.inl rfl) ?_
    refine p_iret d_Bo_count_64 rfl rfl ?_
    refine ⟨?_, rfl, rfl, rfl⟩
    subst hs3
    rfl
  by_cases hs4 : w = 4
  · refine p_tabIn (off := 64) (tgt := 65) d_Bo_count_1 (by rw [hs4]; decide) (by rw [hs4]; decide) (by rw [hs4]; decide) (by decide) ?_
    refine p_aload_n d_Bo_count_65 rfl ?_
    refine p_getR d_Bo_count_66 fl_Bo_10 kd_1 rfl rf_1_0 ?_
    refine p_getI d_Bo_count_69 fl_Bo_73 kd_2 (Or.inl rfl) ?_
    refine p_iret d_Bo_count_72 rfl rfl ?_
    refine ⟨?_, rfl, rfl, rfl⟩
    subst hs4
    rfl
  refine p_tabOut (tgt := 73) d_Bo_count_1 (by have q := fun (z : Int32) (k : Int) (h : ¬ w = z) (hk : z.toInt = k) => lv_neT h hk; have q0 := lv_neT (a := 0) hs0 (by decide); have q1 := lv_neT (a := 1) hs1 (by decide); have q2 := lv_neT (a := 2) hs2 (by decide); have q3 := lv_neT (a := 3) hs3 (by decide); have q4 := lv_neT (a := 4) hs4 (by decide); omega) (by decide) ?_
  refine p_ldc d_Bo_count_73 kc_Bo_68 ?_
  refine p_iret d_Bo_count_75 rfl rfl ?_
  exact ⟨by simp [cntT, hs0, hs1, hs2, hs3, hs4], rfl, rfl, rfl⟩
theorem b_hear_bad (Γ : Cx) (I : MemI) (J : MemJ) (n : Nat) (t : Nat → Int32) (V : Vw I n t) (x y z : Int32) (hb : ¬ ((1 ≤ x ∧ x ≤ 20) ∧ (0 ≤ y ∧ y < nI n) ∧ (-99 ≤ z ∧ z ≤ 999))) : Ct Γ M_Bo_hear [.ref 1, .int x, .int y, .int z] S0 I J (eqQ (some (.int (-1000001))) S0 I J) := by
  have hn := V.1
  refine ct_of [.ref 1, .int x, .int y, .int z] (by decide +kernel) rfl (leb rfl) rfl ?_
  refine p_iload_n d_Bo_hear_0 rfl ?_
  refine p_ic_1 d_Bo_hear_1 ?_
  refine p_bi_20 d_Bo_hear_2 ?_
  refine q_S1 d_Bo_hear_4 ml_Bo_64 sb_Bo_within ⟨leb rfl, leb rfl⟩ (c_within Γ S0 _ _ x 1 20) rfl rfl rfl ?_
  refine p_ifeqB (tgt := 33) d_Bo_hear_7 (by decide) (fun h7 => ?_) (fun h7 => ?_)
  · refine p_ldc d_Bo_hear_33 kc_Bo_68 ?_
    refine p_iret d_Bo_hear_35 rfl rfl ?_
    exact ⟨rfl, rfl, rfl, rfl⟩
  · refine p_aload_n d_Bo_hear_10 rfl ?_
    refine p_getR d_Bo_hear_11 fl_Bo_19 kd_1 rfl rf_1_1 ?_
    refine p_iload_n d_Bo_hear_14 rfl ?_
    refine q_V1 d_Bo_hear_15 ml_Bo_106 vb_Ch_has kd_4 ⟨leb rfl, leb rfl⟩ (b_has Γ _ _ n y (V.2.2.1.1)) rfl rfl rfl ?_
    refine p_ifeqB (tgt := 33) d_Bo_hear_18 (by decide) (fun h18 => ?_) (fun h18 => ?_)
    · refine p_ldc d_Bo_hear_33 kc_Bo_68 ?_
      refine p_iret d_Bo_hear_35 rfl rfl ?_
      exact ⟨rfl, rfl, rfl, rfl⟩
    · refine p_iload_n d_Bo_hear_21 rfl ?_
      refine p_bi_m99 d_Bo_hear_22 ?_
      refine p_si_999 d_Bo_hear_24 ?_
      refine q_S1 d_Bo_hear_27 ml_Bo_64 sb_Bo_within ⟨leb rfl, leb rfl⟩ (c_within Γ S0 _ _ z (-99) 999) rfl rfl rfl ?_
      refine p_ifneB (tgt := 36) d_Bo_hear_30 (by decide) (fun h30 => ?_) (fun h30 => ?_)
      · exact absurd ⟨h7, h18, h30⟩ hb
      · refine p_ldc d_Bo_hear_33 kc_Bo_68 ?_
        refine p_iret d_Bo_hear_35 rfl rfl ?_
        exact ⟨rfl, rfl, rfl, rfl⟩
theorem b_hear_full (Γ : Cx) (I : MemI) (J : MemJ) (n : Nat) (t : Nat → Int32) (V : Vw I n t) (x y z : Int32) (hb : ((1 ≤ x ∧ x ≤ 20) ∧ (0 ≤ y ∧ y < nI n) ∧ (-99 ≤ z ∧ z ≤ 999))) (he : I 1 12 = nI 6) : Ct Γ M_Bo_hear [.ref 1, .int x, .int y, .int z] S0 I J (eqQ (some (.int (-1000003))) S0 I J) := by
  have hn := V.1
  refine ct_of [.ref 1, .int x, .int y, .int z] (by decide +kernel) rfl (leb rfl) rfl ?_
  refine p_iload_n d_Bo_hear_0 rfl ?_
  refine p_ic_1 d_Bo_hear_1 ?_
  refine p_bi_20 d_Bo_hear_2 ?_
  refine q_S1 d_Bo_hear_4 ml_Bo_64 sb_Bo_within ⟨leb rfl, leb rfl⟩ (c_within Γ S0 _ _ x 1 20) rfl rfl rfl ?_
  refine p_ifeqB (tgt := 33) d_Bo_hear_7 (by decide) (fun h7 => ?_) (fun h7 => ?_)
  · first | exact absurd hb.1 h7 | exact absurd hb.2.1 h18 | exact absurd hb.2.2 h30
  · refine p_aload_n d_Bo_hear_10 rfl ?_
    refine p_getR d_Bo_hear_11 fl_Bo_19 kd_1 rfl rf_1_1 ?_
    refine p_iload_n d_Bo_hear_14 rfl ?_
    refine q_V1 d_Bo_hear_15 ml_Bo_106 vb_Ch_has kd_4 ⟨leb rfl, leb rfl⟩ (b_has Γ _ _ n y (V.2.2.1.1)) rfl rfl rfl ?_
    refine p_ifeqB (tgt := 33) d_Bo_hear_18 (by decide) (fun h18 => ?_) (fun h18 => ?_)
    · first | exact absurd hb.1 h7 | exact absurd hb.2.1 h18 | exact absurd hb.2.2 h30
    · refine p_iload_n d_Bo_hear_21 rfl ?_
      refine p_bi_m99 d_Bo_hear_22 ?_
      refine p_si_999 d_Bo_hear_24 ?_
      refine q_S1 d_Bo_hear_27 ml_Bo_64 sb_Bo_within ⟨leb rfl, leb rfl⟩ (c_within Γ S0 _ _ z (-99) 999) rfl rfl rfl ?_
      refine p_ifneB (tgt := 36) d_Bo_hear_30 (by decide) (fun h30 => ?_) (fun h30 => ?_)
      · refine p_aload_n d_Bo_hear_36 rfl ?_
        refine p_getI d_Bo_hear_37 fl_Bo_103 kd_1 (Or.inl rfl) ?_
        refine p_eqI he ?_
        refine p_bi_6 d_Bo_hear_40 ?_
        refine p_icmpltN (tgt := 48) (6) (6) d_Bo_hear_42 (by decide) rfl rfl (by omega) (by omega) (fun h42 => ?_) (fun h42 => ?_)
        · exact absurd h42 (by omega)
        · refine p_ldc d_Bo_hear_45 kc_Bo_77 ?_
          refine p_iret d_Bo_hear_47 rfl rfl ?_
          exact ⟨rfl, rfl, rfl, rfl⟩
      · first | exact absurd hb.1 h7 | exact absurd hb.2.1 h18 | exact absurd hb.2.2 h30
theorem b_hear_ok (Γ : Cx) (I : MemI) (J : MemJ) (n : Nat) (t : Nat → Int32) (V : Vw I n t) (e : Nat) (x y z : Int32) (hb : ((1 ≤ x ∧ x ≤ 20) ∧ (0 ≤ y ∧ y < nI n) ∧ (-99 ≤ z ∧ z ≤ 999))) (he : I 1 12 = nI e) (h6 : e < 6) : Ct Γ M_Bo_hear [.ref 1, .int x, .int y, .int z] S0 I J (eqQ (some (.int (nI (e + 1)))) S0 (up2 (up2 (up2 (up2 I 50 e x) 51 e y) 52 e z) 1 12 (nI (e + 1))) J) := by
  have hn := V.1
  refine ct_of [.ref 1, .int x, .int y, .int z] (by decide +kernel) rfl (leb rfl) rfl ?_
  refine p_iload_n d_Bo_hear_0 rfl ?_
  refine p_ic_1 d_Bo_hear_1 ?_
  refine p_bi_20 d_Bo_hear_2 ?_
  refine q_S1 d_Bo_hear_4 ml_Bo_64 sb_Bo_within ⟨leb rfl, leb rfl⟩ (c_within Γ S0 _ _ x 1 20) rfl rfl rfl ?_
  refine p_ifeqB (tgt := 33) d_Bo_hear_7 (by decide) (fun h7 => ?_) (fun h7 => ?_)
  · first | exact absurd hb.1 h7 | exact absurd hb.2.1 h18 | exact absurd hb.2.2 h30
  · refine p_aload_n d_Bo_hear_10 rfl ?_
    refine p_getR d_Bo_hear_11 fl_Bo_19 kd_1 rfl rf_1_1 ?_
    refine p_iload_n d_Bo_hear_14 rfl ?_
    refine q_V1 d_Bo_hear_15 ml_Bo_106 vb_Ch_has kd_4 ⟨leb rfl, leb rfl⟩ (b_has Γ _ _ n y (V.2.2.1.1)) rfl rfl rfl ?_
    refine p_ifeqB (tgt := 33) d_Bo_hear_18 (by decide) (fun h18 => ?_) (fun h18 => ?_)
    · first | exact absurd hb.1 h7 | exact absurd hb.2.1 h18 | exact absurd hb.2.2 h30
    · refine p_iload_n d_Bo_hear_21 rfl ?_
      refine p_bi_m99 d_Bo_hear_22 ?_
      refine p_si_999 d_Bo_hear_24 ?_
      refine q_S1 d_Bo_hear_27 ml_Bo_64 sb_Bo_within ⟨leb rfl, leb rfl⟩ (c_within Γ S0 _ _ z (-99) 999) rfl rfl rfl ?_
      refine p_ifneB (tgt := 36) d_Bo_hear_30 (by decide) (fun h30 => ?_) (fun h30 => ?_)
      · refine p_aload_n d_Bo_hear_36 rfl ?_
        refine p_getI d_Bo_hear_37 fl_Bo_103 kd_1 (Or.inl rfl) ?_
        refine p_eqI (y := nI e) (by simp [up2, he]) ?_
        refine p_bi_6 d_Bo_hear_40 ?_
        refine p_icmpltN (tgt := 48) (e) (6) d_Bo_hear_42 (by decide) rfl rfl (by omega) (by omega) (fun h42 => ?_) (fun h42 => ?_)
        · refine p_aload_n d_Bo_hear_48 rfl ?_
          refine p_getR d_Bo_hear_49 fl_Bo_54 kd_1 rfl rf_1_9 ?_
          refine p_aload_n d_Bo_hear_52 rfl ?_
          refine p_getI d_Bo_hear_53 fl_Bo_103 kd_1 (Or.inl rfl) ?_
          refine p_eqI (y := nI e) (by simp [up2, he]) ?_
          refine p_iload_n d_Bo_hear_56 rfl ?_
          refine p_iastN (e) d_Bo_hear_57 ar_50 rfl (by omega) rfl ?_
          refine p_aload_n d_Bo_hear_58 rfl ?_
          refine p_getR d_Bo_hear_59 fl_Bo_58 kd_1 rfl rf_1_10 ?_
          refine p_aload_n d_Bo_hear_62 rfl ?_
          refine p_getI d_Bo_hear_63 fl_Bo_103 kd_1 (Or.inl rfl) ?_
          refine p_eqI (y := nI e) (by simp [up2, he]) ?_
          refine p_iload_n d_Bo_hear_66 rfl ?_
          refine p_iastN (e) d_Bo_hear_67 ar_51 rfl (by omega) rfl ?_
          refine p_aload_n d_Bo_hear_68 rfl ?_
          refine p_getR d_Bo_hear_69 fl_Bo_61 kd_1 rfl rf_1_11 ?_
          refine p_aload_n d_Bo_hear_72 rfl ?_
          refine p_getI d_Bo_hear_73 fl_Bo_103 kd_1 (Or.inl rfl) ?_
          refine p_eqI (y := nI e) (by simp [up2, he]) ?_
          refine p_iload_n d_Bo_hear_76 rfl ?_
          refine p_iastN (e) d_Bo_hear_77 ar_52 rfl (by omega) rfl ?_
          refine p_aload_n d_Bo_hear_78 rfl ?_
          refine p_dup d_Bo_hear_79 rfl ?_
          refine p_getI d_Bo_hear_80 fl_Bo_103 kd_1 (Or.inl rfl) ?_
          refine p_eqI (y := nI e) (by simp [up2, he]) ?_
          refine p_ic_1 d_Bo_hear_83 ?_
          refine p_iaddN (e) (1) d_Bo_hear_84 rfl rfl ?_
          refine p_putI d_Bo_hear_85 fl_Bo_103 kd_1 rfl nf_4_12 ?_
          refine p_aload_n d_Bo_hear_88 rfl ?_
          refine p_getI d_Bo_hear_89 fl_Bo_103 kd_1 (Or.inl rfl) ?_
          refine p_iret d_Bo_hear_92 rfl rfl ?_
          exact ⟨by simp [up2], rfl, rfl, rfl⟩
        · exact absurd h6 h42
      · first | exact absurd hb.1 h7 | exact absurd hb.2.1 h18 | exact absurd hb.2.2 h30
theorem b_rPew (Γ : Cx) (I : MemI) (J : MemJ) (k : Nat) (hk : k < 6) : Ct Γ M_Bo_ratePew [.ref 1, .int (nI k)] S0 I J (r1J (some (.int (I 17 k))) (J 1 13 + 1) I J 1 13) := by
  refine ct_of [.ref 1, .int (nI k)] (by decide +kernel) rfl (leb rfl) rfl ?_
  refine p_aload_n d_Bo_ratePew_0 rfl ?_
  refine p_dup d_Bo_ratePew_1 rfl ?_
  refine p_getJ d_Bo_ratePew_2 fl_Bo_247 kd_1 rfl ?_
  refine p_lc_1 d_Bo_ratePew_5 ?_
  refine p_ladd d_Bo_ratePew_6 ?_
  refine p_putJ d_Bo_ratePew_7 fl_Bo_247 kd_1 rfl nf_4_13 ?_
  refine p_aload_n d_Bo_ratePew_10 rfl ?_
  refine p_getR d_Bo_ratePew_11 fl_Bo_29 kd_1 rfl rf_1_3 ?_
  refine p_getR d_Bo_ratePew_14 fl_Bo_121 kd_16 rfl rf_16_0 ?_
  refine p_iload_n d_Bo_ratePew_17 rfl ?_
  refine p_ialdN (k) d_Bo_ratePew_18 ar_17 rfl (by omega) rfl ?_
  refine p_iret d_Bo_ratePew_19 rfl rfl ?_
  exact ⟨rfl, rfl, rfl, rfl⟩
theorem b_rFront (Γ : Cx) (I : MemI) (J : MemJ) (k : Nat) (hk : k < 6) : Ct Γ M_Bo_rateFront [.ref 1, .int (nI k)] S0 I J (r1J (some (.int (I 17 k + I 5 k / 6))) (J 1 13 + 11) I J 1 13) := by
  refine ct_of [.ref 1, .int (nI k)] (by decide +kernel) rfl (leb rfl) rfl ?_
  refine p_aload_n d_Bo_rateFront_0 rfl ?_
  refine p_dup d_Bo_rateFront_1 rfl ?_
  refine p_getJ d_Bo_rateFront_2 fl_Bo_247 kd_1 rfl ?_
  refine p_ldc2 d_Bo_rateFront_5 kl_Bo_251 ?_
  refine p_ladd d_Bo_rateFront_8 ?_
  refine p_putJ d_Bo_rateFront_9 fl_Bo_247 kd_1 rfl nf_4_13 ?_
  refine p_aload_n d_Bo_rateFront_12 rfl ?_
  refine p_iload_n d_Bo_rateFront_13 rfl ?_
  refine q_V d_Bo_rateFront_14 ml_Bo_244 vb_Bo_ratePew kd_1 ⟨leb rfl, leb rfl⟩ (b_rPew Γ I _ k hk) rfl rfl rfl (fun r S1 I1 J1 hQ => ?_)
  obtain ⟨rfl, rfl, hI, rfl⟩ := hQ
  obtain rfl := hI.symm
  refine p_aload_n d_Bo_rateFront_17 rfl ?_
  refine p_getR d_Bo_rateFront_18 fl_Bo_19 kd_1 rfl rf_1_1 ?_
  refine p_iload_n d_Bo_rateFront_21 rfl ?_
  refine q_V1 d_Bo_rateFront_22 ml_Bo_124 vb_Ch_lag kd_4 ⟨leb rfl, leb rfl⟩ (c_lag Γ I _ 4 k ch_4 hk) rfl rfl rfl ?_
  refine p_iadd d_Bo_rateFront_25 ?_
  refine p_iret d_Bo_rateFront_26 rfl rfl ?_
  exact ⟨rfl, rfl, rfl, by rw [upJ_s, upJ2, Int64.add_assoc]; rfl⟩
theorem b_rBasses (Γ : Cx) (I : MemI) (J : MemJ) (k : Nat) (hk : k < 6) : Ct Γ M_Bo_rateBasses [.ref 1, .int (nI k)] S0 I J (r1J (some (.int (I 17 k - I 8 k))) (J 1 13 + 101) I J 1 13) := by
  refine ct_of [.ref 1, .int (nI k)] (by decide +kernel) rfl (leb rfl) rfl ?_
  refine p_aload_n d_Bo_rateBasses_0 rfl ?_
  refine p_dup d_Bo_rateBasses_1 rfl ?_
  refine p_getJ d_Bo_rateBasses_2 fl_Bo_247 kd_1 rfl ?_
  refine p_ldc2 d_Bo_rateBasses_5 kl_Bo_253 ?_
  refine p_ladd d_Bo_rateBasses_8 ?_
  refine p_putJ d_Bo_rateBasses_9 fl_Bo_247 kd_1 rfl nf_4_13 ?_
  refine p_aload_n d_Bo_rateBasses_12 rfl ?_
  refine p_iload_n d_Bo_rateBasses_13 rfl ?_
  refine q_V d_Bo_rateBasses_14 ml_Bo_244 vb_Bo_ratePew kd_1 ⟨leb rfl, leb rfl⟩ (b_rPew Γ I _ k hk) rfl rfl rfl (fun r S1 I1 J1 hQ => ?_)
  obtain ⟨rfl, rfl, hI, rfl⟩ := hQ
  obtain rfl := hI.symm
  refine p_aload_n d_Bo_rateBasses_17 rfl ?_
  refine p_getR d_Bo_rateBasses_18 fl_Bo_19 kd_1 rfl rf_1_1 ?_
  refine p_getR d_Bo_rateBasses_21 fl_Bo_118 kd_4 rfl rf_4_3 ?_
  refine p_iload_n d_Bo_rateBasses_24 rfl ?_
  refine p_ialdN (k) d_Bo_rateBasses_25 ar_8 rfl (by omega) rfl ?_
  refine p_isub d_Bo_rateBasses_26 ?_
  refine p_iret d_Bo_rateBasses_27 rfl rfl ?_
  exact ⟨rfl, rfl, rfl, by rw [upJ_s, upJ2, Int64.add_assoc]; rfl⟩
theorem b_rWidows (Γ : Cx) (I : MemI) (J : MemJ) (k : Nat) (hk : k < 6) : Ct Γ M_Bo_rateWidows [.ref 1, .int (nI k)] S0 I J (r1J (some (.int (2 * (I 17 k + I 5 k / 6)))) (J 1 13 + 1011) I J 1 13) := by
  refine ct_of [.ref 1, .int (nI k)] (by decide +kernel) rfl (leb rfl) rfl ?_
  refine p_aload_n d_Bo_rateWidows_0 rfl ?_
  refine p_dup d_Bo_rateWidows_1 rfl ?_
  refine p_getJ d_Bo_rateWidows_2 fl_Bo_247 kd_1 rfl ?_
  refine p_ldc2 d_Bo_rateWidows_5 kl_Bo_255 ?_
  refine p_ladd d_Bo_rateWidows_8 ?_
  refine p_putJ d_Bo_rateWidows_9 fl_Bo_247 kd_1 rfl nf_4_13 ?_
  refine p_ic_2 d_Bo_rateWidows_12 ?_
  refine p_aload_n d_Bo_rateWidows_13 rfl ?_
  refine p_iload_n d_Bo_rateWidows_14 rfl ?_
  refine q_V d_Bo_rateWidows_15 ml_Bo_229 vb_Bo_rateFront kd_1 ⟨leb rfl, leb rfl⟩ (b_rFront Γ I _ k hk) rfl rfl rfl (fun r S1 I1 J1 hQ => ?_)
  obtain ⟨rfl, rfl, hI, rfl⟩ := hQ
  obtain rfl := hI.symm
  refine p_imul d_Bo_rateWidows_18 ?_
  refine p_iret d_Bo_rateWidows_19 rfl rfl ?_
  exact ⟨rfl, rfl, rfl, by rw [upJ_s, upJ2, Int64.add_assoc]; rfl⟩
theorem b_rBoys (Γ : Cx) (I : MemI) (J : MemJ) (k : Nat) (hk : k < 6) : Ct Γ M_Bo_rateBoys [.ref 1, .int (nI k)] S0 I J (r1J (some (.int (I 17 k - I 8 k + nI k))) (J 1 13 + 10101) I J 1 13) := by
  refine ct_of [.ref 1, .int (nI k)] (by decide +kernel) rfl (leb rfl) rfl ?_
  refine p_aload_n d_Bo_rateBoys_0 rfl ?_
  refine p_dup d_Bo_rateBoys_1 rfl ?_
  refine p_getJ d_Bo_rateBoys_2 fl_Bo_247 kd_1 rfl ?_
  refine p_ldc2 d_Bo_rateBoys_5 kl_Bo_257 ?_
  refine p_ladd d_Bo_rateBoys_8 ?_
  refine p_putJ d_Bo_rateBoys_9 fl_Bo_247 kd_1 rfl nf_4_13 ?_
  refine p_aload_n d_Bo_rateBoys_12 rfl ?_
  refine p_iload_n d_Bo_rateBoys_13 rfl ?_
  refine q_V d_Bo_rateBoys_14 ml_Bo_232 vb_Bo_rateBasses kd_1 ⟨leb rfl, leb rfl⟩ (b_rBasses Γ I _ k hk) rfl rfl rfl (fun r S1 I1 J1 hQ => ?_)
  obtain ⟨rfl, rfl, hI, rfl⟩ := hQ
  obtain rfl := hI.symm
  refine p_iload_n d_Bo_rateBoys_17 rfl ?_
  refine p_iadd d_Bo_rateBoys_18 ?_
  refine p_iret d_Bo_rateBoys_19 rfl rfl ?_
  exact ⟨rfl, rfl, rfl, by rw [upJ_s, upJ2, Int64.add_assoc]; rfl⟩
theorem b_rStr (Γ : Cx) (I : MemI) (J : MemJ) (k : Nat) (hk : k < 6) : Ct Γ M_Bo_rateStrangers [.ref 1, .int (nI k)] S0 I J (r1J (some (.int (I 17 k + I 16 5))) (J 1 13 + 100001) I J 1 13) := by
  refine ct_of [.ref 1, .int (nI k)] (by decide +kernel) rfl (leb rfl) rfl ?_
  refine p_aload_n d_Bo_rateStrangers_0 rfl ?_
  refine p_dup d_Bo_rateStrangers_1 rfl ?_
  refine p_getJ d_Bo_rateStrangers_2 fl_Bo_247 kd_1 rfl ?_
  refine p_ldc2 d_Bo_rateStrangers_5 kl_Bo_259 ?_
  refine p_ladd d_Bo_rateStrangers_8 ?_
  refine p_putJ d_Bo_rateStrangers_9 fl_Bo_247 kd_1 rfl nf_4_13 ?_
  refine p_aload_n d_Bo_rateStrangers_12 rfl ?_
  refine p_iload_n d_Bo_rateStrangers_13 rfl ?_
  refine q_V d_Bo_rateStrangers_14 ml_Bo_244 vb_Bo_ratePew kd_1 ⟨leb rfl, leb rfl⟩ (b_rPew Γ I _ k hk) rfl rfl rfl (fun r S1 I1 J1 hQ => ?_)
  obtain ⟨rfl, rfl, hI, rfl⟩ := hQ
  obtain rfl := hI.symm
  refine p_aload_n d_Bo_rateStrangers_17 rfl ?_
  refine p_getR d_Bo_rateStrangers_18 fl_Bo_29 kd_1 rfl rf_1_3 ?_
  refine p_getI d_Bo_rateStrangers_21 fl_Bo_134 kd_16 (Or.inl rfl) ?_
  refine p_iadd d_Bo_rateStrangers_24 ?_
  refine p_iret d_Bo_rateStrangers_25 rfl rfl ?_
  exact ⟨rfl, rfl, rfl, by rw [upJ_s, upJ2, Int64.add_assoc]; rfl⟩
theorem b_rate (Γ : Cx) (I : MemI) (J : MemJ) (n : Nat) (t : Nat → Int32) (V : Vw I n t) (k q : Nat) (hk : k < n) (hq : q ≤ 5) : Ct Γ M_Bo_rate [.ref 1, .int (nI q), .int (nI k)] S0 I J (r1J (some (.int (ratT t k q))) (J 1 13 + ratJ q) I J 1 13) := by
  have hn := V.1
  have L : I 17 k = t (28 + k) := V.2.2.2.1.1 k hk
  have Y : I 5 k = t (4 + k) := (V.2.2.1.2 k hk).1
  have W : I 8 k = t (22 + k) := (V.2.2.1.2 k hk).2.2.2
  refine ct_of [.ref 1, .int (nI q), .int (nI k)] (by decide +kernel) rfl (leb rfl) rfl ?_
  refine p_iload_n d_Bo_rate_0 rfl ?_
  refine p_ic_0 d_Bo_rate_1 ?_
  refine p_ic_5 d_Bo_rate_2 ?_
  refine q_S1 d_Bo_rate_3 ml_Bo_64 sb_Bo_within ⟨leb rfl, leb rfl⟩ (c_within Γ S0 _ _ (nI q) 0 5) rfl rfl rfl ?_
  refine p_ifeqB (tgt := 20) d_Bo_rate_6 (by decide) (fun h6 => ?_) (fun h6 => ?_)
  · exact absurd (i5 q hq) h6
  · refine p_aload_n d_Bo_rate_9 rfl ?_
    refine p_getR d_Bo_rate_10 fl_Bo_19 kd_1 rfl rf_1_1 ?_
    refine p_iload_n d_Bo_rate_13 rfl ?_
    refine q_V1 d_Bo_rate_14 ml_Bo_106 vb_Ch_has kd_4 ⟨leb rfl, leb rfl⟩ (b_has Γ _ _ n (nI k) (V.2.2.1.1)) rfl rfl rfl ?_
    refine p_ifneB (tgt := 23) d_Bo_rate_17 (by decide) (fun h17 => ?_) (fun h17 => ?_)
    · refine p_iload_n d_Bo_rate_23 rfl ?_
      by_cases hs1 : (nI q) = 1
      · refine p_tabIn (off := 36) (tgt := 60) d_Bo_rate_24 (by rw [hs1]; decide) (by rw [hs1]; decide) (by rw [hs1]; decide) (by decide) ?_
        refine p_aload_n d_Bo_rate_60 rfl ?_
        refine p_iload_n d_Bo_rate_61 rfl ?_
        refine q_V d_Bo_rate_62 ml_Bo_229 vb_Bo_rateFront kd_1 ⟨leb rfl, leb rfl⟩ (b_rFront Γ I J k (by omega)) rfl rfl rfl (fun r S1 I1 J1 hQ => ?_)
        obtain ⟨rfl, rfl, hI, rfl⟩ := hQ
        obtain rfl := hI.symm
        refine p_iret d_Bo_rate_65 rfl rfl ?_
        have gq : q = 1 := (nI_eq (a := q) (b := 1) (by omega) (by omega)).mp hs1
        subst gq
        refine ⟨?_, rfl, rfl, rfl⟩
        rw [L, Y]
        rfl
      by_cases hs2 : (nI q) = 2
      · refine p_tabIn (off := 42) (tgt := 66) d_Bo_rate_24 (by rw [hs2]; decide) (by rw [hs2]; decide) (by rw [hs2]; decide) (by decide) ?_
        refine p_aload_n d_Bo_rate_66 rfl ?_
        refine p_iload_n d_Bo_rate_67 rfl ?_
        refine q_V d_Bo_rate_68 ml_Bo_232 vb_Bo_rateBasses kd_1 ⟨leb rfl, leb rfl⟩ (b_rBasses Γ I J k (by omega)) rfl rfl rfl (fun r S1 I1 J1 hQ => ?_)
        obtain ⟨rfl, rfl, hI, rfl⟩ := hQ
        obtain rfl := hI.symm
        refine p_iret d_Bo_rate_71 rfl rfl ?_
        have gq : q = 2 := (nI_eq (a := q) (b := 2) (by omega) (by omega)).mp hs2
        subst gq
        refine ⟨?_, rfl, rfl, rfl⟩
        rw [L, W]
        rfl
      by_cases hs3 : (nI q) = 3
      · refine p_tabIn (off := 48) (tgt := 72) d_Bo_rate_24 (by rw [hs3]; decide) (by rw [hs3]; decide) (by rw [hs3]; decide) (by decide) ?_
        refine p_aload_n d_Bo_rate_72 rfl ?_
        refine p_iload_n d_Bo_rate_73 rfl ?_
        refine q_V d_Bo_rate_74 ml_Bo_235 vb_Bo_rateWidows kd_1 ⟨leb rfl, leb rfl⟩ (b_rWidows Γ I J k (by omega)) rfl rfl rfl (fun r S1 I1 J1 hQ => ?_)
        obtain ⟨rfl, rfl, hI, rfl⟩ := hQ
        obtain rfl := hI.symm
        refine p_iret d_Bo_rate_77 rfl rfl ?_
        have gq : q = 3 := (nI_eq (a := q) (b := 3) (by omega) (by omega)).mp hs3
        subst gq
        refine ⟨?_, rfl, rfl, rfl⟩
        rw [L, Y]
        rfl
      by_cases hs4 : (nI q) = 4
      · refine p_tabIn (off := 54) (tgt := 78) d_Bo_rate_24 (by rw [hs4]; decide) (by rw [hs4]; decide) (by rw [hs4]; decide) (by decide) ?_
        refine p_aload_n d_Bo_rate_78 rfl ?_
        refine p_iload_n d_Bo_rate_79 rfl ?_
        refine q_V d_Bo_rate_80 ml_Bo_238 vb_Bo_rateBoys kd_1 ⟨leb rfl, leb rfl⟩ (b_rBoys Γ I J k (by omega)) rfl rfl rfl (fun r S1 I1 J1 hQ => ?_)
        obtain ⟨rfl, rfl, hI, rfl⟩ := hQ
        obtain rfl := hI.symm
        refine p_iret d_Bo_rate_83 rfl rfl ?_
        have gq : q = 4 := (nI_eq (a := q) (b := 4) (by omega) (by omega)).mp hs4
        subst gq
        refine ⟨?_, rfl, rfl, rfl⟩
        rw [L, W]
        rfl
      by_cases hs5 : (nI q) = 5
      · refine p_tabIn (off := 60) (tgt := 84) d_Bo_rate_24 (by rw [hs5]; decide) (by rw [hs5]; decide) (by rw [hs5]; decide) (by decide) ?_
        refine p_aload_n d_Bo_rate_84 rfl ?_
        refine p_iload_n d_Bo_rate_85 rfl ?_
        refine q_V d_Bo_rate_86 ml_Bo_241 vb_Bo_rateStrangers kd_1 ⟨leb rfl, leb rfl⟩ (b_rStr Γ I J k (by omega)) rfl rfl rfl (fun r S1 I1 J1 hQ => ?_)
        obtain ⟨rfl, rfl, hI, rfl⟩ := hQ
        obtain rfl := hI.symm
        refine p_iret d_Bo_rate_89 rfl rfl ?_
        have gq : q = 5 := (nI_eq (a := q) (b := 5) (by omega) (by omega)).mp hs5
        subst gq
        refine ⟨?_, rfl, rfl, rfl⟩
        rw [L, V.2.2.2.1.2.2.2.2.2]
        rfl
      refine p_tabOut (tgt := 90) d_Bo_rate_24 (by have q := fun (z : Int32) (k : Int) (h : ¬ (nI q) = z) (hk : z.toInt = k) => lv_neT h hk; have q1 := lv_neT (a := 1) hs1 (by decide); have q2 := lv_neT (a := 2) hs2 (by decide); have q3 := lv_neT (a := 3) hs3 (by decide); have q4 := lv_neT (a := 4) hs4 (by decide); have q5 := lv_neT (a := 5) hs5 (by decide); omega) (by decide) ?_
      refine p_aload_n d_Bo_rate_90 rfl ?_
      refine p_iload_n d_Bo_rate_91 rfl ?_
      refine q_V d_Bo_rate_92 ml_Bo_244 vb_Bo_ratePew kd_1 ⟨leb rfl, leb rfl⟩ (b_rPew Γ I J k (by omega)) rfl rfl rfl (fun r S1 I1 J1 hQ => ?_)
      obtain ⟨rfl, rfl, hI, rfl⟩ := hQ
      obtain rfl := hI.symm
      refine p_iret d_Bo_rate_95 rfl rfl ?_
      have gq : q = 0 := by
        have z1 : q ≠ 1 := fun z => hs1 (by rw [z]; rfl)
        have z2 : q ≠ 2 := fun z => hs2 (by rw [z]; rfl)
        have z3 : q ≠ 3 := fun z => hs3 (by rw [z]; rfl)
        have z4 : q ≠ 4 := fun z => hs4 (by rw [z]; rfl)
        have z5 : q ≠ 5 := fun z => hs5 (by rw [z]; rfl)
        omega
      subst gq
      refine ⟨?_, rfl, rfl, rfl⟩
      rw [L]
      rfl
    · exact absurd (isP_nI hn hk) h17
theorem b_rate_bad (Γ : Cx) (I : MemI) (J : MemJ) (n : Nat) (t : Nat → Int32) (V : Vw I n t) (w x : Int32) (hb : ¬ ((0 ≤ w ∧ w ≤ 5) ∧ (0 ≤ x ∧ x < nI n))) : Ct Γ M_Bo_rate [.ref 1, .int w, .int x] S0 I J (eqQ (some (.int (-1000001))) S0 I J) := by
  have hn := V.1
  refine ct_of [.ref 1, .int w, .int x] (by decide +kernel) rfl (leb rfl) rfl ?_
  refine p_iload_n d_Bo_rate_0 rfl ?_
  refine p_ic_0 d_Bo_rate_1 ?_
  refine p_ic_5 d_Bo_rate_2 ?_
  refine q_S1 d_Bo_rate_3 ml_Bo_64 sb_Bo_within ⟨leb rfl, leb rfl⟩ (c_within Γ S0 _ _ w 0 5) rfl rfl rfl ?_
  refine p_ifeqB (tgt := 20) d_Bo_rate_6 (by decide) (fun h6 => ?_) (fun h6 => ?_)
  · refine p_ldc d_Bo_rate_20 kc_Bo_68 ?_
    refine p_iret d_Bo_rate_22 rfl rfl ?_
    exact ⟨rfl, rfl, rfl, rfl⟩
  · refine p_aload_n d_Bo_rate_9 rfl ?_
    refine p_getR d_Bo_rate_10 fl_Bo_19 kd_1 rfl rf_1_1 ?_
    refine p_iload_n d_Bo_rate_13 rfl ?_
    refine q_V1 d_Bo_rate_14 ml_Bo_106 vb_Ch_has kd_4 ⟨leb rfl, leb rfl⟩ (b_has Γ _ _ n x (V.2.2.1.1)) rfl rfl rfl ?_
    refine p_ifneB (tgt := 23) d_Bo_rate_17 (by decide) (fun h17 => ?_) (fun h17 => ?_)
    · exact absurd ⟨h6, h17⟩ hb
    · refine p_ldc d_Bo_rate_20 kc_Bo_68 ?_
      refine p_iret d_Bo_rate_22 rfl rfl ?_
      exact ⟨rfl, rfl, rfl, rfl⟩
