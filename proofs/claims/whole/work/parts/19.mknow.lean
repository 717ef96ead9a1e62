/-! ===== the reference: who must know it, who pulls, which two should change ===== -/
theorem and64 : ∀ a, a < 64 → ∀ b, b < 64 → (nI a &&& nI b) = nI (a &&& b) ∧ (a &&& b) < 64 := by decide +kernel
theorem or64 : ∀ a, a < 64 → ∀ b, b < 64 → (nI a ||| nI b) = nI (a ||| b) ∧ (a ||| b) < 64 := by decide +kernel
theorem shl1 : ∀ n, n ≤ 6 → (1 : Int32) <<< (nI n &&& 31) = nI (2 ^ n) ∧ 2 ^ n ≤ 64 := by decide +kernel
def bst (o : Option Nat) : Int32 := match o with
  | none => (-1000009)
  | some b => nI b
def fw (s : Nat) (o : Option Nat) : Bool := match o with
  | none => true
  | some b => decide (pop s < pop b)
def okK (n q : Nat) (t : Nat → Int32) (kn : Nat) (d : Int32) (b : Nat) : Prop := apT n (itS n (upd t 37 (nI (kn ||| b))) q) ≤ d
theorem okK_d (n q : Nat) (t : Nat → Int32) (kn : Nat) (d : Int32) (b : Nat) : okK n q t kn d b = (apT n (itS n (upd t 37 (nI (kn ||| b))) q) ≤ d) := rfl
def knF (n q : Nat) (t : Nat → Int32) (kn : Nat) (d : Int32) : Nat → Nat → Option Nat → Option Nat
  | 0, _, o => o
  | f + 1, s, o => if (s &&& kn = 0 ∧ fw s o = true) ∧ apT n (itS n (upd t 37 (nI (kn ||| s))) q) ≤ d then knF n q t kn d f (s + 1) (some s) else knF n q t kn d f (s + 1) o
theorem nI_ne_NONE {b : Nat} (h : b < 64) : ¬ nI b = -1000009 := by
  intro q
  have := congrArg Int32.toInt q
  rw [nI_toInt (by omega)] at this
  have e : (-1000009 : Int32).toInt = -1000009 := by decide
  omega
theorem m_knowers (Γ : Cx) (I : MemI) (J : MemJ) (n : Nat) (hn : n ≤ 6) (h0 : I 54 0 = nI n) (hok : okT n (I 54)) (q : Nat) (hq1 : 1 ≤ q) (hq : q ≤ 30) (kn : Nat) (hkn : I 54 37 = nI kn) (hk64 : kn < 64) (d : Int32) (hd : 0 ≤ d ∧ d ≤ 99) : Ct Γ M_Mo_knowers [.ref 53, .int (nI q), .int d] S0 I J (scQ (some (.int (bst (knF n q (I 54) kn d (2 ^ n) 0 none)))) I J) := by
  obtain ⟨sh, sh2⟩ := shl1 n hn
  have LP : ∀ (f s : Nat) (o : Option Nat) (v : Value) (I1 : MemI), v.category = 1 → s + f = 2 ^ n → (∀ b, o = some b → b < 64) → (∀ x, x ≠ 61 → x ≠ 62 → x ≠ 63 → I1 x = I x) → knF n q (I 54) kn d (2 ^ n) 0 none = knF n q (I 54) kn d f s o → WP Γ M_Mo_knowers (0, 0) S0 I1 J 28 [.ref 53, .int (nI q), .int d, .int (bst o), .int (nI s), v] [] (scQ (some (.int (bst (knF n q (I 54) kn d (2 ^ n) 0 none)))) I J) := by
    intro f
    induction f with
    | zero =>
      intro s o v I1 hv hsf ho hx hF
      obtain rfl : s = 2 ^ n := by omega
      refine p_iload d_Mo_knowers_28 rfl ?_
      refine p_ic_1 d_Mo_knowers_30 ?_
      refine p_aload_n d_Mo_knowers_31 rfl ?_
      refine p_getR d_Mo_knowers_32 fl_Mo_7 kd_53 rfl rf_53_0 ?_
      refine p_ic_0 d_Mo_knowers_35 ?_
      refine p_ialdN (0) d_Mo_knowers_36 ar_54 rfl (by omega) rfl ?_
      refine p_eqI (y := nI n) (by rw [hx 54 (by decide) (by decide) (by decide)]; exact h0) ?_
      refine p_ishl d_Mo_knowers_37 ?_
      refine p_eqI sh ?_
      refine p_icmpgeN (tgt := 129) (2 ^ n) (2 ^ n) d_Mo_knowers_38 (by decide) rfl rfl (by omega) (by omega) (fun h38 => ?_) (fun h38 => ?_)
      · refine p_iload_n d_Mo_knowers_129 rfl ?_
        refine p_iret d_Mo_knowers_130 rfl rfl ?_
        exact ⟨by rw [hF]; rfl, rfl, rfl, hx⟩
      · exact absurd (Nat.le_refl _) h38
    | succ f ih =>
      intro s o v I1 hv hsf ho hx hF
      have hs : s < 64 := by omega
      have hr : ∀ (IA : MemI) (c : Int32), IA 62 = I 54 → up2 IA 62 37 c 62 = upd (I 54) 37 c := fun IA c h => by rw [up2_row, h]
      have hk : ∀ c, okT n (upd (I 54) 37 c) := fun c => okT_upd hok (Or.inr (by omega))
      have hz : ∀ c, upd (I 54) 37 c 0 = nI n := fun c => by rw [upd_ne (by omega)]; exact h0
      have J123 : ∀ (o2 : Option Nat) (v : Value) (I2 : MemI), v.category = 1 → (∀ b, o2 = some b → b < 64) → (∀ x, x ≠ 61 → x ≠ 62 → x ≠ 63 → I2 x = I x) → knF n q (I 54) kn d (f + 1) s o = knF n q (I 54) kn d f (s + 1) o2 → WP Γ M_Mo_knowers (0, 0) S0 I2 J 123 [.ref 53, .int (nI q), .int d, .int (bst o2), .int (nI s), v] [] (scQ (some (.int (bst (knF n q (I 54) kn d (2 ^ n) 0 none)))) I J) := by
        intro o2 v I2 hv ho2 hx2 e2
        refine p_incN_4_1 d_Mo_knowers_123 (by decide) rfl ?_
        refine p_goto (tgt := 28) d_Mo_knowers_126 (by decide) ?_
        exact ih (s + 1) o2 v I2 hv (by omega) ho2 hx2 (hF.trans e2)
      have J64 : ∀ (b : Int32), b = bI (fw s o = true) → WP Γ M_Mo_knowers (0, 0) S0 I1 J 64 [.ref 53, .int (nI q), .int d, .int (bst o), .int (nI s), v] [.int b] (scQ (some (.int (bst (knF n q (I 54) kn d (2 ^ n) 0 none)))) I J) := by
        intro b eb
        subst eb
        refine p_is_5 d_Mo_knowers_64 (by decide) rfl ?_
        refine p_iload d_Mo_knowers_66 rfl ?_
        refine p_aload_n d_Mo_knowers_68 rfl ?_
        refine p_getR d_Mo_knowers_69 fl_Mo_7 kd_53 rfl rf_53_0 ?_
        refine p_bi_37 d_Mo_knowers_72 ?_
        refine p_ialdN (37) d_Mo_knowers_74 ar_54 rfl (by omega) rfl ?_
        refine p_eqI (y := nI kn) (by rw [hx 54 (by decide) (by decide) (by decide)]; exact hkn) ?_
        refine p_iand d_Mo_knowers_75 ?_
        refine p_eqI (and64 s hs kn hk64).1 ?_
        refine p_ifne (tgt := 123) d_Mo_knowers_76 (by decide) (fun h76 => ?_) (fun h76 => ?_)
        · have g76 : ¬ (s &&& kn = 0) := fun z => h76 (by rw [z]; rfl)
          exact J123 _ _ _ rfl ho hx (by show (if _ then _ else _) = _; rw [if_neg (fun z => g76 z.1.1)])
        · have g76 : s &&& kn = 0 := by
            rcases Nat.eq_zero_or_pos (s &&& kn) with z | z
            · exact z
            · exact absurd h76 (nI_ne0 z (by have := (and64 s hs kn hk64).2; omega))
          refine p_iload d_Mo_knowers_79 rfl ?_
          refine p_ifeqB (tgt := 123) d_Mo_knowers_81 (by decide) (fun h81 => ?_) (fun h81 => ?_)
          · exact J123 _ _ _ rfl ho hx (by show (if _ then _ else _) = _; rw [if_neg (fun z => h81 z.1.2)])
          · refine p_aload_n d_Mo_knowers_84 rfl ?_
            refine q_V d_Mo_knowers_85 ml_Mo_148 vb_Mo_asNow kd_53 ⟨leb rfl, leb rfl⟩ (m_asNow' Γ I1 I J (hx 54 (by decide) (by decide) (by decide))) rfl rfl rfl (fun r S1 IA J1 hQ => ?_)
            obtain ⟨rfl, rfl, hJ, a1, a2⟩ := hQ
            obtain rfl := hJ.symm
            refine p_aload_n d_Mo_knowers_88 rfl ?_
            refine p_getR d_Mo_knowers_89 fl_Mo_35 kd_53 rfl rf_53_15 ?_
            refine p_bi_37 d_Mo_knowers_92 ?_
            refine p_dup2 d_Mo_knowers_94 rfl rfl ?_
            refine p_ialdN (37) d_Mo_knowers_95 ar_62 rfl (by omega) rfl ?_
            refine p_eqI (y := nI kn) (by rw [a1]; exact hkn) ?_
            refine p_iload d_Mo_knowers_96 rfl ?_
            refine p_ior d_Mo_knowers_98 ?_
            refine p_eqI (or64 kn hk64 s hs).1 ?_
            refine p_iastN (37) d_Mo_knowers_99 ar_62 rfl (by omega) rfl ?_
            refine p_aload_n d_Mo_knowers_100 rfl ?_
            refine p_iload_n d_Mo_knowers_101 rfl ?_
            refine q_V d_Mo_knowers_102 ml_Mo_151 vb_Mo_go kd_53 ⟨leb rfl, leb rfl⟩ (m_go Γ _ J n (q) (by omega) (by rw [hr IA _ a1]; exact hz _) (by rw [hr IA _ a1]; exact hk _)) rfl rfl rfl (fun r S1 IG J1 hQ => ?_)
            obtain ⟨rfl, rfl, hJ, g1, g2⟩ := hQ
            obtain rfl := hJ.symm
            refine p_aload_n d_Mo_knowers_105 rfl ?_
            refine p_getR d_Mo_knowers_106 fl_Mo_35 kd_53 rfl rf_53_15 ?_
            refine q_S1 d_Mo_knowers_109 ml_Mo_108 sb_Mo_apart ⟨leb rfl, leb rfl⟩ (m_apart Γ _ J 62 n ar_62 hn (by rw [g1, it_low 0 (by omega) q hn, hr IA _ a1]; exact hz _)) rfl rfl rfl ?_
            refine p_iload_n d_Mo_knowers_112 rfl ?_
            refine p_icmpgt (tgt := 121) d_Mo_knowers_113 (by decide) (fun h113 => ?_) (fun h113 => ?_)
            · refine p_iload_n d_Mo_knowers_121 rfl ?_
              rw [g1, hr IA _ a1] at h113
              refine p_is_3 d_Mo_knowers_122 (by decide) rfl ?_
              refine J123 o _ IG rfl ho (fun x q1 q2 q3 => ?_) ?_
              · rw [g2 x q1 q2]
                funext y
                simp only [up2]
                rw [if_neg (fun z => q2 z.1), a2 x q2, hx x q1 q2 q3]
              · show (if _ then _ else _) = _
                rw [if_neg (fun z => i32_nle.mpr (show d < apT n (itS n (upd (I 54) 37 (nI (kn ||| s))) q) from h113) z.2)]
            · refine p_iload d_Mo_knowers_116 rfl ?_
              refine p_goto (tgt := 122) d_Mo_knowers_118 (by decide) ?_
              rw [g1, hr IA _ a1] at h113
              refine p_is_3 d_Mo_knowers_122 (by decide) rfl ?_
              refine J123 (some s) _ IG rfl (fun b hb => by cases hb; exact hs) (fun x q1 q2 q3 => ?_) ?_
              · rw [g2 x q1 q2]
                funext y
                simp only [up2]
                rw [if_neg (fun z => q2 z.1), a2 x q2, hx x q1 q2 q3]
              · show (if _ then _ else _) = _
                rw [if_pos ⟨⟨g76, h81⟩, i32_nlt.mp h113⟩]
      cases o with
      | none =>
        refine p_iload d_Mo_knowers_28 rfl ?_
        refine p_ic_1 d_Mo_knowers_30 ?_
        refine p_aload_n d_Mo_knowers_31 rfl ?_
        refine p_getR d_Mo_knowers_32 fl_Mo_7 kd_53 rfl rf_53_0 ?_
        refine p_ic_0 d_Mo_knowers_35 ?_
        refine p_ialdN (0) d_Mo_knowers_36 ar_54 rfl (by omega) rfl ?_
        refine p_eqI (y := nI n) (by rw [hx 54 (by decide) (by decide) (by decide)]; exact h0) ?_
        refine p_ishl d_Mo_knowers_37 ?_
        refine p_eqI sh ?_
        refine p_icmpgeN (tgt := 129) (s) (2 ^ n) d_Mo_knowers_38 (by decide) rfl rfl (by omega) (by omega) (fun h38 => ?_) (fun h38 => ?_)
        · exact absurd h38 (by omega)
        · refine p_iload_n d_Mo_knowers_41 rfl ?_
          refine p_ldc d_Mo_knowers_42 kc_Mo_107 ?_
          refine p_icmpeq (tgt := 59) d_Mo_knowers_44 (by decide) (fun h44 => ?_) (fun h44 => ?_)
          · refine p_ic_1 d_Mo_knowers_59 ?_
            refine p_goto (tgt := 64) d_Mo_knowers_60 (by decide) ?_
            exact J64 _ (bI_t rfl).symm
          · exact absurd rfl h44
      | some b =>
        have hb64 := ho b rfl
        have p1 := pop_le s hs
        have p2 := pop_le b hb64
        refine p_iload d_Mo_knowers_28 rfl ?_
        refine p_ic_1 d_Mo_knowers_30 ?_
        refine p_aload_n d_Mo_knowers_31 rfl ?_
        refine p_getR d_Mo_knowers_32 fl_Mo_7 kd_53 rfl rf_53_0 ?_
        refine p_ic_0 d_Mo_knowers_35 ?_
        refine p_ialdN (0) d_Mo_knowers_36 ar_54 rfl (by omega) rfl ?_
        refine p_eqI (y := nI n) (by rw [hx 54 (by decide) (by decide) (by decide)]; exact h0) ?_
        refine p_ishl d_Mo_knowers_37 ?_
        refine p_eqI sh ?_
        refine p_icmpgeN (tgt := 129) (s) (2 ^ n) d_Mo_knowers_38 (by decide) rfl rfl (by omega) (by omega) (fun h38 => ?_) (fun h38 => ?_)
        · exact absurd h38 (by omega)
        · refine p_iload_n d_Mo_knowers_41 rfl ?_
          refine p_ldc d_Mo_knowers_42 kc_Mo_107 ?_
          refine p_icmpeq (tgt := 59) d_Mo_knowers_44 (by decide) (fun h44 => ?_) (fun h44 => ?_)
          · exact absurd h44 (nI_ne_NONE hb64)
          · refine p_iload d_Mo_knowers_47 rfl ?_
            refine q_S1 d_Mo_knowers_49 ml_Mo_140 sb_Mo_bits ⟨leb rfl, leb rfl⟩ (m_bits Γ S0 I1 J s hs) rfl rfl rfl ?_
            refine p_iload_n d_Mo_knowers_52 rfl ?_
            refine q_S1 d_Mo_knowers_53 ml_Mo_140 sb_Mo_bits ⟨leb rfl, leb rfl⟩ (m_bits Γ S0 I1 J b hb64) rfl rfl rfl ?_
            refine p_icmpgeN (tgt := 63) (pop s) (pop b) d_Mo_knowers_56 (by decide) rfl rfl (by omega) (by omega) (fun h56 => ?_) (fun h56 => ?_)
            · refine p_ic_0 d_Mo_knowers_63 ?_
              first | exact J64 _ (bI_t (by simp [fw]; omega)).symm | exact J64 _ (bI_f (by simp [fw]; omega)).symm
            · refine p_ic_1 d_Mo_knowers_59 ?_
              refine p_goto (tgt := 64) d_Mo_knowers_60 (by decide) ?_
              first | exact J64 _ (bI_t (by simp [fw]; omega)).symm | exact J64 _ (bI_f (by simp [fw]; omega)).symm
  refine ct_of [.ref 53, .int (nI q), .int d, .null, .null, .null] (by decide +kernel) rfl (leb rfl) rfl ?_
  refine p_iload_n d_Mo_knowers_0 rfl ?_
  refine q_S1 d_Mo_knowers_1 ml_Mo_159 sb_Mo_isSpan ⟨leb rfl, leb rfl⟩ (c_isSpan Γ S0 I J (nI q)) rfl rfl rfl ?_
  refine p_ifeqB (tgt := 19) d_Mo_knowers_4 (by decide) (fun h4 => ?_) (fun h4 => ?_)
  · first | exact absurd (i30 q hq1 hq) h4 | exact absurd hd h16
  · refine p_iload_n d_Mo_knowers_7 rfl ?_
    refine p_i2l d_Mo_knowers_8 ?_
    refine p_lc_0 d_Mo_knowers_9 ?_
    refine p_ldc2 d_Mo_knowers_10 kl_Mo_166 ?_
    refine q_S1 d_Mo_knowers_13 ml_Mo_45 sb_Mo_in ⟨leb rfl, leb rfl⟩ (c_in Γ _ _ _ d 0 99 (by decide) (by decide)) rfl rfl rfl ?_
    refine p_ifneB (tgt := 22) d_Mo_knowers_16 (by decide) (fun h16 => ?_) (fun h16 => ?_)
    · refine p_ldc d_Mo_knowers_22 kc_Mo_107 ?_
      refine p_is_3 d_Mo_knowers_24 (by decide) rfl ?_
      refine p_ic_0 d_Mo_knowers_25 ?_
      refine p_is_4 d_Mo_knowers_26 (by decide) rfl ?_
      exact LP (2 ^ n) 0 none _ I rfl (by omega) (fun b h => by cases h) (fun x _ _ _ => rfl) rfl
    · first | exact absurd (i30 q hq1 hq) h4 | exact absurd hd h16
theorem m_knowers_bad (Γ : Cx) (I : MemI) (J : MemJ) (x d : Int32) (hb : ¬ ((1 ≤ x ∧ x ≤ 30) ∧ (0 ≤ d ∧ d ≤ 99))) : Ct Γ M_Mo_knowers [.ref 53, .int x, .int d] S0 I J (eqQ (some (.int (-1000001))) S0 I J) := by
  refine ct_of [.ref 53, .int x, .int d, .null, .null, .null] (by decide +kernel) rfl (leb rfl) rfl ?_
  refine p_iload_n d_Mo_knowers_0 rfl ?_
  refine q_S1 d_Mo_knowers_1 ml_Mo_159 sb_Mo_isSpan ⟨leb rfl, leb rfl⟩ (c_isSpan Γ S0 I J x) rfl rfl rfl ?_
  refine p_ifeqB (tgt := 19) d_Mo_knowers_4 (by decide) (fun h4 => ?_) (fun h4 => ?_)
  · refine p_ldc d_Mo_knowers_19 kc_Mo_51 ?_
    refine p_iret d_Mo_knowers_21 rfl rfl ?_
    exact ⟨rfl, rfl, rfl, rfl⟩
  · refine p_iload_n d_Mo_knowers_7 rfl ?_
    refine p_i2l d_Mo_knowers_8 ?_
    refine p_lc_0 d_Mo_knowers_9 ?_
    refine p_ldc2 d_Mo_knowers_10 kl_Mo_166 ?_
    refine q_S1 d_Mo_knowers_13 ml_Mo_45 sb_Mo_in ⟨leb rfl, leb rfl⟩ (c_in Γ _ _ _ d 0 99 (by decide) (by decide)) rfl rfl rfl ?_
    refine p_ifneB (tgt := 22) d_Mo_knowers_16 (by decide) (fun h16 => ?_) (fun h16 => ?_)
    · exact absurd ⟨h4, h16⟩ hb
    · refine p_ldc d_Mo_knowers_19 kc_Mo_51 ?_
      refine p_iret d_Mo_knowers_21 rfl rfl ?_
      exact ⟨rfl, rfl, rfl, rfl⟩
