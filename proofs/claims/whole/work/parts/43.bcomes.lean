/-! ===== the class's own calls: what comes ===== -/
def scF (I I' : MemI) : Prop := ∀ z, z ≠ 9 → (z < 10 ∨ 15 < z) → (z < 18 ∨ 21 < z) → I' z = I z
theorem scF.rf {I : MemI} : scF I I := fun _ _ _ _ => rfl
theorem scF.tr {I I1 I2 : MemI} (h : scF I I1) (g : scF I1 I2) : scF I I2 := fun z a b c => (g z a b c).trans (h z a b c)
def bsQ (r0 : Option Value) (I : MemI) (J : MemJ) : PQ := fun r S' I' J' => r = r0 ∧ S' = S0 ∧ J' = J ∧ scF I I'
theorem Vw.sc {I I' : MemI} {n : Nat} {t : Nat → Int32} (V : Vw I n t) (h : scF I I') : Vw I' n t := by
  obtain ⟨v1, v2, v3, v4, v5, v6, v7⟩ := V
  have e4 : I' 4 = I 4 := h 4 (by omega) (by omega) (by omega)
  have e16 : I' 16 = I 16 := h 16 (by omega) (by omega) (by omega)
  refine ⟨v1, v2, v3.mv e4 (h 5 (by omega) (by omega) (by omega)) (h 6 (by omega) (by omega) (by omega)) (h 7 (by omega) (by omega) (by omega)) (h 8 (by omega) (by omega) (by omega)), v4.mv e16 (h 17 (by omega) (by omega) (by omega)), ?_, ?_, ?_⟩
  · rw [e16]; exact v5
  · rw [e4]; exact v6
  · rw [e4]; exact v7
theorem SgR_cp {I I' : MemI} {a b n : Nat} {t : Nat → Int32} (h : SgR I b n t) (hn : n ≤ 6) (q1 : ∀ k, k < 6 → I' (a + 1) k = I (b + 1) k) (q2 : ∀ y, 1 ≤ y → y ≤ 6 → I' a y = I b y) : SgR I' a n t := by
  refine ⟨fun k hk => (q1 k (by omega)).trans (h.1 k hk), (q2 1 (by omega) (by omega)).trans h.2.1, ?_, (q2 3 (by omega) (by omega)).trans h.2.2.2.1, (q2 4 (by omega) (by omega)).trans h.2.2.2.2.1, (q2 5 (by omega) (by omega)).trans h.2.2.2.2.2⟩
  rw [q2 2 (by omega) (by omega)]
  exact h.2.2.1
theorem ChR.c {I : MemI} {c n : Nat} {t t' : Nat → Int32} (h : ChR I c n t) (hn : n ≤ 6) (hy : ∀ y, 4 ≤ y → y < 28 → t' y = t y) : ChR I c n t' := by
  refine ⟨h.1, fun k hk => ?_⟩
  rw [hy (4 + k) (by omega) (by omega), hy (10 + k) (by omega) (by omega), hy (16 + k) (by omega) (by omega), hy (22 + k) (by omega) (by omega)]
  exact h.2 k hk
theorem m21 {y : Int32} : ((-2) ≤ y ∧ y ≤ (-1)) ↔ (y = -1 ∨ y = -2) := by
  rw [i32_le, i32_le, i32_eq, i32_eq]
  have e1 : (-1 : Int32).toInt = -1 := by decide
  have e2 : (-2 : Int32).toInt = -2 := by decide
  rw [e1, e2]
  omega
theorem b_behind_bad (Γ : Cx) (I : MemI) (J : MemJ) (n : Nat) (t : Nat → Int32) (V : Vw I n t) (x y : Int32) (hb : ¬ ((0 ≤ x ∧ x ≤ 60) ∧ ((0 ≤ y ∧ y < nI n) ∨ y = -1 ∨ y = -2))) : Ct Γ M_Bo_behind [.ref 1, .int x, .int y] S0 I J (eqQ (some (.int (-1000001))) S0 I J) := by
  have hn := V.1
  refine ct_of [.ref 1, .int x, .int y] (by decide +kernel) rfl (leb rfl) rfl ?_
  refine p_iload_n d_Bo_behind_0 rfl ?_
  refine p_ic_0 d_Bo_behind_1 ?_
  refine p_bi_60 d_Bo_behind_2 ?_
  refine q_S1 d_Bo_behind_4 ml_Bo_64 sb_Bo_within ⟨leb rfl, leb rfl⟩ (c_within Γ S0 _ _ x 0 60) rfl rfl rfl ?_
  refine p_ifeqB (tgt := 31) d_Bo_behind_7 (by decide) (fun h7 => ?_) (fun h7 => ?_)
  · refine p_ldc d_Bo_behind_31 kc_Bo_68 ?_
    refine p_iret d_Bo_behind_33 rfl rfl ?_
    exact ⟨rfl, rfl, rfl, rfl⟩
  · refine p_iload_n d_Bo_behind_10 rfl ?_
    refine p_bi_m2 d_Bo_behind_11 ?_
    refine p_ic_m1 d_Bo_behind_13 ?_
    refine q_S1 d_Bo_behind_14 ml_Bo_64 sb_Bo_within ⟨leb rfl, leb rfl⟩ (c_within Γ S0 _ _ y (-2) (-1)) rfl rfl rfl ?_
    refine p_ifneB (tgt := 34) d_Bo_behind_17 (by decide) (fun h17 => ?_) (fun h17 => ?_)
    · exact absurd ⟨h7, Or.inr (m21.mp h17)⟩ hb
    · refine p_aload_n d_Bo_behind_20 rfl ?_
      refine p_getR d_Bo_behind_21 fl_Bo_19 kd_1 rfl rf_1_1 ?_
      refine p_iload_n d_Bo_behind_24 rfl ?_
      refine q_V1 d_Bo_behind_25 ml_Bo_106 vb_Ch_has kd_4 ⟨leb rfl, leb rfl⟩ (b_has Γ _ _ n y (V.2.2.1.1)) rfl rfl rfl ?_
      refine p_ifneB (tgt := 34) d_Bo_behind_28 (by decide) (fun h28 => ?_) (fun h28 => ?_)
      · exact absurd ⟨h7, Or.inl h28⟩ hb
      · refine p_ldc d_Bo_behind_31 kc_Bo_68 ?_
        refine p_iret d_Bo_behind_33 rfl rfl ?_
        exact ⟨rfl, rfl, rfl, rfl⟩
theorem b_behind_p (Γ : Cx) (I : MemI) (J : MemJ) (n : Nat) (t : Nat → Int32) (V : Vw I n t) (hok : okT n t) (q : Nat) (hq : q ≤ 60) (k : Nat) (hk : k < n) : Ct Γ M_Bo_behind [.ref 1, .int (nI q), .int (nI k)] S0 I J (bsQ (some (.int (itS n t q (28 + k)))) I J) := by
  have hn := V.1
  refine ct_of [.ref 1, .int (nI q), .int (nI k)] (by decide +kernel) rfl (leb rfl) rfl ?_
  refine p_iload_n d_Bo_behind_0 rfl ?_
  refine p_ic_0 d_Bo_behind_1 ?_
  refine p_bi_60 d_Bo_behind_2 ?_
  refine q_S1 d_Bo_behind_4 ml_Bo_64 sb_Bo_within ⟨leb rfl, leb rfl⟩ (c_within Γ S0 _ _ (nI q) 0 60) rfl rfl rfl ?_
  refine p_ifeqB (tgt := 31) d_Bo_behind_7 (by decide) (fun h7 => ?_) (fun h7 => ?_)
  · exact absurd (i60 q hq) h7
  · refine p_iload_n d_Bo_behind_10 rfl ?_
    refine p_bi_m2 d_Bo_behind_11 ?_
    refine p_ic_m1 d_Bo_behind_13 ?_
    refine q_S1 d_Bo_behind_14 ml_Bo_64 sb_Bo_within ⟨leb rfl, leb rfl⟩ (c_within Γ S0 _ _ (nI k) (-2) (-1)) rfl rfl rfl ?_
    refine p_ifneB (tgt := 34) d_Bo_behind_17 (by decide) (fun h17 => ?_) (fun h17 => ?_)
    · exact absurd (m21.mp h17) (fun z => z.elim (nI_m1 k (by omega)) (nI_m2 k (by omega)))
    · refine p_aload_n d_Bo_behind_20 rfl ?_
      refine p_getR d_Bo_behind_21 fl_Bo_19 kd_1 rfl rf_1_1 ?_
      refine p_iload_n d_Bo_behind_24 rfl ?_
      refine q_V1 d_Bo_behind_25 ml_Bo_106 vb_Ch_has kd_4 ⟨leb rfl, leb rfl⟩ (b_has Γ _ _ n (nI k) (V.2.2.1.1)) rfl rfl rfl ?_
      refine p_ifneB (tgt := 34) d_Bo_behind_28 (by decide) (fun h28 => ?_) (fun h28 => ?_)
      · refine p_aload_n d_Bo_behind_34 rfl ?_
        refine p_getR d_Bo_behind_35 fl_Bo_33 kd_1 rfl rf_1_4 ?_
        refine p_aload_n d_Bo_behind_38 rfl ?_
        refine p_getR d_Bo_behind_39 fl_Bo_29 kd_1 rfl rf_1_3 ?_
        refine q_V d_Bo_behind_42 ml_Bo_186 vb_Si_copyFrom kd_18 ⟨leb rfl, leb rfl⟩ (c_copy Γ I J 18 16 si_18 si_16 (by omega)) rfl rfl rfl (fun r S1 IT J1 hQ => ?_)
        obtain ⟨rfl, rfl, hJ, q1, q2, q3⟩ := hQ
        obtain rfl := hJ.symm
        have cS : SgR IT 18 n t := SgR_cp V.2.2.2.1 hn q1 q2
        have cF : scF I IT := fun z a b c => q3 z (by omega) (by omega)
        have V2 : Vw IT n t := V.sc cF
        refine p_aload_n d_Bo_behind_45 rfl ?_
        refine p_getR d_Bo_behind_46 fl_Bo_19 kd_1 rfl rf_1_1 ?_
        refine p_aload_n d_Bo_behind_49 rfl ?_
        refine p_getR d_Bo_behind_50 fl_Bo_33 kd_1 rfl rf_1_4 ?_
        refine p_iload_n d_Bo_behind_53 rfl ?_
        refine q_V d_Bo_behind_54 ml_Bo_163 vb_Ch_singLines kd_4 ⟨leb rfl, leb rfl⟩ (c_singLines Γ IT J 4 18 n q t ch_4 si_18 (by omega) (by omega) (V2.2.2.1) (cS) (hok)) rfl rfl rfl (fun r S1 IS J1 hQ => ?_)
        obtain ⟨rfl, rfl, hJ, l1, l2, l3, l4, l5⟩ := hQ
        obtain rfl := hJ.symm
        have sF : scF IT IS := fun z a b c => l5 z (by omega) (by omega) (by omega)
        refine p_iload_n d_Bo_behind_57 rfl ?_
        refine p_ic_m1 d_Bo_behind_58 ?_
        refine p_icmpne (tgt := 70) d_Bo_behind_59 (by decide) (fun h59 => ?_) (fun h59 => ?_)
        · refine p_iload_n d_Bo_behind_70 rfl ?_
          refine p_bi_m2 d_Bo_behind_71 ?_
          refine p_icmpne (tgt := 93) d_Bo_behind_73 (by decide) (fun h73 => ?_) (fun h73 => ?_)
          · refine p_aload_n d_Bo_behind_93 rfl ?_
            refine p_getR d_Bo_behind_94 fl_Bo_33 kd_1 rfl rf_1_4 ?_
            refine p_getR d_Bo_behind_97 fl_Bo_121 kd_18 rfl rf_18_0 ?_
            refine p_iload_n d_Bo_behind_100 rfl ?_
            refine p_ialdN (k) d_Bo_behind_101 ar_19 rfl (by omega) rfl ?_
            refine p_iret d_Bo_behind_102 rfl rfl ?_
            exact ⟨by rw [l1 k hk], rfl, rfl, cF.tr sF⟩
          · exact absurd h73 (nI_m2 k (by omega))
        · exact absurd h59 (nI_m1 k (by omega))
      · exact absurd (isP_nI hn hk) h28
theorem b_behind_1 (Γ : Cx) (I : MemI) (J : MemJ) (n : Nat) (t : Nat → Int32) (V : Vw I n t) (hok : okT n t) (q : Nat) (hq : q ≤ 60) : Ct Γ M_Bo_behind [.ref 1, .int (nI q), .int (-1)] S0 I J (bsQ (some (.int (itS n t q 34))) I J) := by
  have hn := V.1
  refine ct_of [.ref 1, .int (nI q), .int (-1)] (by decide +kernel) rfl (leb rfl) rfl ?_
  refine p_iload_n d_Bo_behind_0 rfl ?_
  refine p_ic_0 d_Bo_behind_1 ?_
  refine p_bi_60 d_Bo_behind_2 ?_
  refine q_S1 d_Bo_behind_4 ml_Bo_64 sb_Bo_within ⟨leb rfl, leb rfl⟩ (c_within Γ S0 _ _ (nI q) 0 60) rfl rfl rfl ?_
  refine p_ifeqB (tgt := 31) d_Bo_behind_7 (by decide) (fun h7 => ?_) (fun h7 => ?_)
  · exact absurd (i60 q hq) h7
  · refine p_iload_n d_Bo_behind_10 rfl ?_
    refine p_bi_m2 d_Bo_behind_11 ?_
    refine p_ic_m1 d_Bo_behind_13 ?_
    refine q_S1 d_Bo_behind_14 ml_Bo_64 sb_Bo_within ⟨leb rfl, leb rfl⟩ (c_within Γ S0 _ _ (-1) (-2) (-1)) rfl rfl rfl ?_
    refine p_ifneB (tgt := 34) d_Bo_behind_17 (by decide) (fun h17 => ?_) (fun h17 => ?_)
    · refine p_aload_n d_Bo_behind_34 rfl ?_
      refine p_getR d_Bo_behind_35 fl_Bo_33 kd_1 rfl rf_1_4 ?_
      refine p_aload_n d_Bo_behind_38 rfl ?_
      refine p_getR d_Bo_behind_39 fl_Bo_29 kd_1 rfl rf_1_3 ?_
      refine q_V d_Bo_behind_42 ml_Bo_186 vb_Si_copyFrom kd_18 ⟨leb rfl, leb rfl⟩ (c_copy Γ I J 18 16 si_18 si_16 (by omega)) rfl rfl rfl (fun r S1 IT J1 hQ => ?_)
      obtain ⟨rfl, rfl, hJ, q1, q2, q3⟩ := hQ
      obtain rfl := hJ.symm
      have cS : SgR IT 18 n t := SgR_cp V.2.2.2.1 hn q1 q2
      have cF : scF I IT := fun z a b c => q3 z (by omega) (by omega)
      have V2 : Vw IT n t := V.sc cF
      refine p_aload_n d_Bo_behind_45 rfl ?_
      refine p_getR d_Bo_behind_46 fl_Bo_19 kd_1 rfl rf_1_1 ?_
      refine p_aload_n d_Bo_behind_49 rfl ?_
      refine p_getR d_Bo_behind_50 fl_Bo_33 kd_1 rfl rf_1_4 ?_
      refine p_iload_n d_Bo_behind_53 rfl ?_
      refine q_V d_Bo_behind_54 ml_Bo_163 vb_Ch_singLines kd_4 ⟨leb rfl, leb rfl⟩ (c_singLines Γ IT J 4 18 n q t ch_4 si_18 (by omega) (by omega) (V2.2.2.1) (cS) (hok)) rfl rfl rfl (fun r S1 IS J1 hQ => ?_)
      obtain ⟨rfl, rfl, hJ, l1, l2, l3, l4, l5⟩ := hQ
      obtain rfl := hJ.symm
      have sF : scF IT IS := fun z a b c => l5 z (by omega) (by omega) (by omega)
      refine p_iload_n d_Bo_behind_57 rfl ?_
      refine p_ic_m1 d_Bo_behind_58 ?_
      refine p_icmpne (tgt := 70) d_Bo_behind_59 (by decide) (fun h59 => ?_) (fun h59 => ?_)
      · exact absurd rfl h59
      · refine p_aload_n d_Bo_behind_62 rfl ?_
        refine p_getR d_Bo_behind_63 fl_Bo_33 kd_1 rfl rf_1_4 ?_
        refine p_getI d_Bo_behind_66 fl_Bo_134 kd_18 (Or.inl rfl) ?_
        refine p_iret d_Bo_behind_69 rfl rfl ?_
        exact ⟨by rw [l2], rfl, rfl, cF.tr sF⟩
    · exact absurd (by decide) h17
theorem b_behind_2 (Γ : Cx) (I : MemI) (J : MemJ) (n : Nat) (t : Nat → Int32) (V : Vw I n t) (hok : okT n t) (q : Nat) (hq : q ≤ 60) : Ct Γ M_Bo_behind [.ref 1, .int (nI q), .int (-2)] S0 I J (bsQ (some (.int (apT n (itS n t q)))) I J) := by
  have hn := V.1
  refine ct_of [.ref 1, .int (nI q), .int (-2)] (by decide +kernel) rfl (leb rfl) rfl ?_
  refine p_iload_n d_Bo_behind_0 rfl ?_
  refine p_ic_0 d_Bo_behind_1 ?_
  refine p_bi_60 d_Bo_behind_2 ?_
  refine q_S1 d_Bo_behind_4 ml_Bo_64 sb_Bo_within ⟨leb rfl, leb rfl⟩ (c_within Γ S0 _ _ (nI q) 0 60) rfl rfl rfl ?_
  refine p_ifeqB (tgt := 31) d_Bo_behind_7 (by decide) (fun h7 => ?_) (fun h7 => ?_)
  · exact absurd (i60 q hq) h7
  · refine p_iload_n d_Bo_behind_10 rfl ?_
    refine p_bi_m2 d_Bo_behind_11 ?_
    refine p_ic_m1 d_Bo_behind_13 ?_
    refine q_S1 d_Bo_behind_14 ml_Bo_64 sb_Bo_within ⟨leb rfl, leb rfl⟩ (c_within Γ S0 _ _ (-2) (-2) (-1)) rfl rfl rfl ?_
    refine p_ifneB (tgt := 34) d_Bo_behind_17 (by decide) (fun h17 => ?_) (fun h17 => ?_)
    · refine p_aload_n d_Bo_behind_34 rfl ?_
      refine p_getR d_Bo_behind_35 fl_Bo_33 kd_1 rfl rf_1_4 ?_
      refine p_aload_n d_Bo_behind_38 rfl ?_
      refine p_getR d_Bo_behind_39 fl_Bo_29 kd_1 rfl rf_1_3 ?_
      refine q_V d_Bo_behind_42 ml_Bo_186 vb_Si_copyFrom kd_18 ⟨leb rfl, leb rfl⟩ (c_copy Γ I J 18 16 si_18 si_16 (by omega)) rfl rfl rfl (fun r S1 IT J1 hQ => ?_)
      obtain ⟨rfl, rfl, hJ, q1, q2, q3⟩ := hQ
      obtain rfl := hJ.symm
      have cS : SgR IT 18 n t := SgR_cp V.2.2.2.1 hn q1 q2
      have cF : scF I IT := fun z a b c => q3 z (by omega) (by omega)
      have V2 : Vw IT n t := V.sc cF
      refine p_aload_n d_Bo_behind_45 rfl ?_
      refine p_getR d_Bo_behind_46 fl_Bo_19 kd_1 rfl rf_1_1 ?_
      refine p_aload_n d_Bo_behind_49 rfl ?_
      refine p_getR d_Bo_behind_50 fl_Bo_33 kd_1 rfl rf_1_4 ?_
      refine p_iload_n d_Bo_behind_53 rfl ?_
      refine q_V d_Bo_behind_54 ml_Bo_163 vb_Ch_singLines kd_4 ⟨leb rfl, leb rfl⟩ (c_singLines Γ IT J 4 18 n q t ch_4 si_18 (by omega) (by omega) (V2.2.2.1) (cS) (hok)) rfl rfl rfl (fun r S1 IS J1 hQ => ?_)
      obtain ⟨rfl, rfl, hJ, l1, l2, l3, l4, l5⟩ := hQ
      obtain rfl := hJ.symm
      have sF : scF IT IS := fun z a b c => l5 z (by omega) (by omega) (by omega)
      refine p_iload_n d_Bo_behind_57 rfl ?_
      refine p_ic_m1 d_Bo_behind_58 ?_
      refine p_icmpne (tgt := 70) d_Bo_behind_59 (by decide) (fun h59 => ?_) (fun h59 => ?_)
      · refine p_iload_n d_Bo_behind_70 rfl ?_
        refine p_bi_m2 d_Bo_behind_71 ?_
        refine p_icmpne (tgt := 93) d_Bo_behind_73 (by decide) (fun h73 => ?_) (fun h73 => ?_)
        · exact absurd rfl h73
        · refine p_aload_n d_Bo_behind_76 rfl ?_
          refine p_getR d_Bo_behind_77 fl_Bo_33 kd_1 rfl rf_1_4 ?_
          refine p_aload_n d_Bo_behind_80 rfl ?_
          refine p_getR d_Bo_behind_81 fl_Bo_19 kd_1 rfl rf_1_1 ?_
          refine p_getI d_Bo_behind_84 fl_Bo_146 kd_4 (Or.inl rfl) ?_
          refine p_eqI (y := nI n) ((V2.sc sF).2.2.1.1) ?_
          refine q_V1 d_Bo_behind_87 ml_Bo_149 vb_Si_apart kd_18 ⟨leb rfl, leb rfl⟩ (c_apart Γ IS J 18 n si_18 hn) rfl rfl rfl ?_
          refine p_goto (tgt := 102) d_Bo_behind_90 (by decide) ?_
          refine p_iret d_Bo_behind_102 rfl rfl ?_
          exact ⟨by rw [ap_k l1], rfl, rfl, cF.tr sF⟩
      · exact absurd h59 (by decide)
    · exact absurd (by decide) h17
theorem b_asleep_bad (Γ : Cx) (I : MemI) (J : MemJ) (p : Int32) (hb : ¬ (1 ≤ p ∧ p ≤ 9999)) : Ct Γ M_Bo_asleep [.ref 1, .int p] S0 I J (eqQ (some (.int (-1000001))) S0 I J) := by
  refine ct_of [.ref 1, .int p, .null] (by decide +kernel) rfl (leb rfl) rfl ?_
  refine p_iload_n d_Bo_asleep_0 rfl ?_
  refine p_ic_1 d_Bo_asleep_1 ?_
  refine p_si_9999 d_Bo_asleep_2 ?_
  refine q_S1 d_Bo_asleep_5 ml_Bo_64 sb_Bo_within ⟨leb rfl, leb rfl⟩ (c_within Γ S0 _ _ p 1 9999) rfl rfl rfl ?_
  refine p_ifneB (tgt := 14) d_Bo_asleep_8 (by decide) (fun h8 => ?_) (fun h8 => ?_)
  · exact absurd h8 hb
  · refine p_ldc d_Bo_asleep_11 kc_Bo_68 ?_
    refine p_iret d_Bo_asleep_13 rfl rfl ?_
    exact ⟨rfl, rfl, rfl, rfl⟩
theorem b_asleep (Γ : Cx) (I : MemI) (J : MemJ) (n : Nat) (t : Nat → Int32) (V : Vw I n t) (hok : okT n t) (p : Int32) (hp : 1 ≤ p ∧ p ≤ 9999) : Ct Γ M_Bo_asleep [.ref 1, .int p] S0 I J (bsQ (some (.int (aslF n p 61 t 0))) I J) := by
  have hn := V.1
  have LP : ∀ (f j : Nat) (I1 : MemI) (t1 : Nat → Int32), j + f = 61 → ChR I1 4 n t1 → SgR I1 18 n t1 → okT n t1 → scF I I1 → aslF n p 61 t 0 = aslF n p f t1 j → WP Γ M_Bo_asleep (0, 0) S0 I1 J 27 [.ref 1, .int p, .int (nI j)] [] (bsQ (some (.int (aslF n p 61 t 0))) I J) := by
    intro f
    induction f with
    | zero =>
      intro j I1 t1 hjf hC hS hok1 hF0 hF
      obtain rfl : j = 61 := by omega
      refine p_iload_n d_Bo_asleep_27 rfl ?_
      refine p_bi_60 d_Bo_asleep_28 ?_
      refine p_icmpgtN (tgt := 63) (61) (60) d_Bo_asleep_30 (by decide) rfl rfl (by omega) (by omega) (fun h30 => ?_) (fun h30 => ?_)
      · refine p_ldc d_Bo_asleep_63 kc_Bo_174 ?_
        refine p_iret d_Bo_asleep_65 rfl rfl ?_
        exact ⟨by rw [hF]; rfl, rfl, rfl, hF0⟩
      · exact absurd (by omega) h30
    | succ f ih =>
      intro j I1 t1 hjf hC hS hok1 hF0 hF
      refine p_iload_n d_Bo_asleep_27 rfl ?_
      refine p_bi_60 d_Bo_asleep_28 ?_
      refine p_icmpgtN (tgt := 63) (j) (60) d_Bo_asleep_30 (by decide) rfl rfl (by omega) (by omega) (fun h30 => ?_) (fun h30 => ?_)
      · exact absurd h30 (by omega)
      · refine p_aload_n d_Bo_asleep_33 rfl ?_
        refine p_getR d_Bo_asleep_34 fl_Bo_33 kd_1 rfl rf_1_4 ?_
        refine p_getI d_Bo_asleep_37 fl_Bo_134 kd_18 (Or.inl rfl) ?_
        refine p_eqI (y := t1 34) (hS.2.2.2.2.2) ?_
        refine p_iload_n d_Bo_asleep_40 rfl ?_
        refine p_icmplt (tgt := 46) d_Bo_asleep_41 (by decide) (fun h41 => ?_) (fun h41 => ?_)
        · refine p_aload_n d_Bo_asleep_46 rfl ?_
          refine p_getR d_Bo_asleep_47 fl_Bo_19 kd_1 rfl rf_1_1 ?_
          refine p_aload_n d_Bo_asleep_50 rfl ?_
          refine p_getR d_Bo_asleep_51 fl_Bo_33 kd_1 rfl rf_1_4 ?_
          refine q_V d_Bo_asleep_54 ml_Bo_157 vb_Ch_singLine kd_4 ⟨leb rfl, leb rfl⟩ (c_singLine Γ I1 J 4 18 n t1 ch_4 si_18 (by omega) hC hS hok1) rfl rfl rfl (fun r S1 IS J1 hQ => ?_)
          obtain ⟨rfl, rfl, hJ, l1, l2, l3, l4, l5⟩ := hQ
          obtain rfl := hJ.symm
          have sF : scF I1 IS := fun z a b c => l5 z (by omega) (by omega) (by omega)
          have nC : ChR IS 4 n (singT n t1) := (hC.mv (l5 4 (by omega) (by omega) (by omega)) (l5 5 (by omega) (by omega) (by omega)) (l5 6 (by omega) (by omega) (by omega)) (l5 7 (by omega) (by omega) (by omega)) (l5 8 (by omega) (by omega) (by omega))).sing hn
          have nS : SgR IS 18 n (singT n t1) := hS.sing l1 l2 l4 hn
          refine p_incN_2_1 d_Bo_asleep_57 (by decide) rfl ?_
          refine p_goto (tgt := 27) d_Bo_asleep_60 (by decide) ?_
          refine ih (j + 1) IS (singT n t1) (by omega) nC nS hok1.sing (hF0.tr sF) ?_
          rw [hF]
          show (if p ≤ t1 34 then nI j else aslF n p f (singT n t1) (j + 1)) = _
          rw [if_neg (i32_nle.mpr h41)]
        · refine p_iload_n d_Bo_asleep_44 rfl ?_
          refine p_iret d_Bo_asleep_45 rfl rfl ?_
          refine ⟨?_, rfl, rfl, hF0⟩
          rw [hF]
          unfold aslF
          rw [if_pos (i32_nlt.mp h41)]
  refine ct_of [.ref 1, .int p, .null] (by decide +kernel) rfl (leb rfl) rfl ?_
  refine p_iload_n d_Bo_asleep_0 rfl ?_
  refine p_ic_1 d_Bo_asleep_1 ?_
  refine p_si_9999 d_Bo_asleep_2 ?_
  refine q_S1 d_Bo_asleep_5 ml_Bo_64 sb_Bo_within ⟨leb rfl, leb rfl⟩ (c_within Γ S0 _ _ p 1 9999) rfl rfl rfl ?_
  refine p_ifneB (tgt := 14) d_Bo_asleep_8 (by decide) (fun h8 => ?_) (fun h8 => ?_)
  · refine p_aload_n d_Bo_asleep_14 rfl ?_
    refine p_getR d_Bo_asleep_15 fl_Bo_33 kd_1 rfl rf_1_4 ?_
    refine p_aload_n d_Bo_asleep_18 rfl ?_
    refine p_getR d_Bo_asleep_19 fl_Bo_29 kd_1 rfl rf_1_3 ?_
    refine q_V d_Bo_asleep_22 ml_Bo_186 vb_Si_copyFrom kd_18 ⟨leb rfl, leb rfl⟩ (c_copy Γ I J 18 16 si_18 si_16 (by omega)) rfl rfl rfl (fun r S1 IT J1 hQ => ?_)
    obtain ⟨rfl, rfl, hJ, q1, q2, q3⟩ := hQ
    obtain rfl := hJ.symm
    have cS : SgR IT 18 n t := SgR_cp V.2.2.2.1 hn q1 q2
    have cF : scF I IT := fun z a b c => q3 z (by omega) (by omega)
    have V2 : Vw IT n t := V.sc cF
    refine p_ic_0 d_Bo_asleep_25 ?_
    refine p_is_2 d_Bo_asleep_26 (by decide) rfl ?_
    exact LP 61 0 IT t (by omega) V2.2.2.1 cS hok cF rfl
  · exact absurd hp h8
theorem b_rest (Γ : Cx) (I : MemI) (J : MemJ) (n : Nat) (t : Nat → Int32) (V : Vw I n t) (hok : okT n t) : Ct Γ M_Bo_rest [.ref 1] S0 I J (bsQ (some (.int (rstF n 61 t 0))) I J) := by
  have hn := V.1
  have LP : ∀ (f j : Nat) (I0 : MemI) (t1 : Nat → Int32), j + f = 61 → ChR I0 4 n t1 → SgR I0 18 n t1 → okT n t1 → scF I I0 → rstF n 61 t 0 = rstF n f t1 j → WP Γ M_Bo_rest (0, 0) S0 I0 J 13 [.ref 1, .int (nI j)] [] (bsQ (some (.int (rstF n 61 t 0))) I J) := by
    intro f
    induction f with
    | zero =>
      intro j I0 t1 hjf hC0 hS0 hok1 hF0 hF
      obtain rfl : j = 61 := by omega
      refine p_iload_n d_Bo_rest_13 rfl ?_
      refine p_bi_60 d_Bo_rest_14 ?_
      refine p_icmpgtN (tgt := 70) (61) (60) d_Bo_rest_16 (by decide) rfl rfl (by omega) (by omega) (fun h16 => ?_) (fun h16 => ?_)
      · refine p_ldc d_Bo_rest_70 kc_Bo_174 ?_
        refine p_iret d_Bo_rest_72 rfl rfl ?_
        exact ⟨by rw [hF]; rfl, rfl, rfl, hF0⟩
      · exact absurd (by omega) h16
    | succ f ih =>
      intro j I0 t1 hjf hC0 hS0 hok1 hF0 hF
      refine p_iload_n d_Bo_rest_13 rfl ?_
      refine p_bi_60 d_Bo_rest_14 ?_
      refine p_icmpgtN (tgt := 70) (j) (60) d_Bo_rest_16 (by decide) rfl rfl (by omega) (by omega) (fun h16 => ?_) (fun h16 => ?_)
      · exact absurd h16 (by omega)
      · refine p_aload_n d_Bo_rest_19 rfl ?_
        refine p_getR d_Bo_rest_20 fl_Bo_36 kd_1 rfl rf_1_5 ?_
        refine p_aload_n d_Bo_rest_23 rfl ?_
        refine p_getR d_Bo_rest_24 fl_Bo_33 kd_1 rfl rf_1_4 ?_
        refine q_V d_Bo_rest_27 ml_Bo_186 vb_Si_copyFrom kd_20 ⟨leb rfl, leb rfl⟩ (c_copy Γ I0 J 20 18 si_20 si_18 (by omega)) rfl rfl rfl (fun r S1 I1 J1 hQ => ?_)
        obtain ⟨rfl, rfl, hJ, q1, q2, q3⟩ := hQ
        obtain rfl := hJ.symm
        have eF : scF I0 I1 := fun z a b c => q3 z (by omega) (by omega)
        have hC : ChR I1 4 n t1 := hC0.mv (q3 4 (by omega) (by omega)) (q3 5 (by omega) (by omega)) (q3 6 (by omega) (by omega)) (q3 7 (by omega) (by omega)) (q3 8 (by omega) (by omega))
        have hS : SgR I1 18 n t1 := hS0.mv (q3 18 (by omega) (by omega)) (q3 19 (by omega) (by omega))
        refine p_aload_n d_Bo_rest_30 rfl ?_
        refine p_getR d_Bo_rest_31 fl_Bo_19 kd_1 rfl rf_1_1 ?_
        refine p_aload_n d_Bo_rest_34 rfl ?_
        refine p_getR d_Bo_rest_35 fl_Bo_33 kd_1 rfl rf_1_4 ?_
        refine q_V d_Bo_rest_38 ml_Bo_157 vb_Ch_singLine kd_4 ⟨leb rfl, leb rfl⟩ (c_singLine Γ I1 J 4 18 n t1 ch_4 si_18 (by omega) hC hS hok1) rfl rfl rfl (fun r S1 IS J1 hQ => ?_)
        obtain ⟨rfl, rfl, hJ, l1, l2, l3, l4, l5⟩ := hQ
        obtain rfl := hJ.symm
        have sF : scF I1 IS := fun z a b c => l5 z (by omega) (by omega) (by omega)
        have nC : ChR IS 4 n (singT n t1) := (hC.mv (l5 4 (by omega) (by omega) (by omega)) (l5 5 (by omega) (by omega) (by omega)) (l5 6 (by omega) (by omega) (by omega)) (l5 7 (by omega) (by omega) (by omega)) (l5 8 (by omega) (by omega) (by omega))).sing hn
        have nS : SgR IS 18 n (singT n t1) := hS.sing l1 l2 l4 hn
        refine p_aload_n d_Bo_rest_41 rfl ?_
        refine p_getR d_Bo_rest_42 fl_Bo_33 kd_1 rfl rf_1_4 ?_
        refine p_aload_n d_Bo_rest_45 rfl ?_
        refine p_getR d_Bo_rest_46 fl_Bo_36 kd_1 rfl rf_1_5 ?_
        refine p_aload_n d_Bo_rest_49 rfl ?_
        refine p_getR d_Bo_rest_50 fl_Bo_19 kd_1 rfl rf_1_1 ?_
        refine p_getI d_Bo_rest_53 fl_Bo_146 kd_4 (Or.inl rfl) ?_
        refine p_eqI (y := nI n) (nC.1) ?_
        refine q_V1 d_Bo_rest_56 ml_Bo_188 vb_Si_isAsLateAs kd_18 ⟨leb rfl, leb rfl⟩ (c_asLate Γ IS J 18 20 n si_18 si_20 hn) rfl rfl rfl ?_
        refine p_ifeqB (tgt := 64) d_Bo_rest_59 (by decide) (fun h59 => ?_) (fun h59 => ?_)
        · have hiff : (∀ i, i < n → IS 19 i = IS 21 i) ↔ ∀ k, k < n → t1 (28 + k) = singT n t1 (28 + k) := by
            have e21 : ∀ k, k < n → IS 21 k = t1 (28 + k) := fun k hk => by
              rw [l5 21 (by omega) (by omega) (by omega)]
              exact (q1 k (by omega)).trans (hS0.1 k hk)
            refine ⟨fun z k hk => ?_, fun z k hk => ?_⟩
            · rw [← e21 k hk, ← z k hk]; exact l1 k hk
            · rw [e21 k hk, z k hk]; exact l1 k hk
          refine p_incN_1_1 d_Bo_rest_64 (by decide) rfl ?_
          refine p_goto (tgt := 13) d_Bo_rest_67 (by decide) ?_
          refine ih (j + 1) IS (singT n t1) (by omega) nC nS hok1.sing ((hF0.tr eF).tr sF) ?_
          rw [hF]
          show (if ∀ k, k < n → t1 (28 + k) = singT n t1 (28 + k) then nI j else rstF n f (singT n t1) (j + 1)) = _
          rw [if_neg (fun z => h59 (hiff.mpr z))]
        · have hiff : (∀ i, i < n → IS 19 i = IS 21 i) ↔ ∀ k, k < n → t1 (28 + k) = singT n t1 (28 + k) := by
            have e21 : ∀ k, k < n → IS 21 k = t1 (28 + k) := fun k hk => by
              rw [l5 21 (by omega) (by omega) (by omega)]
              exact (q1 k (by omega)).trans (hS0.1 k hk)
            refine ⟨fun z k hk => ?_, fun z k hk => ?_⟩
            · rw [← e21 k hk, ← z k hk]; exact l1 k hk
            · rw [e21 k hk, z k hk]; exact l1 k hk
          refine p_iload_n d_Bo_rest_62 rfl ?_
          refine p_iret d_Bo_rest_63 rfl rfl ?_
          refine ⟨?_, rfl, rfl, (hF0.tr eF).tr sF⟩
          rw [hF]
          unfold rstF
          rw [if_pos (hiff.mp h59)]
  refine ct_of [.ref 1, .null] (by decide +kernel) rfl (leb rfl) rfl ?_
  refine p_aload_n d_Bo_rest_0 rfl ?_
  refine p_getR d_Bo_rest_1 fl_Bo_33 kd_1 rfl rf_1_4 ?_
  refine p_aload_n d_Bo_rest_4 rfl ?_
  refine p_getR d_Bo_rest_5 fl_Bo_29 kd_1 rfl rf_1_3 ?_
  refine q_V d_Bo_rest_8 ml_Bo_186 vb_Si_copyFrom kd_18 ⟨leb rfl, leb rfl⟩ (c_copy Γ I J 18 16 si_18 si_16 (by omega)) rfl rfl rfl (fun r S1 IT J1 hQ => ?_)
  obtain ⟨rfl, rfl, hJ, q1, q2, q3⟩ := hQ
  obtain rfl := hJ.symm
  have cS : SgR IT 18 n t := SgR_cp V.2.2.2.1 hn q1 q2
  have cF : scF I IT := fun z a b c => q3 z (by omega) (by omega)
  have V2 : Vw IT n t := V.sc cF
  refine p_ic_0 d_Bo_rest_11 ?_
  refine p_is_1 d_Bo_rest_12 (by decide) rfl ?_
  exact LP 61 0 IT t (by omega) V2.2.2.1 cS hok cF rfl
