/-! ===== the class's own calls: pulls, change ===== -/
theorem chR_wo {x y : Int32} (h : chR x y) {k : Nat} (hk : k < 6) : chR (woD x k) (woC y k) := by
  have A : ∀ k, k < 6 → woD (-1000009) k = -1000009 ∧ woC (-1) k = -1 := by decide +kernel
  have B : ∀ m, m < 6 → ∀ k, k < 6 → (woD (nI m) k = -1000009 ∧ woC (nI m) k = -1) ∨ ((woD (nI m) k = nI m ∧ woC (nI m) k = nI m) ∨ (woD (nI m) k = nI (m - 1) ∧ woC (nI m) k = nI (m - 1))) := by decide +kernel
  rcases h with ⟨h1, h2⟩ | ⟨m, hm, h1, h2⟩
  · rw [h1, h2]
    exact Or.inl ⟨(A k hk).1, (A k hk).2⟩
  · rw [h1, h2]
    rcases B m hm k hk with ⟨a, b⟩ | ⟨a, b⟩ | ⟨a, b⟩
    · exact Or.inl ⟨a, b⟩
    · exact Or.inr ⟨m, hm, a, b⟩
    · exact Or.inr ⟨m - 1, by omega, a, b⟩
theorem woT_r {n k : Nat} {t : Nat → Int32} {i j : Nat} (hi : i < 5) (hj : j < n - 1) (hn : n ≤ 6) : woT n k t (4 + 6 * i + j) = if k ≤ j then t (4 + 6 * i + j + 1) else t (4 + 6 * i + j) := by
  unfold woT
  have e : (4 + 6 * i + j - 4) % 6 = j := by omega
  rw [if_neg (by omega), if_neg (by omega), if_neg (by omega), e]
  by_cases q : k ≤ j
  · rw [if_pos (by omega), if_pos q]
  · rw [if_neg (by omega), if_neg q]
theorem woT_h {n k : Nat} {t : Nat → Int32} {y : Nat} (h : y = 1 ∨ y = 34 ∨ y = 35) : woT n k t y = t y := by
  unfold woT
  rw [if_neg (by omega), if_neg (by omega), if_neg (by omega), if_neg (by omega)]
theorem b_without (Γ : Cx) (I : MemI) (J : MemJ) (n : Nat) (t : Nat → Int32) (V : Vw I n t) (hok : okT n t) (hrg : rg n t) (k q : Nat) (hk : k < n) (hq : q ≤ 30) : Ct Γ M_Bo_paceWithout [.ref 1, .int (nI k), .int (nI q)] S0 I J (bsQ (some (.int (puA n q t k))) I J) := by
  have hn := V.1
  refine ct_of [.ref 1, .int (nI k), .int (nI q)] (by decide +kernel) rfl (leb rfl) rfl ?_
  refine p_aload_n d_Bo_paceWithout_0 rfl ?_
  refine p_getR d_Bo_paceWithout_1 fl_Bo_23 kd_1 rfl rf_1_2 ?_
  refine p_aload_n d_Bo_paceWithout_4 rfl ?_
  refine p_getR d_Bo_paceWithout_5 fl_Bo_19 kd_1 rfl rf_1_1 ?_
  refine q_V d_Bo_paceWithout_8 ml_Bo_86 vb_Ch_copyFrom kd_10 ⟨leb rfl, leb rfl⟩ (c_chCopy Γ I J 10 4 ch_10 ch_4 (by omega)) rfl rfl rfl (fun r S1 IC J1 hQ => ?_)
  obtain ⟨rfl, rfl, hJ, c1, c2, c3⟩ := hQ
  obtain rfl := hJ.symm
  refine p_aload_n d_Bo_paceWithout_11 rfl ?_
  refine p_getR d_Bo_paceWithout_12 fl_Bo_23 kd_1 rfl rf_1_2 ?_
  refine p_iload_n d_Bo_paceWithout_15 rfl ?_
  refine q_V d_Bo_paceWithout_16 ml_Bo_206 vb_Ch_leaveOut kd_10 ⟨leb rfl, leb rfl⟩ (c_chLeave Γ IC J 10 k n ch_10 hn (by rw [c1 4 (by omega) (by omega)]; exact V.2.2.1.1) hk) rfl rfl rfl (fun r S1 IL J1 hQ => ?_)
  obtain ⟨rfl, rfl, hJ, d1, d2, d3, d4⟩ := hQ
  obtain rfl := hJ.symm
  have lF : scF I IL := fun z a b c => by rw [d4 z (by omega), c3 z (by omega)]
  have V1 := V.sc lF
  refine p_aload_n d_Bo_paceWithout_19 rfl ?_
  refine p_getR d_Bo_paceWithout_20 fl_Bo_33 kd_1 rfl rf_1_4 ?_
  refine p_aload_n d_Bo_paceWithout_23 rfl ?_
  refine p_getR d_Bo_paceWithout_24 fl_Bo_29 kd_1 rfl rf_1_3 ?_
  refine q_V d_Bo_paceWithout_27 ml_Bo_186 vb_Si_copyFrom kd_18 ⟨leb rfl, leb rfl⟩ (c_copy Γ IL J 18 16 si_18 si_16 (by omega)) rfl rfl rfl (fun r S1 IT J1 hQ => ?_)
  obtain ⟨rfl, rfl, hJ, q1, q2, q3⟩ := hQ
  obtain rfl := hJ.symm
  have cS : SgR IT 18 n t := SgR_cp V1.2.2.2.1 hn q1 q2
  have cF : scF IL IT := fun z a b c => q3 z (by omega) (by omega)
  have V2 : Vw IT n t := V1.sc cF
  refine p_aload_n d_Bo_paceWithout_30 rfl ?_
  refine p_getR d_Bo_paceWithout_31 fl_Bo_33 kd_1 rfl rf_1_4 ?_
  refine p_iload_n d_Bo_paceWithout_34 rfl ?_
  refine q_V d_Bo_paceWithout_35 ml_Bo_209 vb_Si_leaveOut kd_18 ⟨leb rfl, leb rfl⟩ (c_SiLeave Γ IT J 18 k si_18 (by omega)) rfl rfl rfl (fun r S1 IO J1 hQ => ?_)
  obtain ⟨rfl, rfl, hJ, f1, f2, f3, f4, f5⟩ := hQ
  obtain rfl := hJ.symm
  have oF : scF I IO := fun z a b c => by rw [f5 z (by omega) (by omega), q3 z (by omega) (by omega)]; exact lF z a b c
  have oc : ∀ z, 10 ≤ z → z ≤ 14 → IO z = IL z := fun z a b => by rw [f5 z (by omega) (by omega), q3 z (by omega) (by omega)]
  have hrow : ∀ i j, 1 ≤ i → i ≤ 4 → j < n - 1 → (∀ k, k < n → I (4 + i) k = t (4 + 6 * (i - 1) + k)) → IO (10 + i) j = woT n k t (4 + 6 * (i - 1) + j) := by
    intro i j a b hj hI
    rw [oc _ (by omega) (by omega), d2 i j a b (by omega), woT_r (by omega) hj hn]
    by_cases q : k ≤ j
    · rw [if_pos (by omega), if_pos q, c2 i (j + 1) a b (by omega), hI _ (by omega)]; rfl
    · rw [if_neg (by omega), if_neg q, c2 i j a b (by omega), hI _ (by omega)]
  have hC : ChR IO 10 (n - 1) (woT n k t) := by
    refine ⟨by rw [oc 10 (by omega) (by omega)]; exact d1, fun j hj => ⟨?_, ?_, ?_, ?_⟩⟩
    · exact hrow 1 j (by omega) (by omega) hj (fun k hk => (V.2.2.1.2 k hk).1)
    · exact hrow 2 j (by omega) (by omega) hj (fun k hk => (V.2.2.1.2 k hk).2.1)
    · exact hrow 3 j (by omega) (by omega) hj (fun k hk => (V.2.2.1.2 k hk).2.2.1)
    · exact hrow 4 j (by omega) (by omega) hj (fun k hk => (V.2.2.1.2 k hk).2.2.2)
  have hS : SgR IO 18 (n - 1) (woT n k t) := by
    refine ⟨fun j hj => ?_, ?_, ?_, ?_, ?_, ?_⟩
    · rw [f1 j (by omega)]
      have e := woT_r (n := n) (k := k) (t := t) (i := 4) (j := j) (by omega) hj hn
      rw [show 28 + j = 4 + 6 * 4 + j by omega, e]
      by_cases q : k ≤ j
      · rw [if_pos (by omega), if_pos q]; exact cS.1 (j + 1) (by omega)
      · rw [if_neg (by omega), if_neg q]; exact cS.1 j (by omega)
    · rw [f4 1 (by omega) (by omega), woT_h (by omega)]; exact cS.2.1
    · rw [f3]; exact chR_wo cS.2.2.1 (by omega)
    · rw [f2, cS.2.2.2.1]; rfl
    · rw [f4 4 (by omega) (by omega), woT_h (by omega)]; exact cS.2.2.2.2.1
    · rw [f4 5 (by omega) (by omega), woT_h (by omega)]; exact cS.2.2.2.2.2
  refine p_aload_n d_Bo_paceWithout_38 rfl ?_
  refine p_getR d_Bo_paceWithout_39 fl_Bo_23 kd_1 rfl rf_1_2 ?_
  refine p_aload_n d_Bo_paceWithout_42 rfl ?_
  refine p_getR d_Bo_paceWithout_43 fl_Bo_33 kd_1 rfl rf_1_4 ?_
  refine p_iload_n d_Bo_paceWithout_46 rfl ?_
  refine q_V d_Bo_paceWithout_47 ml_Bo_163 vb_Ch_singLines kd_10 ⟨leb rfl, leb rfl⟩ (c_singLines Γ IO J 10 18 (n - 1) q (woT n k t) ch_10 si_18 (by omega) (by omega) (hC) (hS) (hok.wo hrg hk)) rfl rfl rfl (fun r S1 IS J1 hQ => ?_)
  obtain ⟨rfl, rfl, hJ, l1, l2, l3, l4, l5⟩ := hQ
  obtain rfl := hJ.symm
  have sF : scF IO IS := fun z a b c => l5 z (by omega) (by omega) (by omega)
  refine p_aload_n d_Bo_paceWithout_50 rfl ?_
  refine p_getR d_Bo_paceWithout_51 fl_Bo_33 kd_1 rfl rf_1_4 ?_
  refine p_getI d_Bo_paceWithout_54 fl_Bo_134 kd_18 (Or.inl rfl) ?_
  refine p_iret d_Bo_paceWithout_57 rfl rfl ?_
  exact ⟨by rw [l2]; rfl, rfl, rfl, oF.tr sF⟩
theorem b_pulls_bad (Γ : Cx) (I : MemI) (J : MemJ) (x : Int32) (hb : ¬ (1 ≤ x ∧ x ≤ 30)) : Ct Γ M_Bo_pulls [.ref 1, .int x] S0 I J (eqQ (some (.int (-1000001))) S0 I J) := by
  refine ct_of [.ref 1, .int x, .null, .null, .null, .null] (by decide +kernel) rfl (leb rfl) rfl ?_
  refine p_iload_n d_Bo_pulls_0 rfl ?_
  refine p_ic_1 d_Bo_pulls_1 ?_
  refine p_bi_30 d_Bo_pulls_2 ?_
  refine q_S1 d_Bo_pulls_4 ml_Bo_64 sb_Bo_within ⟨leb rfl, leb rfl⟩ (c_within Γ S0 _ _ x 1 30) rfl rfl rfl ?_
  refine p_ifneB (tgt := 13) d_Bo_pulls_7 (by decide) (fun h7 => ?_) (fun h7 => ?_)
  · exact absurd h7 hb
  · refine p_ldc d_Bo_pulls_10 kc_Bo_68 ?_
    refine p_iret d_Bo_pulls_12 rfl rfl ?_
    exact ⟨rfl, rfl, rfl, rfl⟩
theorem b_pulls (Γ : Cx) (I : MemI) (J : MemJ) (n : Nat) (t : Nat → Int32) (V : Vw I n t) (hok : okT n t) (hrg : rg n t) (q : Nat) (hq1 : 1 ≤ q) (hq : q ≤ 30) : Ct Γ M_Bo_pulls [.ref 1, .int (nI q)] S0 I J (bsQ (some (.int (puF n q t n 0 (-1000009) (itS n t q 34)))) I J) := by
  have hn := V.1
  have LP : ∀ (f k : Nat) (b l : Int32) (v : Value) (I1 : MemI), v.category = 1 → k + f = n → scF I I1 → puF n q t n 0 (-1000009) (itS n t q 34) = puF n q t f k b l → WP Γ M_Bo_pulls (0, 0) S0 I1 J 50 [.ref 1, .int (nI q), .int l, .int b, .int (nI k), v] [] (bsQ (some (.int (puF n q t n 0 (-1000009) (itS n t q 34)))) I J) := by
    intro f
    induction f with
    | zero =>
      intro k b l v I1 hv hkf hF0 hF
      have V1 := V.sc hF0
      refine p_iload d_Bo_pulls_50 rfl ?_
      refine p_aload_n d_Bo_pulls_52 rfl ?_
      refine p_getR d_Bo_pulls_53 fl_Bo_19 kd_1 rfl rf_1_1 ?_
      refine p_getI d_Bo_pulls_56 fl_Bo_146 kd_4 (Or.inl rfl) ?_
      refine p_eqI (y := nI n) (V1.2.2.1.1) ?_
      refine p_icmpgeN (tgt := 89) (k) (n) d_Bo_pulls_59 (by decide) rfl rfl (by omega) (by omega) (fun h59 => ?_) (fun h59 => ?_)
      · refine p_iload_n d_Bo_pulls_89 rfl ?_
        refine p_iret d_Bo_pulls_90 rfl rfl ?_
        exact ⟨by rw [hF]; rfl, rfl, rfl, hF0⟩
      · exact absurd (by omega) h59
    | succ f ih =>
      intro k b l v I1 hv hkf hF0 hF
      have V1 := V.sc hF0
      refine p_iload d_Bo_pulls_50 rfl ?_
      refine p_aload_n d_Bo_pulls_52 rfl ?_
      refine p_getR d_Bo_pulls_53 fl_Bo_19 kd_1 rfl rf_1_1 ?_
      refine p_getI d_Bo_pulls_56 fl_Bo_146 kd_4 (Or.inl rfl) ?_
      refine p_eqI (y := nI n) (V1.2.2.1.1) ?_
      refine p_icmpgeN (tgt := 89) (k) (n) d_Bo_pulls_59 (by decide) rfl rfl (by omega) (by omega) (fun h59 => ?_) (fun h59 => ?_)
      · exact absurd h59 (by omega)
      · refine p_aload_n d_Bo_pulls_62 rfl ?_
        refine p_iload d_Bo_pulls_63 rfl ?_
        refine p_iload_n d_Bo_pulls_65 rfl ?_
        refine q_V d_Bo_pulls_66 ml_Bo_203 vb_Bo_paceWithout kd_1 ⟨leb rfl, leb rfl⟩ (b_without Γ I1 J n t V1 hok hrg k q (by omega) hq) rfl rfl rfl (fun r S1 IS J1 hQ => ?_)
        obtain ⟨rfl, rfl, hJ, sF⟩ := hQ
        obtain rfl := hJ.symm
        refine p_is_5 d_Bo_pulls_69 (by decide) rfl ?_
        refine p_iload d_Bo_pulls_71 rfl ?_
        refine p_iload_n d_Bo_pulls_73 rfl ?_
        refine p_icmpge (tgt := 83) d_Bo_pulls_74 (by decide) (fun h74 => ?_) (fun h74 => ?_)
        · refine p_incN_4_1 d_Bo_pulls_83 (by decide) rfl ?_
          refine p_goto (tgt := 50) d_Bo_pulls_86 (by decide) ?_
          refine ih (k + 1) _ _ _ IS rfl (by omega) (hF0.tr sF) ?_
          rw [hF]
          show (if puA n q t k < l then _ else _) = _
          first | (rw [if_neg (i32_nlt.mpr h74)]; done) | (rw [if_pos (i32_nle.mp h74)])
        · refine p_iload d_Bo_pulls_77 rfl ?_
          refine p_is_2 d_Bo_pulls_79 (by decide) rfl ?_
          refine p_iload d_Bo_pulls_80 rfl ?_
          refine p_is_3 d_Bo_pulls_82 (by decide) rfl ?_
          refine p_incN_4_1 d_Bo_pulls_83 (by decide) rfl ?_
          refine p_goto (tgt := 50) d_Bo_pulls_86 (by decide) ?_
          refine ih (k + 1) _ _ _ IS rfl (by omega) (hF0.tr sF) ?_
          rw [hF]
          show (if puA n q t k < l then _ else _) = _
          first | (rw [if_neg (i32_nlt.mpr h74)]; done) | (rw [if_pos (i32_nle.mp h74)])
  refine ct_of [.ref 1, .int (nI q), .null, .null, .null, .null] (by decide +kernel) rfl (leb rfl) rfl ?_
  refine p_iload_n d_Bo_pulls_0 rfl ?_
  refine p_ic_1 d_Bo_pulls_1 ?_
  refine p_bi_30 d_Bo_pulls_2 ?_
  refine q_S1 d_Bo_pulls_4 ml_Bo_64 sb_Bo_within ⟨leb rfl, leb rfl⟩ (c_within Γ S0 _ _ (nI q) 1 30) rfl rfl rfl ?_
  refine p_ifneB (tgt := 13) d_Bo_pulls_7 (by decide) (fun h7 => ?_) (fun h7 => ?_)
  · refine p_aload_n d_Bo_pulls_13 rfl ?_
    refine p_getR d_Bo_pulls_14 fl_Bo_33 kd_1 rfl rf_1_4 ?_
    refine p_aload_n d_Bo_pulls_17 rfl ?_
    refine p_getR d_Bo_pulls_18 fl_Bo_29 kd_1 rfl rf_1_3 ?_
    refine q_V d_Bo_pulls_21 ml_Bo_186 vb_Si_copyFrom kd_18 ⟨leb rfl, leb rfl⟩ (c_copy Γ I J 18 16 si_18 si_16 (by omega)) rfl rfl rfl (fun r S1 IT J1 hQ => ?_)
    obtain ⟨rfl, rfl, hJ, q1, q2, q3⟩ := hQ
    obtain rfl := hJ.symm
    have cS : SgR IT 18 n t := SgR_cp V.2.2.2.1 hn q1 q2
    have cF : scF I IT := fun z a b c => q3 z (by omega) (by omega)
    have V2 : Vw IT n t := V.sc cF
    refine p_aload_n d_Bo_pulls_24 rfl ?_
    refine p_getR d_Bo_pulls_25 fl_Bo_19 kd_1 rfl rf_1_1 ?_
    refine p_aload_n d_Bo_pulls_28 rfl ?_
    refine p_getR d_Bo_pulls_29 fl_Bo_33 kd_1 rfl rf_1_4 ?_
    refine p_iload_n d_Bo_pulls_32 rfl ?_
    refine q_V d_Bo_pulls_33 ml_Bo_163 vb_Ch_singLines kd_4 ⟨leb rfl, leb rfl⟩ (c_singLines Γ IT J 4 18 n q t ch_4 si_18 (by omega) (by omega) (V2.2.2.1) (cS) (hok)) rfl rfl rfl (fun r S1 IS J1 hQ => ?_)
    obtain ⟨rfl, rfl, hJ, l1, l2, l3, l4, l5⟩ := hQ
    obtain rfl := hJ.symm
    have sF : scF IT IS := fun z a b c => l5 z (by omega) (by omega) (by omega)
    refine p_aload_n d_Bo_pulls_36 rfl ?_
    refine p_getR d_Bo_pulls_37 fl_Bo_33 kd_1 rfl rf_1_4 ?_
    refine p_getI d_Bo_pulls_40 fl_Bo_134 kd_18 (Or.inl rfl) ?_
    refine p_eqI (y := itS n t q 34) (l2) ?_
    refine p_is_2 d_Bo_pulls_43 (by decide) rfl ?_
    refine p_ldc d_Bo_pulls_44 kc_Bo_174 ?_
    refine p_is_3 d_Bo_pulls_46 (by decide) rfl ?_
    refine p_ic_0 d_Bo_pulls_47 ?_
    refine p_is_4 d_Bo_pulls_48 (by decide) rfl ?_
    exact LP n 0 _ _ _ IS rfl (by omega) (cF.tr sF) rfl
  · exact absurd (i30 q hq1 hq) h7
