/-! ===== the class's own calls: change ===== -/
theorem SgR.c {I : MemI} {a n : Nat} {t t' : Nat → Int32} (h : SgR I a n t) (hy : ∀ y, (y = 1 ∨ 28 ≤ y) → t' y = t y) : SgR I a n t' := by
  refine ⟨fun k hk => ?_, ?_, ?_, ?_, ?_, ?_⟩
  · rw [hy _ (by omega)]; exact h.1 k hk
  · rw [hy _ (by omega)]; exact h.2.1
  · rw [hy _ (by omega)]; exact h.2.2.1
  · rw [hy _ (by omega)]; exact h.2.2.2.1
  · rw [hy _ (by omega)]; exact h.2.2.2.2.1
  · rw [hy _ (by omega)]; exact h.2.2.2.2.2
theorem swT_ne {a b y : Nat} {t : Nat → Int32} (h1 : y ≠ 4 + a) (h2 : y ≠ 4 + b) : swT a b t y = t y := by
  unfold swT
  rw [upd_ne h2, upd_ne h1]
theorem b_byChange (Γ : Cx) (I : MemI) (J : MemJ) (n : Nat) (t : Nat → Int32) (V : Vw I n t) (hok : okT n t) (a b q : Nat) (hab : a < b) (hb : b < n) (hq : q ≤ 30) : Ct Γ M_Bo_apartByChange [.ref 1, .int (nI a), .int (nI b), .int (nI q)] S0 I J (bsQ (some (.int (swA n q t a b))) I J) := by
  have hn := V.1
  refine ct_of [.ref 1, .int (nI a), .int (nI b), .int (nI q)] (by decide +kernel) rfl (leb rfl) rfl ?_
  refine p_aload_n d_Bo_apartByChange_0 rfl ?_
  refine p_getR d_Bo_apartByChange_1 fl_Bo_23 kd_1 rfl rf_1_2 ?_
  refine p_aload_n d_Bo_apartByChange_4 rfl ?_
  refine p_getR d_Bo_apartByChange_5 fl_Bo_19 kd_1 rfl rf_1_1 ?_
  refine q_V d_Bo_apartByChange_8 ml_Bo_86 vb_Ch_copyFrom kd_10 ⟨leb rfl, leb rfl⟩ (c_chCopy Γ I J 10 4 ch_10 ch_4 (by omega)) rfl rfl rfl (fun r S1 IC J1 hQ => ?_)
  obtain ⟨rfl, rfl, hJ, c1, c2, c3⟩ := hQ
  obtain rfl := hJ.symm
  refine p_aload_n d_Bo_apartByChange_11 rfl ?_
  refine p_getR d_Bo_apartByChange_12 fl_Bo_23 kd_1 rfl rf_1_2 ?_
  refine p_getR d_Bo_apartByChange_15 fl_Bo_109 kd_10 rfl rf_10_0 ?_
  refine p_iload_n d_Bo_apartByChange_18 rfl ?_
  refine p_aload_n d_Bo_apartByChange_19 rfl ?_
  refine p_getR d_Bo_apartByChange_20 fl_Bo_19 kd_1 rfl rf_1_1 ?_
  refine p_getR d_Bo_apartByChange_23 fl_Bo_109 kd_4 rfl rf_4_0 ?_
  refine p_iload_n d_Bo_apartByChange_26 rfl ?_
  refine p_ialdN (b) d_Bo_apartByChange_27 ar_5 rfl (by omega) rfl ?_
  refine p_eqI (y := t (4 + b)) (by rw [c3 5 (by omega)]; exact (V.2.2.1.2 b hb).1) ?_
  refine p_iastN (a) d_Bo_apartByChange_28 ar_11 rfl (by omega) rfl ?_
  refine p_aload_n d_Bo_apartByChange_29 rfl ?_
  refine p_getR d_Bo_apartByChange_30 fl_Bo_23 kd_1 rfl rf_1_2 ?_
  refine p_getR d_Bo_apartByChange_33 fl_Bo_109 kd_10 rfl rf_10_0 ?_
  refine p_iload_n d_Bo_apartByChange_36 rfl ?_
  refine p_aload_n d_Bo_apartByChange_37 rfl ?_
  refine p_getR d_Bo_apartByChange_38 fl_Bo_19 kd_1 rfl rf_1_1 ?_
  refine p_getR d_Bo_apartByChange_41 fl_Bo_109 kd_4 rfl rf_4_0 ?_
  refine p_iload_n d_Bo_apartByChange_44 rfl ?_
  refine p_ialdN (a) d_Bo_apartByChange_45 ar_5 rfl (by omega) rfl ?_
  refine p_eqI (y := t (4 + a)) (by rw [up2_ne (by omega), c3 5 (by omega)]; exact (V.2.2.1.2 a (by omega)).1) ?_
  refine p_iastN (b) d_Bo_apartByChange_46 ar_11 rfl (by omega) rfl ?_
  refine p_nmM (fun IM eIM => ?_)
  have mF : scF I IM := fun z a b c => by rw [eIM, up2_o (by omega), up2_o (by omega), c3 z (by omega)]
  have V1 := V.sc mF
  refine p_aload_n d_Bo_apartByChange_47 rfl ?_
  refine p_getR d_Bo_apartByChange_48 fl_Bo_33 kd_1 rfl rf_1_4 ?_
  refine p_aload_n d_Bo_apartByChange_51 rfl ?_
  refine p_getR d_Bo_apartByChange_52 fl_Bo_29 kd_1 rfl rf_1_3 ?_
  refine q_V d_Bo_apartByChange_55 ml_Bo_186 vb_Si_copyFrom kd_18 ⟨leb rfl, leb rfl⟩ (c_copy Γ IM J 18 16 si_18 si_16 (by omega)) rfl rfl rfl (fun r S1 IT J1 hQ => ?_)
  obtain ⟨rfl, rfl, hJ, q1, q2, q3⟩ := hQ
  obtain rfl := hJ.symm
  have cS : SgR IT 18 n (swT a b t) := (SgR_cp V1.2.2.2.1 hn q1 q2).c (fun y hy => swT_ne (by omega) (by omega))
  have oF : scF I IT := fun z a b c => by rw [q3 z (by omega) (by omega)]; exact mF z a b c
  have oc : ∀ z, 10 ≤ z → z ≤ 14 → IT z = IM z := fun z a b => q3 z (by omega) (by omega)
  have hC : ChR IT 10 n (swT a b t) := by
    refine ⟨?_, fun j hj => ⟨?_, ?_, ?_, ?_⟩⟩
    · rw [oc 10 (by omega) (by omega), eIM, up2_ne (by omega), up2_ne (by omega), c1 4 (by omega) (by omega)]; exact V.2.2.1.1
    · show IT 11 j = _
      rw [oc 11 (by omega) (by omega), eIM]
      unfold swT
      by_cases z2 : j = b
      · subst z2; rw [up2_s, upd_s]
      · rw [up2_ne (by omega), upd_ne (by omega)]
        by_cases z1 : j = a
        · subst z1; rw [up2_s, upd_s]
        · rw [up2_ne (by omega), upd_ne (by omega)]
          exact (c2 1 j (by omega) (by omega) (by omega)).trans (V.2.2.1.2 j hj).1
    · show IT 12 j = _
      rw [oc 12 (by omega) (by omega), eIM, up2_ne (by omega), up2_ne (by omega), swT_ne (by omega) (by omega)]
      exact (c2 2 j (by omega) (by omega) (by omega)).trans (V.2.2.1.2 j hj).2.1
    · show IT 13 j = _
      rw [oc 13 (by omega) (by omega), eIM, up2_ne (by omega), up2_ne (by omega), swT_ne (by omega) (by omega)]
      exact (c2 3 j (by omega) (by omega) (by omega)).trans (V.2.2.1.2 j hj).2.2.1
    · show IT 14 j = _
      rw [oc 14 (by omega) (by omega), eIM, up2_ne (by omega), up2_ne (by omega), swT_ne (by omega) (by omega)]
      exact (c2 4 j (by omega) (by omega) (by omega)).trans (V.2.2.1.2 j hj).2.2.2
  refine p_aload_n d_Bo_apartByChange_58 rfl ?_
  refine p_getR d_Bo_apartByChange_59 fl_Bo_23 kd_1 rfl rf_1_2 ?_
  refine p_aload_n d_Bo_apartByChange_62 rfl ?_
  refine p_getR d_Bo_apartByChange_63 fl_Bo_33 kd_1 rfl rf_1_4 ?_
  refine p_iload_n d_Bo_apartByChange_66 rfl ?_
  refine q_V d_Bo_apartByChange_67 ml_Bo_163 vb_Ch_singLines kd_10 ⟨leb rfl, leb rfl⟩ (c_singLines Γ IT J 10 18 n q (swT a b t) ch_10 si_18 (by omega) (by omega) (hC) (cS) (okT_sw hok (by omega) hb)) rfl rfl rfl (fun r S1 IS J1 hQ => ?_)
  obtain ⟨rfl, rfl, hJ, l1, l2, l3, l4, l5⟩ := hQ
  obtain rfl := hJ.symm
  have sF : scF IT IS := fun z a b c => l5 z (by omega) (by omega) (by omega)
  refine p_aload_n d_Bo_apartByChange_70 rfl ?_
  refine p_getR d_Bo_apartByChange_71 fl_Bo_33 kd_1 rfl rf_1_4 ?_
  refine p_aload_n d_Bo_apartByChange_74 rfl ?_
  refine p_getR d_Bo_apartByChange_75 fl_Bo_19 kd_1 rfl rf_1_1 ?_
  refine p_getI d_Bo_apartByChange_78 fl_Bo_146 kd_4 (Or.inl rfl) ?_
  refine p_eqI (y := nI n) ((V.sc (oF.tr sF)).2.2.1.1) ?_
  refine q_V1 d_Bo_apartByChange_81 ml_Bo_149 vb_Si_apart kd_18 ⟨leb rfl, leb rfl⟩ (c_apart Γ IS J 18 n si_18 hn) rfl rfl rfl ?_
  refine p_iret d_Bo_apartByChange_84 rfl rfl ?_
  exact ⟨by rw [ap_k l1]; rfl, rfl, rfl, oF.tr sF⟩
theorem b_change_bad (Γ : Cx) (I : MemI) (J : MemJ) (x : Int32) (hb : ¬ (1 ≤ x ∧ x ≤ 30)) : Ct Γ M_Bo_change [.ref 1, .int x] S0 I J (eqQ (some (.int (-1000001))) S0 I J) := by
  refine ct_of [.ref 1, .int x, .null, .null, .null, .null, .null] (by decide +kernel) rfl (leb rfl) rfl ?_
  refine p_iload_n d_Bo_change_0 rfl ?_
  refine p_ic_1 d_Bo_change_1 ?_
  refine p_bi_30 d_Bo_change_2 ?_
  refine q_S1 d_Bo_change_4 ml_Bo_64 sb_Bo_within ⟨leb rfl, leb rfl⟩ (c_within Γ S0 _ _ x 1 30) rfl rfl rfl ?_
  refine p_ifneB (tgt := 13) d_Bo_change_7 (by decide) (fun h7 => ?_) (fun h7 => ?_)
  · exact absurd h7 hb
  · refine p_ldc d_Bo_change_10 kc_Bo_68 ?_
    refine p_iret d_Bo_change_12 rfl rfl ?_
    exact ⟨rfl, rfl, rfl, rfl⟩
theorem b_change (Γ : Cx) (I : MemI) (J : MemJ) (n : Nat) (t : Nat → Int32) (V : Vw I n t) (hok : okT n t) (q : Nat) (hq1 : 1 ≤ q) (hq : q ≤ 30) : Ct Γ M_Bo_change [.ref 1, .int (nI q)] S0 I J (bsQ (some (.int (chF n q t n 0 (-1000009, apT n (itS n t q))).1)) I J) := by
  have hn := V.1
  have LP : ∀ (f a : Nat) (x : Int32 × Int32) (v w : Value) (I1 : MemI), v.category = 1 → w.category = 1 → a + f = n → scF I I1 → (chF n q t n 0 (-1000009, apT n (itS n t q))) = chF n q t f a x → WP Γ M_Bo_change (0, 0) S0 I1 J 57 [.ref 1, .int (nI q), .int x.2, .int x.1, .int (nI a), v, w] [] (bsQ (some (.int (chF n q t n 0 (-1000009, apT n (itS n t q))).1)) I J) := by
    intro f
    induction f with
    | zero =>
      intro a x v w I1 hv hw haf hF0 hF
      have V1 := V.sc hF0
      refine p_iload d_Bo_change_57 rfl ?_
      refine p_aload_n d_Bo_change_59 rfl ?_
      refine p_getR d_Bo_change_60 fl_Bo_19 kd_1 rfl rf_1_1 ?_
      refine p_getI d_Bo_change_63 fl_Bo_146 kd_4 (Or.inl rfl) ?_
      refine p_eqI (y := nI n) (V1.2.2.1.1) ?_
      refine p_icmpgeN (tgt := 128) (a) (n) d_Bo_change_66 (by decide) rfl rfl (by omega) (by omega) (fun h66 => ?_) (fun h66 => ?_)
      · refine p_iload_n d_Bo_change_128 rfl ?_
        refine p_iret d_Bo_change_129 rfl rfl ?_
        exact ⟨by rw [hF]; rfl, rfl, rfl, hF0⟩
      · exact absurd (by omega) h66
    | succ f ih =>
      intro a x v w I1 hv hw haf hF0 hF
      have IP : ∀ (g b : Nat) (y : Int32 × Int32) (w : Value) (I2 : MemI), w.category = 1 → a < b → b + g = n → scF I I2 → chI n q t a f (a + 1) x = chI n q t a g b y → WP Γ M_Bo_change (0, 0) S0 I2 J 75 [.ref 1, .int (nI q), .int y.2, .int y.1, .int (nI a), .int (nI b), w] [] (bsQ (some (.int (chF n q t n 0 (-1000009, apT n (itS n t q))).1)) I J) := by
        intro g
        induction g with
        | zero =>
          intro b y w I2 hw hab hbg hF2 hG
          have V1 := V.sc hF2
          refine p_iload d_Bo_change_75 rfl ?_
          refine p_aload_n d_Bo_change_77 rfl ?_
          refine p_getR d_Bo_change_78 fl_Bo_19 kd_1 rfl rf_1_1 ?_
          refine p_getI d_Bo_change_81 fl_Bo_146 kd_4 (Or.inl rfl) ?_
          refine p_eqI (y := nI n) (V1.2.2.1.1) ?_
          refine p_icmpgeN (tgt := 122) (b) (n) d_Bo_change_84 (by decide) rfl rfl (by omega) (by omega) (fun h84 => ?_) (fun h84 => ?_)
          · refine p_incN_4_1 d_Bo_change_122 (by decide) rfl ?_
            refine p_goto (tgt := 57) d_Bo_change_125 (by decide) ?_
            refine ih (a + 1) y _ _ I2 rfl hw (by omega) hF2 ?_
            rw [hF]
            show chF n q t f (a + 1) (chI n q t a f (a + 1) x) = _
            rw [hG]
            rfl
          · exact absurd (by omega) h84
        | succ g ig =>
          intro b y w I2 hw hab hbg hF2 hG
          have V1 := V.sc hF2
          refine p_iload d_Bo_change_75 rfl ?_
          refine p_aload_n d_Bo_change_77 rfl ?_
          refine p_getR d_Bo_change_78 fl_Bo_19 kd_1 rfl rf_1_1 ?_
          refine p_getI d_Bo_change_81 fl_Bo_146 kd_4 (Or.inl rfl) ?_
          refine p_eqI (y := nI n) (V1.2.2.1.1) ?_
          refine p_icmpgeN (tgt := 122) (b) (n) d_Bo_change_84 (by decide) rfl rfl (by omega) (by omega) (fun h84 => ?_) (fun h84 => ?_)
          · exact absurd h84 (by omega)
          · refine p_aload_n d_Bo_change_87 rfl ?_
            refine p_iload d_Bo_change_88 rfl ?_
            refine p_iload d_Bo_change_90 rfl ?_
            refine p_iload_n d_Bo_change_92 rfl ?_
            refine q_V d_Bo_change_93 ml_Bo_210 vb_Bo_apartByChange kd_1 ⟨leb rfl, leb rfl⟩ (b_byChange Γ I2 J n t V1 hok a b q hab (by omega) hq) rfl rfl rfl (fun r S1 IS J1 hQ => ?_)
            obtain ⟨rfl, rfl, hJ, sF⟩ := hQ
            obtain rfl := hJ.symm
            refine p_is_6 d_Bo_change_96 (by decide) rfl ?_
            refine p_iload d_Bo_change_98 rfl ?_
            refine p_iload_n d_Bo_change_100 rfl ?_
            refine p_icmpge (tgt := 116) d_Bo_change_101 (by decide) (fun h101 => ?_) (fun h101 => ?_)
            · have hc : chI n q t a (g + 1) b y = chI n q t a g (b + 1) y := by
                show (if swA n q t a b < y.2 then _ else _) = _
                rw [if_neg (i32_nlt.mpr h101)]
              refine p_incN_5_1 d_Bo_change_116 (by decide) rfl ?_
              refine p_goto (tgt := 75) d_Bo_change_119 (by decide) ?_
              first | exact ig (b + 1) y _ IS rfl (by omega) (by omega) (hF2.tr sF) (hG.trans hc) | exact ig (b + 1) (nI (10 * a + b), swA n q t a b) _ IS rfl (by omega) (by omega) (hF2.tr sF) (hG.trans hc)
            · have hc : chI n q t a (g + 1) b y = chI n q t a g (b + 1) (nI (10 * a + b), swA n q t a b) := by
                show (if swA n q t a b < y.2 then _ else _) = _
                rw [if_pos (i32_nle.mp h101)]
              refine p_iload d_Bo_change_104 rfl ?_
              refine p_is_2 d_Bo_change_106 (by decide) rfl ?_
              refine p_bi_10 d_Bo_change_107 ?_
              refine p_iload d_Bo_change_109 rfl ?_
              refine p_imulN (10) (a) d_Bo_change_111 rfl rfl ?_
              refine p_iload d_Bo_change_112 rfl ?_
              refine p_iaddN (10 * a) (b) d_Bo_change_114 rfl rfl ?_
              refine p_is_3 d_Bo_change_115 (by decide) rfl ?_
              refine p_incN_5_1 d_Bo_change_116 (by decide) rfl ?_
              refine p_goto (tgt := 75) d_Bo_change_119 (by decide) ?_
              first | exact ig (b + 1) y _ IS rfl (by omega) (by omega) (hF2.tr sF) (hG.trans hc) | exact ig (b + 1) (nI (10 * a + b), swA n q t a b) _ IS rfl (by omega) (by omega) (hF2.tr sF) (hG.trans hc)
      have V1 := V.sc hF0
      refine p_iload d_Bo_change_57 rfl ?_
      refine p_aload_n d_Bo_change_59 rfl ?_
      refine p_getR d_Bo_change_60 fl_Bo_19 kd_1 rfl rf_1_1 ?_
      refine p_getI d_Bo_change_63 fl_Bo_146 kd_4 (Or.inl rfl) ?_
      refine p_eqI (y := nI n) (V1.2.2.1.1) ?_
      refine p_icmpgeN (tgt := 128) (a) (n) d_Bo_change_66 (by decide) rfl rfl (by omega) (by omega) (fun h66 => ?_) (fun h66 => ?_)
      · exact absurd h66 (by omega)
      · refine p_iload d_Bo_change_69 rfl ?_
        refine p_ic_1 d_Bo_change_71 ?_
        refine p_iaddN (a) (1) d_Bo_change_72 rfl rfl ?_
        refine p_is_5 d_Bo_change_73 (by decide) rfl ?_
        exact IP f (a + 1) x _ I1 hw (by omega) (by omega) hF0 rfl
  refine ct_of [.ref 1, .int (nI q), .null, .null, .null, .null, .null] (by decide +kernel) rfl (leb rfl) rfl ?_
  refine p_iload_n d_Bo_change_0 rfl ?_
  refine p_ic_1 d_Bo_change_1 ?_
  refine p_bi_30 d_Bo_change_2 ?_
  refine q_S1 d_Bo_change_4 ml_Bo_64 sb_Bo_within ⟨leb rfl, leb rfl⟩ (c_within Γ S0 _ _ (nI q) 1 30) rfl rfl rfl ?_
  refine p_ifneB (tgt := 13) d_Bo_change_7 (by decide) (fun h7 => ?_) (fun h7 => ?_)
  · refine p_aload_n d_Bo_change_13 rfl ?_
    refine p_getR d_Bo_change_14 fl_Bo_33 kd_1 rfl rf_1_4 ?_
    refine p_aload_n d_Bo_change_17 rfl ?_
    refine p_getR d_Bo_change_18 fl_Bo_29 kd_1 rfl rf_1_3 ?_
    refine q_V d_Bo_change_21 ml_Bo_186 vb_Si_copyFrom kd_18 ⟨leb rfl, leb rfl⟩ (c_copy Γ I J 18 16 si_18 si_16 (by omega)) rfl rfl rfl (fun r S1 IT J1 hQ => ?_)
    obtain ⟨rfl, rfl, hJ, q1, q2, q3⟩ := hQ
    obtain rfl := hJ.symm
    have cS : SgR IT 18 n t := SgR_cp V.2.2.2.1 hn q1 q2
    have cF : scF I IT := fun z a b c => q3 z (by omega) (by omega)
    have V2 : Vw IT n t := V.sc cF
    refine p_aload_n d_Bo_change_24 rfl ?_
    refine p_getR d_Bo_change_25 fl_Bo_19 kd_1 rfl rf_1_1 ?_
    refine p_aload_n d_Bo_change_28 rfl ?_
    refine p_getR d_Bo_change_29 fl_Bo_33 kd_1 rfl rf_1_4 ?_
    refine p_iload_n d_Bo_change_32 rfl ?_
    refine q_V d_Bo_change_33 ml_Bo_163 vb_Ch_singLines kd_4 ⟨leb rfl, leb rfl⟩ (c_singLines Γ IT J 4 18 n q t ch_4 si_18 (by omega) (by omega) (V2.2.2.1) (cS) (hok)) rfl rfl rfl (fun r S1 IS J1 hQ => ?_)
    obtain ⟨rfl, rfl, hJ, l1, l2, l3, l4, l5⟩ := hQ
    obtain rfl := hJ.symm
    have sF : scF IT IS := fun z a b c => l5 z (by omega) (by omega) (by omega)
    refine p_aload_n d_Bo_change_36 rfl ?_
    refine p_getR d_Bo_change_37 fl_Bo_33 kd_1 rfl rf_1_4 ?_
    refine p_aload_n d_Bo_change_40 rfl ?_
    refine p_getR d_Bo_change_41 fl_Bo_19 kd_1 rfl rf_1_1 ?_
    refine p_getI d_Bo_change_44 fl_Bo_146 kd_4 (Or.inl rfl) ?_
    refine p_eqI (y := nI n) ((V2.sc sF).2.2.1.1) ?_
    refine q_V1 d_Bo_change_47 ml_Bo_149 vb_Si_apart kd_18 ⟨leb rfl, leb rfl⟩ (c_apart Γ IS J 18 n si_18 hn) rfl rfl rfl ?_
    rw [ap_k l1]
    refine p_is_2 d_Bo_change_50 (by decide) rfl ?_
    refine p_ldc d_Bo_change_51 kc_Bo_174 ?_
    refine p_is_3 d_Bo_change_53 (by decide) rfl ?_
    refine p_ic_0 d_Bo_change_54 ?_
    refine p_is_4 d_Bo_change_55 (by decide) rfl ?_
    exact LP n 0 (-1000009, apT n (itS n t q)) _ _ IS rfl rfl (by omega) (cF.tr sF) rfl
  · exact absurd (i30 q hq1 hq) h7
