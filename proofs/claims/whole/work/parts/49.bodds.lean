/-! ===== the class's own calls: odds ===== -/
theorem b_power (Γ : Cx) (S : Sh) (I : MemI) (J : MemJ) (b k : Nat) (hb : b ≤ 10) (hk : k ≤ 6) : Ct Γ M_Bo_power [.int (nI b), .int (nI k)] S I J (eqQ (some (.long (lN (b ^ k)))) S I J) := by
  have LP : ∀ (f i : Nat), i + f = k → WP Γ M_Bo_power (0, 0) S I J 5 [.int (nI b), .int (nI k), .long (lN (b ^ i)), .null, .int (nI i)] [] (eqQ (some (.long (lN (b ^ k)))) S I J) := by
    intro f
    induction f with
    | zero =>
      intro i hif
      obtain rfl : i = k := by omega
      refine p_iload d_Bo_power_5 rfl ?_
      refine p_iload_n d_Bo_power_7 rfl ?_
      refine p_icmpgeN (tgt := 22) (i) (i) d_Bo_power_8 (by decide) rfl rfl (by omega) (by omega) (fun h8 => ?_) (fun h8 => ?_)
      · refine p_lload_n d_Bo_power_22 rfl ?_
        refine p_lret d_Bo_power_23 rfl ?_
        exact ⟨rfl, rfl, rfl, rfl⟩
      · exact absurd (Nat.le_refl _) h8
    | succ f ih =>
      intro i hif
      refine p_iload d_Bo_power_5 rfl ?_
      refine p_iload_n d_Bo_power_7 rfl ?_
      refine p_icmpgeN (tgt := 22) (i) (k) d_Bo_power_8 (by decide) rfl rfl (by omega) (by omega) (fun h8 => ?_) (fun h8 => ?_)
      · exact absurd h8 (by omega)
      · refine p_lload_n d_Bo_power_11 rfl ?_
        refine p_iload_n d_Bo_power_12 rfl ?_
        refine p_i2l d_Bo_power_13 ?_
        refine p_eqL (nI_l (by omega)) ?_
        refine p_lmul d_Bo_power_14 ?_
        refine p_eqL (y := lN (b ^ (i + 1))) (by rw [lN_mul, Nat.pow_succ]) ?_
        refine p_ls_2 d_Bo_power_15 (by decide) rfl ?_
        refine p_incN_4_1 d_Bo_power_16 (by decide) rfl ?_
        refine p_goto (tgt := 5) d_Bo_power_19 (by decide) ?_
        exact ih (i + 1) (by omega)
  refine ct_of [.int (nI b), .int (nI k), .null, .null, .null] (by decide +kernel) rfl (leb rfl) rfl ?_
  refine p_lc_1 d_Bo_power_0 ?_
  refine p_ls_2 d_Bo_power_1 (by decide) rfl ?_
  refine p_ic_0 d_Bo_power_2 ?_
  refine p_is_4 d_Bo_power_3 (by decide) rfl ?_
  exact LP k 0 (by omega)
theorem b_byPlays (Γ : Cx) (I : MemI) (J : MemJ) (n : Nat) (t : Nat → Int32) (V : Vw I n t) (hok : okT n t) (a m s : Nat) (hm : m ≤ 6) (hs : s < 64) : Ct Γ M_Bo_apartByPlays [.ref 1, .int (nI a), .int (nI m), .int (nI s)] S0 I J (bsQ (some (.int (apT n (odT n t a s m)))) I J) := by
  have hn := V.1
  have LP : ∀ (f i : Nat) (I1 : MemI), i + f = m → ChR I1 4 n (odT n t a s i) → SgR I1 18 n (odT n t a s i) → scF I I1 → WP Γ M_Bo_apartByPlays (0, 0) S0 I1 J 14 [.ref 1, .int (nI a), .int (nI m), .int (nI s), .int (nI i)] [] (bsQ (some (.int (apT n (odT n t a s m)))) I J) := by
    intro f
    induction f with
    | zero =>
      intro i I1 hif hC hS hF0
      obtain rfl : i = m := by omega
      refine p_iload d_Bo_apartByPlays_14 rfl ?_
      refine p_iload_n d_Bo_apartByPlays_16 rfl ?_
      refine p_icmpgeN (tgt := 59) (i) (i) d_Bo_apartByPlays_17 (by decide) rfl rfl (by omega) (by omega) (fun h17 => ?_) (fun h17 => ?_)
      · refine p_aload_n d_Bo_apartByPlays_59 rfl ?_
        refine p_getR d_Bo_apartByPlays_60 fl_Bo_33 kd_1 rfl rf_1_4 ?_
        refine p_aload_n d_Bo_apartByPlays_63 rfl ?_
        refine p_getR d_Bo_apartByPlays_64 fl_Bo_19 kd_1 rfl rf_1_1 ?_
        refine p_getI d_Bo_apartByPlays_67 fl_Bo_146 kd_4 (Or.inl rfl) ?_
        refine p_eqI (y := nI n) (hC.1) ?_
        refine q_V1 d_Bo_apartByPlays_70 ml_Bo_149 vb_Si_apart kd_18 ⟨leb rfl, leb rfl⟩ (c_apart Γ I1 J 18 n si_18 hn) rfl rfl rfl ?_
        refine p_iret d_Bo_apartByPlays_73 rfl rfl ?_
        exact ⟨by rw [ap_c hS], rfl, rfl, hF0⟩
      · exact absurd (Nat.le_refl _) h17
    | succ f ih =>
      intro i I1 hif hC hS hF0
      have J39 : ∀ c : Int32, c = (if bt1 s i = 1 then nI a else 0) → WP Γ M_Bo_apartByPlays (0, 0) S0 I1 J 39 [.ref 1, .int (nI a), .int (nI m), .int (nI s), .int (nI i)] [.int c, .ref 18] (bsQ (some (.int (apT n (odT n t a s m)))) I J) := by
        intro c ec
        refine p_putI d_Bo_apartByPlays_39 fl_Bo_137 kd_18 rfl nf_3_1 ?_
        refine p_aload_n d_Bo_apartByPlays_42 rfl ?_
        refine p_getR d_Bo_apartByPlays_43 fl_Bo_19 kd_1 rfl rf_1_1 ?_
        refine p_aload_n d_Bo_apartByPlays_46 rfl ?_
        refine p_getR d_Bo_apartByPlays_47 fl_Bo_33 kd_1 rfl rf_1_4 ?_
        refine q_V d_Bo_apartByPlays_50 ml_Bo_157 vb_Ch_singLine kd_4 ⟨leb rfl, leb rfl⟩ (c_singLine Γ _ J 4 18 n (upd (odT n t a s i) 35 c) ch_4 si_18 (by omega) (hC.up hn (by omega)) (hS.set hn (Or.inl ⟨rfl, rfl, rfl⟩)) (okT_upd (od_ok hok i) (Or.inr (by omega)))) rfl rfl rfl (fun r S1 IS J1 hQ => ?_)
        obtain ⟨rfl, rfl, hJ, l1, l2, l3, l4, l5⟩ := hQ
        obtain rfl := hJ.symm
        have sF : scF I IS := (hF0.tr scF.up).tr (fun z a b c => l5 z (by omega) (by omega) (by omega))
        have nC : ChR IS 4 n (singT n (upd (odT n t a s i) 35 c)) := ((hC.up hn (by omega)).mv (l5 4 (by omega) (by omega) (by omega)) (l5 5 (by omega) (by omega) (by omega)) (l5 6 (by omega) (by omega) (by omega)) (l5 7 (by omega) (by omega) (by omega)) (l5 8 (by omega) (by omega) (by omega))).sing hn
        have nS : SgR IS 18 n (singT n (upd (odT n t a s i) 35 c)) := (hS.set hn (Or.inl ⟨rfl, rfl, rfl⟩)).sing l1 l2 l4 hn
        refine p_incN_4_1 d_Bo_apartByPlays_53 (by decide) rfl ?_
        refine p_goto (tgt := 14) d_Bo_apartByPlays_56 (by decide) ?_
        refine ih (i + 1) IS (by omega) ?_ ?_ sF
        · show ChR IS 4 n (singT n (upd (odT n t a s i) 35 (if bt1 s i = 1 then nI a else 0)))
          rw [← ec]; exact nC
        · show SgR IS 18 n (singT n (upd (odT n t a s i) 35 (if bt1 s i = 1 then nI a else 0)))
          rw [← ec]; exact nS
      have bl := bt1_le s i
      refine p_iload d_Bo_apartByPlays_14 rfl ?_
      refine p_iload_n d_Bo_apartByPlays_16 rfl ?_
      refine p_icmpgeN (tgt := 59) (i) (m) d_Bo_apartByPlays_17 (by decide) rfl rfl (by omega) (by omega) (fun h17 => ?_) (fun h17 => ?_)
      · exact absurd h17 (by omega)
      · refine p_aload_n d_Bo_apartByPlays_20 rfl ?_
        refine p_getR d_Bo_apartByPlays_21 fl_Bo_33 kd_1 rfl rf_1_4 ?_
        refine p_iload_n d_Bo_apartByPlays_24 rfl ?_
        refine p_iload d_Bo_apartByPlays_25 rfl ?_
        refine p_ishr d_Bo_apartByPlays_27 ?_
        refine p_ic_1 d_Bo_apartByPlays_28 ?_
        refine p_iand d_Bo_apartByPlays_29 ?_
        refine p_eqI (shr1 s hs i (by omega)) ?_
        refine p_ic_1 d_Bo_apartByPlays_30 ?_
        refine p_icmpneN (tgt := 38) ((bt1 s i)) (1) d_Bo_apartByPlays_31 (by decide) rfl rfl (by omega) (by omega) (fun h31 => ?_) (fun h31 => ?_)
        · refine p_ic_0 d_Bo_apartByPlays_38 ?_
          first | exact J39 _ (if_pos (by omega)).symm | exact J39 _ (if_neg (by omega)).symm
        · refine p_iload_n d_Bo_apartByPlays_34 rfl ?_
          refine p_goto (tgt := 39) d_Bo_apartByPlays_35 (by decide) ?_
          first | exact J39 _ (if_pos (by omega)).symm | exact J39 _ (if_neg (by omega)).symm
  refine ct_of [.ref 1, .int (nI a), .int (nI m), .int (nI s), .null] (by decide +kernel) rfl (leb rfl) rfl ?_
  refine p_aload_n d_Bo_apartByPlays_0 rfl ?_
  refine p_getR d_Bo_apartByPlays_1 fl_Bo_33 kd_1 rfl rf_1_4 ?_
  refine p_aload_n d_Bo_apartByPlays_4 rfl ?_
  refine p_getR d_Bo_apartByPlays_5 fl_Bo_29 kd_1 rfl rf_1_3 ?_
  refine q_V d_Bo_apartByPlays_8 ml_Bo_186 vb_Si_copyFrom kd_18 ⟨leb rfl, leb rfl⟩ (c_copy Γ I J 18 16 si_18 si_16 (by omega)) rfl rfl rfl (fun r S1 IT J1 hQ => ?_)
  obtain ⟨rfl, rfl, hJ, q1, q2, q3⟩ := hQ
  obtain rfl := hJ.symm
  have cS : SgR IT 18 n t := SgR_cp V.2.2.2.1 hn q1 q2
  have cF : scF I IT := fun z a b c => q3 z (by omega) (by omega)
  have V2 : Vw IT n t := V.sc cF
  refine p_ic_0 d_Bo_apartByPlays_11 ?_
  refine p_is_4 d_Bo_apartByPlays_12 (by decide) rfl ?_
  exact LP m 0 IT (by omega) V2.2.2.1 cS cF
