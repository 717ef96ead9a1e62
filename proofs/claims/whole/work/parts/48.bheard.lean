/-! ===== the class's own calls: waited ===== -/
theorem bgT_lo {t : Nat → Int32} {w : Int32} {y : Nat} (h : y < 28) (h1 : y ≠ 1) : bgT w t y = t y := by
  unfold bgT
  rw [if_neg (by omega), if_neg (by omega), if_neg (by omega), if_neg (by omega), if_neg (by omega), if_neg (by omega)]
theorem b_isSo (Γ : Cx) (I : MemI) (J : MemJ) (n : Nat) (t : Nat → Int32) (V : Vw I n t) (hok : okT n t) (E : Nat) (he : I 1 12 = nI E) (hE : E ≤ 6) (pw : Nat → Nat) (h : Nat → Int32) (hh : ∀ e, e < E → I 50 e = h (3 * e) ∧ (I 51 e = nI (pw e) ∧ pw e < n) ∧ I 52 e = h (3 * e + 2)) (w : Int32) : Ct Γ M_Bo_isAllHeardSo [.ref 1, .int w] S0 I J (bsQ (some (.int (bI (soB n E (bgT w t) h pw 20 = true)))) I J) := by
  have hn := V.1
  have LO : ∀ (f j : Nat) (v : Value) (I1 : MemI), v.category = 1 → j + f = 20 → ChR I1 4 n (itS n (bgT w t) j) → SgR I1 18 n (itS n (bgT w t) j) → scF I I1 → (∀ i, i < j → soT n E (bgT w t) h pw (i + 1)) → WP Γ M_Bo_isAllHeardSo (0, 0) S0 I1 J 10 [.ref 1, .int w, .int (nI (j + 1)), v] [] (bsQ (some (.int (bI (soB n E (bgT w t) h pw 20 = true)))) I J) := by
    intro f
    induction f with
    | zero =>
      intro j v I1 hv hjf hC hS hF0 hall
      obtain rfl : j = 20 := by omega
      refine p_iload_n d_Bo_isAllHeardSo_10 rfl ?_
      refine p_bi_20 d_Bo_isAllHeardSo_11 ?_
      refine p_icmpgtN (tgt := 84) (20 + 1) (20) d_Bo_isAllHeardSo_13 (by decide) rfl rfl (by omega) (by omega) (fun h13 => ?_) (fun h13 => ?_)
      · refine p_ic_1 d_Bo_isAllHeardSo_84 ?_
        refine p_iret d_Bo_isAllHeardSo_85 rfl rfl ?_
        exact ⟨by rw [bI_t (soB_iff.mpr hall)], rfl, rfl, hF0⟩
      · exact absurd (by omega) h13
    | succ f ih =>
      intro j v I1 hv hjf hC hS hF0 hall
      have LI : ∀ (IS : MemI), ChR IS 4 n (itS n (bgT w t) (j + 1)) → SgR IS 18 n (itS n (bgT w t) (j + 1)) → scF I IS → ∀ (g e : Nat), e + g = E → (∀ d, d < e → h (3 * d) = nI (j + 1) → itS n (bgT w t) (j + 1) (28 + pw d) = h (3 * d + 2)) → WP Γ M_Bo_isAllHeardSo (0, 0) S0 IS J 29 [.ref 1, .int w, .int (nI (j + 1)), .int (nI e)] [] (bsQ (some (.int (bI (soB n E (bgT w t) h pw 20 = true)))) I J) := by
        intro IS nC nS sF g
        have x1 : IS 1 = I 1 := sF 1 (by omega) (by omega) (by omega)
        have x50 : IS 50 = I 50 := sF 50 (by omega) (by omega) (by omega)
        have x51 : IS 51 = I 51 := sF 51 (by omega) (by omega) (by omega)
        have x52 : IS 52 = I 52 := sF 52 (by omega) (by omega) (by omega)
        induction g with
        | zero =>
          intro e heg hall2
          refine p_iload_n d_Bo_isAllHeardSo_29 rfl ?_
          refine p_aload_n d_Bo_isAllHeardSo_30 rfl ?_
          refine p_getI d_Bo_isAllHeardSo_31 fl_Bo_103 kd_1 (Or.inl rfl) ?_
          refine p_eqI (y := nI E) (by rw [x1]; exact he) ?_
          refine p_icmpgeN (tgt := 78) (e) (E) d_Bo_isAllHeardSo_34 (by decide) rfl rfl (by omega) (by omega) (fun h34 => ?_) (fun h34 => ?_)
          · refine p_incN_2_1 d_Bo_isAllHeardSo_78 (by decide) rfl ?_
            refine p_goto (tgt := 10) d_Bo_isAllHeardSo_81 (by decide) ?_
            refine ih (j + 1) _ IS rfl (by omega) nC nS sF (fun i hi => ?_)
            rcases Nat.lt_or_ge i j with z | z
            · exact hall i z
            · rw [show i = j by omega]
              intro d hd
              exact hall2 d (by omega)
          · exact absurd (by omega) h34
        | succ g ihg =>
          intro e heg hall2
          obtain ⟨p1, ⟨p2, p3⟩, p4⟩ := hh e (by omega)
          refine p_iload_n d_Bo_isAllHeardSo_29 rfl ?_
          refine p_aload_n d_Bo_isAllHeardSo_30 rfl ?_
          refine p_getI d_Bo_isAllHeardSo_31 fl_Bo_103 kd_1 (Or.inl rfl) ?_
          refine p_eqI (y := nI E) (by rw [x1]; exact he) ?_
          refine p_icmpgeN (tgt := 78) (e) (E) d_Bo_isAllHeardSo_34 (by decide) rfl rfl (by omega) (by omega) (fun h34 => ?_) (fun h34 => ?_)
          · exact absurd h34 (by omega)
          · refine p_aload_n d_Bo_isAllHeardSo_37 rfl ?_
            refine p_getR d_Bo_isAllHeardSo_38 fl_Bo_54 kd_1 rfl rf_1_9 ?_
            refine p_iload_n d_Bo_isAllHeardSo_41 rfl ?_
            refine p_ialdN (e) d_Bo_isAllHeardSo_42 ar_50 rfl (by omega) rfl ?_
            refine p_eqI (y := h (3 * e)) (by rw [x50]; exact p1) ?_
            refine p_iload_n d_Bo_isAllHeardSo_43 rfl ?_
            refine p_icmpne (tgt := 72) d_Bo_isAllHeardSo_44 (by decide) (fun h44 => ?_) (fun h44 => ?_)
            · refine p_incN_3_1 d_Bo_isAllHeardSo_72 (by decide) rfl ?_
              refine p_goto (tgt := 29) d_Bo_isAllHeardSo_75 (by decide) ?_
              refine ihg (e + 1) (by omega) (fun d hd => ?_)
              rcases Nat.lt_or_ge d e with z | z
              · exact hall2 d z
              · rw [show d = e by omega]
                first | exact fun _ => h67 | exact fun z => absurd z h44
            · refine p_aload_n d_Bo_isAllHeardSo_47 rfl ?_
              refine p_getR d_Bo_isAllHeardSo_48 fl_Bo_33 kd_1 rfl rf_1_4 ?_
              refine p_getR d_Bo_isAllHeardSo_51 fl_Bo_121 kd_18 rfl rf_18_0 ?_
              refine p_aload_n d_Bo_isAllHeardSo_54 rfl ?_
              refine p_getR d_Bo_isAllHeardSo_55 fl_Bo_58 kd_1 rfl rf_1_10 ?_
              refine p_iload_n d_Bo_isAllHeardSo_58 rfl ?_
              refine p_ialdN (e) d_Bo_isAllHeardSo_59 ar_51 rfl (by omega) rfl ?_
              refine p_eqI (y := nI (pw e)) (by rw [x51]; exact p2) ?_
              refine p_ialdN ((pw e)) d_Bo_isAllHeardSo_60 ar_19 rfl (by omega) rfl ?_
              refine p_eqI (y := itS n (bgT w t) (j + 1) (28 + pw e)) (nS.1 (pw e) p3) ?_
              refine p_aload_n d_Bo_isAllHeardSo_61 rfl ?_
              refine p_getR d_Bo_isAllHeardSo_62 fl_Bo_61 kd_1 rfl rf_1_11 ?_
              refine p_iload_n d_Bo_isAllHeardSo_65 rfl ?_
              refine p_ialdN (e) d_Bo_isAllHeardSo_66 ar_52 rfl (by omega) rfl ?_
              refine p_eqI (y := h (3 * e + 2)) (by rw [x52]; exact p4) ?_
              refine p_icmpeq (tgt := 72) d_Bo_isAllHeardSo_67 (by decide) (fun h67 => ?_) (fun h67 => ?_)
              · refine p_incN_3_1 d_Bo_isAllHeardSo_72 (by decide) rfl ?_
                refine p_goto (tgt := 29) d_Bo_isAllHeardSo_75 (by decide) ?_
                refine ihg (e + 1) (by omega) (fun d hd => ?_)
                rcases Nat.lt_or_ge d e with z | z
                · exact hall2 d z
                · rw [show d = e by omega]
                  first | exact fun _ => h67 | exact fun z => absurd z h44
              · refine p_ic_0 d_Bo_isAllHeardSo_70 ?_
                refine p_iret d_Bo_isAllHeardSo_71 rfl rfl ?_
                refine ⟨?_, rfl, rfl, sF⟩
                rw [bI_f (fun z => h67 (soB_iff.mp z j (by omega) e (by omega) h44))]
      refine p_iload_n d_Bo_isAllHeardSo_10 rfl ?_
      refine p_bi_20 d_Bo_isAllHeardSo_11 ?_
      refine p_icmpgtN (tgt := 84) (j + 1) (20) d_Bo_isAllHeardSo_13 (by decide) rfl rfl (by omega) (by omega) (fun h13 => ?_) (fun h13 => ?_)
      · exact absurd h13 (by omega)
      · refine p_aload_n d_Bo_isAllHeardSo_16 rfl ?_
        refine p_getR d_Bo_isAllHeardSo_17 fl_Bo_19 kd_1 rfl rf_1_1 ?_
        refine p_aload_n d_Bo_isAllHeardSo_20 rfl ?_
        refine p_getR d_Bo_isAllHeardSo_21 fl_Bo_33 kd_1 rfl rf_1_4 ?_
        refine q_V d_Bo_isAllHeardSo_24 ml_Bo_157 vb_Ch_singLine kd_4 ⟨leb rfl, leb rfl⟩ (c_singLine Γ I1 J 4 18 n (itS n (bgT w t) j) ch_4 si_18 (by omega) hC hS ((okT_bg hok).it j)) rfl rfl rfl (fun r S1 IS J1 hQ => ?_)
        obtain ⟨rfl, rfl, hJ, l1, l2, l3, l4, l5⟩ := hQ
        obtain rfl := hJ.symm
        have sF : scF I IS := hF0.tr (fun z a b c => l5 z (by omega) (by omega) (by omega))
        have nC : ChR IS 4 n (itS n (bgT w t) (j + 1)) := (hC.mv (l5 4 (by omega) (by omega) (by omega)) (l5 5 (by omega) (by omega) (by omega)) (l5 6 (by omega) (by omega) (by omega)) (l5 7 (by omega) (by omega) (by omega)) (l5 8 (by omega) (by omega) (by omega))).sing hn
        have nS : SgR IS 18 n (itS n (bgT w t) (j + 1)) := hS.sing l1 l2 l4 hn
        refine p_ic_0 d_Bo_isAllHeardSo_27 ?_
        refine p_is_3 d_Bo_isAllHeardSo_28 (by decide) rfl ?_
        exact LI IS nC nS sF E 0 (by omega) (fun d hd => absurd hd (by omega))
  refine ct_of [.ref 1, .int w, .null, .null] (by decide +kernel) rfl (leb rfl) rfl ?_
  refine p_aload_n d_Bo_isAllHeardSo_0 rfl ?_
  refine p_getR d_Bo_isAllHeardSo_1 fl_Bo_33 kd_1 rfl rf_1_4 ?_
  refine p_iload_n d_Bo_isAllHeardSo_4 rfl ?_
  refine q_V d_Bo_isAllHeardSo_5 ml_Bo_96 vb_Si_begin kd_18 ⟨leb rfl, leb rfl⟩ (c_begin Γ I J 18 si_18 w) rfl rfl rfl (fun r S1 IB J1 hQ => ?_)
  obtain ⟨rfl, rfl, hJ, b1, b2, b3, b4, b5, b6, b7, b8⟩ := hQ
  obtain rfl := hJ.symm
  have bF : scF I IB := fun z a b c => b8 z (by omega) (by omega)
  have hS : SgR IB 18 n (bgT w t) := by
    refine ⟨fun k hk => ?_, b2, Or.inl ⟨b3, rfl⟩, b4, b5, b6⟩
    rw [show bgT w t (28 + k) = 0 by unfold bgT; rw [if_pos (by omega)]]
    exact b1 k (by omega)
  have hC : ChR IB 4 n (bgT w t) := (V.sc bF).2.2.1.c hn (fun y a b => bgT_lo b (by omega))
  refine p_ic_1 d_Bo_isAllHeardSo_8 ?_
  refine p_is_2 d_Bo_isAllHeardSo_9 (by decide) rfl ?_
  exact LO 20 0 _ IB rfl (by omega) hC hS bF (fun i hi => absurd hi (by omega))
theorem b_waited (Γ : Cx) (I : MemI) (J : MemJ) (n : Nat) (t : Nat → Int32) (V : Vw I n t) (hok : okT n t) (E : Nat) (he : I 1 12 = nI E) (hE : E ≤ 6) (pw : Nat → Nat) (h : Nat → Int32) (hh : ∀ e, e < E → I 50 e = h (3 * e) ∧ (I 51 e = nI (pw e) ∧ pw e < n) ∧ I 52 e = h (3 * e + 2)) : Ct Γ M_Bo_waited [.ref 1] S0 I J (bsQ (some (.int (wdF (fun w => soB n E (bgT (nI w) t) h pw 20) 11 0 0))) I J) := by
  have hn := V.1
  have LP : ∀ (f k : Nat) (s : Int32) (I1 : MemI), k + f = 11 → scF I I1 → wdF (fun w => soB n E (bgT (nI w) t) h pw 20) 11 0 0 = wdF (fun w => soB n E (bgT (nI w) t) h pw 20) f k s → WP Γ M_Bo_waited (0, 0) S0 I1 J 4 [.ref 1, .int s, .int (nI k)] [] (bsQ (some (.int (wdF (fun w => soB n E (bgT (nI w) t) h pw 20) 11 0 0))) I J) := by
    intro f
    induction f with
    | zero =>
      intro k s I1 hkf hF0 hF
      obtain rfl : k = 11 := by omega
      refine p_iload_n d_Bo_waited_4 rfl ?_
      refine p_bi_10 d_Bo_waited_5 ?_
      refine p_icmpgtN (tgt := 30) (11) (10) d_Bo_waited_7 (by decide) rfl rfl (by omega) (by omega) (fun h7 => ?_) (fun h7 => ?_)
      · refine p_iload_n d_Bo_waited_30 rfl ?_
        refine p_iret d_Bo_waited_31 rfl rfl ?_
        exact ⟨by rw [hF]; rfl, rfl, rfl, hF0⟩
      · exact absurd (by omega) h7
    | succ f ih =>
      intro k s I1 hkf hF0 hF
      refine p_iload_n d_Bo_waited_4 rfl ?_
      refine p_bi_10 d_Bo_waited_5 ?_
      refine p_icmpgtN (tgt := 30) (k) (10) d_Bo_waited_7 (by decide) rfl rfl (by omega) (by omega) (fun h7 => ?_) (fun h7 => ?_)
      · exact absurd h7 (by omega)
      · refine p_aload_n d_Bo_waited_10 rfl ?_
        refine p_iload_n d_Bo_waited_11 rfl ?_
        refine q_V d_Bo_waited_12 ml_Bo_213 vb_Bo_isAllHeardSo kd_1 ⟨leb rfl, leb rfl⟩ (b_isSo Γ I1 J n t (V.sc hF0) hok E (by rw [hF0 1 (by omega) (by omega) (by omega)]; exact he) hE pw h (fun e hq => by rw [hF0 50 (by omega) (by omega) (by omega), hF0 51 (by omega) (by omega) (by omega), hF0 52 (by omega) (by omega) (by omega)]; exact hh e hq) (nI k)) rfl rfl rfl (fun r S1 IS J1 hQ => ?_)
        obtain ⟨rfl, rfl, hJ, sF⟩ := hQ
        obtain rfl := hJ.symm
        refine p_ifeqB (tgt := 24) d_Bo_waited_15 (by decide) (fun h15 => ?_) (fun h15 => ?_)
        · refine p_incN_2_1 d_Bo_waited_24 (by decide) rfl ?_
          refine p_goto (tgt := 4) d_Bo_waited_27 (by decide) ?_
          refine ih (k + 1) _ IS (by omega) (hF0.tr sF) ?_
          rw [hF]
          show wdF _ f (k + 1) (if soB n E (bgT (nI k) t) h pw 20 = true then _ else _) = _
          first | (rw [if_pos h15]; done) | (rw [if_neg h15]; done)
        · refine p_iload_n d_Bo_waited_18 rfl ?_
          refine p_ic_1 d_Bo_waited_19 ?_
          refine p_iload_n d_Bo_waited_20 rfl ?_
          refine p_ishl d_Bo_waited_21 ?_
          refine p_ior d_Bo_waited_22 ?_
          refine p_is_1 d_Bo_waited_23 (by decide) rfl ?_
          refine p_incN_2_1 d_Bo_waited_24 (by decide) rfl ?_
          refine p_goto (tgt := 4) d_Bo_waited_27 (by decide) ?_
          refine ih (k + 1) _ IS (by omega) (hF0.tr sF) ?_
          rw [hF]
          show wdF _ f (k + 1) (if soB n E (bgT (nI k) t) h pw 20 = true then _ else _) = _
          first | (rw [if_pos h15]; done) | (rw [if_neg h15]; done)
  refine ct_of [.ref 1, .null, .null] (by decide +kernel) rfl (leb rfl) rfl ?_
  refine p_ic_0 d_Bo_waited_0 ?_
  refine p_is_1 d_Bo_waited_1 (by decide) rfl ?_
  refine p_ic_0 d_Bo_waited_2 ?_
  refine p_is_2 d_Bo_waited_3 (by decide) rfl ?_
  exact LP 11 0 0 I (by omega) scF.rf rfl
