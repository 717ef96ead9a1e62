/-! ===== the class's own calls: what is best ===== -/
theorem SgR.set {I : MemI} {n pl fl : Nat} {t : Nat → Int32} {v v2 : Int32} (h : SgR I 18 n t) (hn : n ≤ 6) (hp : (fl = 1 ∧ pl = 35 ∧ v2 = v) ∨ (fl = 2 ∧ pl = 36 ∧ chR v v2) ∨ (fl = 3 ∧ pl = 37 ∧ v2 = v)) : SgR (up2 I 18 fl v) 18 n (upd t pl v2) := by
  obtain ⟨s1, s2, s3, s4, s5, s6⟩ := h
  rcases hp with ⟨rfl, rfl, rfl⟩ | ⟨rfl, rfl, hv⟩ | ⟨rfl, rfl, rfl⟩
  · refine ⟨fun k hk => ?_, ?_, ?_, ?_, ?_, ?_⟩
    · rw [up2_ne (by omega), upd_ne (by omega)]; exact s1 k hk
    · rw [up2_s, upd_s]
    · rw [up2_ne (by omega), upd_ne (by omega)]; exact s3
    · rw [up2_ne (by omega), upd_ne (by omega)]; exact s4
    · rw [up2_ne (by omega), upd_ne (by omega)]; exact s5
    · rw [up2_ne (by omega), upd_ne (by omega)]; exact s6
  · refine ⟨fun k hk => ?_, ?_, ?_, ?_, ?_, ?_⟩
    · rw [up2_ne (by omega), upd_ne (by omega)]; exact s1 k hk
    · rw [up2_ne (by omega), upd_ne (by omega)]; exact s2
    · rw [up2_s, upd_s]; exact hv
    · rw [up2_ne (by omega), upd_ne (by omega)]; exact s4
    · rw [up2_ne (by omega), upd_ne (by omega)]; exact s5
    · rw [up2_ne (by omega), upd_ne (by omega)]; exact s6
  · refine ⟨fun k hk => ?_, ?_, ?_, ?_, ?_, ?_⟩
    · rw [up2_ne (by omega), upd_ne (by omega)]; exact s1 k hk
    · rw [up2_ne (by omega), upd_ne (by omega)]; exact s2
    · rw [up2_ne (by omega), upd_ne (by omega)]; exact s3
    · rw [up2_s, upd_s]
    · rw [up2_ne (by omega), upd_ne (by omega)]; exact s5
    · rw [up2_ne (by omega), upd_ne (by omega)]; exact s6
theorem scF.up {I : MemI} {k : Nat} {v : Int32} : scF I (up2 I 18 k v) := fun z a b c => up2_o (by omega)
theorem ChR.up {I : MemI} {n k pl : Nat} {t : Nat → Int32} {v v2 : Int32} (h : ChR I 4 n t) (hn : n ≤ 6) (hp : 28 ≤ pl) : ChR (up2 I 18 k v) 4 n (upd t pl v2) := (h.mv (up2_o (by omega)) (up2_o (by omega)) (up2_o (by omega)) (up2_o (by omega)) (up2_o (by omega))).c hn (fun y _ b => upd_ne (by omega))
theorem b30 {x : Int32} {w : Int32} : True := trivial
theorem b_playAhead_bad (Γ : Cx) (I : MemI) (J : MemJ) (x y : Int32) (hb : ¬ ((1 ≤ x ∧ x ≤ 30) ∧ (0 ≤ y ∧ y ≤ 1))) : Ct Γ M_Bo_playAhead [.ref 1, .int x, .int y] S0 I J (eqQ (some (.int (-1000001))) S0 I J) := by
  refine ct_of [.ref 1, .int x, .int y, .null, .null, .null, .null] (by decide +kernel) rfl (leb rfl) rfl ?_
  refine p_iload_n d_Bo_playAhead_0 rfl ?_
  refine p_ic_1 d_Bo_playAhead_1 ?_
  refine p_bi_30 d_Bo_playAhead_2 ?_
  refine q_S1 d_Bo_playAhead_4 ml_Bo_64 sb_Bo_within ⟨leb rfl, leb rfl⟩ (c_within Γ S0 _ _ x 1 30) rfl rfl rfl ?_
  refine p_ifeqB (tgt := 19) d_Bo_playAhead_7 (by decide) (fun h7 => ?_) (fun h7 => ?_)
  · refine p_ldc d_Bo_playAhead_19 kc_Bo_68 ?_
    refine p_iret d_Bo_playAhead_21 rfl rfl ?_
    exact ⟨rfl, rfl, rfl, rfl⟩
  · refine p_iload_n d_Bo_playAhead_10 rfl ?_
    refine p_ic_0 d_Bo_playAhead_11 ?_
    refine p_ic_1 d_Bo_playAhead_12 ?_
    refine q_S1 d_Bo_playAhead_13 ml_Bo_64 sb_Bo_within ⟨leb rfl, leb rfl⟩ (c_within Γ S0 _ _ y 0 1) rfl rfl rfl ?_
    refine p_ifneB (tgt := 22) d_Bo_playAhead_16 (by decide) (fun h16 => ?_) (fun h16 => ?_)
    · exact absurd ⟨h7, h16⟩ hb
    · refine p_ldc d_Bo_playAhead_19 kc_Bo_68 ?_
      refine p_iret d_Bo_playAhead_21 rfl rfl ?_
      exact ⟨rfl, rfl, rfl, rfl⟩
theorem b_seat_bad (Γ : Cx) (I : MemI) (J : MemJ) (x y : Int32) (hb : ¬ ((1 ≤ x ∧ x ≤ 30) ∧ (0 ≤ y ∧ y ≤ 1))) : Ct Γ M_Bo_seat [.ref 1, .int x, .int y] S0 I J (eqQ (some (.int (-1000001))) S0 I J) := by
  refine ct_of [.ref 1, .int x, .int y, .null, .null, .null, .null] (by decide +kernel) rfl (leb rfl) rfl ?_
  refine p_iload_n d_Bo_seat_0 rfl ?_
  refine p_ic_1 d_Bo_seat_1 ?_
  refine p_bi_30 d_Bo_seat_2 ?_
  refine q_S1 d_Bo_seat_4 ml_Bo_64 sb_Bo_within ⟨leb rfl, leb rfl⟩ (c_within Γ S0 _ _ x 1 30) rfl rfl rfl ?_
  refine p_ifeqB (tgt := 19) d_Bo_seat_7 (by decide) (fun h7 => ?_) (fun h7 => ?_)
  · refine p_ldc d_Bo_seat_19 kc_Bo_68 ?_
    refine p_iret d_Bo_seat_21 rfl rfl ?_
    exact ⟨rfl, rfl, rfl, rfl⟩
  · refine p_iload_n d_Bo_seat_10 rfl ?_
    refine p_ic_0 d_Bo_seat_11 ?_
    refine p_ic_1 d_Bo_seat_12 ?_
    refine q_S1 d_Bo_seat_13 ml_Bo_64 sb_Bo_within ⟨leb rfl, leb rfl⟩ (c_within Γ S0 _ _ y 0 1) rfl rfl rfl ?_
    refine p_ifneB (tgt := 22) d_Bo_seat_16 (by decide) (fun h16 => ?_) (fun h16 => ?_)
    · exact absurd ⟨h7, h16⟩ hb
    · refine p_ldc d_Bo_seat_19 kc_Bo_68 ?_
      refine p_iret d_Bo_seat_21 rfl rfl ?_
      exact ⟨rfl, rfl, rfl, rfl⟩
theorem b_playAhead (Γ : Cx) (I : MemI) (J : MemJ) (n : Nat) (t : Nat → Int32) (V : Vw I n t) (hok : okT n t) (q : Nat) (hq1 : 1 ≤ q) (hq : q ≤ 30) (w : Nat) (hw : w < 2) : Ct Γ M_Bo_playAhead [.ref 1, .int (nI q), .int (nI w)] S0 I J (bsQ (some (.int (pick w (paF n q t 21 0 0 1000000)))) I J) := by
  have hn := V.1
  have LP : ∀ (f a : Nat) (b l : Int32) (v : Value) (I1 : MemI), v.category = 1 → a + f = 21 → scF I I1 → paF n q t 21 0 0 1000000 = paF n q t f a b l → WP Γ M_Bo_playAhead (0, 0) S0 I1 J 31 [.ref 1, .int (nI q), .int (nI w), .int b, .int l, .int (nI a), v] [] (bsQ (some (.int (pick w (paF n q t 21 0 0 1000000)))) I J) := by
    intro f
    induction f with
    | zero =>
      intro a b l v I1 hv haf hF0 hF
      obtain rfl : a = 21 := by omega
      refine p_iload d_Bo_playAhead_31 rfl ?_
      refine p_bi_20 d_Bo_playAhead_33 ?_
      refine p_icmpgtN (tgt := 106) (21) (20) d_Bo_playAhead_35 (by decide) rfl rfl (by omega) (by omega) (fun h35 => ?_) (fun h35 => ?_)
      · refine p_iload_n d_Bo_playAhead_106 rfl ?_
        refine p_ifne (tgt := 114) d_Bo_playAhead_107 (by decide) (fun h107 => ?_) (fun h107 => ?_)
        · have w0 : ¬ w = 0 := fun z => h107 (by rw [z]; rfl)
          refine p_iload d_Bo_playAhead_114 rfl ?_
          refine p_iret d_Bo_playAhead_116 rfl rfl ?_
          refine ⟨?_, rfl, rfl, hF0⟩
          rw [hF]
          show _ = some (Value.int (pick w (b, l)))
          unfold pick
          first | (rw [if_pos (show w = 0 by omega)]; done) | (rw [if_neg (show ¬ w = 0 by omega)])
        · have w0 : w = 0 := (nI_eq (a := w) (b := 0) (by omega) (by omega)).mp h107
          refine p_iload_n d_Bo_playAhead_110 rfl ?_
          refine p_goto (tgt := 116) d_Bo_playAhead_111 (by decide) ?_
          refine p_iret d_Bo_playAhead_116 rfl rfl ?_
          refine ⟨?_, rfl, rfl, hF0⟩
          rw [hF]
          show _ = some (Value.int (pick w (b, l)))
          unfold pick
          first | (rw [if_pos (show w = 0 by omega)]; done) | (rw [if_neg (show ¬ w = 0 by omega)])
      · exact absurd (by omega) h35
    | succ f ih =>
      intro a b l v I1 hv haf hF0 hF
      have V1 := V.sc hF0
      refine p_iload d_Bo_playAhead_31 rfl ?_
      refine p_bi_20 d_Bo_playAhead_33 ?_
      refine p_icmpgtN (tgt := 106) (a) (20) d_Bo_playAhead_35 (by decide) rfl rfl (by omega) (by omega) (fun h35 => ?_) (fun h35 => ?_)
      · exact absurd h35 (by omega)
      · refine p_aload_n d_Bo_playAhead_38 rfl ?_
        refine p_getR d_Bo_playAhead_39 fl_Bo_33 kd_1 rfl rf_1_4 ?_
        refine p_aload_n d_Bo_playAhead_42 rfl ?_
        refine p_getR d_Bo_playAhead_43 fl_Bo_29 kd_1 rfl rf_1_3 ?_
        refine q_V d_Bo_playAhead_46 ml_Bo_186 vb_Si_copyFrom kd_18 ⟨leb rfl, leb rfl⟩ (c_copy Γ I1 J 18 16 si_18 si_16 (by omega)) rfl rfl rfl (fun r S1 IT J1 hQ => ?_)
        obtain ⟨rfl, rfl, hJ, q1, q2, q3⟩ := hQ
        obtain rfl := hJ.symm
        have cS : SgR IT 18 n t := SgR_cp V1.2.2.2.1 hn q1 q2
        have cF : scF I1 IT := fun z a b c => q3 z (by omega) (by omega)
        have V2 : Vw IT n t := V1.sc cF
        refine p_aload_n d_Bo_playAhead_49 rfl ?_
        refine p_getR d_Bo_playAhead_50 fl_Bo_33 kd_1 rfl rf_1_4 ?_
        refine p_iload d_Bo_playAhead_53 rfl ?_
        refine p_putI d_Bo_playAhead_55 fl_Bo_137 kd_18 rfl nf_3_1 ?_
        refine p_aload_n d_Bo_playAhead_58 rfl ?_
        refine p_getR d_Bo_playAhead_59 fl_Bo_19 kd_1 rfl rf_1_1 ?_
        refine p_aload_n d_Bo_playAhead_62 rfl ?_
        refine p_getR d_Bo_playAhead_63 fl_Bo_33 kd_1 rfl rf_1_4 ?_
        refine p_iload_n d_Bo_playAhead_66 rfl ?_
        refine q_V d_Bo_playAhead_67 ml_Bo_163 vb_Ch_singLines kd_4 ⟨leb rfl, leb rfl⟩ (c_singLines Γ (up2 IT 18 1 (nI a)) J 4 18 n q (upd t 35 (nI a)) ch_4 si_18 (by omega) (by omega) (V2.2.2.1.up hn (by omega)) (cS.set hn (Or.inl ⟨rfl, rfl, rfl⟩)) (okT_upd hok (by omega))) rfl rfl rfl (fun r S1 IS J1 hQ => ?_)
        obtain ⟨rfl, rfl, hJ, l1, l2, l3, l4, l5⟩ := hQ
        obtain rfl := hJ.symm
        have sF : scF (up2 IT 18 1 (nI a)) IS := fun z a b c => l5 z (by omega) (by omega) (by omega)
        have hF1 : scF I IS := ((hF0.tr cF).tr scF.up).tr sF
        refine p_aload_n d_Bo_playAhead_70 rfl ?_
        refine p_getR d_Bo_playAhead_71 fl_Bo_33 kd_1 rfl rf_1_4 ?_
        refine p_aload_n d_Bo_playAhead_74 rfl ?_
        refine p_getR d_Bo_playAhead_75 fl_Bo_19 kd_1 rfl rf_1_1 ?_
        refine p_getI d_Bo_playAhead_78 fl_Bo_146 kd_4 (Or.inl rfl) ?_
        refine p_eqI (y := nI n) ((V.sc hF1).2.2.1.1) ?_
        refine q_V1 d_Bo_playAhead_81 ml_Bo_193 vb_Si_greatest kd_18 ⟨leb rfl, leb rfl⟩ (c_greatest Γ IS J 18 n si_18 hn) rfl rfl rfl ?_
        refine p_eqI (y := gA n q t a) (gr_k l1) ?_
        refine p_is_6 d_Bo_playAhead_84 (by decide) rfl ?_
        refine p_iload d_Bo_playAhead_86 rfl ?_
        refine p_iload d_Bo_playAhead_88 rfl ?_
        refine p_icmpge (tgt := 100) d_Bo_playAhead_90 (by decide) (fun h90 => ?_) (fun h90 => ?_)
        · refine p_incN_5_1 d_Bo_playAhead_100 (by decide) rfl ?_
          refine p_goto (tgt := 31) d_Bo_playAhead_103 (by decide) ?_
          refine ih (a + 1) _ _ _ IS rfl (by omega) hF1 ?_
          rw [hF]
          show (if gA n q t a < l then _ else _) = _
          first | (rw [if_neg (i32_nlt.mpr h90)]; done) | (rw [if_pos (i32_nle.mp h90)])
        · refine p_iload d_Bo_playAhead_93 rfl ?_
          refine p_is_4 d_Bo_playAhead_95 (by decide) rfl ?_
          refine p_iload d_Bo_playAhead_97 rfl ?_
          refine p_is_3 d_Bo_playAhead_99 (by decide) rfl ?_
          refine p_incN_5_1 d_Bo_playAhead_100 (by decide) rfl ?_
          refine p_goto (tgt := 31) d_Bo_playAhead_103 (by decide) ?_
          refine ih (a + 1) _ _ _ IS rfl (by omega) hF1 ?_
          rw [hF]
          show (if gA n q t a < l then _ else _) = _
          first | (rw [if_neg (i32_nlt.mpr h90)]; done) | (rw [if_pos (i32_nle.mp h90)])
  refine ct_of [.ref 1, .int (nI q), .int (nI w), .null, .null, .null, .null] (by decide +kernel) rfl (leb rfl) rfl ?_
  refine p_iload_n d_Bo_playAhead_0 rfl ?_
  refine p_ic_1 d_Bo_playAhead_1 ?_
  refine p_bi_30 d_Bo_playAhead_2 ?_
  refine q_S1 d_Bo_playAhead_4 ml_Bo_64 sb_Bo_within ⟨leb rfl, leb rfl⟩ (c_within Γ S0 _ _ (nI q) 1 30) rfl rfl rfl ?_
  refine p_ifeqB (tgt := 19) d_Bo_playAhead_7 (by decide) (fun h7 => ?_) (fun h7 => ?_)
  · exact absurd (i30 q hq1 hq) h7
  · refine p_iload_n d_Bo_playAhead_10 rfl ?_
    refine p_ic_0 d_Bo_playAhead_11 ?_
    refine p_ic_1 d_Bo_playAhead_12 ?_
    refine q_S1 d_Bo_playAhead_13 ml_Bo_64 sb_Bo_within ⟨leb rfl, leb rfl⟩ (c_within Γ S0 _ _ (nI w) 0 1) rfl rfl rfl ?_
    refine p_ifneB (tgt := 22) d_Bo_playAhead_16 (by decide) (fun h16 => ?_) (fun h16 => ?_)
    · refine p_ic_0 d_Bo_playAhead_22 ?_
      refine p_is_3 d_Bo_playAhead_23 (by decide) rfl ?_
      refine p_ldc d_Bo_playAhead_24 kc_Bo_192 ?_
      refine p_is_4 d_Bo_playAhead_26 (by decide) rfl ?_
      refine p_ic_0 d_Bo_playAhead_28 ?_
      refine p_is_5 d_Bo_playAhead_29 (by decide) rfl ?_
      exact LP 21 0 _ _ _ I rfl (by omega) scF.rf rfl
    · exact absurd (i1 w hw) h16
theorem b_bySeat (Γ : Cx) (I : MemI) (J : MemJ) (n : Nat) (t : Nat → Int32) (V : Vw I n t) (hok : okT n t) (q : Nat) (hq : q ≤ 30) (a a2 : Int32) (hr : chR a a2) : Ct Γ M_Bo_apartBySeat [.ref 1, .int (nI q), .int a] S0 I J (bsQ (some (.int (stA n q t a2))) I J) := by
  have hn := V.1
  refine ct_of [.ref 1, .int (nI q), .int a] (by decide +kernel) rfl (leb rfl) rfl ?_
  refine p_aload_n d_Bo_apartBySeat_0 rfl ?_
  refine p_getR d_Bo_apartBySeat_1 fl_Bo_33 kd_1 rfl rf_1_4 ?_
  refine p_aload_n d_Bo_apartBySeat_4 rfl ?_
  refine p_getR d_Bo_apartBySeat_5 fl_Bo_29 kd_1 rfl rf_1_3 ?_
  refine q_V d_Bo_apartBySeat_8 ml_Bo_186 vb_Si_copyFrom kd_18 ⟨leb rfl, leb rfl⟩ (c_copy Γ I J 18 16 si_18 si_16 (by omega)) rfl rfl rfl (fun r S1 IT J1 hQ => ?_)
  obtain ⟨rfl, rfl, hJ, q1, q2, q3⟩ := hQ
  obtain rfl := hJ.symm
  have cS : SgR IT 18 n t := SgR_cp V.2.2.2.1 hn q1 q2
  have cF : scF I IT := fun z a b c => q3 z (by omega) (by omega)
  have V2 : Vw IT n t := V.sc cF
  refine p_aload_n d_Bo_apartBySeat_11 rfl ?_
  refine p_getR d_Bo_apartBySeat_12 fl_Bo_33 kd_1 rfl rf_1_4 ?_
  refine p_iload_n d_Bo_apartBySeat_15 rfl ?_
  refine p_putI d_Bo_apartBySeat_16 fl_Bo_140 kd_18 rfl nf_3_2 ?_
  refine p_aload_n d_Bo_apartBySeat_19 rfl ?_
  refine p_getR d_Bo_apartBySeat_20 fl_Bo_19 kd_1 rfl rf_1_1 ?_
  refine p_aload_n d_Bo_apartBySeat_23 rfl ?_
  refine p_getR d_Bo_apartBySeat_24 fl_Bo_33 kd_1 rfl rf_1_4 ?_
  refine p_iload_n d_Bo_apartBySeat_27 rfl ?_
  refine q_V d_Bo_apartBySeat_28 ml_Bo_163 vb_Ch_singLines kd_4 ⟨leb rfl, leb rfl⟩ (c_singLines Γ (up2 IT 18 2 a) J 4 18 n q (upd t 36 a2) ch_4 si_18 (by omega) (by omega) (V2.2.2.1.up hn (by omega)) (cS.set hn (Or.inr (Or.inl ⟨rfl, rfl, hr⟩))) (okT_upd hok (by omega))) rfl rfl rfl (fun r S1 IS J1 hQ => ?_)
  obtain ⟨rfl, rfl, hJ, l1, l2, l3, l4, l5⟩ := hQ
  obtain rfl := hJ.symm
  have sF : scF (up2 IT 18 2 a) IS := fun z a b c => l5 z (by omega) (by omega) (by omega)
  refine p_aload_n d_Bo_apartBySeat_31 rfl ?_
  refine p_getR d_Bo_apartBySeat_32 fl_Bo_33 kd_1 rfl rf_1_4 ?_
  refine p_aload_n d_Bo_apartBySeat_35 rfl ?_
  refine p_getR d_Bo_apartBySeat_36 fl_Bo_19 kd_1 rfl rf_1_1 ?_
  refine p_getI d_Bo_apartBySeat_39 fl_Bo_146 kd_4 (Or.inl rfl) ?_
  refine p_eqI (y := nI n) (((V2.sc scF.up).sc sF).2.2.1.1) ?_
  refine q_V1 d_Bo_apartBySeat_42 ml_Bo_149 vb_Si_apart kd_18 ⟨leb rfl, leb rfl⟩ (c_apart Γ IS J 18 n si_18 hn) rfl rfl rfl ?_
  refine p_iret d_Bo_apartBySeat_45 rfl rfl ?_
  exact ⟨by rw [ap_k l1]; rfl, rfl, rfl, (cF.tr scF.up).tr sF⟩
theorem b_seat (Γ : Cx) (I : MemI) (J : MemJ) (n : Nat) (t : Nat → Int32) (V : Vw I n t) (hok : okT n t) (q : Nat) (hq1 : 1 ≤ q) (hq : q ≤ 30) (w : Nat) (hw : w < 2) : Ct Γ M_Bo_seat [.ref 1, .int (nI q), .int (nI w)] S0 I J (bsQ (some (.int (pick w (stF n q t (n + 1) 0 (-1000009) 1000000)))) I J) := by
  have hn := V.1
  have LP : ∀ (f a : Nat) (b l : Int32) (v : Value) (I1 : MemI), v.category = 1 → a + f = n → scF I I1 → stF n q t (n + 1) 0 (-1000009) 1000000 = stF n q t (f + 1) a b l → WP Γ M_Bo_seat (0, 0) S0 I1 J 32 [.ref 1, .int (nI q), .int (nI w), .int b, .int l, .int (nI a), v] [] (bsQ (some (.int (pick w (stF n q t (n + 1) 0 (-1000009) 1000000)))) I J) := by
    intro f
    induction f with
    | zero =>
      intro a b l v I1 hv haf hF0 hF
      have V1 := V.sc hF0
      obtain rfl : a = n := by omega
      refine p_iload d_Bo_seat_32 rfl ?_
      refine p_aload_n d_Bo_seat_34 rfl ?_
      refine p_getR d_Bo_seat_35 fl_Bo_19 kd_1 rfl rf_1_1 ?_
      refine p_getI d_Bo_seat_38 fl_Bo_146 kd_4 (Or.inl rfl) ?_
      refine p_eqI (y := nI a) (V1.2.2.1.1) ?_
      refine p_icmpgeN (tgt := 73) (a) (a) d_Bo_seat_41 (by decide) rfl rfl (by omega) (by omega) (fun h41 => ?_) (fun h41 => ?_)
      · refine p_aload_n d_Bo_seat_73 rfl ?_
        refine p_iload_n d_Bo_seat_74 rfl ?_
        refine p_ldc d_Bo_seat_75 kc_Bo_174 ?_
        refine q_V d_Bo_seat_77 ml_Bo_196 vb_Bo_apartBySeat kd_1 ⟨leb rfl, leb rfl⟩ (b_bySeat Γ I1 J a t V1 hok q hq (-1000009) (-1) (Or.inl ⟨rfl, rfl⟩)) rfl rfl rfl (fun r S1 IS J1 hQ => ?_)
        obtain ⟨rfl, rfl, hJ, sF⟩ := hQ
        obtain rfl := hJ.symm
        have ec : stA a q t (-1) = stA a q t (cvk a a) := by unfold cvk; rw [if_neg (by omega)]
        refine p_is_5 d_Bo_seat_80 (by decide) rfl ?_
        refine p_iload d_Bo_seat_82 rfl ?_
        refine p_iload d_Bo_seat_84 rfl ?_
        refine p_icmpge (tgt := 96) d_Bo_seat_86 (by decide) (fun h86 => ?_) (fun h86 => ?_)
        · refine p_iload_n d_Bo_seat_96 rfl ?_
          refine p_ifne (tgt := 104) d_Bo_seat_97 (by decide) (fun h97 => ?_) (fun h97 => ?_)
          · have w0 : ¬ w = 0 := fun z => h97 (by rw [z]; rfl)
            refine p_iload d_Bo_seat_104 rfl ?_
            refine p_iret d_Bo_seat_106 rfl rfl ?_
            refine ⟨?_, rfl, rfl, hF0.tr sF⟩
            rw [hF]
            show _ = some (Value.int (pick w (if stA a q t (cvk a a) < l then (cvn a a, stA a q t (cvk a a)) else (b, l))))
            rw [← ec]
            have en : cvn a a = -1000009 := by unfold cvn; rw [if_neg (by omega)]
            rw [en]
            unfold pick
            first | (rw [if_pos w0, if_pos (i32_nle.mp h86)]; done) | (rw [if_pos w0, if_neg (i32_nlt.mpr h86)]; done) | (rw [if_neg w0, if_pos (i32_nle.mp h86)]; done) | (rw [if_neg w0, if_neg (i32_nlt.mpr h86)])
          · have w0 : w = 0 := (nI_eq (a := w) (b := 0) (by omega) (by omega)).mp h97
            refine p_iload_n d_Bo_seat_100 rfl ?_
            refine p_goto (tgt := 106) d_Bo_seat_101 (by decide) ?_
            refine p_iret d_Bo_seat_106 rfl rfl ?_
            refine ⟨?_, rfl, rfl, hF0.tr sF⟩
            rw [hF]
            show _ = some (Value.int (pick w (if stA a q t (cvk a a) < l then (cvn a a, stA a q t (cvk a a)) else (b, l))))
            rw [← ec]
            have en : cvn a a = -1000009 := by unfold cvn; rw [if_neg (by omega)]
            rw [en]
            unfold pick
            first | (rw [if_pos w0, if_pos (i32_nle.mp h86)]; done) | (rw [if_pos w0, if_neg (i32_nlt.mpr h86)]; done) | (rw [if_neg w0, if_pos (i32_nle.mp h86)]; done) | (rw [if_neg w0, if_neg (i32_nlt.mpr h86)])
        · refine p_iload d_Bo_seat_89 rfl ?_
          refine p_is_4 d_Bo_seat_91 (by decide) rfl ?_
          refine p_ldc d_Bo_seat_93 kc_Bo_174 ?_
          refine p_is_3 d_Bo_seat_95 (by decide) rfl ?_
          refine p_iload_n d_Bo_seat_96 rfl ?_
          refine p_ifne (tgt := 104) d_Bo_seat_97 (by decide) (fun h97 => ?_) (fun h97 => ?_)
          · have w0 : ¬ w = 0 := fun z => h97 (by rw [z]; rfl)
            refine p_iload d_Bo_seat_104 rfl ?_
            refine p_iret d_Bo_seat_106 rfl rfl ?_
            refine ⟨?_, rfl, rfl, hF0.tr sF⟩
            rw [hF]
            show _ = some (Value.int (pick w (if stA a q t (cvk a a) < l then (cvn a a, stA a q t (cvk a a)) else (b, l))))
            rw [← ec]
            have en : cvn a a = -1000009 := by unfold cvn; rw [if_neg (by omega)]
            rw [en]
            unfold pick
            first | (rw [if_pos w0, if_pos (i32_nle.mp h86)]; done) | (rw [if_pos w0, if_neg (i32_nlt.mpr h86)]; done) | (rw [if_neg w0, if_pos (i32_nle.mp h86)]; done) | (rw [if_neg w0, if_neg (i32_nlt.mpr h86)])
          · have w0 : w = 0 := (nI_eq (a := w) (b := 0) (by omega) (by omega)).mp h97
            refine p_iload_n d_Bo_seat_100 rfl ?_
            refine p_goto (tgt := 106) d_Bo_seat_101 (by decide) ?_
            refine p_iret d_Bo_seat_106 rfl rfl ?_
            refine ⟨?_, rfl, rfl, hF0.tr sF⟩
            rw [hF]
            show _ = some (Value.int (pick w (if stA a q t (cvk a a) < l then (cvn a a, stA a q t (cvk a a)) else (b, l))))
            rw [← ec]
            have en : cvn a a = -1000009 := by unfold cvn; rw [if_neg (by omega)]
            rw [en]
            unfold pick
            first | (rw [if_pos w0, if_pos (i32_nle.mp h86)]; done) | (rw [if_pos w0, if_neg (i32_nlt.mpr h86)]; done) | (rw [if_neg w0, if_pos (i32_nle.mp h86)]; done) | (rw [if_neg w0, if_neg (i32_nlt.mpr h86)])
      · exact absurd (Nat.le_refl _) h41
    | succ f ih =>
      intro a b l v I1 hv haf hF0 hF
      have V1 := V.sc hF0
      refine p_iload d_Bo_seat_32 rfl ?_
      refine p_aload_n d_Bo_seat_34 rfl ?_
      refine p_getR d_Bo_seat_35 fl_Bo_19 kd_1 rfl rf_1_1 ?_
      refine p_getI d_Bo_seat_38 fl_Bo_146 kd_4 (Or.inl rfl) ?_
      refine p_eqI (y := nI n) (V1.2.2.1.1) ?_
      refine p_icmpgeN (tgt := 73) (a) (n) d_Bo_seat_41 (by decide) rfl rfl (by omega) (by omega) (fun h41 => ?_) (fun h41 => ?_)
      · exact absurd h41 (by omega)
      · refine p_aload_n d_Bo_seat_44 rfl ?_
        refine p_iload_n d_Bo_seat_45 rfl ?_
        refine p_iload d_Bo_seat_46 rfl ?_
        refine q_V d_Bo_seat_48 ml_Bo_196 vb_Bo_apartBySeat kd_1 ⟨leb rfl, leb rfl⟩ (b_bySeat Γ I1 J n t V1 hok q hq (nI a) (nI a) (Or.inr ⟨a, by omega, rfl, rfl⟩)) rfl rfl rfl (fun r S1 IS J1 hQ => ?_)
        obtain ⟨rfl, rfl, hJ, sF⟩ := hQ
        obtain rfl := hJ.symm
        have ec : cvk n a = nI a := by unfold cvk; rw [if_pos (by omega)]
        have en : cvn n a = nI a := by unfold cvn; rw [if_pos (by omega)]
        refine p_is_6 d_Bo_seat_51 (by decide) rfl ?_
        refine p_iload d_Bo_seat_53 rfl ?_
        refine p_iload d_Bo_seat_55 rfl ?_
        refine p_icmpge (tgt := 67) d_Bo_seat_57 (by decide) (fun h57 => ?_) (fun h57 => ?_)
        · refine p_incN_5_1 d_Bo_seat_67 (by decide) rfl ?_
          refine p_goto (tgt := 32) d_Bo_seat_70 (by decide) ?_
          refine ih (a + 1) _ _ _ IS rfl (by omega) (hF0.tr sF) ?_
          rw [hF]
          show (if stA n q t (cvk n a) < l then stF n q t (f + 1) (a + 1) (cvn n a) (stA n q t (cvk n a)) else stF n q t (f + 1) (a + 1) b l) = _
          rw [ec, en]
          first | (rw [if_neg (i32_nlt.mpr h57)]; done) | (rw [if_pos (i32_nle.mp h57)])
        · refine p_iload d_Bo_seat_60 rfl ?_
          refine p_is_4 d_Bo_seat_62 (by decide) rfl ?_
          refine p_iload d_Bo_seat_64 rfl ?_
          refine p_is_3 d_Bo_seat_66 (by decide) rfl ?_
          refine p_incN_5_1 d_Bo_seat_67 (by decide) rfl ?_
          refine p_goto (tgt := 32) d_Bo_seat_70 (by decide) ?_
          refine ih (a + 1) _ _ _ IS rfl (by omega) (hF0.tr sF) ?_
          rw [hF]
          show (if stA n q t (cvk n a) < l then stF n q t (f + 1) (a + 1) (cvn n a) (stA n q t (cvk n a)) else stF n q t (f + 1) (a + 1) b l) = _
          rw [ec, en]
          first | (rw [if_neg (i32_nlt.mpr h57)]; done) | (rw [if_pos (i32_nle.mp h57)])
  refine ct_of [.ref 1, .int (nI q), .int (nI w), .null, .null, .null, .null] (by decide +kernel) rfl (leb rfl) rfl ?_
  refine p_iload_n d_Bo_seat_0 rfl ?_
  refine p_ic_1 d_Bo_seat_1 ?_
  refine p_bi_30 d_Bo_seat_2 ?_
  refine q_S1 d_Bo_seat_4 ml_Bo_64 sb_Bo_within ⟨leb rfl, leb rfl⟩ (c_within Γ S0 _ _ (nI q) 1 30) rfl rfl rfl ?_
  refine p_ifeqB (tgt := 19) d_Bo_seat_7 (by decide) (fun h7 => ?_) (fun h7 => ?_)
  · exact absurd (i30 q hq1 hq) h7
  · refine p_iload_n d_Bo_seat_10 rfl ?_
    refine p_ic_0 d_Bo_seat_11 ?_
    refine p_ic_1 d_Bo_seat_12 ?_
    refine q_S1 d_Bo_seat_13 ml_Bo_64 sb_Bo_within ⟨leb rfl, leb rfl⟩ (c_within Γ S0 _ _ (nI w) 0 1) rfl rfl rfl ?_
    refine p_ifneB (tgt := 22) d_Bo_seat_16 (by decide) (fun h16 => ?_) (fun h16 => ?_)
    · refine p_ldc d_Bo_seat_22 kc_Bo_174 ?_
      refine p_is_3 d_Bo_seat_24 (by decide) rfl ?_
      refine p_ldc d_Bo_seat_25 kc_Bo_192 ?_
      refine p_is_4 d_Bo_seat_27 (by decide) rfl ?_
      refine p_ic_0 d_Bo_seat_29 ?_
      refine p_is_5 d_Bo_seat_30 (by decide) rfl ?_
      exact LP n 0 _ _ _ I rfl (by omega) scF.rf rfl
    · exact absurd (i1 w hw) h16
theorem b_gaps_bad (Γ : Cx) (I : MemI) (J : MemJ) (d : Int32) (hb : ¬ (0 ≤ d ∧ d ≤ 99)) : Ct Γ M_Bo_gaps [.ref 1, .int d] S0 I J (eqQ (some (.int (-1000001))) S0 I J) := by
  refine ct_of [.ref 1, .int d, .null, .null] (by decide +kernel) rfl (leb rfl) rfl ?_
  refine p_iload_n d_Bo_gaps_0 rfl ?_
  refine p_ic_0 d_Bo_gaps_1 ?_
  refine p_bi_99 d_Bo_gaps_2 ?_
  refine q_S1 d_Bo_gaps_4 ml_Bo_64 sb_Bo_within ⟨leb rfl, leb rfl⟩ (c_within Γ S0 _ _ d 0 99) rfl rfl rfl ?_
  refine p_ifneB (tgt := 13) d_Bo_gaps_7 (by decide) (fun h7 => ?_) (fun h7 => ?_)
  · exact absurd h7 hb
  · refine p_ldc d_Bo_gaps_10 kc_Bo_68 ?_
    refine p_iret d_Bo_gaps_12 rfl rfl ?_
    exact ⟨rfl, rfl, rfl, rfl⟩
def gcF (x d : Int32) : Nat → Nat → Int32
  | 0, _ => (-1000009)
  | f + 1, g => if dv x (nI (g + 1)) ≤ d then nI g else gcF x d f (g + 1)
theorem b_gaps (Γ : Cx) (I : MemI) (J : MemJ) (n : Nat) (t : Nat → Int32) (V : Vw I n t) (hok : okT n t) (ln : Nat) (hln : t 2 = nI ln) (hl9 : ln ≤ 9) (d : Int32) (hd : 0 ≤ d ∧ d ≤ 99) : Ct Γ M_Bo_gaps [.ref 1, .int d] S0 I J (bsQ (some (.int (gcF (grT n (itS n t ln)) d 10 0))) I J) := by
  have hn := V.1
  have LP : ∀ (f g : Nat) (I1 : MemI), g + f = 10 → scF I I1 → gcF (grT n (itS n t ln)) d 10 0 = gcF (grT n (itS n t ln)) d f g → WP Γ M_Bo_gaps (0, 0) S0 I1 J 59 [.ref 1, .int d, .int (grT n (itS n t ln)), .int (nI g)] [] (bsQ (some (.int (gcF (grT n (itS n t ln)) d 10 0))) I J) := by
    intro f
    induction f with
    | zero =>
      intro g I1 hgf hF0 hF
      obtain rfl : g = 10 := by omega
      refine p_iload_n d_Bo_gaps_59 rfl ?_
      refine p_bi_9 d_Bo_gaps_60 ?_
      refine p_icmpgtN (tgt := 84) (10) (9) d_Bo_gaps_62 (by decide) rfl rfl (by omega) (by omega) (fun h62 => ?_) (fun h62 => ?_)
      · refine p_ldc d_Bo_gaps_84 kc_Bo_174 ?_
        refine p_iret d_Bo_gaps_86 rfl rfl ?_
        exact ⟨by rw [hF]; rfl, rfl, rfl, hF0⟩
      · exact absurd (by omega) h62
    | succ f ih =>
      intro g I1 hgf hF0 hF
      refine p_iload_n d_Bo_gaps_59 rfl ?_
      refine p_bi_9 d_Bo_gaps_60 ?_
      refine p_icmpgtN (tgt := 84) (g) (9) d_Bo_gaps_62 (by decide) rfl rfl (by omega) (by omega) (fun h62 => ?_) (fun h62 => ?_)
      · exact absurd h62 (by omega)
      · refine p_iload_n d_Bo_gaps_65 rfl ?_
        refine p_iload_n d_Bo_gaps_66 rfl ?_
        refine p_ic_1 d_Bo_gaps_67 ?_
        refine p_iaddN (g) (1) d_Bo_gaps_68 rfl rfl ?_
        refine q_S1 d_Bo_gaps_69 ml_Bo_170 sb_Bo_divided ⟨leb rfl, leb rfl⟩ (c_divided Γ S0 _ _ (grT n (itS n t ln)) (nI (g + 1))) rfl rfl rfl ?_
        refine p_iload_n d_Bo_gaps_72 rfl ?_
        refine p_icmpgt (tgt := 78) d_Bo_gaps_73 (by decide) (fun h73 => ?_) (fun h73 => ?_)
        · refine p_incN_3_1 d_Bo_gaps_78 (by decide) rfl ?_
          refine p_goto (tgt := 59) d_Bo_gaps_81 (by decide) ?_
          refine ih (g + 1) I1 (by omega) hF0 ?_
          rw [hF]
          show (if dv (grT n (itS n t ln)) (nI (g + 1)) ≤ d then nI g else gcF (grT n (itS n t ln)) d f (g + 1)) = _
          rw [if_neg (i32_nle.mpr h73)]
        · refine p_iload_n d_Bo_gaps_76 rfl ?_
          refine p_iret d_Bo_gaps_77 rfl rfl ?_
          refine ⟨?_, rfl, rfl, hF0⟩
          rw [hF]
          unfold gcF
          rw [if_pos (i32_nlt.mp h73)]
  refine ct_of [.ref 1, .int d, .null, .null] (by decide +kernel) rfl (leb rfl) rfl ?_
  refine p_iload_n d_Bo_gaps_0 rfl ?_
  refine p_ic_0 d_Bo_gaps_1 ?_
  refine p_bi_99 d_Bo_gaps_2 ?_
  refine q_S1 d_Bo_gaps_4 ml_Bo_64 sb_Bo_within ⟨leb rfl, leb rfl⟩ (c_within Γ S0 _ _ d 0 99) rfl rfl rfl ?_
  refine p_ifneB (tgt := 13) d_Bo_gaps_7 (by decide) (fun h7 => ?_) (fun h7 => ?_)
  · refine p_aload_n d_Bo_gaps_13 rfl ?_
    refine p_getR d_Bo_gaps_14 fl_Bo_33 kd_1 rfl rf_1_4 ?_
    refine p_aload_n d_Bo_gaps_17 rfl ?_
    refine p_getR d_Bo_gaps_18 fl_Bo_29 kd_1 rfl rf_1_3 ?_
    refine q_V d_Bo_gaps_21 ml_Bo_186 vb_Si_copyFrom kd_18 ⟨leb rfl, leb rfl⟩ (c_copy Γ I J 18 16 si_18 si_16 (by omega)) rfl rfl rfl (fun r S1 IT J1 hQ => ?_)
    obtain ⟨rfl, rfl, hJ, q1, q2, q3⟩ := hQ
    obtain rfl := hJ.symm
    have cS : SgR IT 18 n t := SgR_cp V.2.2.2.1 hn q1 q2
    have cF : scF I IT := fun z a b c => q3 z (by omega) (by omega)
    have V2 : Vw IT n t := V.sc cF
    refine p_aload_n d_Bo_gaps_24 rfl ?_
    refine p_getR d_Bo_gaps_25 fl_Bo_19 kd_1 rfl rf_1_1 ?_
    refine p_aload_n d_Bo_gaps_28 rfl ?_
    refine p_getR d_Bo_gaps_29 fl_Bo_33 kd_1 rfl rf_1_4 ?_
    refine p_aload_n d_Bo_gaps_32 rfl ?_
    refine p_getR d_Bo_gaps_33 fl_Bo_19 kd_1 rfl rf_1_1 ?_
    refine p_getI d_Bo_gaps_36 fl_Bo_160 kd_4 (Or.inl rfl) ?_
    refine p_eqI (y := nI ln) (by rw [V2.2.2.2.2.2.1]; exact hln) ?_
    refine q_V d_Bo_gaps_39 ml_Bo_163 vb_Ch_singLines kd_4 ⟨leb rfl, leb rfl⟩ (c_singLines Γ IT J 4 18 n ln t ch_4 si_18 (by omega) (by omega) (V2.2.2.1) (cS) (hok)) rfl rfl rfl (fun r S1 IS J1 hQ => ?_)
    obtain ⟨rfl, rfl, hJ, l1, l2, l3, l4, l5⟩ := hQ
    obtain rfl := hJ.symm
    have sF : scF IT IS := fun z a b c => l5 z (by omega) (by omega) (by omega)
    refine p_aload_n d_Bo_gaps_42 rfl ?_
    refine p_getR d_Bo_gaps_43 fl_Bo_33 kd_1 rfl rf_1_4 ?_
    refine p_aload_n d_Bo_gaps_46 rfl ?_
    refine p_getR d_Bo_gaps_47 fl_Bo_19 kd_1 rfl rf_1_1 ?_
    refine p_getI d_Bo_gaps_50 fl_Bo_146 kd_4 (Or.inl rfl) ?_
    refine p_eqI (y := nI n) ((V2.sc sF).2.2.1.1) ?_
    refine q_V1 d_Bo_gaps_53 ml_Bo_193 vb_Si_greatest kd_18 ⟨leb rfl, leb rfl⟩ (c_greatest Γ IS J 18 n si_18 hn) rfl rfl rfl ?_
    refine p_eqI (y := (grT n (itS n t ln))) (gr_k l1) ?_
    refine p_is_2 d_Bo_gaps_56 (by decide) rfl ?_
    refine p_ic_0 d_Bo_gaps_57 ?_
    refine p_is_3 d_Bo_gaps_58 (by decide) rfl ?_
    exact LP 10 0 IS (by omega) (cF.tr sF) rfl
  · exact absurd hd h7
