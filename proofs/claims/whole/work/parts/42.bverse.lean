/-! ===== the class's own calls: a verse, a church ===== -/
theorem b_verse_st (Γ : Cx) (I : MemI) (J : MemJ) (n : Nat) (t : Nat → Int32) (V : Vw I n t) (hs : 999 < t 38 + t 2) : Ct Γ M_Bo_verse [.ref 1] S0 I J (eqQ (some (.int (-1000002))) S0 I J) := by
  refine ct_of [.ref 1, .null] (by decide +kernel) rfl (leb rfl) rfl ?_
  refine p_aload_n d_Bo_verse_0 rfl ?_
  refine p_getR d_Bo_verse_1 fl_Bo_29 kd_1 rfl rf_1_3 ?_
  refine p_getI d_Bo_verse_4 fl_Bo_131 kd_16 (Or.inl rfl) ?_
  refine p_eqI (y := t 38) (V.2.2.2.2.1) ?_
  refine p_aload_n d_Bo_verse_7 rfl ?_
  refine p_getR d_Bo_verse_8 fl_Bo_19 kd_1 rfl rf_1_1 ?_
  refine p_getI d_Bo_verse_11 fl_Bo_160 kd_4 (Or.inl rfl) ?_
  refine p_eqI (y := t 2) (V.2.2.2.2.2.1) ?_
  refine p_iadd d_Bo_verse_14 ?_
  refine p_si_999 d_Bo_verse_15 ?_
  refine p_icmple (tgt := 24) d_Bo_verse_18 (by decide) (fun h18 => ?_) (fun h18 => ?_)
  · exact absurd hs (i32_nlt.mpr h18)
  · refine p_ldc d_Bo_verse_21 kc_Bo_152 ?_
    refine p_iret d_Bo_verse_23 rfl rfl ?_
    exact ⟨rfl, rfl, rfl, rfl⟩
theorem b_verse (Γ : Cx) (I : MemI) (J : MemJ) (n : Nat) (t : Nat → Int32) (V : Vw I n t) (x u : Nat) (hx : x < 10) (h1 : I 22 1 = nI x) (h2 : I 22 2 = nI u) (hu : u ≤ 10) (hok : okT n t) (s ln g : Nat) (hs6 : t 38 = nI s) (hs : s + ln ≤ 999) (hln : t 2 = nI ln) (hl9 : ln ≤ 9) (hg : t 3 = nI g) (hg9 : g ≤ 9) : Ct Γ M_Bo_verse [.ref 1] S0 I J (baQ (some (.int (itS n t ln 34))) x u n (rsT n g (itS n t ln)) I J) := by
  have hn := V.1
  obtain ⟨s1, s2, s3, s4, s5, s6⟩ := V.2.2.2.1
  have s7 := V.2.2.2.2.1
  have LP : ∀ (f k : Nat) (IH I1 : MemI), k + f = n → hrQ x u I J none S0 IH J → (∀ z, z ≠ 9 → z ≠ 16 → z ≠ 17 → I1 z = IH z) → SgR I1 16 n (rsT k g (itS n t ln)) → I1 16 6 = itS n t ln 38 → WP Γ M_Bo_verse (0, 0) S0 I1 J 55 [.ref 1, .int (nI k)] [] (baQ (some (.int (itS n t ln 34))) x u n (rsT n g (itS n t ln)) I J) := by
    intro f
    induction f with
    | zero =>
      intro k IH I1 hkf hH hz hS h6
      have c4 : I1 4 = I 4 := by rw [hz 4 (by omega) (by omega) (by omega)]; exact hH.2.2.2.2.2.2.2 4 (by omega) (by omega) (by omega)
      obtain rfl : k = n := by omega
      refine p_iload_n d_Bo_verse_55 rfl ?_
      refine p_aload_n d_Bo_verse_56 rfl ?_
      refine p_getR d_Bo_verse_57 fl_Bo_19 kd_1 rfl rf_1_1 ?_
      refine p_getI d_Bo_verse_60 fl_Bo_146 kd_4 (Or.inl rfl) ?_
      refine p_eqI (y := nI k) (by rw [c4]; exact V.2.2.1.1) ?_
      refine p_icmpgeN (tgt := 102) (k) (k) d_Bo_verse_63 (by decide) rfl rfl (by omega) (by omega) (fun h63 => ?_) (fun h63 => ?_)
      · refine p_aload_n d_Bo_verse_102 rfl ?_
        refine p_getR d_Bo_verse_103 fl_Bo_29 kd_1 rfl rf_1_3 ?_
        refine p_getI d_Bo_verse_106 fl_Bo_134 kd_16 (Or.inl rfl) ?_
        refine p_eqI (y := itS k t ln 34) (by rw [hS.2.2.2.2.2]; unfold rsT; rw [if_neg (by omega)]) ?_
        refine p_iret d_Bo_verse_109 rfl rfl ?_
        refine baQ_of hH hz hS ?_
        rw [h6]; unfold rsT; rw [if_neg (by omega)]
      · exact absurd (Nat.le_refl _) h63
    | succ f ih =>
      intro k IH I1 hkf hH hz hS h6
      have c4 : I1 4 = I 4 := by rw [hz 4 (by omega) (by omega) (by omega)]; exact hH.2.2.2.2.2.2.2 4 (by omega) (by omega) (by omega)
      refine p_iload_n d_Bo_verse_55 rfl ?_
      refine p_aload_n d_Bo_verse_56 rfl ?_
      refine p_getR d_Bo_verse_57 fl_Bo_19 kd_1 rfl rf_1_1 ?_
      refine p_getI d_Bo_verse_60 fl_Bo_146 kd_4 (Or.inl rfl) ?_
      refine p_eqI (y := nI n) (by rw [c4]; exact V.2.2.1.1) ?_
      refine p_icmpgeN (tgt := 102) (k) (n) d_Bo_verse_63 (by decide) rfl rfl (by omega) (by omega) (fun h63 => ?_) (fun h63 => ?_)
      · exact absurd h63 (by omega)
      · refine p_aload_n d_Bo_verse_66 rfl ?_
        refine p_getR d_Bo_verse_67 fl_Bo_29 kd_1 rfl rf_1_3 ?_
        refine p_getR d_Bo_verse_70 fl_Bo_121 kd_16 rfl rf_16_0 ?_
        refine p_iload_n d_Bo_verse_73 rfl ?_
        refine p_aload_n d_Bo_verse_74 rfl ?_
        refine p_getR d_Bo_verse_75 fl_Bo_29 kd_1 rfl rf_1_3 ?_
        refine p_getR d_Bo_verse_78 fl_Bo_121 kd_16 rfl rf_16_0 ?_
        refine p_iload_n d_Bo_verse_81 rfl ?_
        refine p_ialdN (k) d_Bo_verse_82 ar_17 rfl (by omega) rfl ?_
        refine p_eqI (y := itS n t ln (28 + k)) (by rw [hS.1 k (by omega)]; unfold rsT; rw [if_neg (by omega)]) ?_
        refine p_aload_n d_Bo_verse_83 rfl ?_
        refine p_getR d_Bo_verse_84 fl_Bo_19 kd_1 rfl rf_1_1 ?_
        refine p_getI d_Bo_verse_87 fl_Bo_167 kd_4 (Or.inl rfl) ?_
        refine p_eqI (y := nI g) (by rw [c4, ← hg]; exact V.2.2.2.2.2.2) ?_
        refine p_ic_1 d_Bo_verse_90 ?_
        refine p_iaddN (g) (1) d_Bo_verse_91 rfl rfl ?_
        refine q_S1 d_Bo_verse_92 ml_Bo_170 sb_Bo_divided ⟨leb rfl, leb rfl⟩ (c_divided Γ S0 _ _ (itS n t ln (28 + k)) (nI (g + 1))) rfl rfl rfl ?_
        refine p_iastN (k) d_Bo_verse_95 ar_17 rfl (by omega) rfl ?_
        refine p_incN_1_1 d_Bo_verse_96 (by decide) rfl ?_
        refine p_goto (tgt := 55) d_Bo_verse_99 (by decide) ?_
        refine ih (k + 1) IH _ (by omega) hH (fun z a b c => by rw [up2_o c]; exact hz z a b c) ⟨fun j hj => ?_, ?_, ?_, ?_, ?_, ?_⟩ (by rw [up2_ne (by omega)]; exact h6)
        · by_cases q : j = k
          · subst q
            rw [up2_s]
            unfold rsT dv
            rw [if_neg (ne0 (u := g) (by omega)), if_pos (by omega)]
          · rw [up2_ne (by omega), hS.1 j hj]
            unfold rsT
            by_cases q2 : j < k
            · rw [if_pos (by omega), if_pos (by omega)]
            · rw [if_neg (by omega), if_neg (by omega)]
        · rw [up2_ne (by omega)]; have z := hS.2.1; unfold rsT at z ⊢; rw [if_neg (by omega)] at z ⊢; exact z
        · rw [up2_ne (by omega)]; have z := hS.2.2.1; unfold rsT at z ⊢; rw [if_neg (by omega)] at z ⊢; exact z
        · rw [up2_ne (by omega)]; have z := hS.2.2.2.1; unfold rsT at z ⊢; rw [if_neg (by omega)] at z ⊢; exact z
        · rw [up2_ne (by omega)]; have z := hS.2.2.2.2.1; unfold rsT at z ⊢; rw [if_neg (by omega)] at z ⊢; exact z
        · rw [up2_ne (by omega)]; have z := hS.2.2.2.2.2; unfold rsT at z ⊢; rw [if_neg (by omega)] at z ⊢; exact z
  refine ct_of [.ref 1, .null] (by decide +kernel) rfl (leb rfl) rfl ?_
  refine p_aload_n d_Bo_verse_0 rfl ?_
  refine p_getR d_Bo_verse_1 fl_Bo_29 kd_1 rfl rf_1_3 ?_
  refine p_getI d_Bo_verse_4 fl_Bo_131 kd_16 (Or.inl rfl) ?_
  refine p_eqI (y := nI s) (by rw [s7]; exact hs6) ?_
  refine p_aload_n d_Bo_verse_7 rfl ?_
  refine p_getR d_Bo_verse_8 fl_Bo_19 kd_1 rfl rf_1_1 ?_
  refine p_getI d_Bo_verse_11 fl_Bo_160 kd_4 (Or.inl rfl) ?_
  refine p_eqI (y := nI ln) (by rw [V.2.2.2.2.2.1]; exact hln) ?_
  refine p_iaddN (s) (ln) d_Bo_verse_14 rfl rfl ?_
  refine p_si_999 d_Bo_verse_15 ?_
  refine p_icmpleN (tgt := 24) (s + ln) (999) d_Bo_verse_18 (by decide) rfl rfl (by omega) (by omega) (fun h18 => ?_) (fun h18 => ?_)
  · refine p_aload_n d_Bo_verse_24 rfl ?_
    refine p_getR d_Bo_verse_25 fl_Bo_42 kd_1 rfl rf_1_6 ?_
    refine p_aload_n d_Bo_verse_28 rfl ?_
    refine p_getR d_Bo_verse_29 fl_Bo_29 kd_1 rfl rf_1_3 ?_
    refine q_V d_Bo_verse_32 ml_Bo_153 vb_Hi_remember kd_22 ⟨leb rfl, leb rfl⟩ (c_hiRem Γ I J x u hx h1 h2 hu) rfl rfl rfl (fun r S1 IH J1 hQ => ?_)
    have hH := hQ
    obtain ⟨rfl, rfl, hJ, a1, a2, a3, a4, a5⟩ := hQ
    obtain rfl := hJ.symm
    have r16 : IH 16 = I 16 := a5 16 (by decide) (by omega) (by omega)
    have r17 : IH 17 = I 17 := a5 17 (by decide) (by omega) (by omega)
    have rC : ∀ z, z < 16 → IH z = I z := fun z q => a5 z (by omega) (by omega) (by omega)
    refine p_aload_n d_Bo_verse_35 rfl ?_
    refine p_getR d_Bo_verse_36 fl_Bo_19 kd_1 rfl rf_1_1 ?_
    refine p_aload_n d_Bo_verse_39 rfl ?_
    refine p_getR d_Bo_verse_40 fl_Bo_29 kd_1 rfl rf_1_3 ?_
    refine p_aload_n d_Bo_verse_43 rfl ?_
    refine p_getR d_Bo_verse_44 fl_Bo_19 kd_1 rfl rf_1_1 ?_
    refine p_getI d_Bo_verse_47 fl_Bo_160 kd_4 (Or.inl rfl) ?_
    refine p_eqI (y := nI ln) (by rw [rC 4 (by omega), V.2.2.2.2.2.1]; exact hln) ?_
    refine q_V d_Bo_verse_50 ml_Bo_163 vb_Ch_singLines kd_4 ⟨leb rfl, leb rfl⟩ (c_singLines Γ IH J 4 16 n ln t ch_4 si_16 (by omega) (by omega) (V.2.2.1.mv (rC 4 (by omega)) (rC 5 (by omega)) (rC 6 (by omega)) (rC 7 (by omega)) (rC 8 (by omega))) (V.2.2.2.1.mv r16 r17) hok) rfl rfl rfl (fun r S1 IS J1 hQ => ?_)
    obtain ⟨rfl, rfl, hJ, l1, l2, l3, l4, l5⟩ := hQ
    obtain rfl := hJ.symm
    refine p_ic_0 d_Bo_verse_53 ?_
    refine p_is_1 d_Bo_verse_54 (by decide) rfl ?_
    have i16 : ∀ y, y < 28 ∨ 34 < y ∧ y ≠ 38 → itS n t ln y = t y := fun y q => it_low y q ln hn
    refine LP n 0 IH IS (by omega) hH (fun z a b c => l5 z b c a) ⟨fun k hk => ?_, ?_, ?_, ?_, ?_, ?_⟩ ?_
    · unfold rsT; rw [if_neg (by omega)]; exact l1 k hk
    · unfold rsT; rw [if_neg (by omega), i16 35 (by omega), l4 1 (by omega) (by omega), r16]; exact s2
    · unfold rsT; rw [if_neg (by omega), i16 36 (by omega), l4 2 (by omega) (by omega), r16]; exact s3
    · unfold rsT; rw [if_neg (by omega), i16 37 (by omega), l4 3 (by omega) (by omega), r16]; exact s4
    · unfold rsT; rw [if_neg (by omega), i16 1 (by omega), l4 4 (by omega) (by omega), r16]; exact s5
    · unfold rsT; rw [if_neg (by omega)]; exact l2
    · rw [l3, r16, s7, hs6, it6_s ln hs]; exact (itS_38 hn hs6 ln).symm
  · exact absurd hs h18
def anQ (w : Int32) (I : MemI) (J : MemJ) : PQ := fun r S' I' J' => r = none ∧ S' = S0 ∧ J' = J ∧ (∀ k, k < 6 → I' 17 k = 0) ∧ I' 16 1 = 0 ∧ I' 16 2 = (-1000009) ∧ I' 16 3 = 0 ∧ I' 16 4 = w ∧ I' 16 5 = 0 ∧ I' 16 6 = 0 ∧ I' 22 2 = 0 ∧ I' 1 12 = 0 ∧ I' 49 0 = 0 ∧ I' 49 1 = 0 ∧ (∀ y, y ≠ 2 → I' 22 y = I 22 y) ∧ (∀ y, y ≠ 12 → I' 1 y = I 1 y) ∧ ∀ x, x ≠ 1 → x ≠ 16 → x ≠ 17 → x ≠ 22 → x ≠ 49 → I' x = I x
theorem b_anew (Γ : Cx) (I : MemI) (J : MemJ) : Ct Γ M_Bo_beginAnew [.ref 1] S0 I J (anQ (I 4 5) I J) := by
  refine ct_of [.ref 1, .null] (by decide +kernel) rfl (leb rfl) rfl ?_
  refine p_aload_n d_Bo_beginAnew_0 rfl ?_
  refine p_getR d_Bo_beginAnew_1 fl_Bo_29 kd_1 rfl rf_1_3 ?_
  refine p_aload_n d_Bo_beginAnew_4 rfl ?_
  refine p_getR d_Bo_beginAnew_5 fl_Bo_19 kd_1 rfl rf_1_1 ?_
  refine p_getI d_Bo_beginAnew_8 fl_Bo_93 kd_4 (Or.inl rfl) ?_
  refine q_V d_Bo_beginAnew_11 ml_Bo_96 vb_Si_begin kd_16 ⟨leb rfl, leb rfl⟩ (c_begin Γ I J 16 si_16 (I 4 5)) rfl rfl rfl (fun r S1 IB J1 hQ => ?_)
  obtain ⟨rfl, rfl, hJ, b1, b2, b3, b4, b5, b6, b7, b8⟩ := hQ
  obtain rfl := hJ.symm
  refine p_aload_n d_Bo_beginAnew_14 rfl ?_
  refine p_getR d_Bo_beginAnew_15 fl_Bo_42 kd_1 rfl rf_1_6 ?_
  refine p_ic_0 d_Bo_beginAnew_18 ?_
  refine p_putI d_Bo_beginAnew_19 fl_Bo_100 kd_22 rfl nf_1_2 ?_
  refine p_aload_n d_Bo_beginAnew_22 rfl ?_
  refine p_ic_0 d_Bo_beginAnew_23 ?_
  refine p_putI d_Bo_beginAnew_24 fl_Bo_103 kd_1 rfl nf_4_12 ?_
  refine p_ic_0 d_Bo_beginAnew_27 ?_
  refine p_is_1 d_Bo_beginAnew_28 (by decide) rfl ?_
  refine p_iload_n d_Bo_beginAnew_29 rfl ?_
  refine p_ic_2 d_Bo_beginAnew_30 ?_
  refine p_icmpgeN (tgt := 47) (0) (2) d_Bo_beginAnew_31 (by decide) rfl rfl (by omega) (by omega) (fun h31 => ?_) (fun h31 => ?_)
  · exact absurd h31 (by omega)
  · refine p_aload_n d_Bo_beginAnew_34 rfl ?_
    refine p_getR d_Bo_beginAnew_35 fl_Bo_50 kd_1 rfl rf_1_8 ?_
    refine p_iload_n d_Bo_beginAnew_38 rfl ?_
    refine p_ic_0 d_Bo_beginAnew_39 ?_
    refine p_zastN (0) d_Bo_beginAnew_40 ar_49 rfl (by omega) rfl (Or.inl rfl) ?_
    refine p_incN_1_1 d_Bo_beginAnew_41 (by decide) rfl ?_
    refine p_goto (tgt := 29) d_Bo_beginAnew_44 (by decide) ?_
    refine p_iload_n d_Bo_beginAnew_29 rfl ?_
    refine p_ic_2 d_Bo_beginAnew_30 ?_
    refine p_icmpgeN (tgt := 47) (1) (2) d_Bo_beginAnew_31 (by decide) rfl rfl (by omega) (by omega) (fun h31 => ?_) (fun h31 => ?_)
    · exact absurd h31 (by omega)
    · refine p_aload_n d_Bo_beginAnew_34 rfl ?_
      refine p_getR d_Bo_beginAnew_35 fl_Bo_50 kd_1 rfl rf_1_8 ?_
      refine p_iload_n d_Bo_beginAnew_38 rfl ?_
      refine p_ic_0 d_Bo_beginAnew_39 ?_
      refine p_zastN (1) d_Bo_beginAnew_40 ar_49 rfl (by omega) rfl (Or.inl rfl) ?_
      refine p_incN_1_1 d_Bo_beginAnew_41 (by decide) rfl ?_
      refine p_goto (tgt := 29) d_Bo_beginAnew_44 (by decide) ?_
      refine p_iload_n d_Bo_beginAnew_29 rfl ?_
      refine p_ic_2 d_Bo_beginAnew_30 ?_
      refine p_icmpgeN (tgt := 47) (2) (2) d_Bo_beginAnew_31 (by decide) rfl rfl (by omega) (by omega) (fun h31 => ?_) (fun h31 => ?_)
      · refine p_ret d_Bo_beginAnew_47 rfl ?_
        have u : ∀ (M : MemI) (v1 v2 v3 v4 : Int32), (∀ x, x ≠ 22 → x ≠ 1 → x ≠ 49 → up2 (up2 (up2 (up2 M 22 2 v1) 1 12 v2) 49 0 v3) 49 1 v4 x = M x) := fun M v1 v2 v3 v4 x a b c => by rw [up2_o c, up2_o c, up2_o b, up2_o a]
        refine ⟨rfl, rfl, rfl, fun k hk => ?_, ?_, ?_, ?_, ?_, ?_, ?_, ?_, ?_, ?_, ?_, fun y a => ?_, fun y a => ?_, fun x a b c d e => ?_⟩
        · rw [u _ _ _ _ _ 17 (by omega) (by omega) (by omega)]; exact b1 k hk
        · rw [u _ _ _ _ _ 16 (by omega) (by omega) (by omega)]; exact b2
        · rw [u _ _ _ _ _ 16 (by omega) (by omega) (by omega)]; exact b3
        · rw [u _ _ _ _ _ 16 (by omega) (by omega) (by omega)]; exact b4
        · rw [u _ _ _ _ _ 16 (by omega) (by omega) (by omega)]; exact b5
        · rw [u _ _ _ _ _ 16 (by omega) (by omega) (by omega)]; exact b6
        · rw [u _ _ _ _ _ 16 (by omega) (by omega) (by omega)]; exact b7
        · rw [up2_ne (by omega), up2_ne (by omega), up2_ne (by omega), up2_s]
        · rw [up2_ne (by omega), up2_ne (by omega), up2_s]
        · rw [up2_ne (by omega), up2_s]
        · rw [up2_s]
        · rw [up2_ne (by omega), up2_ne (by omega), up2_ne (by omega), up2_ne (by omega), b8 22 (by omega) (by omega)]
        · rw [up2_ne (by omega), up2_ne (by omega), up2_ne (by omega), up2_ne (by omega), b8 1 (by omega) (by omega)]
        · rw [u _ _ _ _ _ x d a e]; exact b8 x b c
      · exact absurd (Nat.le_refl _) h31
def bcQ (res : Nat ⊕ (Nat × (Nat → Int32))) (I : MemI) (J : MemJ) : PQ := fun r S' I' J' => S' = S0 ∧ J' = J ∧ (∀ p, res = .inl p → r = some (.int (-10 - nI p)) ∧ rcF I I') ∧ ∀ it row, res = .inr (it, row) → r = some (.int (nI it)) ∧ PV row ∧ (∃ k, Vw I' k row) ∧ I' 2 1 = 0 ∧ I' 22 2 = 0 ∧ I' 1 12 = 0 ∧ I' 49 0 = 0 ∧ I' 49 1 = 0 ∧ (∀ y, y ≠ 2 → I' 22 y = I 22 y) ∧ ∀ x, (17 < x ∨ x = 3) → x ≠ 22 → x ≠ 49 → I' x = I x
theorem m10_neg {p : Nat} (h : p ≤ 200) : (-10 - nI p : Int32) < 0 := by
  have : ∀ p, p < 201 → (-10 - nI p : Int32) < 0 := by decide +kernel
  exact this p (by omega)
theorem nm_il {x : Nat → Int32} {l i p : Nat} {lo hi : Int32} (hi2 : i ≤ l) (h : nm x l i lo hi = .inl p) : p ≤ l := by
  unfold nm at h
  split at h
  · cases h
  · cases h; exact (sk_le hi2).2
theorem enP_il {x : Nat → Int32} {l i p : Nat} (hi2 : i ≤ l) (h : enP x l i = .inl p) : p ≤ l := by
  unfold enP at h
  split at h
  · cases h
  · cases h; exact (sk_le hi2).2
theorem oneP_il {x : Nat → Int32} {l i pl m p : Nat} {lo hi : Int32} {r : Nat → Int32} (hi2 : i ≤ l) (h : oneP x l i pl lo hi r m = .inl p) : p ≤ l := by
  cases h1 : nm x l i lo hi with
  | inl a => rw [oneP_l h1] at h; cases h; exact nm_il hi2 h1
  | inr b =>
    obtain ⟨v, e⟩ := b
    cases h3 : enP x l e with
    | inl a => rw [oneP_m h1 h3] at h; cases h; exact enP_il (nm_le hi2 h1).2 h3
    | inr e2 => rw [oneP_r h1 h3] at h; cases h
theorem pw4_le {x : Nat → Int32} {l i : Nat} (hi : i ≤ l) : (∀ p, pw4 x l i = .inl p → p ≤ l) ∧ ∀ v1 v2 v3 v4 e, pw4 x l i = .inr (v1, v2, v3, v4, e) → e ≤ l := by
  unfold pw4
  cases h1 : nm x l i 0 60 with
  | inl a => exact ⟨fun p hp => (by cases hp; exact nm_il hi h1), fun _ _ _ _ _ hp => (by cases hp)⟩
  | inr b1 =>
    obtain ⟨v1, e1⟩ := b1
    have a1 := (nm_le hi h1).2
    dsimp only
    cases h2 : nm x l e1 0 9 with
    | inl a => exact ⟨fun p hp => (by cases hp; exact nm_il a1 h2), fun _ _ _ _ _ hp => (by cases hp)⟩
    | inr b2 =>
      obtain ⟨v2, e2⟩ := b2
      have a2 := (nm_le a1 h2).2
      dsimp only
      cases h3 : nm x l e2 0 9 with
      | inl a => exact ⟨fun p hp => (by cases hp; exact nm_il a2 h3), fun _ _ _ _ _ hp => (by cases hp)⟩
      | inr b3 =>
        obtain ⟨v3, e3⟩ := b3
        have a3 := (nm_le a2 h3).2
        dsimp only
        cases h4 : nm x l e3 0 9 with
        | inl a => exact ⟨fun p hp => (by cases hp; exact nm_il a3 h4), fun _ _ _ _ _ hp => (by cases hp)⟩
        | inr b4 =>
          obtain ⟨v4, e4⟩ := b4
          exact ⟨fun p hp => (by cases hp), fun _ _ _ _ _ hp => (by cases hp; exact (nm_le a3 h4).2)⟩
theorem pewP_il {x : Nat → Int32} {l i k m p : Nat} {r : Nat → Int32} (hi2 : i ≤ l) (h : pewP x l i k r m = .inl p) : p ≤ l := by
  cases h1 : pw4 x l i with
  | inl a => rw [pewP_l h1] at h; cases h; exact (pw4_le hi2).1 _ h1
  | inr b =>
    obtain ⟨v1, v2, v3, v4, e⟩ := b
    rw [pewP_r h1] at h
    cases h3 : enP x l e with
    | inl a => rw [h3] at h; cases h; exact enP_il ((pw4_le hi2).2 _ _ _ _ _ h1) h3
    | inr e2 => rw [h3] at h; cases h
theorem itP_il {x : Nat → Int32} {l j k m p : Nat} {c : Int32} {r : Nat → Int32} (hj : j < l) (h : itP x l j k r m c = .inl p) : p ≤ l := by
  unfold itP at h
  split at h
  · split at h
    · cases h; omega
    · exact pewP_il (by omega) h
  · split at h
    · split at h
      · cases h; omega
      · exact oneP_il (by omega) h
    · split at h
      · split at h
        · cases h; omega
        · exact oneP_il (by omega) h
      · split at h
        · split at h
          · cases h; omega
          · exact oneP_il (by omega) h
        · cases h; omega
theorem parF_il {x : Nat → Int32} {l : Nat} : ∀ (f i it m p : Nat) (r : Nat → Int32), i ≤ l → PV r → m < 16 → parF x l f i it r m = .inl p → p ≤ l
  | 0, _, _, _, p, _, _, _, _, h => by
    have : (.inl 0 : Nat ⊕ (Nat × (Nat → Int32))) = .inl p := h
    cases this
    omega
  | f + 1, i, it, m, p, r, hi, hr, hm, h => by
    obtain ⟨k, hk6, hk0, -⟩ := id hr
    have h' : (if sk x l i < l then (match itP x l (sk x l i) (kOf r) r m (x (sk x l i)) with
      | .inl p => (Sum.inl p : Nat ⊕ (Nat × (Nat → Int32)))
      | .inr (i', r', m') => parF x l f i' (it + 1) r' m') else Sum.inr (it, r)) = .inl p := h
    by_cases q : sk x l i < l
    · rw [if_pos q, kOf_nI hk0 hk6] at h'
      cases h3 : itP x l (sk x l i) k r m (x (sk x l i)) with
      | inl a => rw [h3] at h'; cases h'; exact itP_il q h3
      | inr b =>
        obtain ⟨i', r', m'⟩ := b
        rw [h3] at h'
        obtain ⟨v1, v2, v3, v4⟩ := itP_ok h3 hr hk0 hk6 hm q
        exact parF_il f i' (it + 1) m' p r' v4 v1 v2 h'
    · rw [if_neg q] at h'
      cases h'
theorem b_church (Γ : Cx) (I : MemI) (J : MemJ) (l : Nat) (hl : I 2 1 = nI l) (hl2 : l ≤ 200) (hx : ∀ y, y < l → 0 ≤ I 3 y) : Ct Γ M_Bo_church [.ref 1] S0 I J (bcQ (parF (I 3) l (l + 1) 0 0 clR 0) I J) := by
  refine ct_of [.ref 1, .null] (by decide +kernel) rfl (leb rfl) rfl ?_
  cases hres : parF (I 3) l (l + 1) 0 0 clR 0 with
  | inl p =>
    refine p_aload_n d_Bo_church_0 rfl ?_
    refine p_getR d_Bo_church_1 fl_Bo_10 kd_1 rfl rf_1_0 ?_
    refine p_aload_n d_Bo_church_4 rfl ?_
    refine p_getR d_Bo_church_5 fl_Bo_23 kd_1 rfl rf_1_2 ?_
    refine q_V d_Bo_church_8 ml_Bo_82 vb_Re_readInto kd_2 ⟨leb rfl, leb rfl⟩ (c_into Γ I J l hl hl2 hx) rfl rfl rfl (fun r S1 IN J1 hQ => ?_)
    obtain ⟨rfl, hJ, n1, n2, n3⟩ := hQ
    obtain rfl := hJ.symm
    obtain rfl := n2 p hres
    refine p_is_1 d_Bo_church_11 (by decide) rfl ?_
    refine p_iload_n d_Bo_church_12 rfl ?_
    refine p_iflt (tgt := 39) d_Bo_church_13 (by decide) (fun h13 => ?_) (fun h13 => ?_)
    · refine p_iload_n d_Bo_church_39 rfl ?_
      refine p_iret d_Bo_church_40 rfl rfl ?_
      refine ⟨rfl, rfl, fun p2 hp => ?_, fun it row hp => ?_⟩
      · cases hp; exact ⟨rfl, n1⟩
      · cases hp
    · exact absurd (m10_neg (Nat.le_trans (parF_il _ _ _ _ _ _ (by omega) PV_cl (by omega) hres) hl2)) h13
  | inr w =>
    obtain ⟨it, row⟩ := w
    refine p_aload_n d_Bo_church_0 rfl ?_
    refine p_getR d_Bo_church_1 fl_Bo_10 kd_1 rfl rf_1_0 ?_
    refine p_aload_n d_Bo_church_4 rfl ?_
    refine p_getR d_Bo_church_5 fl_Bo_23 kd_1 rfl rf_1_2 ?_
    refine q_V d_Bo_church_8 ml_Bo_82 vb_Re_readInto kd_2 ⟨leb rfl, leb rfl⟩ (c_into Γ I J l hl hl2 hx) rfl rfl rfl (fun r S1 IN J1 hQ => ?_)
    obtain ⟨rfl, hJ, n1, n2, n3⟩ := hQ
    obtain rfl := hJ.symm
    obtain ⟨rfl, i200, hPV, k, hk6, hk0, hC⟩ := n3 it row hres
    refine p_is_1 d_Bo_church_11 (by decide) rfl ?_
    refine p_iload_n d_Bo_church_12 rfl ?_
    refine p_iflt (tgt := 39) d_Bo_church_13 (by decide) (fun h13 => ?_) (fun h13 => ?_)
    · exact absurd h13 (i32_nlt.mpr (nI_pos' (by omega)))
    · refine p_aload_n d_Bo_church_16 rfl ?_
      refine p_getR d_Bo_church_17 fl_Bo_19 kd_1 rfl rf_1_1 ?_
      refine p_aload_n d_Bo_church_20 rfl ?_
      refine p_getR d_Bo_church_21 fl_Bo_23 kd_1 rfl rf_1_2 ?_
      refine q_V d_Bo_church_24 ml_Bo_86 vb_Ch_copyFrom kd_4 ⟨leb rfl, leb rfl⟩ (c_chCopy Γ IN J 4 10 ch_4 ch_10 (by omega)) rfl rfl rfl (fun r S1 IC J1 hQ => ?_)
      obtain ⟨rfl, rfl, hJ, c1, c2, c3⟩ := hQ
      obtain rfl := hJ.symm
      refine p_aload_n d_Bo_church_27 rfl ?_
      refine p_getR d_Bo_church_28 fl_Bo_10 kd_1 rfl rf_1_0 ?_
      refine q_V1 d_Bo_church_31 ml_Bo_78 vb_Re_empty kd_2 ⟨leb rfl, leb rfl⟩ (c_Reempty Γ IC J) rfl rfl rfl ?_
      refine p_pop d_Bo_church_34 rfl ?_
      refine p_aload_n d_Bo_church_35 rfl ?_
      refine q_V d_Bo_church_36 ml_Bo_90 vb_Bo_beginAnew kd_1 ⟨leb rfl, leb rfl⟩ (b_anew Γ _ J) rfl rfl rfl (fun r S1 IA J1 hQ => ?_)
      obtain ⟨rfl, rfl, hJ, e1, e2, e3, e4, e5, e6, e7, e8, e9, e10, e11, e12, e13, e14⟩ := hQ
      obtain rfl := hJ.symm
      refine p_iload_n d_Bo_church_39 rfl ?_
      refine p_iret d_Bo_church_40 rfl rfl ?_
      have hV : Vw IA k row := by
        obtain ⟨k', -, -, -, -, -, -, hz⟩ := hPV
        have g4 : ∀ y, IA 4 y = IC 4 y := fun y => by rw [e14 4 (by omega) (by omega) (by omega) (by omega) (by omega), up2_o (by omega)]
        have gi : ∀ i y, 1 ≤ i → i ≤ 4 → y < 6 → IA (4 + i) y = IN (10 + i) y := fun i y a b c => by rw [e14 (4 + i) (by omega) (by omega) (by omega) (by omega) (by omega), up2_o (by omega)]; exact c2 i y a b c
        refine ⟨hk6, hk0, ⟨?_, fun j hj => ?_⟩, ⟨fun j hj => ?_, ?_, ?_, ?_, ?_, ?_⟩, ?_, ?_, ?_⟩
        · rw [g4, c1 4 (by omega) (by omega)]; exact hC.1
        · obtain ⟨f1, f2, f3, f4⟩ := hC.2.2.2.2 j hj
          exact ⟨(gi 1 j (by omega) (by omega) (by omega)).trans f1, (gi 2 j (by omega) (by omega) (by omega)).trans f2, (gi 3 j (by omega) (by omega) (by omega)).trans f3, (gi 4 j (by omega) (by omega) (by omega)).trans f4⟩
        · rw [hz _ (by omega)]; unfold clR; rw [if_neg (by omega), if_neg (by omega), if_neg (by omega)]; exact e1 j (by omega)
        · rw [hz _ (by omega)]; exact e2
        · rw [hz _ (by omega)]; exact Or.inl ⟨e3, rfl⟩
        · rw [hz _ (by omega)]; exact e4
        · rw [e5, up2_ne (by omega), c1 5 (by omega) (by omega)]; exact hC.2.1
        · rw [hz _ (by omega)]; exact e6
        · rw [hz _ (by omega)]; exact e7
        · rw [g4, c1 6 (by omega) (by omega)]; exact hC.2.2.1
        · rw [g4, c1 7 (by omega) (by omega)]; exact hC.2.2.2.1
      refine ⟨rfl, rfl, fun p hp => ?_, fun it2 row2 hp => ?_⟩
      · cases hp
      · cases hp
        refine ⟨rfl, hPV, ⟨k, hV⟩, ?_, e8, e9, e10, e11, fun y a => ?_, fun z a b c => ?_⟩
        · rw [e14 2 (by omega) (by omega) (by omega) (by omega) (by omega), up2_s]
        · rw [e12 y a, up2_ne (by omega), c3 22 (by omega), n1.1 22 (by omega) (by omega) (by omega) (by omega) (by omega) (by omega)]
        · rw [e14 z (by omega) (by omega) (by omega) b c, up2_o (by omega), c3 z (by omega), n1.1 z (by omega) (by omega) (by omega) (by omega) (by omega) (by omega)]
