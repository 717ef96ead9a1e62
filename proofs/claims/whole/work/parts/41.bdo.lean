/-! ===== the class's own calls: what is done ===== -/
def baQ (r0 : Option Value) (x u n : Nat) (t' : Nat → Int32) (I : MemI) (J : MemJ) : PQ := fun r S' I' J' => r = r0 ∧ S' = S0 ∧ J' = J ∧ (∀ k, k < 6 → I' (24 + 2 * x + 1) k = I 17 k) ∧ (∀ y, 1 ≤ y → y ≤ 6 → I' (24 + 2 * x) y = I 16 y) ∧ I' 22 1 = nI ((x + 1) % 10) ∧ I' 22 2 = nI (rmU u) ∧ (SgR I' 16 n t' ∧ I' 16 6 = t' 38) ∧ ∀ z, z ≠ 9 → z ≠ 16 → z ≠ 17 → z ≠ 22 → z ≠ 24 + 2 * x → z ≠ 24 + 2 * x + 1 → I' z = I z
theorem baQ_of {r0 : Option Value} {x u n : Nat} {t' : Nat → Int32} {I IH I' : MemI} {J : MemJ} (hH : hrQ x u I J none S0 IH J) (hz : ∀ z, z ≠ 9 → z ≠ 16 → z ≠ 17 → I' z = IH z) (hS : SgR I' 16 n t') (h6 : I' 16 6 = t' 38) : baQ r0 x u n t' I J r0 S0 I' J := by
  obtain ⟨-, -, -, a1, a2, a3, a4, a5⟩ := hH
  refine ⟨rfl, rfl, rfl, fun k hk => ?_, fun y b c => ?_, ?_, ?_, ⟨hS, h6⟩, fun z b1 b2 b3 b4 b5 b6 => ?_⟩
  · rw [hz _ (by omega) (by omega) (by omega)]; exact a1 k hk
  · rw [hz _ (by omega) (by omega) (by omega)]; exact a2 y b c
  · rw [hz _ (by omega) (by omega) (by omega)]; exact a3
  · rw [hz _ (by omega) (by omega) (by omega)]; exact a4
  · rw [hz z b1 b2 b3]; exact a5 z b4 b5 b6
theorem up2_o {I : MemI} {a k z : Nat} {v : Int32} (h : z ≠ a) : up2 I a k v z = I z := by
  funext y
  exact up2_ne (fun q => h q.1)
theorem kn_or : ∀ b, b < 64 → ∀ k, k < 6 → (nI b ||| ((1 : Int32) <<< (nI k &&& 31))) = nI (knS b k 1) := by decide +kernel
theorem kn_and : ∀ b, b < 64 → ∀ k, k < 6 → (nI b &&& (((1 : Int32) <<< (nI k &&& 31)) ^^^ (-1))) = nI (knS b k 0) := by decide +kernel
theorem SgR.mv {I I' : MemI} {a n : Nat} {t : Nat → Int32} (h : SgR I a n t) (h0 : I' a = I a) (h1 : I' (a + 1) = I (a + 1)) : SgR I' a n t := by
  unfold SgR
  rw [h0, h1]
  exact h
theorem mnC_s {s : Nat} (h : s < 999) : mnC (nI s + 1) = nI (s + 1) := by
  have e : nI s + 1 = nI (s + 1) := by rw [show (1 : Int32) = nI 1 from rfl, nI_add]
  rw [e]
  unfold mnC
  rw [show (999 : Int32) = nI 999 from rfl]
  by_cases q : s + 1 < 999
  · rw [if_pos (nI_lt q (by omega))]
  · rw [if_neg (nI_nlt (by omega) (by omega)), show s + 1 = 999 by omega]
theorem it6_s {s : Nat} : ∀ q, s + q ≤ 999 → it6 (nI s) q = nI (s + q)
  | 0, _ => rfl
  | q + 1, h => by
    show mnC (it6 (nI s) q + 1) = _
    rw [it6_s q (by omega), mnC_s (by omega), Nat.add_assoc]
theorem itS_38 {n s : Nat} {t : Nat → Int32} (hn : n ≤ 6) (h : t 38 = nI s) : ∀ q, itS n t q 38 = nI (s + q)
  | 0 => h
  | q + 1 => by
    show singT n (itS n t q) 38 = _
    unfold singT
    rw [if_neg (by omega), if_neg (by omega), if_pos rfl, itS_38 hn h q, show (1 : Int32) = nI 1 from rfl, nI_add, Nat.add_assoc]
theorem b_ahead_bad (Γ : Cx) (I : MemI) (J : MemJ) (a : Int32) (hb : ¬ (0 ≤ a ∧ a ≤ 20)) : Ct Γ M_Bo_ahead [.ref 1, .int a] S0 I J (eqQ (some (.int (-1000001))) S0 I J) := by
  refine ct_of [.ref 1, .int a, .null] (by decide +kernel) rfl (leb rfl) rfl ?_
  refine p_iload_n d_Bo_ahead_0 rfl ?_
  refine p_ic_0 d_Bo_ahead_1 ?_
  refine p_bi_20 d_Bo_ahead_2 ?_
  refine q_S1 d_Bo_ahead_4 ml_Bo_64 sb_Bo_within ⟨leb rfl, leb rfl⟩ (c_within Γ S0 _ _ a 0 20) rfl rfl rfl ?_
  refine p_ifneB (tgt := 13) d_Bo_ahead_7 (by decide) (fun h7 => ?_) (fun h7 => ?_)
  · exact absurd h7 hb
  · refine p_ldc d_Bo_ahead_10 kc_Bo_68 ?_
    refine p_iret d_Bo_ahead_12 rfl rfl ?_
    exact ⟨rfl, rfl, rfl, rfl⟩
theorem b_ahead (Γ : Cx) (I : MemI) (J : MemJ) (n : Nat) (t : Nat → Int32) (V : Vw I n t) (x u : Nat) (hx : x < 10) (h1 : I 22 1 = nI x) (h2 : I 22 2 = nI u) (hu : u ≤ 10) (a : Int32) (hb : 0 ≤ a ∧ a ≤ 20) : Ct Γ M_Bo_ahead [.ref 1, .int a] S0 I J (baQ (some (.int (t 35))) x u n (upd t 35 a) I J) := by
  have hn := V.1
  obtain ⟨s1, s2, s3, s4, s5, s6⟩ := V.2.2.2.1
  have s7 := V.2.2.2.2.1
  refine ct_of [.ref 1, .int a, .null] (by decide +kernel) rfl (leb rfl) rfl ?_
  refine p_iload_n d_Bo_ahead_0 rfl ?_
  refine p_ic_0 d_Bo_ahead_1 ?_
  refine p_bi_20 d_Bo_ahead_2 ?_
  refine q_S1 d_Bo_ahead_4 ml_Bo_64 sb_Bo_within ⟨leb rfl, leb rfl⟩ (c_within Γ S0 _ _ a 0 20) rfl rfl rfl ?_
  refine p_ifneB (tgt := 13) d_Bo_ahead_7 (by decide) (fun h7 => ?_) (fun h7 => ?_)
  · refine p_aload_n d_Bo_ahead_13 rfl ?_
    refine p_getR d_Bo_ahead_14 fl_Bo_42 kd_1 rfl rf_1_6 ?_
    refine p_aload_n d_Bo_ahead_17 rfl ?_
    refine p_getR d_Bo_ahead_18 fl_Bo_29 kd_1 rfl rf_1_3 ?_
    refine q_V d_Bo_ahead_21 ml_Bo_153 vb_Hi_remember kd_22 ⟨leb rfl, leb rfl⟩ (c_hiRem Γ I J x u hx h1 h2 hu) rfl rfl rfl (fun r S1 IH J1 hQ => ?_)
    have hH := hQ
    obtain ⟨rfl, rfl, hJ, a1, a2, a3, a4, a5⟩ := hQ
    obtain rfl := hJ.symm
    have r16 : IH 16 = I 16 := a5 16 (by decide) (by omega) (by omega)
    have r17 : IH 17 = I 17 := a5 17 (by decide) (by omega) (by omega)
    have rC : ∀ z, z < 16 → IH z = I z := fun z q => a5 z (by omega) (by omega) (by omega)
    refine p_aload_n d_Bo_ahead_24 rfl ?_
    refine p_getR d_Bo_ahead_25 fl_Bo_29 kd_1 rfl rf_1_3 ?_
    refine p_getI d_Bo_ahead_28 fl_Bo_137 kd_16 (Or.inl rfl) ?_
    refine p_eqI (y := t 35) (by rw [r16]; exact s2) ?_
    refine p_is_2 d_Bo_ahead_31 (by decide) rfl ?_
    refine p_aload_n d_Bo_ahead_32 rfl ?_
    refine p_getR d_Bo_ahead_33 fl_Bo_29 kd_1 rfl rf_1_3 ?_
    refine p_iload_n d_Bo_ahead_36 rfl ?_
    refine p_putI d_Bo_ahead_37 fl_Bo_137 kd_16 rfl nf_3_1 ?_
    refine p_iload_n d_Bo_ahead_40 rfl ?_
    refine p_iret d_Bo_ahead_41 rfl rfl ?_
    refine baQ_of hH (fun z _ b _ => up2_o b) ⟨fun k hk => ?_, ?_, ?_, ?_, ?_, ?_⟩ ?_
    · rw [up2_ne (by omega), r17, upd_ne (by omega)]; exact s1 k hk
    · rw [up2_s, upd_s]
    · rw [up2_ne (by omega), r16, upd_ne (by omega)]; exact s3
    · rw [up2_ne (by omega), r16, upd_ne (by omega)]; exact s4
    · rw [up2_ne (by omega), r16, upd_ne (by omega)]; exact s5
    · rw [up2_ne (by omega), r16, upd_ne (by omega)]; exact s6
    · rw [up2_ne (by omega), r16, upd_ne (by omega)]; exact s7
  · exact absurd hb h7
theorem b_waits_bad (Γ : Cx) (I : MemI) (J : MemJ) (a : Int32) (hb : ¬ (0 ≤ a ∧ a ≤ 10)) : Ct Γ M_Bo_waits [.ref 1, .int a] S0 I J (eqQ (some (.int (-1000001))) S0 I J) := by
  refine ct_of [.ref 1, .int a, .null] (by decide +kernel) rfl (leb rfl) rfl ?_
  refine p_iload_n d_Bo_waits_0 rfl ?_
  refine p_ic_0 d_Bo_waits_1 ?_
  refine p_bi_10 d_Bo_waits_2 ?_
  refine q_S1 d_Bo_waits_4 ml_Bo_64 sb_Bo_within ⟨leb rfl, leb rfl⟩ (c_within Γ S0 _ _ a 0 10) rfl rfl rfl ?_
  refine p_ifneB (tgt := 13) d_Bo_waits_7 (by decide) (fun h7 => ?_) (fun h7 => ?_)
  · exact absurd h7 hb
  · refine p_ldc d_Bo_waits_10 kc_Bo_68 ?_
    refine p_iret d_Bo_waits_12 rfl rfl ?_
    exact ⟨rfl, rfl, rfl, rfl⟩
theorem b_waits (Γ : Cx) (I : MemI) (J : MemJ) (n : Nat) (t : Nat → Int32) (V : Vw I n t) (x u : Nat) (hx : x < 10) (h1 : I 22 1 = nI x) (h2 : I 22 2 = nI u) (hu : u ≤ 10) (a : Int32) (hb : 0 ≤ a ∧ a ≤ 10) : Ct Γ M_Bo_waits [.ref 1, .int a] S0 I J (baQ (some (.int (t 1))) x u n (upd t 1 a) I J) := by
  have hn := V.1
  obtain ⟨s1, s2, s3, s4, s5, s6⟩ := V.2.2.2.1
  have s7 := V.2.2.2.2.1
  refine ct_of [.ref 1, .int a, .null] (by decide +kernel) rfl (leb rfl) rfl ?_
  refine p_iload_n d_Bo_waits_0 rfl ?_
  refine p_ic_0 d_Bo_waits_1 ?_
  refine p_bi_10 d_Bo_waits_2 ?_
  refine q_S1 d_Bo_waits_4 ml_Bo_64 sb_Bo_within ⟨leb rfl, leb rfl⟩ (c_within Γ S0 _ _ a 0 10) rfl rfl rfl ?_
  refine p_ifneB (tgt := 13) d_Bo_waits_7 (by decide) (fun h7 => ?_) (fun h7 => ?_)
  · refine p_aload_n d_Bo_waits_13 rfl ?_
    refine p_getR d_Bo_waits_14 fl_Bo_42 kd_1 rfl rf_1_6 ?_
    refine p_aload_n d_Bo_waits_17 rfl ?_
    refine p_getR d_Bo_waits_18 fl_Bo_29 kd_1 rfl rf_1_3 ?_
    refine q_V d_Bo_waits_21 ml_Bo_153 vb_Hi_remember kd_22 ⟨leb rfl, leb rfl⟩ (c_hiRem Γ I J x u hx h1 h2 hu) rfl rfl rfl (fun r S1 IH J1 hQ => ?_)
    have hH := hQ
    obtain ⟨rfl, rfl, hJ, a1, a2, a3, a4, a5⟩ := hQ
    obtain rfl := hJ.symm
    have r16 : IH 16 = I 16 := a5 16 (by decide) (by omega) (by omega)
    have r17 : IH 17 = I 17 := a5 17 (by decide) (by omega) (by omega)
    have rC : ∀ z, z < 16 → IH z = I z := fun z q => a5 z (by omega) (by omega) (by omega)
    refine p_aload_n d_Bo_waits_24 rfl ?_
    refine p_getR d_Bo_waits_25 fl_Bo_29 kd_1 rfl rf_1_3 ?_
    refine p_getI d_Bo_waits_28 fl_Bo_143 kd_16 (Or.inl rfl) ?_
    refine p_eqI (y := t 1) (by rw [r16]; exact s5) ?_
    refine p_is_2 d_Bo_waits_31 (by decide) rfl ?_
    refine p_aload_n d_Bo_waits_32 rfl ?_
    refine p_getR d_Bo_waits_33 fl_Bo_29 kd_1 rfl rf_1_3 ?_
    refine p_iload_n d_Bo_waits_36 rfl ?_
    refine p_putI d_Bo_waits_37 fl_Bo_143 kd_16 rfl nf_3_4 ?_
    refine p_iload_n d_Bo_waits_40 rfl ?_
    refine p_iret d_Bo_waits_41 rfl rfl ?_
    refine baQ_of hH (fun z _ b _ => up2_o b) ⟨fun k hk => ?_, ?_, ?_, ?_, ?_, ?_⟩ ?_
    · rw [up2_ne (by omega), r17, upd_ne (by omega)]; exact s1 k hk
    · rw [up2_ne (by omega), r16, upd_ne (by omega)]; exact s2
    · rw [up2_ne (by omega), r16, upd_ne (by omega)]; exact s3
    · rw [up2_ne (by omega), r16, upd_ne (by omega)]; exact s4
    · rw [up2_s, upd_s]
    · rw [up2_ne (by omega), r16, upd_ne (by omega)]; exact s6
    · rw [up2_ne (by omega), r16, upd_ne (by omega)]; exact s7
  · exact absurd hb h7
theorem b_choir_bad (Γ : Cx) (I : MemI) (J : MemJ) (n : Nat) (t : Nat → Int32) (V : Vw I n t) (a : Int32) (hb : ¬ (0 ≤ a ∧ a < nI n)) (hb2 : ¬ a = -1000009) : Ct Γ M_Bo_choir [.ref 1, .int a] S0 I J (eqQ (some (.int (-1000001))) S0 I J) := by
  have hn := V.1
  refine ct_of [.ref 1, .int a, .null] (by decide +kernel) rfl (leb rfl) rfl ?_
  refine p_iload_n d_Bo_choir_0 rfl ?_
  refine p_ldc d_Bo_choir_1 kc_Bo_174 ?_
  refine p_icmpeq (tgt := 20) d_Bo_choir_3 (by decide) (fun h3 => ?_) (fun h3 => ?_)
  · first | exact absurd h3 hb2 | exact absurd h14 hb
  · refine p_aload_n d_Bo_choir_6 rfl ?_
    refine p_getR d_Bo_choir_7 fl_Bo_19 kd_1 rfl rf_1_1 ?_
    refine p_iload_n d_Bo_choir_10 rfl ?_
    refine q_V1 d_Bo_choir_11 ml_Bo_106 vb_Ch_has kd_4 ⟨leb rfl, leb rfl⟩ (b_has Γ _ _ n a (V.2.2.1.1)) rfl rfl rfl ?_
    refine p_ifneB (tgt := 20) d_Bo_choir_14 (by decide) (fun h14 => ?_) (fun h14 => ?_)
    · first | exact absurd h3 hb2 | exact absurd h14 hb
    · refine p_ldc d_Bo_choir_17 kc_Bo_68 ?_
      refine p_iret d_Bo_choir_19 rfl rfl ?_
      exact ⟨rfl, rfl, rfl, rfl⟩
theorem b_choir (Γ : Cx) (I : MemI) (J : MemJ) (n : Nat) (t : Nat → Int32) (V : Vw I n t) (x u : Nat) (hx : x < 10) (h1 : I 22 1 = nI x) (h2 : I 22 2 = nI u) (hu : u ≤ 10) (a a2 : Int32) (hb : (0 ≤ a ∧ a < nI n) ∨ a = -1000009) (hr : chR a a2) : Ct Γ M_Bo_choir [.ref 1, .int a] S0 I J (baQ (some (.int (choT (t 36)))) x u n (upd t 36 a2) I J) := by
  have hn := V.1
  obtain ⟨s1, s2, s3, s4, s5, s6⟩ := V.2.2.2.1
  have s7 := V.2.2.2.2.1
  refine ct_of [.ref 1, .int a, .null] (by decide +kernel) rfl (leb rfl) rfl ?_
  refine p_iload_n d_Bo_choir_0 rfl ?_
  refine p_ldc d_Bo_choir_1 kc_Bo_174 ?_
  refine p_icmpeq (tgt := 20) d_Bo_choir_3 (by decide) (fun h3 => ?_) (fun h3 => ?_)
  · refine p_aload_n d_Bo_choir_20 rfl ?_
    refine p_getR d_Bo_choir_21 fl_Bo_42 kd_1 rfl rf_1_6 ?_
    refine p_aload_n d_Bo_choir_24 rfl ?_
    refine p_getR d_Bo_choir_25 fl_Bo_29 kd_1 rfl rf_1_3 ?_
    refine q_V d_Bo_choir_28 ml_Bo_153 vb_Hi_remember kd_22 ⟨leb rfl, leb rfl⟩ (c_hiRem Γ I J x u hx h1 h2 hu) rfl rfl rfl (fun r S1 IH J1 hQ => ?_)
    have hH := hQ
    obtain ⟨rfl, rfl, hJ, a1, a2, a3, a4, a5⟩ := hQ
    obtain rfl := hJ.symm
    have r16 : IH 16 = I 16 := a5 16 (by decide) (by omega) (by omega)
    have r17 : IH 17 = I 17 := a5 17 (by decide) (by omega) (by omega)
    have rC : ∀ z, z < 16 → IH z = I z := fun z q => a5 z (by omega) (by omega) (by omega)
    refine p_aload_n d_Bo_choir_31 rfl ?_
    refine p_getR d_Bo_choir_32 fl_Bo_29 kd_1 rfl rf_1_3 ?_
    refine p_getI d_Bo_choir_35 fl_Bo_140 kd_16 (Or.inl rfl) ?_
    refine p_eqI (y := choT (t 36)) (by rw [r16]; exact chR_cho s3) ?_
    refine p_is_2 d_Bo_choir_38 (by decide) rfl ?_
    refine p_aload_n d_Bo_choir_39 rfl ?_
    refine p_getR d_Bo_choir_40 fl_Bo_29 kd_1 rfl rf_1_3 ?_
    refine p_iload_n d_Bo_choir_43 rfl ?_
    refine p_putI d_Bo_choir_44 fl_Bo_140 kd_16 rfl nf_3_2 ?_
    refine p_iload_n d_Bo_choir_47 rfl ?_
    refine p_iret d_Bo_choir_48 rfl rfl ?_
    refine baQ_of hH (fun z _ b _ => up2_o b) ⟨fun k hk => ?_, ?_, ?_, ?_, ?_, ?_⟩ ?_
    · rw [up2_ne (by omega), r17, upd_ne (by omega)]; exact s1 k hk
    · rw [up2_ne (by omega), r16, upd_ne (by omega)]; exact s2
    · rw [up2_s, upd_s]; exact hr
    · rw [up2_ne (by omega), r16, upd_ne (by omega)]; exact s4
    · rw [up2_ne (by omega), r16, upd_ne (by omega)]; exact s5
    · rw [up2_ne (by omega), r16, upd_ne (by omega)]; exact s6
    · rw [up2_ne (by omega), r16, upd_ne (by omega)]; exact s7
  · refine p_aload_n d_Bo_choir_6 rfl ?_
    refine p_getR d_Bo_choir_7 fl_Bo_19 kd_1 rfl rf_1_1 ?_
    refine p_iload_n d_Bo_choir_10 rfl ?_
    refine q_V1 d_Bo_choir_11 ml_Bo_106 vb_Ch_has kd_4 ⟨leb rfl, leb rfl⟩ (b_has Γ _ _ n a (V.2.2.1.1)) rfl rfl rfl ?_
    refine p_ifneB (tgt := 20) d_Bo_choir_14 (by decide) (fun h14 => ?_) (fun h14 => ?_)
    · refine p_aload_n d_Bo_choir_20 rfl ?_
      refine p_getR d_Bo_choir_21 fl_Bo_42 kd_1 rfl rf_1_6 ?_
      refine p_aload_n d_Bo_choir_24 rfl ?_
      refine p_getR d_Bo_choir_25 fl_Bo_29 kd_1 rfl rf_1_3 ?_
      refine q_V d_Bo_choir_28 ml_Bo_153 vb_Hi_remember kd_22 ⟨leb rfl, leb rfl⟩ (c_hiRem Γ I J x u hx h1 h2 hu) rfl rfl rfl (fun r S1 IH J1 hQ => ?_)
      have hH := hQ
      obtain ⟨rfl, rfl, hJ, a1, a2, a3, a4, a5⟩ := hQ
      obtain rfl := hJ.symm
      have r16 : IH 16 = I 16 := a5 16 (by decide) (by omega) (by omega)
      have r17 : IH 17 = I 17 := a5 17 (by decide) (by omega) (by omega)
      have rC : ∀ z, z < 16 → IH z = I z := fun z q => a5 z (by omega) (by omega) (by omega)
      refine p_aload_n d_Bo_choir_31 rfl ?_
      refine p_getR d_Bo_choir_32 fl_Bo_29 kd_1 rfl rf_1_3 ?_
      refine p_getI d_Bo_choir_35 fl_Bo_140 kd_16 (Or.inl rfl) ?_
      refine p_eqI (y := choT (t 36)) (by rw [r16]; exact chR_cho s3) ?_
      refine p_is_2 d_Bo_choir_38 (by decide) rfl ?_
      refine p_aload_n d_Bo_choir_39 rfl ?_
      refine p_getR d_Bo_choir_40 fl_Bo_29 kd_1 rfl rf_1_3 ?_
      refine p_iload_n d_Bo_choir_43 rfl ?_
      refine p_putI d_Bo_choir_44 fl_Bo_140 kd_16 rfl nf_3_2 ?_
      refine p_iload_n d_Bo_choir_47 rfl ?_
      refine p_iret d_Bo_choir_48 rfl rfl ?_
      refine baQ_of hH (fun z _ b _ => up2_o b) ⟨fun k hk => ?_, ?_, ?_, ?_, ?_, ?_⟩ ?_
      · rw [up2_ne (by omega), r17, upd_ne (by omega)]; exact s1 k hk
      · rw [up2_ne (by omega), r16, upd_ne (by omega)]; exact s2
      · rw [up2_s, upd_s]; exact hr
      · rw [up2_ne (by omega), r16, upd_ne (by omega)]; exact s4
      · rw [up2_ne (by omega), r16, upd_ne (by omega)]; exact s5
      · rw [up2_ne (by omega), r16, upd_ne (by omega)]; exact s6
      · rw [up2_ne (by omega), r16, upd_ne (by omega)]; exact s7
    · exact hb.elim (fun z => absurd z h14) (fun z => absurd z h3)
theorem b_knows_bad (Γ : Cx) (I : MemI) (J : MemJ) (n : Nat) (t : Nat → Int32) (V : Vw I n t) (a b : Int32) (hb : ¬ ((0 ≤ a ∧ a < nI n) ∧ (0 ≤ b ∧ b ≤ 1))) : Ct Γ M_Bo_knows [.ref 1, .int a, .int b] S0 I J (eqQ (some (.int (-1000001))) S0 I J) := by
  have hn := V.1
  refine ct_of [.ref 1, .int a, .int b, .null] (by decide +kernel) rfl (leb rfl) rfl ?_
  refine p_aload_n d_Bo_knows_0 rfl ?_
  refine p_getR d_Bo_knows_1 fl_Bo_19 kd_1 rfl rf_1_1 ?_
  refine p_iload_n d_Bo_knows_4 rfl ?_
  refine q_V1 d_Bo_knows_5 ml_Bo_106 vb_Ch_has kd_4 ⟨leb rfl, leb rfl⟩ (b_has Γ _ _ n a (V.2.2.1.1)) rfl rfl rfl ?_
  refine p_ifeqB (tgt := 20) d_Bo_knows_8 (by decide) (fun h8 => ?_) (fun h8 => ?_)
  · refine p_ldc d_Bo_knows_20 kc_Bo_68 ?_
    refine p_iret d_Bo_knows_22 rfl rfl ?_
    exact ⟨rfl, rfl, rfl, rfl⟩
  · refine p_iload_n d_Bo_knows_11 rfl ?_
    refine p_ic_0 d_Bo_knows_12 ?_
    refine p_ic_1 d_Bo_knows_13 ?_
    refine q_S1 d_Bo_knows_14 ml_Bo_64 sb_Bo_within ⟨leb rfl, leb rfl⟩ (c_within Γ S0 _ _ b 0 1) rfl rfl rfl ?_
    refine p_ifneB (tgt := 23) d_Bo_knows_17 (by decide) (fun h17 => ?_) (fun h17 => ?_)
    · exact absurd ⟨h8, h17⟩ hb
    · refine p_ldc d_Bo_knows_20 kc_Bo_68 ?_
      refine p_iret d_Bo_knows_22 rfl rfl ?_
      exact ⟨rfl, rfl, rfl, rfl⟩
theorem b_knows (Γ : Cx) (I : MemI) (J : MemJ) (n : Nat) (t : Nat → Int32) (V : Vw I n t) (x u : Nat) (hx : x < 10) (h1 : I 22 1 = nI x) (h2 : I 22 2 = nI u) (hu : u ≤ 10) (k i b : Nat) (hk : k < n) (hi : i < 2) (hb : b < 64) (hkn : t 37 = nI b) : Ct Γ M_Bo_knows [.ref 1, .int (nI k), .int (nI i)] S0 I J (baQ (some (.int (nI (pop (knS b k i))))) x u n (upd t 37 (nI (knS b k i))) I J) := by
  have hn := V.1
  obtain ⟨s1, s2, s3, s4, s5, s6⟩ := V.2.2.2.1
  have s7 := V.2.2.2.2.1
  have kb := (knS_m b hb k (by omega) i hi).2
  refine ct_of [.ref 1, .int (nI k), .int (nI i), .null] (by decide +kernel) rfl (leb rfl) rfl ?_
  refine p_aload_n d_Bo_knows_0 rfl ?_
  refine p_getR d_Bo_knows_1 fl_Bo_19 kd_1 rfl rf_1_1 ?_
  refine p_iload_n d_Bo_knows_4 rfl ?_
  refine q_V1 d_Bo_knows_5 ml_Bo_106 vb_Ch_has kd_4 ⟨leb rfl, leb rfl⟩ (b_has Γ _ _ n (nI k) (V.2.2.1.1)) rfl rfl rfl ?_
  refine p_ifeqB (tgt := 20) d_Bo_knows_8 (by decide) (fun h8 => ?_) (fun h8 => ?_)
  · first | exact absurd (isP_nI hn hk) h8 | exact absurd (i1 i hi) h17
  · refine p_iload_n d_Bo_knows_11 rfl ?_
    refine p_ic_0 d_Bo_knows_12 ?_
    refine p_ic_1 d_Bo_knows_13 ?_
    refine q_S1 d_Bo_knows_14 ml_Bo_64 sb_Bo_within ⟨leb rfl, leb rfl⟩ (c_within Γ S0 _ _ (nI i) 0 1) rfl rfl rfl ?_
    refine p_ifneB (tgt := 23) d_Bo_knows_17 (by decide) (fun h17 => ?_) (fun h17 => ?_)
    · refine p_aload_n d_Bo_knows_23 rfl ?_
      refine p_getR d_Bo_knows_24 fl_Bo_42 kd_1 rfl rf_1_6 ?_
      refine p_aload_n d_Bo_knows_27 rfl ?_
      refine p_getR d_Bo_knows_28 fl_Bo_29 kd_1 rfl rf_1_3 ?_
      refine q_V d_Bo_knows_31 ml_Bo_153 vb_Hi_remember kd_22 ⟨leb rfl, leb rfl⟩ (c_hiRem Γ I J x u hx h1 h2 hu) rfl rfl rfl (fun r S1 IH J1 hQ => ?_)
      have hH := hQ
      obtain ⟨rfl, rfl, hJ, a1, a2, a3, a4, a5⟩ := hQ
      obtain rfl := hJ.symm
      have r16 : IH 16 = I 16 := a5 16 (by decide) (by omega) (by omega)
      have r17 : IH 17 = I 17 := a5 17 (by decide) (by omega) (by omega)
      have rC : ∀ z, z < 16 → IH z = I z := fun z q => a5 z (by omega) (by omega) (by omega)
      refine p_ic_1 d_Bo_knows_34 ?_
      refine p_iload_n d_Bo_knows_35 rfl ?_
      refine p_ishl d_Bo_knows_36 ?_
      refine p_is_3 d_Bo_knows_37 (by decide) rfl ?_
      refine p_aload_n d_Bo_knows_38 rfl ?_
      refine p_getR d_Bo_knows_39 fl_Bo_29 kd_1 rfl rf_1_3 ?_
      refine p_iload_n d_Bo_knows_42 rfl ?_
      refine p_ic_1 d_Bo_knows_43 ?_
      refine p_icmpneN (tgt := 59) (i) (1) d_Bo_knows_44 (by decide) rfl rfl (by omega) (by omega) (fun h44 => ?_) (fun h44 => ?_)
      · refine p_aload_n d_Bo_knows_59 rfl ?_
        refine p_getR d_Bo_knows_60 fl_Bo_29 kd_1 rfl rf_1_3 ?_
        refine p_getI d_Bo_knows_63 fl_Bo_175 kd_16 (Or.inl rfl) ?_
        refine p_eqI (y := nI b) (by rw [r16, ← hkn]; exact s4) ?_
        refine p_iload_n d_Bo_knows_66 rfl ?_
        refine p_ic_m1 d_Bo_knows_67 ?_
        refine p_ixor d_Bo_knows_68 ?_
        refine p_iand d_Bo_knows_69 ?_
        refine p_eqI (y := nI (knS b k i)) (by rw [show i = 0 by omega]; exact kn_and b hb k (by omega)) ?_
        refine p_putI d_Bo_knows_70 fl_Bo_175 kd_16 rfl nf_3_3 ?_
        refine p_aload_n d_Bo_knows_73 rfl ?_
        refine p_getR d_Bo_knows_74 fl_Bo_29 kd_1 rfl rf_1_3 ?_
        refine p_getI d_Bo_knows_77 fl_Bo_175 kd_16 (Or.inl rfl) ?_
        refine p_eqI (y := nI (knS b k i)) (up2_s) ?_
        refine q_S1 d_Bo_knows_80 ml_Bo_178 sb_In_bitCount ⟨leb rfl, leb rfl⟩ (c_bitCount Γ S0 _ J (knS b k i) kb) rfl rfl rfl ?_
        refine p_iret d_Bo_knows_83 rfl rfl ?_
        refine baQ_of hH (fun z _ b _ => up2_o b) ⟨fun k hk => ?_, ?_, ?_, ?_, ?_, ?_⟩ ?_
        · rw [up2_ne (by omega), r17, upd_ne (by omega)]; exact s1 k hk
        · rw [up2_ne (by omega), r16, upd_ne (by omega)]; exact s2
        · rw [up2_ne (by omega), r16, upd_ne (by omega)]; exact s3
        · rw [up2_s, upd_s]
        · rw [up2_ne (by omega), r16, upd_ne (by omega)]; exact s5
        · rw [up2_ne (by omega), r16, upd_ne (by omega)]; exact s6
        · rw [up2_ne (by omega), r16, upd_ne (by omega)]; exact s7
      · refine p_aload_n d_Bo_knows_47 rfl ?_
        refine p_getR d_Bo_knows_48 fl_Bo_29 kd_1 rfl rf_1_3 ?_
        refine p_getI d_Bo_knows_51 fl_Bo_175 kd_16 (Or.inl rfl) ?_
        refine p_eqI (y := nI b) (by rw [r16, ← hkn]; exact s4) ?_
        refine p_iload_n d_Bo_knows_54 rfl ?_
        refine p_ior d_Bo_knows_55 ?_
        refine p_eqI (y := nI (knS b k i)) (by rw [show i = 1 by omega]; exact kn_or b hb k (by omega)) ?_
        refine p_goto (tgt := 70) d_Bo_knows_56 (by decide) ?_
        refine p_putI d_Bo_knows_70 fl_Bo_175 kd_16 rfl nf_3_3 ?_
        refine p_aload_n d_Bo_knows_73 rfl ?_
        refine p_getR d_Bo_knows_74 fl_Bo_29 kd_1 rfl rf_1_3 ?_
        refine p_getI d_Bo_knows_77 fl_Bo_175 kd_16 (Or.inl rfl) ?_
        refine p_eqI (y := nI (knS b k i)) (up2_s) ?_
        refine q_S1 d_Bo_knows_80 ml_Bo_178 sb_In_bitCount ⟨leb rfl, leb rfl⟩ (c_bitCount Γ S0 _ J (knS b k i) kb) rfl rfl rfl ?_
        refine p_iret d_Bo_knows_83 rfl rfl ?_
        refine baQ_of hH (fun z _ b _ => up2_o b) ⟨fun k hk => ?_, ?_, ?_, ?_, ?_, ?_⟩ ?_
        · rw [up2_ne (by omega), r17, upd_ne (by omega)]; exact s1 k hk
        · rw [up2_ne (by omega), r16, upd_ne (by omega)]; exact s2
        · rw [up2_ne (by omega), r16, upd_ne (by omega)]; exact s3
        · rw [up2_s, upd_s]
        · rw [up2_ne (by omega), r16, upd_ne (by omega)]; exact s5
        · rw [up2_ne (by omega), r16, upd_ne (by omega)]; exact s6
        · rw [up2_ne (by omega), r16, upd_ne (by omega)]; exact s7
    · first | exact absurd (isP_nI hn hk) h8 | exact absurd (i1 i hi) h17
theorem b_line_st (Γ : Cx) (I : MemI) (J : MemJ) (n : Nat) (t : Nat → Int32) (V : Vw I n t) (hs : ¬ t 38 < 999) : Ct Γ M_Bo_line [.ref 1] S0 I J (eqQ (some (.int (-1000002))) S0 I J) := by
  refine ct_of [.ref 1] (by decide +kernel) rfl (leb rfl) rfl ?_
  refine p_aload_n d_Bo_line_0 rfl ?_
  refine p_getR d_Bo_line_1 fl_Bo_29 kd_1 rfl rf_1_3 ?_
  refine p_getI d_Bo_line_4 fl_Bo_131 kd_16 (Or.inl rfl) ?_
  refine p_eqI (y := t 38) (V.2.2.2.2.1) ?_
  refine p_si_999 d_Bo_line_7 ?_
  refine p_icmplt (tgt := 16) d_Bo_line_10 (by decide) (fun h10 => ?_) (fun h10 => ?_)
  · exact absurd h10 hs
  · refine p_ldc d_Bo_line_13 kc_Bo_152 ?_
    refine p_iret d_Bo_line_15 rfl rfl ?_
    exact ⟨rfl, rfl, rfl, rfl⟩
theorem b_line (Γ : Cx) (I : MemI) (J : MemJ) (n : Nat) (t : Nat → Int32) (V : Vw I n t) (x u : Nat) (hx : x < 10) (h1 : I 22 1 = nI x) (h2 : I 22 2 = nI u) (hu : u ≤ 10) (hok : okT n t) (s : Nat) (hs6 : t 38 = nI s) (hs : s < 999) : Ct Γ M_Bo_line [.ref 1] S0 I J (baQ (some (.int (singT n t 34))) x u n (singT n t) I J) := by
  have hn := V.1
  obtain ⟨s1, s2, s3, s4, s5, s6⟩ := V.2.2.2.1
  have s7 := V.2.2.2.2.1
  refine ct_of [.ref 1] (by decide +kernel) rfl (leb rfl) rfl ?_
  refine p_aload_n d_Bo_line_0 rfl ?_
  refine p_getR d_Bo_line_1 fl_Bo_29 kd_1 rfl rf_1_3 ?_
  refine p_getI d_Bo_line_4 fl_Bo_131 kd_16 (Or.inl rfl) ?_
  refine p_eqI (y := nI s) (by rw [s7]; exact hs6) ?_
  refine p_si_999 d_Bo_line_7 ?_
  refine p_icmpltN (tgt := 16) (s) (999) d_Bo_line_10 (by decide) rfl rfl (by omega) (by omega) (fun h10 => ?_) (fun h10 => ?_)
  · refine p_aload_n d_Bo_line_16 rfl ?_
    refine p_getR d_Bo_line_17 fl_Bo_42 kd_1 rfl rf_1_6 ?_
    refine p_aload_n d_Bo_line_20 rfl ?_
    refine p_getR d_Bo_line_21 fl_Bo_29 kd_1 rfl rf_1_3 ?_
    refine q_V d_Bo_line_24 ml_Bo_153 vb_Hi_remember kd_22 ⟨leb rfl, leb rfl⟩ (c_hiRem Γ I J x u hx h1 h2 hu) rfl rfl rfl (fun r S1 IH J1 hQ => ?_)
    have hH := hQ
    obtain ⟨rfl, rfl, hJ, a1, a2, a3, a4, a5⟩ := hQ
    obtain rfl := hJ.symm
    have r16 : IH 16 = I 16 := a5 16 (by decide) (by omega) (by omega)
    have r17 : IH 17 = I 17 := a5 17 (by decide) (by omega) (by omega)
    have rC : ∀ z, z < 16 → IH z = I z := fun z q => a5 z (by omega) (by omega) (by omega)
    refine p_aload_n d_Bo_line_27 rfl ?_
    refine p_getR d_Bo_line_28 fl_Bo_19 kd_1 rfl rf_1_1 ?_
    refine p_aload_n d_Bo_line_31 rfl ?_
    refine p_getR d_Bo_line_32 fl_Bo_29 kd_1 rfl rf_1_3 ?_
    refine q_V d_Bo_line_35 ml_Bo_157 vb_Ch_singLine kd_4 ⟨leb rfl, leb rfl⟩ (c_singLine Γ IH J 4 16 n t ch_4 si_16 (by omega) (V.2.2.1.mv (rC 4 (by omega)) (rC 5 (by omega)) (rC 6 (by omega)) (rC 7 (by omega)) (rC 8 (by omega))) (V.2.2.2.1.mv r16 r17) hok) rfl rfl rfl (fun r S1 IS J1 hQ => ?_)
    obtain ⟨rfl, rfl, hJ, l1, l2, l3, l4, l5⟩ := hQ
    obtain rfl := hJ.symm
    refine p_aload_n d_Bo_line_38 rfl ?_
    refine p_getR d_Bo_line_39 fl_Bo_29 kd_1 rfl rf_1_3 ?_
    refine p_getI d_Bo_line_42 fl_Bo_134 kd_16 (Or.inl rfl) ?_
    refine p_eqI (y := singT n t 34) (l2) ?_
    refine p_iret d_Bo_line_45 rfl rfl ?_
    refine baQ_of hH (fun z b c d => l5 z c d b) ((V.2.2.2.1.mv r16 r17).sing l1 l2 l4 hn) ?_
    rw [l3, r16, s7, hs6, mnC_s hs]
    exact (itS_38 hn hs6 1).symm
  · exact absurd hs h10
theorem b_undo_st (Γ : Cx) (I : MemI) (J : MemJ) (h2 : I 22 2 = 0) : Ct Γ M_Bo_undo [.ref 1] S0 I J (eqQ (some (.int (-1000002))) S0 I J) := by
  refine ct_of [.ref 1] (by decide +kernel) rfl (leb rfl) rfl ?_
  refine p_aload_n d_Bo_undo_0 rfl ?_
  refine p_getR d_Bo_undo_1 fl_Bo_42 kd_1 rfl rf_1_6 ?_
  refine p_getI d_Bo_undo_4 fl_Bo_100 kd_22 (Or.inl rfl) ?_
  refine p_ifne (tgt := 13) d_Bo_undo_7 (by decide) (fun h7 => ?_) (fun h7 => ?_)
  · exact absurd h2 h7
  · refine p_ldc d_Bo_undo_10 kc_Bo_152 ?_
    refine p_iret d_Bo_undo_12 rfl rfl ?_
    exact ⟨rfl, rfl, rfl, rfl⟩
def buQ (x u : Nat) (I : MemI) (J : MemJ) : PQ := fun r S' I' J' => r = some (.int (nI u)) ∧ htQ x u I J none S' I' J'
theorem ne0 {u : Nat} (h : u + 1 ≤ 10) : ¬ nI (u + 1) = 0 := fun z => absurd ((nI_eq (a := u + 1) (b := 0) (by omega) (by omega)).mp z) (by omega)
theorem b_undo (Γ : Cx) (I : MemI) (J : MemJ) (x0 x u : Nat) (hx : x < 10) (hx0 : x0 < 10) (ex : x = (x0 + 9) % 10) (h1 : I 22 1 = nI x0) (h2 : I 22 2 = nI (u + 1)) (hu : u + 1 ≤ 10) : Ct Γ M_Bo_undo [.ref 1] S0 I J (buQ x u I J) := by
  refine ct_of [.ref 1] (by decide +kernel) rfl (leb rfl) rfl ?_
  refine p_aload_n d_Bo_undo_0 rfl ?_
  refine p_getR d_Bo_undo_1 fl_Bo_42 kd_1 rfl rf_1_6 ?_
  refine p_getI d_Bo_undo_4 fl_Bo_100 kd_22 (Or.inl rfl) ?_
  refine p_ifne (tgt := 13) d_Bo_undo_7 (by decide) (fun h7 => ?_) (fun h7 => ?_)
  · refine p_aload_n d_Bo_undo_13 rfl ?_
    refine p_getR d_Bo_undo_14 fl_Bo_42 kd_1 rfl rf_1_6 ?_
    refine p_aload_n d_Bo_undo_17 rfl ?_
    refine p_getR d_Bo_undo_18 fl_Bo_29 kd_1 rfl rf_1_3 ?_
    refine q_V d_Bo_undo_21 ml_Bo_183 vb_Hi_takeBack kd_22 ⟨leb rfl, leb rfl⟩ (c_hiBack Γ I J x0 x u hx hx0 ex h1 h2 hu) rfl rfl rfl (fun r S1 IH J1 hQ => ?_)
    have hH := hQ
    obtain ⟨rfl, rfl, hJ, a1, a2, a3, a4, a5⟩ := hQ
    obtain rfl := hJ.symm
    refine p_aload_n d_Bo_undo_24 rfl ?_
    refine p_getR d_Bo_undo_25 fl_Bo_42 kd_1 rfl rf_1_6 ?_
    refine p_getI d_Bo_undo_28 fl_Bo_100 kd_22 (Or.inl rfl) ?_
    refine p_eqI (y := nI u) (a4) ?_
    refine p_iret d_Bo_undo_31 rfl rfl ?_
    exact ⟨rfl, hH⟩
  · rw [h2] at h7
    exact absurd h7 (ne0 hu)
theorem b_keep_bad (Γ : Cx) (I : MemI) (J : MemJ) (a : Int32) (hb : ¬ (0 ≤ a ∧ a ≤ 1)) : Ct Γ M_Bo_keep [.ref 1, .int a] S0 I J (eqQ (some (.int (-1000001))) S0 I J) := by
  refine ct_of [.ref 1, .int a] (by decide +kernel) rfl (leb rfl) rfl ?_
  refine p_iload_n d_Bo_keep_0 rfl ?_
  refine p_ic_0 d_Bo_keep_1 ?_
  refine p_ic_1 d_Bo_keep_2 ?_
  refine q_S1 d_Bo_keep_3 ml_Bo_64 sb_Bo_within ⟨leb rfl, leb rfl⟩ (c_within Γ S0 _ _ a 0 1) rfl rfl rfl ?_
  refine p_ifneB (tgt := 12) d_Bo_keep_6 (by decide) (fun h6 => ?_) (fun h6 => ?_)
  · exact absurd h6 hb
  · refine p_ldc d_Bo_keep_9 kc_Bo_68 ?_
    refine p_iret d_Bo_keep_11 rfl rfl ?_
    exact ⟨rfl, rfl, rfl, rfl⟩
theorem b_back_bad (Γ : Cx) (I : MemI) (J : MemJ) (a : Int32) (hb : ¬ (0 ≤ a ∧ a ≤ 1)) : Ct Γ M_Bo_back [.ref 1, .int a] S0 I J (eqQ (some (.int (-1000001))) S0 I J) := by
  refine ct_of [.ref 1, .int a] (by decide +kernel) rfl (leb rfl) rfl ?_
  refine p_iload_n d_Bo_back_0 rfl ?_
  refine p_ic_0 d_Bo_back_1 ?_
  refine p_ic_1 d_Bo_back_2 ?_
  refine q_S1 d_Bo_back_3 ml_Bo_64 sb_Bo_within ⟨leb rfl, leb rfl⟩ (c_within Γ S0 _ _ a 0 1) rfl rfl rfl ?_
  refine p_ifneB (tgt := 12) d_Bo_back_6 (by decide) (fun h6 => ?_) (fun h6 => ?_)
  · exact absurd h6 hb
  · refine p_ldc d_Bo_back_9 kc_Bo_68 ?_
    refine p_iret d_Bo_back_11 rfl rfl ?_
    exact ⟨rfl, rfl, rfl, rfl⟩
theorem b_back_st (Γ : Cx) (I : MemI) (J : MemJ) (i : Nat) (hi : i < 2) (hk : I 49 i = 0) : Ct Γ M_Bo_back [.ref 1, .int (nI i)] S0 I J (eqQ (some (.int (-1000002))) S0 I J) := by
  refine ct_of [.ref 1, .int (nI i)] (by decide +kernel) rfl (leb rfl) rfl ?_
  refine p_iload_n d_Bo_back_0 rfl ?_
  refine p_ic_0 d_Bo_back_1 ?_
  refine p_ic_1 d_Bo_back_2 ?_
  refine q_S1 d_Bo_back_3 ml_Bo_64 sb_Bo_within ⟨leb rfl, leb rfl⟩ (c_within Γ S0 _ _ (nI i) 0 1) rfl rfl rfl ?_
  refine p_ifneB (tgt := 12) d_Bo_back_6 (by decide) (fun h6 => ?_) (fun h6 => ?_)
  · refine p_aload_n d_Bo_back_12 rfl ?_
    refine p_getR d_Bo_back_13 fl_Bo_50 kd_1 rfl rf_1_8 ?_
    refine p_iload_n d_Bo_back_16 rfl ?_
    refine p_zaldN (i) d_Bo_back_17 ar_49 rfl (by omega) rfl ?_
    refine p_ifne (tgt := 24) d_Bo_back_18 (by decide) (fun h18 => ?_) (fun h18 => ?_)
    · exact absurd hk h18
    · refine p_ldc d_Bo_back_21 kc_Bo_152 ?_
      refine p_iret d_Bo_back_23 rfl rfl ?_
      exact ⟨rfl, rfl, rfl, rfl⟩
  · exact absurd (i1 i hi) h6
def bkQ (i : Nat) (I : MemI) (J : MemJ) : PQ := fun r S' I' J' => r = some (.int (I 16 6)) ∧ S' = S0 ∧ J' = J ∧ (∀ k, k < 6 → I' (45 + 2 * i + 1) k = I 17 k) ∧ (∀ y, 1 ≤ y → y ≤ 6 → I' (45 + 2 * i) y = I 16 y) ∧ (∀ y, I' 49 y = if y = i then 1 else I 49 y) ∧ ∀ z, z ≠ 45 + 2 * i → z ≠ 45 + 2 * i + 1 → z ≠ 49 → I' z = I z
def bbQ (i : Nat) (I : MemI) (J : MemJ) : PQ := fun r S' I' J' => r = some (.int (I (45 + 2 * i) 6)) ∧ S' = S0 ∧ J' = J ∧ (∀ k, k < 6 → I' 17 k = I (45 + 2 * i + 1) k) ∧ (∀ y, 1 ≤ y → y ≤ 6 → I' 16 y = I (45 + 2 * i) y) ∧ I' 22 2 = 0 ∧ (∀ y, y ≠ 2 → I' 22 y = I 22 y) ∧ ∀ z, z ≠ 16 → z ≠ 17 → z ≠ 22 → I' z = I z
theorem b_keep (Γ : Cx) (I : MemI) (J : MemJ) (i : Nat) (hi : i < 2) : Ct Γ M_Bo_keep [.ref 1, .int (nI i)] S0 I J (bkQ i I J) := by
  refine ct_of [.ref 1, .int (nI i)] (by decide +kernel) rfl (leb rfl) rfl ?_
  refine p_iload_n d_Bo_keep_0 rfl ?_
  refine p_ic_0 d_Bo_keep_1 ?_
  refine p_ic_1 d_Bo_keep_2 ?_
  refine q_S1 d_Bo_keep_3 ml_Bo_64 sb_Bo_within ⟨leb rfl, leb rfl⟩ (c_within Γ S0 _ _ (nI i) 0 1) rfl rfl rfl ?_
  refine p_ifneB (tgt := 12) d_Bo_keep_6 (by decide) (fun h6 => ?_) (fun h6 => ?_)
  · refine p_aload_n d_Bo_keep_12 rfl ?_
    refine p_getR d_Bo_keep_13 fl_Bo_46 kd_1 rfl rf_1_7 ?_
    refine p_iload_n d_Bo_keep_16 rfl ?_
    refine p_aaldN (i) d_Bo_keep_17 ar_44 rfl (by omega) rfl (im_ref i hi) ?_
    refine p_aload_n d_Bo_keep_18 rfl ?_
    refine p_getR d_Bo_keep_19 fl_Bo_29 kd_1 rfl rf_1_3 ?_
    refine q_V d_Bo_keep_22 ml_Bo_186 vb_Si_copyFrom (si_im hi).1 ⟨leb rfl, leb rfl⟩ (c_copy Γ I J (45 + 2 * i) 16 (si_im hi) si_16 (by omega)) rfl rfl rfl (fun r S1 IC J1 hQ => ?_)
    obtain ⟨rfl, rfl, hJ, q1, q2, q3⟩ := hQ
    obtain rfl := hJ.symm
    refine p_aload_n d_Bo_keep_25 rfl ?_
    refine p_getR d_Bo_keep_26 fl_Bo_50 kd_1 rfl rf_1_8 ?_
    refine p_iload_n d_Bo_keep_29 rfl ?_
    refine p_ic_1 d_Bo_keep_30 ?_
    refine p_zastN (i) d_Bo_keep_31 ar_49 rfl (by omega) rfl (Or.inr rfl) ?_
    refine p_aload_n d_Bo_keep_32 rfl ?_
    refine p_getR d_Bo_keep_33 fl_Bo_29 kd_1 rfl rf_1_3 ?_
    refine p_getI d_Bo_keep_36 fl_Bo_131 kd_16 (Or.inl rfl) ?_
    refine p_eqI (y := I 16 6) (by rw [up2_ne (by omega), q3 16 (by omega) (by omega)]) ?_
    refine p_iret d_Bo_keep_39 rfl rfl ?_
    refine ⟨rfl, rfl, rfl, fun k hk => ?_, fun y a b => ?_, fun y => ?_, fun z a b c => ?_⟩
    · rw [up2_ne (by omega)]; exact q1 k hk
    · rw [up2_ne (by omega)]; exact q2 y a b
    · simp only [up2, true_and]; rw [q3 49 (by omega) (by omega)]
    · rw [up2_o c]; exact q3 z a b
  · exact absurd (i1 i hi) h6
theorem b_back (Γ : Cx) (I : MemI) (J : MemJ) (i : Nat) (hi : i < 2) (hk : ¬ I 49 i = 0) : Ct Γ M_Bo_back [.ref 1, .int (nI i)] S0 I J (bbQ i I J) := by
  refine ct_of [.ref 1, .int (nI i)] (by decide +kernel) rfl (leb rfl) rfl ?_
  refine p_iload_n d_Bo_back_0 rfl ?_
  refine p_ic_0 d_Bo_back_1 ?_
  refine p_ic_1 d_Bo_back_2 ?_
  refine q_S1 d_Bo_back_3 ml_Bo_64 sb_Bo_within ⟨leb rfl, leb rfl⟩ (c_within Γ S0 _ _ (nI i) 0 1) rfl rfl rfl ?_
  refine p_ifneB (tgt := 12) d_Bo_back_6 (by decide) (fun h6 => ?_) (fun h6 => ?_)
  · refine p_aload_n d_Bo_back_12 rfl ?_
    refine p_getR d_Bo_back_13 fl_Bo_50 kd_1 rfl rf_1_8 ?_
    refine p_iload_n d_Bo_back_16 rfl ?_
    refine p_zaldN (i) d_Bo_back_17 ar_49 rfl (by omega) rfl ?_
    refine p_ifne (tgt := 24) d_Bo_back_18 (by decide) (fun h18 => ?_) (fun h18 => ?_)
    · refine p_aload_n d_Bo_back_24 rfl ?_
      refine p_getR d_Bo_back_25 fl_Bo_29 kd_1 rfl rf_1_3 ?_
      refine p_aload_n d_Bo_back_28 rfl ?_
      refine p_getR d_Bo_back_29 fl_Bo_46 kd_1 rfl rf_1_7 ?_
      refine p_iload_n d_Bo_back_32 rfl ?_
      refine p_aaldN (i) d_Bo_back_33 ar_44 rfl (by omega) rfl (im_ref i hi) ?_
      refine q_V d_Bo_back_34 ml_Bo_186 vb_Si_copyFrom kd_16 ⟨leb rfl, leb rfl⟩ (c_copy Γ I J 16 (45 + 2 * i) si_16 (si_im hi) (by omega)) rfl rfl rfl (fun r S1 IC J1 hQ => ?_)
      obtain ⟨rfl, rfl, hJ, q1, q2, q3⟩ := hQ
      obtain rfl := hJ.symm
      refine p_aload_n d_Bo_back_37 rfl ?_
      refine p_getR d_Bo_back_38 fl_Bo_42 kd_1 rfl rf_1_6 ?_
      refine p_ic_0 d_Bo_back_41 ?_
      refine p_putI d_Bo_back_42 fl_Bo_100 kd_22 rfl nf_1_2 ?_
      refine p_aload_n d_Bo_back_45 rfl ?_
      refine p_getR d_Bo_back_46 fl_Bo_29 kd_1 rfl rf_1_3 ?_
      refine p_getI d_Bo_back_49 fl_Bo_131 kd_16 (Or.inl rfl) ?_
      refine p_eqI (y := I (45 + 2 * i) 6) (by rw [up2_ne (by omega)]; exact q2 6 (by omega) (by omega)) ?_
      refine p_iret d_Bo_back_52 rfl rfl ?_
      refine ⟨rfl, rfl, rfl, fun k hk => ?_, fun y a b => ?_, up2_s, fun y a => ?_, fun z a b c => ?_⟩
      · rw [up2_ne (by omega)]; exact q1 k hk
      · rw [up2_ne (by omega)]; exact q2 y a b
      · rw [up2_ne (by omega), q3 22 (by omega) (by omega)]
      · rw [up2_o c]; exact q3 z a b
    · exact absurd h18 hk
  · exact absurd (i1 i hi) h6
