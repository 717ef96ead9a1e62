/-! ===== the reference's calls that only read, or change a little ===== -/
def isP (n : Nat) (x : Int32) : Prop := 0 ≤ x ∧ x < nI n
theorem isP_iff {n : Nat} (hn : n ≤ 6) {x : Int32} : (0 ≤ x ∧ x ≤ nI n - 1) ↔ (0 ≤ x ∧ x < nI n) := by
  have h : (nI n - 1).toInt = (n : Int) - 1 := by
    match n, hn with
    | 0, _ => decide
    | 1, _ => decide
    | 2, _ => decide
    | 3, _ => decide
    | 4, _ => decide
    | 5, _ => decide
    | 6, _ => decide
  rw [i32_le, i32_le, i32_lt, h, nI_toInt (by omega)]
  omega
theorem isP_nI {n k : Nat} (hn : n ≤ 6) (hk : k < n) : 0 ≤ nI k ∧ nI k < nI n := ⟨nI_pos' (by omega), (nI_ltI (by omega) (by omega)).mpr hk⟩
theorem m_isPew (Γ : Cx) (I : MemI) (J : MemJ) (n : Nat) (x : Int32) (hn : n ≤ 6) (h0 : I 54 0 = nI n) : Ct Γ M_Mo_isPew [.ref 53, .int x] S0 I J (eqQ (some (.int (bI (0 ≤ x ∧ x < nI n)))) S0 I J) := by
  have h := c_isPew Γ I J x
  rw [h0, bI_c (isP_iff hn)] at h
  exact h
theorem in_nI {lo hi : Int32} {k : Nat} (h1 : lo ≤ nI k) (h2 : nI k ≤ hi) : lo ≤ nI k ∧ nI k ≤ hi := ⟨h1, h2⟩
def pop (b : Nat) : Nat := b % 2 + b / 2 % 2 + b / 4 % 2 + b / 8 % 2 + b / 16 % 2 + b / 32 % 2
theorem pop_0 : ∀ b, b < 64 → (pop b = 0 ↔ b = 0) := by decide +kernel
theorem pop_s : ∀ b, b < 64 → b ≠ 0 → (nI b &&& (nI b - 1)) = nI (b &&& (b - 1)) ∧ (b &&& (b - 1)) < 64 ∧ pop b = pop (b &&& (b - 1)) + 1 := by decide +kernel
theorem pop_le : ∀ b, b < 64 → pop b ≤ 6 := by decide +kernel
def rsT (n g : Nat) (t : Nat → Int32) : Nat → Int32 := fun y => if 28 ≤ y ∧ y < 28 + n then t y / nI (g + 1) else t y
theorem m_rests (Γ : Cx) (I : MemI) (J : MemJ) (tc n g : Nat) (ht : ar S0 tc 10 39) (hn : n ≤ 6) (hg : g ≤ 9) (h0 : I tc 0 = nI n) : Ct Γ M_Mo_rests [.ref tc, .int (nI g)] S0 I J (r1Q none tc (rsT n g (I tc)) I J) := by
  have LP : ∀ (f k : Nat) (I1 : MemI), k + f = n → (∀ y, I1 tc y = if 28 ≤ y ∧ y < 28 + k then I tc y / nI (g + 1) else I tc y) → (∀ x, x ≠ tc → I1 x = I x) → WP Γ M_Mo_rests (0, 0) S0 I1 J 2 [.ref tc, .int (nI g), .int (nI k)] [] (r1Q none tc (rsT n g (I tc)) I J) := by
    intro f
    induction f with
    | zero =>
      intro k I1 hkf hr hx
      obtain rfl : k = n := by omega
      refine p_iload_n d_Mo_rests_2 rfl ?_
      refine p_aload_n d_Mo_rests_3 rfl ?_
      refine p_ic_0 d_Mo_rests_4 ?_
      refine p_ialdN (0) d_Mo_rests_5 ht rfl (by omega) rfl ?_
      refine p_eqI (y := nI k) (by rw [hr, if_neg (by omega)]; exact h0) ?_
      refine p_icmpgeN (tgt := 27) (k) (k) d_Mo_rests_6 (by decide) rfl rfl (by omega) (by omega) (fun h6 => ?_) (fun h6 => ?_)
      · refine p_ret d_Mo_rests_27 rfl ?_
        exact ⟨rfl, rfl, rfl, funext hr, hx⟩
      · exact absurd (Nat.le_refl _) h6
    | succ f ih =>
      intro k I1 hkf hr hx
      refine p_iload_n d_Mo_rests_2 rfl ?_
      refine p_aload_n d_Mo_rests_3 rfl ?_
      refine p_ic_0 d_Mo_rests_4 ?_
      refine p_ialdN (0) d_Mo_rests_5 ht rfl (by omega) rfl ?_
      refine p_eqI (y := nI n) (by rw [hr, if_neg (by omega)]; exact h0) ?_
      refine p_icmpgeN (tgt := 27) (k) (n) d_Mo_rests_6 (by decide) rfl rfl (by omega) (by omega) (fun h6 => ?_) (fun h6 => ?_)
      · exact absurd h6 (by omega)
      · refine p_aload_n d_Mo_rests_9 rfl ?_
        refine p_bi_28 d_Mo_rests_10 ?_
        refine p_iload_n d_Mo_rests_12 rfl ?_
        refine p_iaddN (28) (k) d_Mo_rests_13 rfl rfl ?_
        refine p_dup2 d_Mo_rests_14 rfl rfl ?_
        refine p_ialdN (28 + k) d_Mo_rests_15 ht rfl (by omega) rfl ?_
        refine p_iload_n d_Mo_rests_16 rfl ?_
        refine p_ic_1 d_Mo_rests_17 ?_
        refine p_iaddN (g) (1) d_Mo_rests_18 rfl rfl ?_
        refine p_idiv d_Mo_rests_19 (nI_ne0 (by omega) (by omega)) ?_
        refine p_iastN (28 + k) d_Mo_rests_20 ht rfl (by omega) rfl ?_
        refine p_incN_2_1 d_Mo_rests_21 (by decide) rfl ?_
        refine p_goto (tgt := 2) d_Mo_rests_24 (by decide) ?_
        refine ih (k + 1) _ (by omega) (fun y => ?_) (fun x q => ?_)
        · simp only [up2, true_and]
          by_cases q : y = 28 + k
          · subst q
            rw [if_pos rfl, if_pos (by omega), hr, if_neg (by omega)]
          · rw [if_neg q, hr y]
            by_cases q2 : 28 ≤ y ∧ y < 28 + k
            · rw [if_pos q2, if_pos (by omega)]
            · rw [if_neg q2, if_neg (by omega)]
        · funext y
          simp only [up2]
          rw [if_neg (fun z => q z.1), hx x q]
  refine ct_of [.ref tc, .int (nI g), .null] (by decide +kernel) rfl (leb rfl) rfl ?_
  refine p_ic_0 d_Mo_rests_0 ?_
  refine p_is_2 d_Mo_rests_1 (by decide) rfl ?_
  exact LP n 0 I (by omega) (fun y => by rw [if_neg (by omega)]) (fun x _ => rfl)
theorem m_bits (Γ : Cx) (S : Sh) (I : MemI) (J : MemJ) (b : Nat) (hb : b < 64) : Ct Γ M_Mo_bits [.int (nI b)] S I J (eqQ (some (.int (nI (pop b)))) S I J) := by
  have LP : ∀ (f c k : Nat), pop c = f → c < 64 → k + f = pop b → WP Γ M_Mo_bits (0, 0) S I J 4 [.int (nI b), .int (nI k), .int (nI c)] [] (eqQ (some (.int (nI (pop b)))) S I J) := by
    intro f
    have hb6 := pop_le b hb
    induction f with
    | zero =>
      intro c k hc hc2 hkf
      obtain rfl : c = 0 := (pop_0 c hc2).mp hc
      refine p_iload_n d_Mo_bits_4 rfl ?_
      refine p_ifeq (tgt := 20) d_Mo_bits_5 (by decide) (fun h5 => ?_) (fun h5 => ?_)
      · refine p_iload_n d_Mo_bits_20 rfl ?_
        refine p_iret d_Mo_bits_21 rfl rfl ?_
        exact ⟨by rw [show k = pop b by omega], rfl, rfl, rfl⟩
      · exact absurd rfl h5
    | succ f ih =>
      intro c k hc hc2 hkf
      have hc0 : c ≠ 0 := fun q => by rw [q] at hc; have z : pop 0 = 0 := rfl; omega
      obtain ⟨e1, e2, e3⟩ := pop_s c hc2 hc0
      refine p_iload_n d_Mo_bits_4 rfl ?_
      refine p_ifeq (tgt := 20) d_Mo_bits_5 (by decide) (fun h5 => ?_) (fun h5 => ?_)
      · exact absurd h5 (nI_ne0 (by omega) (by omega))
      · refine p_incN_1_1 d_Mo_bits_8 (by decide) rfl ?_
        refine p_iload_n d_Mo_bits_11 rfl ?_
        refine p_iload_n d_Mo_bits_12 rfl ?_
        refine p_ic_1 d_Mo_bits_13 ?_
        refine p_isub d_Mo_bits_14 ?_
        refine p_iand d_Mo_bits_15 ?_
        refine p_eqI e1 ?_
        refine p_is_2 d_Mo_bits_16 (by decide) rfl ?_
        refine p_goto (tgt := 4) d_Mo_bits_17 (by decide) ?_
        exact ih (c &&& (c - 1)) (k + 1) (by omega) e2 (by omega)
  refine ct_of [.int (nI b), .null, .null] (by decide +kernel) rfl (leb rfl) rfl ?_
  refine p_ic_0 d_Mo_bits_0 ?_
  refine p_is_1 d_Mo_bits_1 (by decide) rfl ?_
  refine p_iload_n d_Mo_bits_2 rfl ?_
  refine p_is_2 d_Mo_bits_3 (by decide) rfl ?_
  exact LP (pop b) b 0 rfl hb (by omega)
theorem m_type_bad (Γ : Cx) (I : MemI) (J : MemJ) (x : Int32) (hb : ¬ (0 ≤ x ∧ x ≤ 255)) : Ct Γ M_Mo_type [.ref 53, .int x] S0 I J (eqQ (some (.int (-1000001))) S0 I J) := by
  refine ct_of [.ref 53, .int x] (by decide +kernel) rfl (leb rfl) rfl ?_
  refine p_iload_n d_Mo_type_0 rfl ?_
  refine p_i2l d_Mo_type_1 ?_
  refine p_lc_0 d_Mo_type_2 ?_
  refine p_ldc2 d_Mo_type_3 kl_Mo_49 ?_
  refine q_S1 d_Mo_type_6 ml_Mo_45 sb_Mo_in ⟨leb rfl, leb rfl⟩ (c_in Γ _ _ _ x 0 255 (by decide) (by decide)) rfl rfl rfl ?_
  refine p_ifneB (tgt := 15) d_Mo_type_9 (by decide) (fun h9 => ?_) (fun h9 => ?_)
  · exact absurd h9 hb
  · refine p_ldc d_Mo_type_12 kc_Mo_51 ?_
    refine p_iret d_Mo_type_14 rfl rfl ?_
    exact ⟨rfl, rfl, rfl, rfl⟩
theorem m_type_full (Γ : Cx) (I : MemI) (J : MemJ) (x : Int32) (hb : 0 ≤ x ∧ x ≤ 255) (hl : I 53 6 = nI 200) : Ct Γ M_Mo_type [.ref 53, .int x] S0 I J (eqQ (some (.int (-1000003))) S0 I J) := by
  refine ct_of [.ref 53, .int x] (by decide +kernel) rfl (leb rfl) rfl ?_
  refine p_iload_n d_Mo_type_0 rfl ?_
  refine p_i2l d_Mo_type_1 ?_
  refine p_lc_0 d_Mo_type_2 ?_
  refine p_ldc2 d_Mo_type_3 kl_Mo_49 ?_
  refine q_S1 d_Mo_type_6 ml_Mo_45 sb_Mo_in ⟨leb rfl, leb rfl⟩ (c_in Γ _ _ _ x 0 255 (by decide) (by decide)) rfl rfl rfl ?_
  refine p_ifneB (tgt := 15) d_Mo_type_9 (by decide) (fun h9 => ?_) (fun h9 => ?_)
  · refine p_aload_n d_Mo_type_15 rfl ?_
    refine p_getI d_Mo_type_16 fl_Mo_52 kd_53 (Or.inl rfl) ?_
    refine p_eqI hl ?_
    refine p_si_200 d_Mo_type_19 ?_
    refine p_icmpneN (tgt := 28) (200) (200) d_Mo_type_22 (by decide) rfl rfl (by omega) (by omega) (fun h22 => ?_) (fun h22 => ?_)
    · exact absurd rfl h22
    · refine p_ldc d_Mo_type_25 kc_Mo_56 ?_
      refine p_iret d_Mo_type_27 rfl rfl ?_
      exact ⟨rfl, rfl, rfl, rfl⟩
  · exact absurd hb h9
theorem m_type_ok (Γ : Cx) (I : MemI) (J : MemJ) (x : Int32) (l : Nat) (hb : 0 ≤ x ∧ x ≤ 255) (hl : I 53 6 = nI l) (h2 : l < 200) : Ct Γ M_Mo_type [.ref 53, .int x] S0 I J (eqQ (some (.int (nI (l + 1)))) S0 (up2 (up2 I 58 l x) 53 6 (nI (l + 1))) J) := by
  refine ct_of [.ref 53, .int x] (by decide +kernel) rfl (leb rfl) rfl ?_
  refine p_iload_n d_Mo_type_0 rfl ?_
  refine p_i2l d_Mo_type_1 ?_
  refine p_lc_0 d_Mo_type_2 ?_
  refine p_ldc2 d_Mo_type_3 kl_Mo_49 ?_
  refine q_S1 d_Mo_type_6 ml_Mo_45 sb_Mo_in ⟨leb rfl, leb rfl⟩ (c_in Γ _ _ _ x 0 255 (by decide) (by decide)) rfl rfl rfl ?_
  refine p_ifneB (tgt := 15) d_Mo_type_9 (by decide) (fun h9 => ?_) (fun h9 => ?_)
  · refine p_aload_n d_Mo_type_15 rfl ?_
    refine p_getI d_Mo_type_16 fl_Mo_52 kd_53 (Or.inl rfl) ?_
    refine p_eqI hl ?_
    refine p_si_200 d_Mo_type_19 ?_
    refine p_icmpneN (tgt := 28) (l) (200) d_Mo_type_22 (by decide) rfl rfl (by omega) (by omega) (fun h22 => ?_) (fun h22 => ?_)
    · refine p_aload_n d_Mo_type_28 rfl ?_
      refine p_getR d_Mo_type_29 fl_Mo_23 kd_53 rfl rf_53_5 ?_
      refine p_aload_n d_Mo_type_32 rfl ?_
      refine p_getI d_Mo_type_33 fl_Mo_52 kd_53 (Or.inl rfl) ?_
      refine p_eqI hl ?_
      refine p_iload_n d_Mo_type_36 rfl ?_
      refine p_iastN (l) d_Mo_type_37 ar_58 rfl (by omega) rfl ?_
      refine p_aload_n d_Mo_type_38 rfl ?_
      refine p_dup d_Mo_type_39 rfl ?_
      refine p_getI d_Mo_type_40 fl_Mo_52 kd_53 (Or.inl rfl) ?_
      refine p_eqI (y := nI l) (by simp [up2, hl]) ?_
      refine p_ic_1 d_Mo_type_43 ?_
      refine p_iaddN (l) (1) d_Mo_type_44 rfl rfl ?_
      refine p_putI d_Mo_type_45 fl_Mo_52 kd_53 rfl nf_5_6 ?_
      refine p_aload_n d_Mo_type_48 rfl ?_
      refine p_getI d_Mo_type_49 fl_Mo_52 kd_53 (Or.inl rfl) ?_
      refine p_iret d_Mo_type_52 rfl rfl ?_
      exact ⟨by simp [up2], rfl, rfl, rfl⟩
    · exact absurd h22 (by omega)
  · exact absurd hb h9
theorem m_clear (Γ : Cx) (I : MemI) (J : MemJ) : Ct Γ M_Mo_clear [.ref 53] S0 I J (eqQ (some (.int (I 53 6))) S0 (up2 I 53 6 0) J) := by
  refine ct_of [.ref 53, .null] (by decide +kernel) rfl (leb rfl) rfl ?_
  refine p_aload_n d_Mo_clear_0 rfl ?_
  refine p_getI d_Mo_clear_1 fl_Mo_52 kd_53 (Or.inl rfl) ?_
  refine p_is_1 d_Mo_clear_4 (by decide) rfl ?_
  refine p_aload_n d_Mo_clear_5 rfl ?_
  refine p_ic_0 d_Mo_clear_6 ?_
  refine p_putI d_Mo_clear_7 fl_Mo_52 kd_53 rfl nf_5_6 ?_
  refine p_iload_n d_Mo_clear_10 rfl ?_
  refine p_iret d_Mo_clear_11 rfl rfl ?_
  exact ⟨rfl, rfl, rfl, rfl⟩
theorem m_forget (Γ : Cx) (I : MemI) (J : MemJ) : Ct Γ M_Mo_forget [.ref 53] S0 I J (eqQ (some (.int (I 53 8))) S0 (up2 I 53 8 0) J) := by
  refine ct_of [.ref 53, .null] (by decide +kernel) rfl (leb rfl) rfl ?_
  refine p_aload_n d_Mo_forget_0 rfl ?_
  refine p_getI d_Mo_forget_1 fl_Mo_99 kd_53 (Or.inl rfl) ?_
  refine p_is_1 d_Mo_forget_4 (by decide) rfl ?_
  refine p_aload_n d_Mo_forget_5 rfl ?_
  refine p_ic_0 d_Mo_forget_6 ?_
  refine p_putI d_Mo_forget_7 fl_Mo_99 kd_53 rfl nf_5_8 ?_
  refine p_iload_n d_Mo_forget_10 rfl ?_
  refine p_iret d_Mo_forget_11 rfl rfl ?_
  exact ⟨rfl, rfl, rfl, rfl⟩
theorem m_trace (Γ : Cx) (I : MemI) (J : MemJ) : Ct Γ M_Mo_trace [.ref 53] S0 I J (eqQ (some (.long (J 53 9))) S0 I J) := by
  refine ct_of [.ref 53] (by decide +kernel) rfl (leb rfl) rfl ?_
  refine p_aload_n d_Mo_trace_0 rfl ?_
  refine p_getJ d_Mo_trace_1 fl_Mo_182 kd_53 rfl ?_
  refine p_lret d_Mo_trace_4 rfl ?_
  exact ⟨rfl, rfl, rfl, rfl⟩
def pewT (t : Nat → Int32) (k q : Nat) : Int32 := if q < 5 then t (4 + 6 * q + k) else if q = 5 then t (4 + k) / 6 else t 37 >>> (nI k &&& 31) &&& 1
theorem i6 : ∀ q, q ≤ 6 → (0 : Int32) ≤ nI q ∧ nI q ≤ 6 := by decide +kernel
theorem m_pew (Γ : Cx) (I : MemI) (J : MemJ) (n k q : Nat) (hn : n ≤ 6) (h0 : I 54 0 = nI n) (hk : k < n) (hq : q ≤ 6) : Ct Γ M_Mo_pew [.ref 53, .int (nI k), .int (nI q)] S0 I J (eqQ (some (.int (pewT (I 54) k q))) S0 I J) := by
  refine ct_of [.ref 53, .int (nI k), .int (nI q)] (by decide +kernel) rfl (leb rfl) rfl ?_
  refine p_aload_n d_Mo_pew_0 rfl ?_
  refine p_iload_n d_Mo_pew_1 rfl ?_
  refine q_V1 d_Mo_pew_2 ml_Mo_102 vb_Mo_isPew kd_53 ⟨leb rfl, leb rfl⟩ (m_isPew Γ I J n (nI k) hn h0) rfl rfl rfl ?_
  refine p_ifeqB (tgt := 20) d_Mo_pew_5 (by decide) (fun h5 => ?_) (fun h5 => ?_)
  · first | exact absurd (isP_nI hn hk) h5 | exact absurd (i6 q hq) h17
  · refine p_iload_n d_Mo_pew_8 rfl ?_
    refine p_i2l d_Mo_pew_9 ?_
    refine p_lc_0 d_Mo_pew_10 ?_
    refine p_ldc2 d_Mo_pew_11 kl_Mo_105 ?_
    refine q_S1 d_Mo_pew_14 ml_Mo_45 sb_Mo_in ⟨leb rfl, leb rfl⟩ (c_in Γ _ _ _ (nI q) 0 6 (by decide) (by decide)) rfl rfl rfl ?_
    refine p_ifneB (tgt := 23) d_Mo_pew_17 (by decide) (fun h17 => ?_) (fun h17 => ?_)
    · refine p_iload_n d_Mo_pew_23 rfl ?_
      refine p_ic_5 d_Mo_pew_24 ?_
      refine p_icmpgeN (tgt := 44) (q) (5) d_Mo_pew_25 (by decide) rfl rfl (by omega) (by omega) (fun h25 => ?_) (fun h25 => ?_)
      · refine p_iload_n d_Mo_pew_44 rfl ?_
        refine p_ic_5 d_Mo_pew_45 ?_
        refine p_icmpneN (tgt := 63) (q) (5) d_Mo_pew_46 (by decide) rfl rfl (by omega) (by omega) (fun h46 => ?_) (fun h46 => ?_)
        · refine p_aload_n d_Mo_pew_63 rfl ?_
          refine p_getR d_Mo_pew_64 fl_Mo_7 kd_53 rfl rf_53_0 ?_
          refine p_bi_37 d_Mo_pew_67 ?_
          refine p_ialdN (37) d_Mo_pew_69 ar_54 rfl (by omega) rfl ?_
          refine p_iload_n d_Mo_pew_70 rfl ?_
          refine p_ishr d_Mo_pew_71 ?_
          refine p_ic_1 d_Mo_pew_72 ?_
          refine p_iand d_Mo_pew_73 ?_
          refine p_iret d_Mo_pew_74 rfl rfl ?_
          refine ⟨?_, rfl, rfl, rfl⟩
          first | (rw [pewT, if_pos (show q < 5 by omega)]; done) | (rw [pewT, if_neg (show ¬ q < 5 by omega), if_pos (show q = 5 by omega)]; done) | (rw [pewT, if_neg (show ¬ q < 5 by omega), if_neg (show ¬ q = 5 by omega)]; done)
        · refine p_aload_n d_Mo_pew_49 rfl ?_
          refine p_getR d_Mo_pew_50 fl_Mo_7 kd_53 rfl rf_53_0 ?_
          refine p_ic_4 d_Mo_pew_53 ?_
          refine p_iload_n d_Mo_pew_54 rfl ?_
          refine p_iaddN (4) (k) d_Mo_pew_55 rfl rfl ?_
          refine p_ialdN (4 + k) d_Mo_pew_56 ar_54 rfl (by omega) rfl ?_
          refine p_bi_6 d_Mo_pew_57 ?_
          refine p_idiv d_Mo_pew_59 (by decide) ?_
          refine p_goto (tgt := 74) d_Mo_pew_60 (by decide) ?_
          refine p_iret d_Mo_pew_74 rfl rfl ?_
          refine ⟨?_, rfl, rfl, rfl⟩
          first | (rw [pewT, if_pos (show q < 5 by omega)]; done) | (rw [pewT, if_neg (show ¬ q < 5 by omega), if_pos (show q = 5 by omega)]; done) | (rw [pewT, if_neg (show ¬ q < 5 by omega), if_neg (show ¬ q = 5 by omega)]; done)
      · refine p_aload_n d_Mo_pew_28 rfl ?_
        refine p_getR d_Mo_pew_29 fl_Mo_7 kd_53 rfl rf_53_0 ?_
        refine p_ic_4 d_Mo_pew_32 ?_
        refine p_bi_6 d_Mo_pew_33 ?_
        refine p_iload_n d_Mo_pew_35 rfl ?_
        refine p_imulN (6) (q) d_Mo_pew_36 rfl rfl ?_
        refine p_iaddN (4) (6 * q) d_Mo_pew_37 rfl rfl ?_
        refine p_iload_n d_Mo_pew_38 rfl ?_
        refine p_iaddN (4 + (6 * q)) (k) d_Mo_pew_39 rfl rfl ?_
        refine p_ialdN ((4 + (6 * q)) + k) d_Mo_pew_40 ar_54 rfl (by omega) rfl ?_
        refine p_goto (tgt := 74) d_Mo_pew_41 (by decide) ?_
        refine p_iret d_Mo_pew_74 rfl rfl ?_
        refine ⟨?_, rfl, rfl, rfl⟩
        first | (rw [pewT, if_pos (show q < 5 by omega)]; done) | (rw [pewT, if_neg (show ¬ q < 5 by omega), if_pos (show q = 5 by omega)]; done) | (rw [pewT, if_neg (show ¬ q < 5 by omega), if_neg (show ¬ q = 5 by omega)]; done)
    · first | exact absurd (isP_nI hn hk) h5 | exact absurd (i6 q hq) h17
theorem m_pew_bad (Γ : Cx) (I : MemI) (J : MemJ) (n : Nat) (x w : Int32) (hn : n ≤ 6) (h0 : I 54 0 = nI n) (hb : ¬ ((0 ≤ x ∧ x < nI n) ∧ (0 ≤ w ∧ w ≤ 6))) : Ct Γ M_Mo_pew [.ref 53, .int x, .int w] S0 I J (eqQ (some (.int (-1000001))) S0 I J) := by
  refine ct_of [.ref 53, .int x, .int w] (by decide +kernel) rfl (leb rfl) rfl ?_
  refine p_aload_n d_Mo_pew_0 rfl ?_
  refine p_iload_n d_Mo_pew_1 rfl ?_
  refine q_V1 d_Mo_pew_2 ml_Mo_102 vb_Mo_isPew kd_53 ⟨leb rfl, leb rfl⟩ (m_isPew Γ I J n x hn h0) rfl rfl rfl ?_
  refine p_ifeqB (tgt := 20) d_Mo_pew_5 (by decide) (fun h5 => ?_) (fun h5 => ?_)
  · refine p_ldc d_Mo_pew_20 kc_Mo_51 ?_
    refine p_iret d_Mo_pew_22 rfl rfl ?_
    exact ⟨rfl, rfl, rfl, rfl⟩
  · refine p_iload_n d_Mo_pew_8 rfl ?_
    refine p_i2l d_Mo_pew_9 ?_
    refine p_lc_0 d_Mo_pew_10 ?_
    refine p_ldc2 d_Mo_pew_11 kl_Mo_105 ?_
    refine q_S1 d_Mo_pew_14 ml_Mo_45 sb_Mo_in ⟨leb rfl, leb rfl⟩ (c_in Γ _ _ _ w 0 6 (by decide) (by decide)) rfl rfl rfl ?_
    refine p_ifneB (tgt := 23) d_Mo_pew_17 (by decide) (fun h17 => ?_) (fun h17 => ?_)
    · exact absurd ⟨h5, h17⟩ hb
    · refine p_ldc d_Mo_pew_20 kc_Mo_51 ?_
      refine p_iret d_Mo_pew_22 rfl rfl ?_
      exact ⟨rfl, rfl, rfl, rfl⟩
def choT (x : Int32) : Int32 := if x < 0 then NONE else x
def nowT (n : Nat) (t : Nat → Int32) (u w : Int32) : Int32 := if w = 0 then t 38 else if w = 1 then t 34 else if w = 2 then t 35 else if w = 3 then choT (t 36) else if w = 4 then t 1 else if w = 5 then apT n t else if w = 6 then u else (-1000001)
def cntT (t : Nat → Int32) (e l w : Int32) : Int32 := if w = 0 then t 0 else if w = 1 then t 2 else if w = 2 then t 3 else if w = 3 then e else if w = 4 then l else (-1000001)
theorem m_now (Γ : Cx) (I : MemI) (J : MemJ) (n : Nat) (w : Int32) (hn : n ≤ 6) (h0 : I 54 0 = nI n) : Ct Γ M_Mo_now [.ref 53, .int w] S0 I J (eqQ (some (.int (nowT n (I 54) (I 53 2) w))) S0 I J) := by
  refine ct_of [.ref 53, .int w] (by decide +kernel) rfl (leb rfl) rfl ?_
  refine p_iload_n d_Mo_now_0 rfl ?_
  by_cases hs0 : w = 0
  · refine p_tabIn (off := 43) (tgt := 44) d_Mo_now_1 (by rw [hs0]; decide) (by rw [hs0]; decide) (by rw [hs0]; decide) (by decide) ?_
    refine p_aload_n d_Mo_now_44 rfl ?_
    refine p_getR d_Mo_now_45 fl_Mo_7 kd_53 rfl rf_53_0 ?_
    refine p_bi_38 d_Mo_now_48 ?_
    refine p_ialdN (38) d_Mo_now_50 ar_54 rfl (by omega) rfl ?_
    refine p_iret d_Mo_now_51 rfl rfl ?_
    exact ⟨by simp [nowT, hs0], rfl, rfl, rfl⟩
  by_cases hs1 : w = 1
  · refine p_tabIn (off := 51) (tgt := 52) d_Mo_now_1 (by rw [hs1]; decide) (by rw [hs1]; decide) (by rw [hs1]; decide) (by decide) ?_
    refine p_aload_n d_Mo_now_52 rfl ?_
    refine p_getR d_Mo_now_53 fl_Mo_7 kd_53 rfl rf_53_0 ?_
    refine p_bi_34 d_Mo_now_56 ?_
    refine p_ialdN (34) d_Mo_now_58 ar_54 rfl (by omega) rfl ?_
    refine p_iret d_Mo_now_59 rfl rfl ?_
    exact ⟨by simp [nowT, hs1], rfl, rfl, rfl⟩
  by_cases hs2 : w = 2
  · refine p_tabIn (off := 59) (tgt := 60) d_Mo_now_1 (by rw [hs2]; decide) (by rw [hs2]; decide) (by rw [hs2]; decide) (by decide) ?_
    refine p_aload_n d_Mo_now_60 rfl ?_
    refine p_getR d_Mo_now_61 fl_Mo_7 kd_53 rfl rf_53_0 ?_
    refine p_bi_35 d_Mo_now_64 ?_
    refine p_ialdN (35) d_Mo_now_66 ar_54 rfl (by omega) rfl ?_
    refine p_iret d_Mo_now_67 rfl rfl ?_
    exact ⟨by simp [nowT, hs2], rfl, rfl, rfl⟩
  by_cases hs3 : w = 3
  · refine p_tabIn (off := 67) (tgt := 68) d_Mo_now_1 (by rw [hs3]; decide) (by rw [hs3]; decide) (by rw [hs3]; decide) (by decide) ?_
    refine p_aload_n d_Mo_now_68 rfl ?_
    refine p_getR d_Mo_now_69 fl_Mo_7 kd_53 rfl rf_53_0 ?_
    refine p_bi_36 d_Mo_now_72 ?_
    refine p_ialdN (36) d_Mo_now_74 ar_54 rfl (by omega) rfl ?_
    refine p_ifge (tgt := 83) d_Mo_now_75 (by decide) (fun h75 => ?_) (fun h75 => ?_)
    · refine p_aload_n d_Mo_now_83 rfl ?_
      refine p_getR d_Mo_now_84 fl_Mo_7 kd_53 rfl rf_53_0 ?_
      refine p_bi_36 d_Mo_now_87 ?_
      refine p_ialdN (36) d_Mo_now_89 ar_54 rfl (by omega) rfl ?_
      refine p_iret d_Mo_now_90 rfl rfl ?_
      refine ⟨?_, rfl, rfl, rfl⟩
      subst hs3
      unfold nowT choT
      rw [if_neg (by decide), if_neg (by decide), if_neg (by decide), if_pos rfl]
      first | rw [if_pos (i32_nle.mp h75)]; rfl | rw [if_neg (i32_nlt.mpr h75)]
    · refine p_ldc d_Mo_now_78 kc_Mo_107 ?_
      refine p_goto (tgt := 90) d_Mo_now_80 (by decide) ?_
      refine p_iret d_Mo_now_90 rfl rfl ?_
      refine ⟨?_, rfl, rfl, rfl⟩
      subst hs3
      unfold nowT choT
      rw [if_neg (by decide), if_neg (by decide), if_neg (by decide), if_pos rfl]
      first | rw [if_pos (i32_nle.mp h75)]; rfl | rw [if_neg (i32_nlt.mpr h75)]
  by_cases hs4 : w = 4
  · refine p_tabIn (off := 90) (tgt := 91) d_Mo_now_1 (by rw [hs4]; decide) (by rw [hs4]; decide) (by rw [hs4]; decide) (by decide) ?_
    refine p_aload_n d_Mo_now_91 rfl ?_
    refine p_getR d_Mo_now_92 fl_Mo_7 kd_53 rfl rf_53_0 ?_
    refine p_ic_1 d_Mo_now_95 ?_
    refine p_ialdN (1) d_Mo_now_96 ar_54 rfl (by omega) rfl ?_
    refine p_iret d_Mo_now_97 rfl rfl ?_
    exact ⟨by simp [nowT, hs4], rfl, rfl, rfl⟩
  by_cases hs5 : w = 5
  · refine p_tabIn (off := 97) (tgt := 98) d_Mo_now_1 (by rw [hs5]; decide) (by rw [hs5]; decide) (by rw [hs5]; decide) (by decide) ?_
    refine p_aload_n d_Mo_now_98 rfl ?_
    refine p_getR d_Mo_now_99 fl_Mo_7 kd_53 rfl rf_53_0 ?_
    refine q_S1 d_Mo_now_102 ml_Mo_108 sb_Mo_apart ⟨leb rfl, leb rfl⟩ (m_apart Γ I J 54 n ar_54 hn h0) rfl rfl rfl ?_
    refine p_iret d_Mo_now_105 rfl rfl ?_
    exact ⟨by simp [nowT, hs5], rfl, rfl, rfl⟩
  by_cases hs6 : w = 6
  · refine p_tabIn (off := 105) (tgt := 106) d_Mo_now_1 (by rw [hs6]; decide) (by rw [hs6]; decide) (by rw [hs6]; decide) (by decide) ?_
    refine p_aload_n d_Mo_now_106 rfl ?_
    refine p_getI d_Mo_now_107 fl_Mo_96 kd_53 (Or.inl rfl) ?_
    refine p_iret d_Mo_now_110 rfl rfl ?_
    exact ⟨by simp [nowT, hs6], rfl, rfl, rfl⟩
  refine p_tabOut (tgt := 111) d_Mo_now_1 (by have q := fun (z : Int32) (k : Int) (h : ¬ w = z) (hk : z.toInt = k) => lv_neT h hk; have q0 := lv_neT (a := 0) hs0 (by decide); have q1 := lv_neT (a := 1) hs1 (by decide); have q2 := lv_neT (a := 2) hs2 (by decide); have q3 := lv_neT (a := 3) hs3 (by decide); have q4 := lv_neT (a := 4) hs4 (by decide); have q5 := lv_neT (a := 5) hs5 (by decide); have q6 := lv_neT (a := 6) hs6 (by decide); omega) (by decide) ?_
  refine p_ldc d_Mo_now_111 kc_Mo_51 ?_
  refine p_iret d_Mo_now_113 rfl rfl ?_
  exact ⟨by simp [nowT, hs0, hs1, hs2, hs3, hs4, hs5, hs6], rfl, rfl, rfl⟩
theorem m_count (Γ : Cx) (I : MemI) (J : MemJ) (w : Int32) : Ct Γ M_Mo_count [.ref 53, .int w] S0 I J (eqQ (some (.int (cntT (I 54) (I 53 8) (I 53 6) w))) S0 I J) := by
  refine ct_of [.ref 53, .int w] (by decide +kernel) rfl (leb rfl) rfl ?_
  refine p_iload_n d_Mo_count_0 rfl ?_
  by_cases hs0 : w = 0
  · refine p_tabIn (off := 35) (tgt := 36) d_Mo_count_1 (by rw [hs0]; decide) (by rw [hs0]; decide) (by rw [hs0]; decide) (by decide) ?_
    refine p_aload_n d_Mo_count_36 rfl ?_
    refine p_getR d_Mo_count_37 fl_Mo_7 kd_53 rfl rf_53_0 ?_
    refine p_ic_0 d_Mo_count_40 ?_
    refine p_ialdN (0) d_Mo_count_41 ar_54 rfl (by omega) rfl ?_
    refine p_iret d_Mo_count_42 rfl rfl ?_
    exact ⟨by simp [cntT, hs0], rfl, rfl, rfl⟩
  by_cases hs1 : w = 1
  · refine p_tabIn (off := 42) (tgt := 43) d_Mo_count_1 (by rw [hs1]; decide) (by rw [hs1]; decide) (by rw [hs1]; decide) (by decide) ?_
    refine p_aload_n d_Mo_count_43 rfl ?_
    refine p_getR d_Mo_count_44 fl_Mo_7 kd_53 rfl rf_53_0 ?_
    refine p_ic_2 d_Mo_count_47 ?_
    refine p_ialdN (2) d_Mo_count_48 ar_54 rfl (by omega) rfl ?_
    refine p_iret d_Mo_count_49 rfl rfl ?_
    exact ⟨by simp [cntT, hs1], rfl, rfl, rfl⟩
  by_cases hs2 : w = 2
  · refine p_tabIn (off := 49) (tgt := 50) d_Mo_count_1 (by rw [hs2]; decide) (by rw [hs2]; decide) (by rw [hs2]; decide) (by decide) ?_
    refine p_aload_n d_Mo_count_50 rfl ?_
    refine p_getR d_Mo_count_51 fl_Mo_7 kd_53 rfl rf_53_0 ?_
    refine p_ic_3 d_Mo_count_54 ?_
    refine p_ialdN (3) d_Mo_count_55 ar_54 rfl (by omega) rfl ?_
    refine p_iret d_Mo_count_56 rfl rfl ?_
    exact ⟨by simp [cntT, hs2], rfl, rfl, rfl⟩
  by_cases hs3 : w = 3
  · refine p_tabIn (off := 56) (tgt := 57) d_Mo_count_1 (by rw [hs3]; decide) (by rw [hs3]; decide) (by rw [hs3]; decide) (by decide) ?_
    refine p_aload_n d_Mo_count_57 rfl ?_
    refine p_getI d_Mo_count_58 fl_Mo_99 kd_53 (Or.inl rfl) ?_
    refine p_iret d_Mo_count_61 rfl rfl ?_
    exact ⟨by simp [cntT, hs3], rfl, rfl, rfl⟩
  by_cases hs4 : w = 4
  · refine p_tabIn (off := 61) (tgt := 62) d_Mo_count_1 (by rw [hs4]; decide) (by rw [hs4]; decide) (by rw [hs4]; decide) (by decide) ?_
    refine p_aload_n d_Mo_count_62 rfl ?_
    refine p_getI d_Mo_count_63 fl_Mo_52 kd_53 (Or.inl rfl) ?_
    refine p_iret d_Mo_count_66 rfl rfl ?_
    exact ⟨by simp [cntT, hs4], rfl, rfl, rfl⟩
  refine p_tabOut (tgt := 67) d_Mo_count_1 (by have q := fun (z : Int32) (k : Int) (h : ¬ w = z) (hk : z.toInt = k) => lv_neT h hk; have q0 := lv_neT (a := 0) hs0 (by decide); have q1 := lv_neT (a := 1) hs1 (by decide); have q2 := lv_neT (a := 2) hs2 (by decide); have q3 := lv_neT (a := 3) hs3 (by decide); have q4 := lv_neT (a := 4) hs4 (by decide); omega) (by decide) ?_
  refine p_ldc d_Mo_count_67 kc_Mo_51 ?_
  refine p_iret d_Mo_count_69 rfl rfl ?_
  exact ⟨by simp [cntT, hs0, hs1, hs2, hs3, hs4], rfl, rfl, rfl⟩
theorem m_hear_bad (Γ : Cx) (I : MemI) (J : MemJ) (n : Nat) (x y z : Int32) (hn : n ≤ 6) (h0 : I 54 0 = nI n) (hb : ¬ ((1 ≤ x ∧ x ≤ 20) ∧ (0 ≤ y ∧ y < nI n) ∧ (-99 ≤ z ∧ z ≤ 999))) : Ct Γ M_Mo_hear [.ref 53, .int x, .int y, .int z] S0 I J (eqQ (some (.int (-1000001))) S0 I J) := by
  refine ct_of [.ref 53, .int x, .int y, .int z] (by decide +kernel) rfl (leb rfl) rfl ?_
  refine p_iload_n d_Mo_hear_0 rfl ?_
  refine p_i2l d_Mo_hear_1 ?_
  refine p_lc_1 d_Mo_hear_2 ?_
  refine p_ldc2 d_Mo_hear_3 kl_Mo_131 ?_
  refine q_S1 d_Mo_hear_6 ml_Mo_45 sb_Mo_in ⟨leb rfl, leb rfl⟩ (c_in Γ _ _ _ x 1 20 (by decide) (by decide)) rfl rfl rfl ?_
  refine p_ifeqB (tgt := 34) d_Mo_hear_9 (by decide) (fun h9 => ?_) (fun h9 => ?_)
  · refine p_ldc d_Mo_hear_34 kc_Mo_51 ?_
    refine p_iret d_Mo_hear_36 rfl rfl ?_
    exact ⟨rfl, rfl, rfl, rfl⟩
  · refine p_aload_n d_Mo_hear_12 rfl ?_
    refine p_iload_n d_Mo_hear_13 rfl ?_
    refine q_V1 d_Mo_hear_14 ml_Mo_102 vb_Mo_isPew kd_53 ⟨leb rfl, leb rfl⟩ (m_isPew Γ I J n y hn h0) rfl rfl rfl ?_
    refine p_ifeqB (tgt := 34) d_Mo_hear_17 (by decide) (fun h17 => ?_) (fun h17 => ?_)
    · refine p_ldc d_Mo_hear_34 kc_Mo_51 ?_
      refine p_iret d_Mo_hear_36 rfl rfl ?_
      exact ⟨rfl, rfl, rfl, rfl⟩
    · refine p_iload_n d_Mo_hear_20 rfl ?_
      refine p_i2l d_Mo_hear_21 ?_
      refine p_ldc2 d_Mo_hear_22 kl_Mo_171 ?_
      refine p_ldc2 d_Mo_hear_25 kl_Mo_173 ?_
      refine q_S1 d_Mo_hear_28 ml_Mo_45 sb_Mo_in ⟨leb rfl, leb rfl⟩ (c_in Γ _ _ _ z (-99) 999 (by decide) (by decide)) rfl rfl rfl ?_
      refine p_ifneB (tgt := 37) d_Mo_hear_31 (by decide) (fun h31 => ?_) (fun h31 => ?_)
      · exact absurd ⟨h9, h17, h31⟩ hb
      · refine p_ldc d_Mo_hear_34 kc_Mo_51 ?_
        refine p_iret d_Mo_hear_36 rfl rfl ?_
        exact ⟨rfl, rfl, rfl, rfl⟩
theorem m_hear_full (Γ : Cx) (I : MemI) (J : MemJ) (n : Nat) (x y z : Int32) (hn : n ≤ 6) (h0 : I 54 0 = nI n) (hb : ((1 ≤ x ∧ x ≤ 20) ∧ (0 ≤ y ∧ y < nI n) ∧ (-99 ≤ z ∧ z ≤ 999))) (he : I 53 8 = nI 6) : Ct Γ M_Mo_hear [.ref 53, .int x, .int y, .int z] S0 I J (eqQ (some (.int (-1000003))) S0 I J) := by
  refine ct_of [.ref 53, .int x, .int y, .int z] (by decide +kernel) rfl (leb rfl) rfl ?_
  refine p_iload_n d_Mo_hear_0 rfl ?_
  refine p_i2l d_Mo_hear_1 ?_
  refine p_lc_1 d_Mo_hear_2 ?_
  refine p_ldc2 d_Mo_hear_3 kl_Mo_131 ?_
  refine q_S1 d_Mo_hear_6 ml_Mo_45 sb_Mo_in ⟨leb rfl, leb rfl⟩ (c_in Γ _ _ _ x 1 20 (by decide) (by decide)) rfl rfl rfl ?_
  refine p_ifeqB (tgt := 34) d_Mo_hear_9 (by decide) (fun h9 => ?_) (fun h9 => ?_)
  · first | exact absurd hb.1 h9 | exact absurd hb.2.1 h17 | exact absurd hb.2.2 h31
  · refine p_aload_n d_Mo_hear_12 rfl ?_
    refine p_iload_n d_Mo_hear_13 rfl ?_
    refine q_V1 d_Mo_hear_14 ml_Mo_102 vb_Mo_isPew kd_53 ⟨leb rfl, leb rfl⟩ (m_isPew Γ I J n y hn h0) rfl rfl rfl ?_
    refine p_ifeqB (tgt := 34) d_Mo_hear_17 (by decide) (fun h17 => ?_) (fun h17 => ?_)
    · first | exact absurd hb.1 h9 | exact absurd hb.2.1 h17 | exact absurd hb.2.2 h31
    · refine p_iload_n d_Mo_hear_20 rfl ?_
      refine p_i2l d_Mo_hear_21 ?_
      refine p_ldc2 d_Mo_hear_22 kl_Mo_171 ?_
      refine p_ldc2 d_Mo_hear_25 kl_Mo_173 ?_
      refine q_S1 d_Mo_hear_28 ml_Mo_45 sb_Mo_in ⟨leb rfl, leb rfl⟩ (c_in Γ _ _ _ z (-99) 999 (by decide) (by decide)) rfl rfl rfl ?_
      refine p_ifneB (tgt := 37) d_Mo_hear_31 (by decide) (fun h31 => ?_) (fun h31 => ?_)
      · refine p_aload_n d_Mo_hear_37 rfl ?_
        refine p_getI d_Mo_hear_38 fl_Mo_99 kd_53 (Or.inl rfl) ?_
        refine p_eqI he ?_
        refine p_bi_6 d_Mo_hear_41 ?_
        refine p_icmpneN (tgt := 49) (6) (6) d_Mo_hear_43 (by decide) rfl rfl (by omega) (by omega) (fun h43 => ?_) (fun h43 => ?_)
        · exact absurd rfl h43
        · refine p_ldc d_Mo_hear_46 kc_Mo_56 ?_
          refine p_iret d_Mo_hear_48 rfl rfl ?_
          exact ⟨rfl, rfl, rfl, rfl⟩
      · first | exact absurd hb.1 h9 | exact absurd hb.2.1 h17 | exact absurd hb.2.2 h31
theorem m_hear_ok (Γ : Cx) (I : MemI) (J : MemJ) (n e : Nat) (x y z : Int32) (hn : n ≤ 6) (h0 : I 54 0 = nI n) (hb : ((1 ≤ x ∧ x ≤ 20) ∧ (0 ≤ y ∧ y < nI n) ∧ (-99 ≤ z ∧ z ≤ 999))) (he : I 53 8 = nI e) (h6 : e < 6) : Ct Γ M_Mo_hear [.ref 53, .int x, .int y, .int z] S0 I J (eqQ (some (.int (nI (e + 1)))) S0 (up2 (up2 (up2 (up2 I 59 (3 * e) x) 59 (3 * e + 1) y) 59 (3 * e + 2) z) 53 8 (nI (e + 1))) J) := by
  refine ct_of [.ref 53, .int x, .int y, .int z] (by decide +kernel) rfl (leb rfl) rfl ?_
  refine p_iload_n d_Mo_hear_0 rfl ?_
  refine p_i2l d_Mo_hear_1 ?_
  refine p_lc_1 d_Mo_hear_2 ?_
  refine p_ldc2 d_Mo_hear_3 kl_Mo_131 ?_
  refine q_S1 d_Mo_hear_6 ml_Mo_45 sb_Mo_in ⟨leb rfl, leb rfl⟩ (c_in Γ _ _ _ x 1 20 (by decide) (by decide)) rfl rfl rfl ?_
  refine p_ifeqB (tgt := 34) d_Mo_hear_9 (by decide) (fun h9 => ?_) (fun h9 => ?_)
  · first | exact absurd hb.1 h9 | exact absurd hb.2.1 h17 | exact absurd hb.2.2 h31
  · refine p_aload_n d_Mo_hear_12 rfl ?_
    refine p_iload_n d_Mo_hear_13 rfl ?_
    refine q_V1 d_Mo_hear_14 ml_Mo_102 vb_Mo_isPew kd_53 ⟨leb rfl, leb rfl⟩ (m_isPew Γ I J n y hn h0) rfl rfl rfl ?_
    refine p_ifeqB (tgt := 34) d_Mo_hear_17 (by decide) (fun h17 => ?_) (fun h17 => ?_)
    · first | exact absurd hb.1 h9 | exact absurd hb.2.1 h17 | exact absurd hb.2.2 h31
    · refine p_iload_n d_Mo_hear_20 rfl ?_
      refine p_i2l d_Mo_hear_21 ?_
      refine p_ldc2 d_Mo_hear_22 kl_Mo_171 ?_
      refine p_ldc2 d_Mo_hear_25 kl_Mo_173 ?_
      refine q_S1 d_Mo_hear_28 ml_Mo_45 sb_Mo_in ⟨leb rfl, leb rfl⟩ (c_in Γ _ _ _ z (-99) 999 (by decide) (by decide)) rfl rfl rfl ?_
      refine p_ifneB (tgt := 37) d_Mo_hear_31 (by decide) (fun h31 => ?_) (fun h31 => ?_)
      · refine p_aload_n d_Mo_hear_37 rfl ?_
        refine p_getI d_Mo_hear_38 fl_Mo_99 kd_53 (Or.inl rfl) ?_
        refine p_eqI he ?_
        refine p_bi_6 d_Mo_hear_41 ?_
        refine p_icmpneN (tgt := 49) (e) (6) d_Mo_hear_43 (by decide) rfl rfl (by omega) (by omega) (fun h43 => ?_) (fun h43 => ?_)
        · refine p_aload_n d_Mo_hear_49 rfl ?_
          refine p_getR d_Mo_hear_50 fl_Mo_26 kd_53 rfl rf_53_7 ?_
          refine p_ic_3 d_Mo_hear_53 ?_
          refine p_aload_n d_Mo_hear_54 rfl ?_
          refine p_getI d_Mo_hear_55 fl_Mo_99 kd_53 (Or.inl rfl) ?_
          refine p_eqI (y := nI e) (by simp [up2, he]) ?_
          refine p_imulN (3) (e) d_Mo_hear_58 rfl rfl ?_
          refine p_iload_n d_Mo_hear_59 rfl ?_
          refine p_iastN (3 * e) d_Mo_hear_60 ar_59 rfl (by omega) rfl ?_
          refine p_aload_n d_Mo_hear_61 rfl ?_
          refine p_getR d_Mo_hear_62 fl_Mo_26 kd_53 rfl rf_53_7 ?_
          refine p_ic_3 d_Mo_hear_65 ?_
          refine p_aload_n d_Mo_hear_66 rfl ?_
          refine p_getI d_Mo_hear_67 fl_Mo_99 kd_53 (Or.inl rfl) ?_
          refine p_eqI (y := nI e) (by simp [up2, he]) ?_
          refine p_imulN (3) (e) d_Mo_hear_70 rfl rfl ?_
          refine p_ic_1 d_Mo_hear_71 ?_
          refine p_iaddN (3 * e) (1) d_Mo_hear_72 rfl rfl ?_
          refine p_iload_n d_Mo_hear_73 rfl ?_
          refine p_iastN ((3 * e) + 1) d_Mo_hear_74 ar_59 rfl (by omega) rfl ?_
          refine p_aload_n d_Mo_hear_75 rfl ?_
          refine p_getR d_Mo_hear_76 fl_Mo_26 kd_53 rfl rf_53_7 ?_
          refine p_ic_3 d_Mo_hear_79 ?_
          refine p_aload_n d_Mo_hear_80 rfl ?_
          refine p_getI d_Mo_hear_81 fl_Mo_99 kd_53 (Or.inl rfl) ?_
          refine p_eqI (y := nI e) (by simp [up2, he]) ?_
          refine p_imulN (3) (e) d_Mo_hear_84 rfl rfl ?_
          refine p_ic_2 d_Mo_hear_85 ?_
          refine p_iaddN (3 * e) (2) d_Mo_hear_86 rfl rfl ?_
          refine p_iload_n d_Mo_hear_87 rfl ?_
          refine p_iastN ((3 * e) + 2) d_Mo_hear_88 ar_59 rfl (by omega) rfl ?_
          refine p_aload_n d_Mo_hear_89 rfl ?_
          refine p_dup d_Mo_hear_90 rfl ?_
          refine p_getI d_Mo_hear_91 fl_Mo_99 kd_53 (Or.inl rfl) ?_
          refine p_eqI (y := nI e) (by simp [up2, he]) ?_
          refine p_ic_1 d_Mo_hear_94 ?_
          refine p_iaddN (e) (1) d_Mo_hear_95 rfl rfl ?_
          refine p_putI d_Mo_hear_96 fl_Mo_99 kd_53 rfl nf_5_8 ?_
          refine p_aload_n d_Mo_hear_99 rfl ?_
          refine p_getI d_Mo_hear_100 fl_Mo_99 kd_53 (Or.inl rfl) ?_
          refine p_iret d_Mo_hear_103 rfl rfl ?_
          exact ⟨by simp [up2], rfl, rfl, rfl⟩
        · exact absurd h43 (by omega)
      · first | exact absurd hb.1 h9 | exact absurd hb.2.1 h17 | exact absurd hb.2.2 h31
def ratT (t : Nat → Int32) (k q : Nat) : Int32 := if q = 1 then t (28 + k) + t (4 + k) / 6 else if q = 2 then t (28 + k) - t (22 + k) else if q = 3 then 2 * (t (28 + k) + t (4 + k) / 6) else if q = 4 then t (28 + k) - t (22 + k) + nI k else if q = 5 then t (28 + k) + t 34 else t (28 + k)
def ratJ (q : Nat) : Int64 := if q = 1 then 11 else if q = 2 then 101 else if q = 3 then 1011 else if q = 4 then 10101 else if q = 5 then 100001 else 1
def r1J (r0 : Option Value) (v : Int64) (I : MemI) (J : MemJ) (a k : Nat) : PQ := fun r S' I' J' => r = r0 ∧ S' = S0 ∧ I' = I ∧ J' = upJ J a k v
theorem upJ2 (J : MemJ) (a k : Nat) (x y : Int64) : upJ (upJ J a k x) a k y = upJ J a k y := by
  funext b c
  simp only [upJ]
  by_cases h : b = a ∧ c = k
  · simp [h]
  · simp [h]
theorem upJ_s (J : MemJ) (a k : Nat) (x : Int64) : upJ J a k x a k = x := by simp [upJ]
theorem i5 : ∀ q, q ≤ 5 → (0 : Int32) ≤ nI q ∧ nI q ≤ 5 := by decide +kernel
theorem m_rate (Γ : Cx) (I : MemI) (J : MemJ) (n k q : Nat) (hn : n ≤ 6) (h0 : I 54 0 = nI n) (hk : k < n) (hq : q ≤ 5) : Ct Γ M_Mo_rate [.ref 53, .int (nI q), .int (nI k)] S0 I J (r1J (some (.int (ratT (I 54) k q))) (J 53 9 + ratJ q) I J 53 9) := by
  refine ct_of [.ref 53, .int (nI q), .int (nI k), .null] (by decide +kernel) rfl (leb rfl) rfl ?_
  refine p_iload_n d_Mo_rate_0 rfl ?_
  refine p_i2l d_Mo_rate_1 ?_
  refine p_lc_0 d_Mo_rate_2 ?_
  refine p_ldc2 d_Mo_rate_3 kl_Mo_180 ?_
  refine q_S1 d_Mo_rate_6 ml_Mo_45 sb_Mo_in ⟨leb rfl, leb rfl⟩ (c_in Γ _ _ _ (nI q) 0 5 (by decide) (by decide)) rfl rfl rfl ?_
  refine p_ifeqB (tgt := 20) d_Mo_rate_9 (by decide) (fun h9 => ?_) (fun h9 => ?_)
  · first | exact absurd (i5 q hq) h9 | exact absurd (isP_nI hn hk) h17
  · refine p_aload_n d_Mo_rate_12 rfl ?_
    refine p_iload_n d_Mo_rate_13 rfl ?_
    refine q_V1 d_Mo_rate_14 ml_Mo_102 vb_Mo_isPew kd_53 ⟨leb rfl, leb rfl⟩ (m_isPew Γ I J n (nI k) hn h0) rfl rfl rfl ?_
    refine p_ifneB (tgt := 23) d_Mo_rate_17 (by decide) (fun h17 => ?_) (fun h17 => ?_)
    · refine p_aload_n d_Mo_rate_23 rfl ?_
      refine p_getR d_Mo_rate_24 fl_Mo_7 kd_53 rfl rf_53_0 ?_
      refine p_bi_28 d_Mo_rate_27 ?_
      refine p_iload_n d_Mo_rate_29 rfl ?_
      refine p_iaddN (28) (k) d_Mo_rate_30 rfl rfl ?_
      refine p_ialdN (28 + k) d_Mo_rate_31 ar_54 rfl (by omega) rfl ?_
      refine p_is_3 d_Mo_rate_32 (by decide) rfl ?_
      refine p_aload_n d_Mo_rate_33 rfl ?_
      refine p_dup d_Mo_rate_34 rfl ?_
      refine p_getJ d_Mo_rate_35 fl_Mo_182 kd_53 rfl ?_
      refine p_lc_1 d_Mo_rate_38 ?_
      refine p_ladd d_Mo_rate_39 ?_
      refine p_putJ d_Mo_rate_40 fl_Mo_182 kd_53 rfl nf_5_9 ?_
      refine p_iload_n d_Mo_rate_43 rfl ?_
      by_cases hs1 : (nI q) = 1
      · refine p_tabIn (off := 36) (tgt := 80) d_Mo_rate_44 (by rw [hs1]; decide) (by rw [hs1]; decide) (by rw [hs1]; decide) (by decide) ?_
        refine p_aload_n d_Mo_rate_80 rfl ?_
        refine p_dup d_Mo_rate_81 rfl ?_
        refine p_getJ d_Mo_rate_82 fl_Mo_182 kd_53 rfl ?_
        refine p_ldc2 d_Mo_rate_85 kl_Mo_144 ?_
        refine p_ladd d_Mo_rate_88 ?_
        refine p_putJ d_Mo_rate_89 fl_Mo_182 kd_53 rfl nf_5_9 ?_
        refine p_iload_n d_Mo_rate_92 rfl ?_
        refine p_aload_n d_Mo_rate_93 rfl ?_
        refine p_getR d_Mo_rate_94 fl_Mo_7 kd_53 rfl rf_53_0 ?_
        refine p_ic_4 d_Mo_rate_97 ?_
        refine p_iload_n d_Mo_rate_98 rfl ?_
        refine p_iaddN (4) (k) d_Mo_rate_99 rfl rfl ?_
        refine p_ialdN (4 + k) d_Mo_rate_100 ar_54 rfl (by omega) rfl ?_
        refine p_bi_6 d_Mo_rate_101 ?_
        refine p_idiv d_Mo_rate_103 (by decide) ?_
        refine p_iadd d_Mo_rate_104 ?_
        refine p_iret d_Mo_rate_105 rfl rfl ?_
        have gq : q = 1 := (nI_eq (a := q) (b := 1) (by omega) (by omega)).mp hs1
        subst gq
        refine ⟨rfl, rfl, rfl, ?_⟩
        rw [upJ_s, upJ2, Int64.add_assoc]
        rfl
      by_cases hs2 : (nI q) = 2
      · refine p_tabIn (off := 62) (tgt := 106) d_Mo_rate_44 (by rw [hs2]; decide) (by rw [hs2]; decide) (by rw [hs2]; decide) (by decide) ?_
        refine p_aload_n d_Mo_rate_106 rfl ?_
        refine p_dup d_Mo_rate_107 rfl ?_
        refine p_getJ d_Mo_rate_108 fl_Mo_182 kd_53 rfl ?_
        refine p_ldc2 d_Mo_rate_111 kl_Mo_186 ?_
        refine p_ladd d_Mo_rate_114 ?_
        refine p_putJ d_Mo_rate_115 fl_Mo_182 kd_53 rfl nf_5_9 ?_
        refine p_iload_n d_Mo_rate_118 rfl ?_
        refine p_aload_n d_Mo_rate_119 rfl ?_
        refine p_getR d_Mo_rate_120 fl_Mo_7 kd_53 rfl rf_53_0 ?_
        refine p_bi_22 d_Mo_rate_123 ?_
        refine p_iload_n d_Mo_rate_125 rfl ?_
        refine p_iaddN (22) (k) d_Mo_rate_126 rfl rfl ?_
        refine p_ialdN (22 + k) d_Mo_rate_127 ar_54 rfl (by omega) rfl ?_
        refine p_isub d_Mo_rate_128 ?_
        refine p_iret d_Mo_rate_129 rfl rfl ?_
        have gq : q = 2 := (nI_eq (a := q) (b := 2) (by omega) (by omega)).mp hs2
        subst gq
        refine ⟨rfl, rfl, rfl, ?_⟩
        rw [upJ_s, upJ2, Int64.add_assoc]
        rfl
      by_cases hs3 : (nI q) = 3
      · refine p_tabIn (off := 86) (tgt := 130) d_Mo_rate_44 (by rw [hs3]; decide) (by rw [hs3]; decide) (by rw [hs3]; decide) (by decide) ?_
        refine p_aload_n d_Mo_rate_130 rfl ?_
        refine p_dup d_Mo_rate_131 rfl ?_
        refine p_getJ d_Mo_rate_132 fl_Mo_182 kd_53 rfl ?_
        refine p_ldc2 d_Mo_rate_135 kl_Mo_188 ?_
        refine p_ladd d_Mo_rate_138 ?_
        refine p_putJ d_Mo_rate_139 fl_Mo_182 kd_53 rfl nf_5_9 ?_
        refine p_ic_2 d_Mo_rate_142 ?_
        refine p_iload_n d_Mo_rate_143 rfl ?_
        refine p_aload_n d_Mo_rate_144 rfl ?_
        refine p_getR d_Mo_rate_145 fl_Mo_7 kd_53 rfl rf_53_0 ?_
        refine p_ic_4 d_Mo_rate_148 ?_
        refine p_iload_n d_Mo_rate_149 rfl ?_
        refine p_iaddN (4) (k) d_Mo_rate_150 rfl rfl ?_
        refine p_ialdN (4 + k) d_Mo_rate_151 ar_54 rfl (by omega) rfl ?_
        refine p_bi_6 d_Mo_rate_152 ?_
        refine p_idiv d_Mo_rate_154 (by decide) ?_
        refine p_iadd d_Mo_rate_155 ?_
        refine p_imul d_Mo_rate_156 ?_
        refine p_iret d_Mo_rate_157 rfl rfl ?_
        have gq : q = 3 := (nI_eq (a := q) (b := 3) (by omega) (by omega)).mp hs3
        subst gq
        refine ⟨rfl, rfl, rfl, ?_⟩
        rw [upJ_s, upJ2, Int64.add_assoc]
        rfl
      by_cases hs4 : (nI q) = 4
      · refine p_tabIn (off := 114) (tgt := 158) d_Mo_rate_44 (by rw [hs4]; decide) (by rw [hs4]; decide) (by rw [hs4]; decide) (by decide) ?_
        refine p_aload_n d_Mo_rate_158 rfl ?_
        refine p_dup d_Mo_rate_159 rfl ?_
        refine p_getJ d_Mo_rate_160 fl_Mo_182 kd_53 rfl ?_
        refine p_ldc2 d_Mo_rate_163 kl_Mo_190 ?_
        refine p_ladd d_Mo_rate_166 ?_
        refine p_putJ d_Mo_rate_167 fl_Mo_182 kd_53 rfl nf_5_9 ?_
        refine p_iload_n d_Mo_rate_170 rfl ?_
        refine p_aload_n d_Mo_rate_171 rfl ?_
        refine p_getR d_Mo_rate_172 fl_Mo_7 kd_53 rfl rf_53_0 ?_
        refine p_bi_22 d_Mo_rate_175 ?_
        refine p_iload_n d_Mo_rate_177 rfl ?_
        refine p_iaddN (22) (k) d_Mo_rate_178 rfl rfl ?_
        refine p_ialdN (22 + k) d_Mo_rate_179 ar_54 rfl (by omega) rfl ?_
        refine p_isub d_Mo_rate_180 ?_
        refine p_iload_n d_Mo_rate_181 rfl ?_
        refine p_iadd d_Mo_rate_182 ?_
        refine p_iret d_Mo_rate_183 rfl rfl ?_
        have gq : q = 4 := (nI_eq (a := q) (b := 4) (by omega) (by omega)).mp hs4
        subst gq
        refine ⟨rfl, rfl, rfl, ?_⟩
        rw [upJ_s, upJ2, Int64.add_assoc]
        rfl
      by_cases hs5 : (nI q) = 5
      · refine p_tabIn (off := 140) (tgt := 184) d_Mo_rate_44 (by rw [hs5]; decide) (by rw [hs5]; decide) (by rw [hs5]; decide) (by decide) ?_
        refine p_aload_n d_Mo_rate_184 rfl ?_
        refine p_dup d_Mo_rate_185 rfl ?_
        refine p_getJ d_Mo_rate_186 fl_Mo_182 kd_53 rfl ?_
        refine p_ldc2 d_Mo_rate_189 kl_Mo_192 ?_
        refine p_ladd d_Mo_rate_192 ?_
        refine p_putJ d_Mo_rate_193 fl_Mo_182 kd_53 rfl nf_5_9 ?_
        refine p_iload_n d_Mo_rate_196 rfl ?_
        refine p_aload_n d_Mo_rate_197 rfl ?_
        refine p_getR d_Mo_rate_198 fl_Mo_7 kd_53 rfl rf_53_0 ?_
        refine p_bi_34 d_Mo_rate_201 ?_
        refine p_ialdN (34) d_Mo_rate_203 ar_54 rfl (by omega) rfl ?_
        refine p_iadd d_Mo_rate_204 ?_
        refine p_iret d_Mo_rate_205 rfl rfl ?_
        have gq : q = 5 := (nI_eq (a := q) (b := 5) (by omega) (by omega)).mp hs5
        subst gq
        refine ⟨rfl, rfl, rfl, ?_⟩
        rw [upJ_s, upJ2, Int64.add_assoc]
        rfl
      refine p_tabOut (tgt := 206) d_Mo_rate_44 (by have q := fun (z : Int32) (k : Int) (h : ¬ (nI q) = z) (hk : z.toInt = k) => lv_neT h hk; have q1 := lv_neT (a := 1) hs1 (by decide); have q2 := lv_neT (a := 2) hs2 (by decide); have q3 := lv_neT (a := 3) hs3 (by decide); have q4 := lv_neT (a := 4) hs4 (by decide); have q5 := lv_neT (a := 5) hs5 (by decide); omega) (by decide) ?_
      refine p_iload_n d_Mo_rate_206 rfl ?_
      refine p_iret d_Mo_rate_207 rfl rfl ?_
      have gq : q = 0 := by
        have z1 : q ≠ 1 := fun z => hs1 (by rw [z]; rfl)
        have z2 : q ≠ 2 := fun z => hs2 (by rw [z]; rfl)
        have z3 : q ≠ 3 := fun z => hs3 (by rw [z]; rfl)
        have z4 : q ≠ 4 := fun z => hs4 (by rw [z]; rfl)
        have z5 : q ≠ 5 := fun z => hs5 (by rw [z]; rfl)
        omega
      subst gq
      exact ⟨rfl, rfl, rfl, rfl⟩
    · first | exact absurd (i5 q hq) h9 | exact absurd (isP_nI hn hk) h17
theorem m_rate_bad (Γ : Cx) (I : MemI) (J : MemJ) (n : Nat) (w x : Int32) (hn : n ≤ 6) (h0 : I 54 0 = nI n) (hb : ¬ ((0 ≤ w ∧ w ≤ 5) ∧ (0 ≤ x ∧ x < nI n))) : Ct Γ M_Mo_rate [.ref 53, .int w, .int x] S0 I J (eqQ (some (.int (-1000001))) S0 I J) := by
  refine ct_of [.ref 53, .int w, .int x, .null] (by decide +kernel) rfl (leb rfl) rfl ?_
  refine p_iload_n d_Mo_rate_0 rfl ?_
  refine p_i2l d_Mo_rate_1 ?_
  refine p_lc_0 d_Mo_rate_2 ?_
  refine p_ldc2 d_Mo_rate_3 kl_Mo_180 ?_
  refine q_S1 d_Mo_rate_6 ml_Mo_45 sb_Mo_in ⟨leb rfl, leb rfl⟩ (c_in Γ _ _ _ w 0 5 (by decide) (by decide)) rfl rfl rfl ?_
  refine p_ifeqB (tgt := 20) d_Mo_rate_9 (by decide) (fun h9 => ?_) (fun h9 => ?_)
  · refine p_ldc d_Mo_rate_20 kc_Mo_51 ?_
    refine p_iret d_Mo_rate_22 rfl rfl ?_
    exact ⟨rfl, rfl, rfl, rfl⟩
  · refine p_aload_n d_Mo_rate_12 rfl ?_
    refine p_iload_n d_Mo_rate_13 rfl ?_
    refine q_V1 d_Mo_rate_14 ml_Mo_102 vb_Mo_isPew kd_53 ⟨leb rfl, leb rfl⟩ (m_isPew Γ I J n x hn h0) rfl rfl rfl ?_
    refine p_ifneB (tgt := 23) d_Mo_rate_17 (by decide) (fun h17 => ?_) (fun h17 => ?_)
    · exact absurd ⟨h9, h17⟩ hb
    · refine p_ldc d_Mo_rate_20 kc_Mo_51 ?_
      refine p_iret d_Mo_rate_22 rfl rfl ?_
      exact ⟨rfl, rfl, rfl, rfl⟩
