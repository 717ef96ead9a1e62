/-! ===== the reference's calls that change what is sung ===== -/
def rmU (u : Nat) : Nat := if u = 10 then 10 else u + 1
def shR (p : Nat → Int32) : Nat → Int32 := fun y => if y < 351 then p (y + 39) else p y
def rmP (u : Nat) (p t : Nat → Int32) : Nat → Int32 := if u = 10 then cpR (shR p) t 0 351 else cpR p t 0 (39 * u)
def stQ (r0 : Option Value) (t' : Nat → Int32) (u' : Nat) (p' : Nat → Int32) (I : MemI) (J : MemJ) : PQ := fun r S' I' J' => r = r0 ∧ S' = S0 ∧ J' = J ∧ I' 54 = t' ∧ I' 53 2 = nI u' ∧ I' 55 = p' ∧ (∀ y, y ≠ 2 → I' 53 y = I 53 y) ∧ ∀ x, x ≠ 53 → x ≠ 54 → x ≠ 55 → x ≠ 61 → I' x = I x
theorem one_nI : (1 : Int32) = nI 1 := rfl
theorem m_remember (Γ : Cx) (I : MemI) (J : MemJ) (u : Nat) (hu : I 53 2 = nI u) (h10 : u ≤ 10) : Ct Γ M_Mo_remember [.ref 53] S0 I J (stQ none (I 54) (rmU u) (rmP u (I 55) (I 54)) I J) := by
  have K49 : ∀ (I1 : MemI) (u0 : Nat) (p0 : Nat → Int32) (v : Value), I1 53 2 = nI u0 → u0 ≤ 9 → I1 55 = p0 → (∀ y, y ≠ 2 → I1 53 y = I 53 y) → (∀ x, x ≠ 53 → x ≠ 55 → I1 x = I x) → rmU u = u0 + 1 → rmP u (I 55) (I 54) = cpR p0 (I 54) 0 (39 * u0) → WP Γ M_Mo_remember (0, 0) S0 I1 J 49 [.ref 53, v] [] (stQ none (I 54) (rmU u) (rmP u (I 55) (I 54)) I J) := by
    intro I1 u0 p0 v e2 hu9 e55 hy hx eU eP
    refine p_aload_n d_Mo_remember_49 rfl ?_
    refine p_getR d_Mo_remember_50 fl_Mo_7 kd_53 rfl rf_53_0 ?_
    refine p_ic_0 d_Mo_remember_53 ?_
    refine p_aload_n d_Mo_remember_54 rfl ?_
    refine p_getR d_Mo_remember_55 fl_Mo_13 kd_53 rfl rf_53_1 ?_
    refine p_bi_39 d_Mo_remember_58 ?_
    refine p_aload_n d_Mo_remember_60 rfl ?_
    refine p_getI d_Mo_remember_61 fl_Mo_96 kd_53 (Or.inl rfl) ?_
    refine p_eqI e2 ?_
    refine p_imulN (39) (u0) d_Mo_remember_64 rfl rfl ?_
    refine q_S d_Mo_remember_65 ml_Mo_92 sb_Mo_copies ⟨leb rfl, leb rfl⟩ (m_copies Γ I1 J 54 55 0 (39 * u0) 39 390 ar_54 ar_55 (by decide) (by omega) (by omega) rfl rfl) rfl rfl rfl (fun r S1 I1 J1 hQ => ?_)
    obtain ⟨rfl, rfl, rfl, w1, w2⟩ := hQ
    refine p_aload_n d_Mo_remember_68 rfl ?_
    refine p_dup d_Mo_remember_69 rfl ?_
    refine p_getI d_Mo_remember_70 fl_Mo_96 kd_53 (Or.inl rfl) ?_
    refine p_eqI (y := nI u0) (by rw [w2 53 (by decide)]; exact e2) ?_
    refine p_ic_1 d_Mo_remember_73 ?_
    refine p_iaddN (u0) (1) d_Mo_remember_74 rfl rfl ?_
    refine p_putI d_Mo_remember_75 fl_Mo_96 kd_53 rfl nf_5_2 ?_
    refine p_ret d_Mo_remember_78 rfl ?_
    refine ⟨rfl, rfl, rfl, ?_, ?_, ?_, fun y q => ?_, fun x q1 q2 q3 q4 => ?_⟩
    · funext y
      simp only [up2]
      rw [if_neg (by omega), w2 54 (by decide), hx 54 (by decide) (by decide)]
    · simp [up2, eU]
    · funext y
      simp only [up2]
      rw [if_neg (by omega), w1, eP, e55, hx 54 (by decide) (by decide)]
    · simp only [up2]
      rw [if_neg (fun z => q z.2), w2 53 (by decide), hy y q]
    · funext y
      simp only [up2]
      rw [if_neg (fun z => q1 z.1), w2 x q3, hx x q1 q3]
  have LP : ∀ (f k : Nat) (I1 : MemI), u = 10 → k + f = 351 → (∀ y, I1 55 y = if y < k then I 55 (y + 39) else I 55 y) → (∀ x, x ≠ 55 → I1 x = I x) → WP Γ M_Mo_remember (0, 0) S0 I1 J 11 [.ref 53, .int (nI k)] [] (stQ none (I 54) (rmU u) (rmP u (I 55) (I 54)) I J) := by
    intro f
    induction f with
    | zero =>
      intro k I1 hu10 hkf hr hx
      obtain rfl : k = 351 := by omega
      refine p_iload_n d_Mo_remember_11 rfl ?_
      refine p_si_351 d_Mo_remember_12 ?_
      refine p_icmpgeN (tgt := 39) (351) (351) d_Mo_remember_15 (by decide) rfl rfl (by omega) (by omega) (fun h15 => ?_) (fun h15 => ?_)
      · refine p_aload_n d_Mo_remember_39 rfl ?_
        refine p_dup d_Mo_remember_40 rfl ?_
        refine p_getI d_Mo_remember_41 fl_Mo_96 kd_53 (Or.inl rfl) ?_
        refine p_eqI (y := nI 10) (by rw [hx 53 (by decide), hu, hu10]) ?_
        refine p_ic_1 d_Mo_remember_44 ?_
        refine p_isubN (10) (1) d_Mo_remember_45 rfl rfl (by omega) ?_
        refine p_putI d_Mo_remember_46 fl_Mo_96 kd_53 rfl nf_5_2 ?_
        refine K49 _ 9 (shR (I 55)) _ ?_ (by omega) ?_ (fun y q => ?_) (fun x q1 q2 => ?_) (by simp [rmU, hu10]) (by simp [rmP, hu10])
        · simp [up2]
        · funext y
          simp only [up2, shR]
          rw [if_neg (by omega), hr y]
        · simp only [up2]
          rw [if_neg (fun z => q z.2), hx 53 (by decide)]
        · funext y
          simp only [up2]
          rw [if_neg (fun z => q1 z.1), hx x q2]
      · exact absurd (Nat.le_refl _) h15
    | succ f ih =>
      intro k I1 hu10 hkf hr hx
      refine p_iload_n d_Mo_remember_11 rfl ?_
      refine p_si_351 d_Mo_remember_12 ?_
      refine p_icmpgeN (tgt := 39) (k) (351) d_Mo_remember_15 (by decide) rfl rfl (by omega) (by omega) (fun h15 => ?_) (fun h15 => ?_)
      · exact absurd h15 (by omega)
      · refine p_aload_n d_Mo_remember_18 rfl ?_
        refine p_getR d_Mo_remember_19 fl_Mo_13 kd_53 rfl rf_53_1 ?_
        refine p_iload_n d_Mo_remember_22 rfl ?_
        refine p_aload_n d_Mo_remember_23 rfl ?_
        refine p_getR d_Mo_remember_24 fl_Mo_13 kd_53 rfl rf_53_1 ?_
        refine p_iload_n d_Mo_remember_27 rfl ?_
        refine p_bi_39 d_Mo_remember_28 ?_
        refine p_iaddN (k) (39) d_Mo_remember_30 rfl rfl ?_
        refine p_ialdN (k + 39) d_Mo_remember_31 ar_55 rfl (by omega) rfl ?_
        refine p_iastN (k) d_Mo_remember_32 ar_55 rfl (by omega) rfl ?_
        refine p_incN_1_1 d_Mo_remember_33 (by decide) rfl ?_
        refine p_goto (tgt := 11) d_Mo_remember_36 (by decide) ?_
        refine ih (k + 1) _ hu10 (by omega) (fun y => ?_) (fun x q => ?_)
        · simp only [up2, true_and]
          by_cases q : y = k
          · subst q
            rw [if_pos rfl, if_pos (by omega), hr, if_neg (by omega)]
          · rw [if_neg q, hr y]
            by_cases q2 : y < k
            · rw [if_pos q2, if_pos (by omega)]
            · rw [if_neg q2, if_neg (by omega)]
        · funext y
          simp only [up2]
          rw [if_neg (fun z => q z.1), hx x q]
  refine ct_of [.ref 53, .null] (by decide +kernel) rfl (leb rfl) rfl ?_
  refine p_aload_n d_Mo_remember_0 rfl ?_
  refine p_getI d_Mo_remember_1 fl_Mo_96 kd_53 (Or.inl rfl) ?_
  refine p_eqI hu ?_
  refine p_bi_10 d_Mo_remember_4 ?_
  refine p_icmpneN (tgt := 49) (u) (10) d_Mo_remember_6 (by decide) rfl rfl (by omega) (by omega) (fun h6 => ?_) (fun h6 => ?_)
  · exact K49 I u (I 55) _ hu (by omega) rfl (fun y _ => rfl) (fun x _ _ => rfl) (by simp [rmU, h6]) (by simp [rmP, h6])
  · refine p_ic_0 d_Mo_remember_9 ?_
    refine p_is_1 d_Mo_remember_10 (by decide) rfl ?_
    exact LP 351 0 I h6 (by omega) (fun y => by rw [if_neg (by omega)]) (fun x _ => rfl)
theorem m_puts (Γ : Cx) (I : MemI) (J : MemJ) (u pl : Nat) (v : Int32) (hp : pl < 39) (hu : I 53 2 = nI u) (h10 : u ≤ 10) : Ct Γ M_Mo_puts [.ref 53, .int (nI pl), .int v] S0 I J (stQ (some (.int (I 54 pl))) (upd (I 54) pl v) (rmU u) (rmP u (I 55) (I 54)) I J) := by
  refine ct_of [.ref 53, .int (nI pl), .int v, .null] (by decide +kernel) rfl (leb rfl) rfl ?_
  refine p_aload_n d_Mo_puts_0 rfl ?_
  refine q_V d_Mo_puts_1 ml_Mo_121 vb_Mo_remember kd_53 ⟨leb rfl, leb rfl⟩ (m_remember Γ I J u hu h10) rfl rfl rfl (fun r S1 I1 J1 hQ => ?_)
  obtain ⟨rfl, rfl, rfl, w1, w2, w3, w4, w5⟩ := hQ
  refine p_aload_n d_Mo_puts_4 rfl ?_
  refine p_getR d_Mo_puts_5 fl_Mo_7 kd_53 rfl rf_53_0 ?_
  refine p_iload_n d_Mo_puts_8 rfl ?_
  refine p_ialdN (pl) d_Mo_puts_9 ar_54 rfl (by omega) rfl ?_
  refine p_is_3 d_Mo_puts_10 (by decide) rfl ?_
  refine p_aload_n d_Mo_puts_11 rfl ?_
  refine p_getR d_Mo_puts_12 fl_Mo_7 kd_53 rfl rf_53_0 ?_
  refine p_iload_n d_Mo_puts_15 rfl ?_
  refine p_iload_n d_Mo_puts_16 rfl ?_
  refine p_iastN (pl) d_Mo_puts_17 ar_54 rfl (by omega) rfl ?_
  refine p_iload_n d_Mo_puts_18 rfl ?_
  refine p_iret d_Mo_puts_19 rfl rfl ?_
  refine ⟨by rw [w1], rfl, rfl, ?_, ?_, ?_, fun y q => ?_, fun x q1 q2 q3 q4 => ?_⟩
  · rw [up2_row, w1]
  · simp [up2, w2]
  · funext y
    simp [up2, w3]
  · simp [up2, w4 y q]
  · funext y
    simp [up2, q2, w5 x q1 q2 q3 q4]
theorem m_ahead (Γ : Cx) (I : MemI) (J : MemJ) (x : Int32) (hb : 0 ≤ x ∧ x ≤ 20) (u : Nat) (hu : I 53 2 = nI u) (h10 : u ≤ 10) : Ct Γ M_Mo_ahead [.ref 53, .int x] S0 I J (stQ (some (.int (I 54 35))) (upd (I 54) 35 x) (rmU u) (rmP u (I 55) (I 54)) I J) := by
  refine ct_of [.ref 53, .int x] (by decide +kernel) rfl (leb rfl) rfl ?_
  refine p_iload_n d_Mo_ahead_0 rfl ?_
  refine p_i2l d_Mo_ahead_1 ?_
  refine p_lc_0 d_Mo_ahead_2 ?_
  refine p_ldc2 d_Mo_ahead_3 kl_Mo_131 ?_
  refine q_S1 d_Mo_ahead_6 ml_Mo_45 sb_Mo_in ⟨leb rfl, leb rfl⟩ (c_in Γ _ _ _ x 0 20 (by decide) (by decide)) rfl rfl rfl ?_
  refine p_ifeqB (tgt := 22) d_Mo_ahead_9 (by decide) (fun h9 => ?_) (fun h9 => ?_)
  · exact absurd hb h9
  · refine p_aload_n d_Mo_ahead_12 rfl ?_
    refine p_bi_35 d_Mo_ahead_13 ?_
    refine p_iload_n d_Mo_ahead_15 rfl ?_
    refine q_V d_Mo_ahead_16 ml_Mo_133 vb_Mo_puts kd_53 ⟨leb rfl, leb rfl⟩ (m_puts Γ I J u 35 x (by omega) hu h10) rfl rfl rfl (fun r S1 I1 J1 hQ => ?_)
    obtain ⟨rfl, rfl, rfl, w1, w2, w3, w4, w5⟩ := hQ
    refine p_goto (tgt := 24) d_Mo_ahead_19 (by decide) ?_
    refine p_iret d_Mo_ahead_24 rfl rfl ?_
    exact ⟨rfl, rfl, rfl, w1, w2, w3, w4, w5⟩
theorem m_ahead_bad (Γ : Cx) (I : MemI) (J : MemJ) (x : Int32) (hb : ¬ (0 ≤ x ∧ x ≤ 20)) : Ct Γ M_Mo_ahead [.ref 53, .int x] S0 I J (eqQ (some (.int (-1000001))) S0 I J) := by
  refine ct_of [.ref 53, .int x] (by decide +kernel) rfl (leb rfl) rfl ?_
  refine p_iload_n d_Mo_ahead_0 rfl ?_
  refine p_i2l d_Mo_ahead_1 ?_
  refine p_lc_0 d_Mo_ahead_2 ?_
  refine p_ldc2 d_Mo_ahead_3 kl_Mo_131 ?_
  refine q_S1 d_Mo_ahead_6 ml_Mo_45 sb_Mo_in ⟨leb rfl, leb rfl⟩ (c_in Γ _ _ _ x 0 20 (by decide) (by decide)) rfl rfl rfl ?_
  refine p_ifeqB (tgt := 22) d_Mo_ahead_9 (by decide) (fun h9 => ?_) (fun h9 => ?_)
  · refine p_ldc d_Mo_ahead_22 kc_Mo_51 ?_
    refine p_iret d_Mo_ahead_24 rfl rfl ?_
    exact ⟨rfl, rfl, rfl, rfl⟩
  · exact absurd h9 hb
theorem m_waits (Γ : Cx) (I : MemI) (J : MemJ) (x : Int32) (hb : 0 ≤ x ∧ x ≤ 10) (u : Nat) (hu : I 53 2 = nI u) (h10 : u ≤ 10) : Ct Γ M_Mo_waits [.ref 53, .int x] S0 I J (stQ (some (.int (I 54 1))) (upd (I 54) 1 x) (rmU u) (rmP u (I 55) (I 54)) I J) := by
  refine ct_of [.ref 53, .int x] (by decide +kernel) rfl (leb rfl) rfl ?_
  refine p_iload_n d_Mo_waits_0 rfl ?_
  refine p_i2l d_Mo_waits_1 ?_
  refine p_lc_0 d_Mo_waits_2 ?_
  refine p_ldc2 d_Mo_waits_3 kl_Mo_144 ?_
  refine q_S1 d_Mo_waits_6 ml_Mo_45 sb_Mo_in ⟨leb rfl, leb rfl⟩ (c_in Γ _ _ _ x 0 10 (by decide) (by decide)) rfl rfl rfl ?_
  refine p_ifeqB (tgt := 21) d_Mo_waits_9 (by decide) (fun h9 => ?_) (fun h9 => ?_)
  · exact absurd hb h9
  · refine p_aload_n d_Mo_waits_12 rfl ?_
    refine p_ic_1 d_Mo_waits_13 ?_
    refine p_iload_n d_Mo_waits_14 rfl ?_
    refine q_V d_Mo_waits_15 ml_Mo_133 vb_Mo_puts kd_53 ⟨leb rfl, leb rfl⟩ (m_puts Γ I J u 1 x (by omega) hu h10) rfl rfl rfl (fun r S1 I1 J1 hQ => ?_)
    obtain ⟨rfl, rfl, rfl, w1, w2, w3, w4, w5⟩ := hQ
    refine p_goto (tgt := 23) d_Mo_waits_18 (by decide) ?_
    refine p_iret d_Mo_waits_23 rfl rfl ?_
    exact ⟨rfl, rfl, rfl, w1, w2, w3, w4, w5⟩
theorem m_waits_bad (Γ : Cx) (I : MemI) (J : MemJ) (x : Int32) (hb : ¬ (0 ≤ x ∧ x ≤ 10)) : Ct Γ M_Mo_waits [.ref 53, .int x] S0 I J (eqQ (some (.int (-1000001))) S0 I J) := by
  refine ct_of [.ref 53, .int x] (by decide +kernel) rfl (leb rfl) rfl ?_
  refine p_iload_n d_Mo_waits_0 rfl ?_
  refine p_i2l d_Mo_waits_1 ?_
  refine p_lc_0 d_Mo_waits_2 ?_
  refine p_ldc2 d_Mo_waits_3 kl_Mo_144 ?_
  refine q_S1 d_Mo_waits_6 ml_Mo_45 sb_Mo_in ⟨leb rfl, leb rfl⟩ (c_in Γ _ _ _ x 0 10 (by decide) (by decide)) rfl rfl rfl ?_
  refine p_ifeqB (tgt := 21) d_Mo_waits_9 (by decide) (fun h9 => ?_) (fun h9 => ?_)
  · refine p_ldc d_Mo_waits_21 kc_Mo_51 ?_
    refine p_iret d_Mo_waits_23 rfl rfl ?_
    exact ⟨rfl, rfl, rfl, rfl⟩
  · exact absurd h9 hb
theorem nI_NONE : ∀ k, k < 6 → ¬ nI k = -1000009 := by decide +kernel
theorem isP_NONE : ∀ n, n ≤ 6 → ¬ ((0 : Int32) ≤ -1000009 ∧ (-1000009 : Int32) < nI n) := by decide +kernel
theorem m_choir (Γ : Cx) (I : MemI) (J : MemJ) (n : Nat) (hn : n ≤ 6) (h0 : I 54 0 = nI n) (k : Nat) (hk : k < n) (u : Nat) (hu : I 53 2 = nI u) (h10 : u ≤ 10) : Ct Γ M_Mo_choir [.ref 53, .int (nI k)] S0 I J (stQ (some (.int (choT (I 54 36)))) (upd (I 54) 36 (nI k)) (rmU u) (rmP u (I 55) (I 54)) I J) := by
  refine ct_of [.ref 53, .int (nI k), .null] (by decide +kernel) rfl (leb rfl) rfl ?_
  refine p_aload_n d_Mo_choir_0 rfl ?_
  refine p_iload_n d_Mo_choir_1 rfl ?_
  refine q_V1 d_Mo_choir_2 ml_Mo_102 vb_Mo_isPew kd_53 ⟨leb rfl, leb rfl⟩ (m_isPew Γ I J n (nI k) hn h0) rfl rfl rfl ?_
  refine p_ifneB (tgt := 17) d_Mo_choir_5 (by decide) (fun h5 => ?_) (fun h5 => ?_)
  · refine p_aload_n d_Mo_choir_17 rfl ?_
    refine p_bi_36 d_Mo_choir_18 ?_
    refine p_iload_n d_Mo_choir_20 rfl ?_
    refine p_ldc d_Mo_choir_21 kc_Mo_107 ?_
    refine p_icmpne (tgt := 30) d_Mo_choir_23 (by decide) (fun h23 => ?_) (fun h23 => ?_)
    · refine p_iload_n d_Mo_choir_30 rfl ?_
      refine q_V d_Mo_choir_31 ml_Mo_133 vb_Mo_puts kd_53 ⟨leb rfl, leb rfl⟩ (m_puts Γ I J u 36 (nI k) (by omega) hu h10) rfl rfl rfl (fun r S1 I1 J1 hQ => ?_)
      obtain ⟨rfl, rfl, rfl, w1, w2, w3, w4, w5⟩ := hQ
      refine p_is_2 d_Mo_choir_34 (by decide) rfl ?_
      refine p_iload_n d_Mo_choir_35 rfl ?_
      refine p_ifge (tgt := 44) d_Mo_choir_36 (by decide) (fun h36 => ?_) (fun h36 => ?_)
      · refine p_iload_n d_Mo_choir_44 rfl ?_
        refine p_iret d_Mo_choir_45 rfl rfl ?_
        refine ⟨?_, rfl, rfl, w1, w2, w3, w4, w5⟩
        unfold choT
        first | (rw [if_pos (i32_nle.mp h36)]; done) | (rw [if_neg (i32_nlt.mpr h36)]; done) | (rw [if_pos (i32_nle.mp h36)]; rfl)
      · refine p_ldc d_Mo_choir_39 kc_Mo_107 ?_
        refine p_goto (tgt := 45) d_Mo_choir_41 (by decide) ?_
        refine p_iret d_Mo_choir_45 rfl rfl ?_
        refine ⟨?_, rfl, rfl, w1, w2, w3, w4, w5⟩
        unfold choT
        first | (rw [if_pos (i32_nle.mp h36)]; done) | (rw [if_neg (i32_nlt.mpr h36)]; done) | (rw [if_pos (i32_nle.mp h36)]; rfl)
    · exact absurd h23 (nI_NONE k (by omega))
  · exact absurd (isP_nI hn hk) h5
theorem m_choir_none (Γ : Cx) (I : MemI) (J : MemJ) (n : Nat) (hn : n ≤ 6) (h0 : I 54 0 = nI n) (u : Nat) (hu : I 53 2 = nI u) (h10 : u ≤ 10) : Ct Γ M_Mo_choir [.ref 53, .int (-1000009)] S0 I J (stQ (some (.int (choT (I 54 36)))) (upd (I 54) 36 (-1)) (rmU u) (rmP u (I 55) (I 54)) I J) := by
  refine ct_of [.ref 53, .int (-1000009), .null] (by decide +kernel) rfl (leb rfl) rfl ?_
  refine p_aload_n d_Mo_choir_0 rfl ?_
  refine p_iload_n d_Mo_choir_1 rfl ?_
  refine q_V1 d_Mo_choir_2 ml_Mo_102 vb_Mo_isPew kd_53 ⟨leb rfl, leb rfl⟩ (m_isPew Γ I J n (-1000009) hn h0) rfl rfl rfl ?_
  refine p_ifneB (tgt := 17) d_Mo_choir_5 (by decide) (fun h5 => ?_) (fun h5 => ?_)
  · exact absurd h5 (isP_NONE n hn)
  · refine p_iload_n d_Mo_choir_8 rfl ?_
    refine p_ldc d_Mo_choir_9 kc_Mo_107 ?_
    refine p_icmpeq (tgt := 17) d_Mo_choir_11 (by decide) (fun h11 => ?_) (fun h11 => ?_)
    · refine p_aload_n d_Mo_choir_17 rfl ?_
      refine p_bi_36 d_Mo_choir_18 ?_
      refine p_iload_n d_Mo_choir_20 rfl ?_
      refine p_ldc d_Mo_choir_21 kc_Mo_107 ?_
      refine p_icmpne (tgt := 30) d_Mo_choir_23 (by decide) (fun h23 => ?_) (fun h23 => ?_)
      · exact absurd rfl h23
      · refine p_ic_m1 d_Mo_choir_26 ?_
        refine p_goto (tgt := 31) d_Mo_choir_27 (by decide) ?_
        refine q_V d_Mo_choir_31 ml_Mo_133 vb_Mo_puts kd_53 ⟨leb rfl, leb rfl⟩ (m_puts Γ I J u 36 (-1) (by omega) hu h10) rfl rfl rfl (fun r S1 I1 J1 hQ => ?_)
        obtain ⟨rfl, rfl, rfl, w1, w2, w3, w4, w5⟩ := hQ
        refine p_is_2 d_Mo_choir_34 (by decide) rfl ?_
        refine p_iload_n d_Mo_choir_35 rfl ?_
        refine p_ifge (tgt := 44) d_Mo_choir_36 (by decide) (fun h36 => ?_) (fun h36 => ?_)
        · refine p_iload_n d_Mo_choir_44 rfl ?_
          refine p_iret d_Mo_choir_45 rfl rfl ?_
          refine ⟨?_, rfl, rfl, w1, w2, w3, w4, w5⟩
          unfold choT
          first | (rw [if_pos (i32_nle.mp h36)]; done) | (rw [if_neg (i32_nlt.mpr h36)]; done) | (rw [if_pos (i32_nle.mp h36)]; rfl)
        · refine p_ldc d_Mo_choir_39 kc_Mo_107 ?_
          refine p_goto (tgt := 45) d_Mo_choir_41 (by decide) ?_
          refine p_iret d_Mo_choir_45 rfl rfl ?_
          refine ⟨?_, rfl, rfl, w1, w2, w3, w4, w5⟩
          unfold choT
          first | (rw [if_pos (i32_nle.mp h36)]; done) | (rw [if_neg (i32_nlt.mpr h36)]; done) | (rw [if_pos (i32_nle.mp h36)]; rfl)
    · exact absurd rfl h11
theorem m_choir_bad (Γ : Cx) (I : MemI) (J : MemJ) (n : Nat) (hn : n ≤ 6) (h0 : I 54 0 = nI n) (x : Int32) (hb : ¬ (0 ≤ x ∧ x < nI n)) (hb2 : ¬ x = -1000009) : Ct Γ M_Mo_choir [.ref 53, .int x] S0 I J (eqQ (some (.int (-1000001))) S0 I J) := by
  refine ct_of [.ref 53, .int x, .null] (by decide +kernel) rfl (leb rfl) rfl ?_
  refine p_aload_n d_Mo_choir_0 rfl ?_
  refine p_iload_n d_Mo_choir_1 rfl ?_
  refine q_V1 d_Mo_choir_2 ml_Mo_102 vb_Mo_isPew kd_53 ⟨leb rfl, leb rfl⟩ (m_isPew Γ I J n x hn h0) rfl rfl rfl ?_
  refine p_ifneB (tgt := 17) d_Mo_choir_5 (by decide) (fun h5 => ?_) (fun h5 => ?_)
  · exact absurd h5 hb
  · refine p_iload_n d_Mo_choir_8 rfl ?_
    refine p_ldc d_Mo_choir_9 kc_Mo_107 ?_
    refine p_icmpeq (tgt := 17) d_Mo_choir_11 (by decide) (fun h11 => ?_) (fun h11 => ?_)
    · exact absurd h11 hb2
    · refine p_ldc d_Mo_choir_14 kc_Mo_51 ?_
      refine p_iret d_Mo_choir_16 rfl rfl ?_
      exact ⟨rfl, rfl, rfl, rfl⟩
def knS (b k i : Nat) : Nat := if i = 1 then (if b / 2 ^ k % 2 = 1 then b else b + 2 ^ k) else (if b / 2 ^ k % 2 = 1 then b - 2 ^ k else b)
theorem knS_m : ∀ b, b < 64 → ∀ k, k < 6 → ∀ i, i < 2 → (nI b &&& ((1 <<< (nI k &&& 31)) ^^^ (-1)) ||| (nI i <<< (nI k &&& 31))) = nI (knS b k i) ∧ knS b k i < 64 := by decide +kernel
theorem i1 : ∀ q, q < 2 → (0 : Int32) ≤ nI q ∧ nI q ≤ 1 := by decide +kernel
theorem m_knows (Γ : Cx) (I : MemI) (J : MemJ) (n : Nat) (hn : n ≤ 6) (h0 : I 54 0 = nI n) (k i b : Nat) (hk : k < n) (hi : i < 2) (hb : b < 64) (hkn : I 54 37 = nI b) (u : Nat) (hu : I 53 2 = nI u) (h10 : u ≤ 10) : Ct Γ M_Mo_knows [.ref 53, .int (nI k), .int (nI i)] S0 I J (stQ (some (.int (nI (pop (knS b k i))))) (upd (I 54) 37 (nI (knS b k i))) (rmU u) (rmP u (I 55) (I 54)) I J) := by
  refine ct_of [.ref 53, .int (nI k), .int (nI i), .null] (by decide +kernel) rfl (leb rfl) rfl ?_
  refine p_aload_n d_Mo_knows_0 rfl ?_
  refine p_iload_n d_Mo_knows_1 rfl ?_
  refine q_V1 d_Mo_knows_2 ml_Mo_102 vb_Mo_isPew kd_53 ⟨leb rfl, leb rfl⟩ (m_isPew Γ I J n (nI k) hn h0) rfl rfl rfl ?_
  refine p_ifeqB (tgt := 15) d_Mo_knows_5 (by decide) (fun h5 => ?_) (fun h5 => ?_)
  · first | exact absurd (isP_nI hn hk) h5 | exact absurd (i1 i hi) h12
  · refine p_iload_n d_Mo_knows_8 rfl ?_
    refine q_S1 d_Mo_knows_9 ml_Mo_137 sb_Mo_isTwo ⟨leb rfl, leb rfl⟩ (c_isTwo Γ S0 I J (nI i)) rfl rfl rfl ?_
    refine p_ifneB (tgt := 18) d_Mo_knows_12 (by decide) (fun h12 => ?_) (fun h12 => ?_)
    · refine p_aload_n d_Mo_knows_18 rfl ?_
      refine p_bi_37 d_Mo_knows_19 ?_
      refine p_aload_n d_Mo_knows_21 rfl ?_
      refine p_getR d_Mo_knows_22 fl_Mo_7 kd_53 rfl rf_53_0 ?_
      refine p_bi_37 d_Mo_knows_25 ?_
      refine p_ialdN (37) d_Mo_knows_27 ar_54 rfl (by omega) rfl ?_
      refine p_eqI hkn ?_
      refine p_ic_1 d_Mo_knows_28 ?_
      refine p_iload_n d_Mo_knows_29 rfl ?_
      refine p_ishl d_Mo_knows_30 ?_
      refine p_ic_m1 d_Mo_knows_31 ?_
      refine p_ixor d_Mo_knows_32 ?_
      refine p_iand d_Mo_knows_33 ?_
      refine p_iload_n d_Mo_knows_34 rfl ?_
      refine p_iload_n d_Mo_knows_35 rfl ?_
      refine p_ishl d_Mo_knows_36 ?_
      refine p_ior d_Mo_knows_37 ?_
      refine p_eqI (knS_m b hb k (by omega) i hi).1 ?_
      refine q_V d_Mo_knows_38 ml_Mo_133 vb_Mo_puts kd_53 ⟨leb rfl, leb rfl⟩ (m_puts Γ I J u 37 (nI (knS b k i)) (by omega) hu h10) rfl rfl rfl (fun r S1 I1 J1 hQ => ?_)
      obtain ⟨rfl, rfl, rfl, w1, w2, w3, w4, w5⟩ := hQ
      refine p_is_3 d_Mo_knows_41 (by decide) rfl ?_
      refine p_aload_n d_Mo_knows_42 rfl ?_
      refine p_getR d_Mo_knows_43 fl_Mo_7 kd_53 rfl rf_53_0 ?_
      refine p_bi_37 d_Mo_knows_46 ?_
      refine p_ialdN (37) d_Mo_knows_48 ar_54 rfl (by omega) rfl ?_
      refine p_eqI (y := nI (knS b k i)) (by rw [w1]; rfl) ?_
      refine q_S1 d_Mo_knows_49 ml_Mo_140 sb_Mo_bits ⟨leb rfl, leb rfl⟩ (m_bits Γ S0 _ _ (knS b k i) (knS_m b hb k (by omega) i hi).2) rfl rfl rfl ?_
      refine p_iret d_Mo_knows_52 rfl rfl ?_
      exact ⟨rfl, rfl, rfl, w1, w2, w3, w4, w5⟩
    · first | exact absurd (isP_nI hn hk) h5 | exact absurd (i1 i hi) h12
theorem m_knows_bad (Γ : Cx) (I : MemI) (J : MemJ) (n : Nat) (hn : n ≤ 6) (h0 : I 54 0 = nI n) (x y : Int32) (hb : ¬ ((0 ≤ x ∧ x < nI n) ∧ (0 ≤ y ∧ y ≤ 1))) : Ct Γ M_Mo_knows [.ref 53, .int x, .int y] S0 I J (eqQ (some (.int (-1000001))) S0 I J) := by
  refine ct_of [.ref 53, .int x, .int y, .null] (by decide +kernel) rfl (leb rfl) rfl ?_
  refine p_aload_n d_Mo_knows_0 rfl ?_
  refine p_iload_n d_Mo_knows_1 rfl ?_
  refine q_V1 d_Mo_knows_2 ml_Mo_102 vb_Mo_isPew kd_53 ⟨leb rfl, leb rfl⟩ (m_isPew Γ I J n x hn h0) rfl rfl rfl ?_
  refine p_ifeqB (tgt := 15) d_Mo_knows_5 (by decide) (fun h5 => ?_) (fun h5 => ?_)
  · refine p_ldc d_Mo_knows_15 kc_Mo_51 ?_
    refine p_iret d_Mo_knows_17 rfl rfl ?_
    exact ⟨rfl, rfl, rfl, rfl⟩
  · refine p_iload_n d_Mo_knows_8 rfl ?_
    refine q_S1 d_Mo_knows_9 ml_Mo_137 sb_Mo_isTwo ⟨leb rfl, leb rfl⟩ (c_isTwo Γ S0 I J y) rfl rfl rfl ?_
    refine p_ifneB (tgt := 18) d_Mo_knows_12 (by decide) (fun h12 => ?_) (fun h12 => ?_)
    · exact absurd ⟨h5, h12⟩ hb
    · refine p_ldc d_Mo_knows_15 kc_Mo_51 ?_
      refine p_iret d_Mo_knows_17 rfl rfl ?_
      exact ⟨rfl, rfl, rfl, rfl⟩
theorem m_line (Γ : Cx) (I : MemI) (J : MemJ) (n : Nat) (hn : n ≤ 6) (h0 : I 54 0 = nI n) (hok : okT n (I 54)) (hs : I 54 38 < 999) (u : Nat) (hu : I 53 2 = nI u) (h10 : u ≤ 10) : Ct Γ M_Mo_line [.ref 53] S0 I J (stQ (some (.int (singT n (I 54) 34))) (singT n (I 54)) (rmU u) (rmP u (I 55) (I 54)) I J) := by
  refine ct_of [.ref 53] (by decide +kernel) rfl (leb rfl) rfl ?_
  refine p_aload_n d_Mo_line_0 rfl ?_
  refine p_getR d_Mo_line_1 fl_Mo_7 kd_53 rfl rf_53_0 ?_
  refine p_bi_38 d_Mo_line_4 ?_
  refine p_ialdN (38) d_Mo_line_6 ar_54 rfl (by omega) rfl ?_
  refine p_si_999 d_Mo_line_7 ?_
  refine p_icmplt (tgt := 16) d_Mo_line_10 (by decide) (fun hq => ?_) (fun hq => ?_)
  · refine p_aload_n d_Mo_line_16 rfl ?_
    refine q_V d_Mo_line_17 ml_Mo_121 vb_Mo_remember kd_53 ⟨leb rfl, leb rfl⟩ (m_remember Γ I J u hu h10) rfl rfl rfl (fun r S1 I1 J1 hQ => ?_)
    obtain ⟨rfl, rfl, rfl, w1, w2, w3, w4, w5⟩ := hQ
    refine p_aload_n d_Mo_line_20 rfl ?_
    refine p_aload_n d_Mo_line_21 rfl ?_
    refine p_getR d_Mo_line_22 fl_Mo_7 kd_53 rfl rf_53_0 ?_
    refine q_V d_Mo_line_25 ml_Mo_124 vb_Mo_sings kd_53 ⟨leb rfl, leb rfl⟩ (m_sings Γ I1 J1 54 n ar_54 (by decide) hn (by rw [w1]; exact h0) (by rw [w1]; exact hok.2.1)) rfl rfl rfl (fun r S1 I1 J1 hQ => ?_)
    obtain ⟨rfl, rfl, rfl, v1, v2⟩ := hQ
    refine p_aload_n d_Mo_line_28 rfl ?_
    refine p_getR d_Mo_line_29 fl_Mo_7 kd_53 rfl rf_53_0 ?_
    refine p_bi_34 d_Mo_line_32 ?_
    refine p_ialdN (34) d_Mo_line_34 ar_54 rfl (by omega) rfl ?_
    refine p_iret d_Mo_line_35 rfl rfl ?_
    rename_i I2
    refine ⟨by rw [v1, w1], rfl, rfl, by rw [v1, w1], ?_, ?_, fun y q => ?_, fun x q1 q2 q3 q4 => ?_⟩
    · rw [v2 53 (by decide) (by decide)]; exact w2
    · rw [v2 55 (by decide) (by decide)]; exact w3
    · rw [v2 53 (by decide) (by decide)]; exact w4 y q
    · rw [v2 x q4 q2]; exact w5 x q1 q2 q3 q4
  · exact absurd hs hq
theorem m_line_st (Γ : Cx) (I : MemI) (J : MemJ) (hs : ¬ I 54 38 < 999) : Ct Γ M_Mo_line [.ref 53] S0 I J (eqQ (some (.int (-1000002))) S0 I J) := by
  refine ct_of [.ref 53] (by decide +kernel) rfl (leb rfl) rfl ?_
  refine p_aload_n d_Mo_line_0 rfl ?_
  refine p_getR d_Mo_line_1 fl_Mo_7 kd_53 rfl rf_53_0 ?_
  refine p_bi_38 d_Mo_line_4 ?_
  refine p_ialdN (38) d_Mo_line_6 ar_54 rfl (by omega) rfl ?_
  refine p_si_999 d_Mo_line_7 ?_
  refine p_icmplt (tgt := 16) d_Mo_line_10 (by decide) (fun h10 => ?_) (fun h10 => ?_)
  · exact absurd h10 hs
  · refine p_ldc d_Mo_line_13 kc_Mo_120 ?_
    refine p_iret d_Mo_line_15 rfl rfl ?_
    exact ⟨rfl, rfl, rfl, rfl⟩
theorem m_verse (Γ : Cx) (I : MemI) (J : MemJ) (n : Nat) (hn : n ≤ 6) (h0 : I 54 0 = nI n) (hok : okT n (I 54)) (ln g : Nat) (hln : I 54 2 = nI ln) (hl9 : ln ≤ 9) (hg : I 54 3 = nI g) (hg9 : g ≤ 9) (hs : ¬ 999 < I 54 38 + I 54 2) (u : Nat) (hu : I 53 2 = nI u) (h10 : u ≤ 10) : Ct Γ M_Mo_verse [.ref 53] S0 I J (stQ (some (.int (itS n (I 54) ln 34))) (rsT n g (itS n (I 54) ln)) (rmU u) (rmP u (I 55) (I 54)) I J) := by
  have z : ∀ k y, y < 4 → itS n (I 54) k y = I 54 y := by
    intro k y hy
    induction k with
    | zero => rfl
    | succ k ih => show singT n _ y = _; rw [singT_off (by omega) (by omega) (by omega)]; exact ih
  have LP : ∀ (f k : Nat) (I1 : MemI), k + f = ln → I1 54 = itS n (I 54) k → I1 53 2 = nI (rmU u) → I1 55 = rmP u (I 55) (I 54) → (∀ y, y ≠ 2 → I1 53 y = I 53 y) → (∀ x, x ≠ 53 → x ≠ 54 → x ≠ 55 → x ≠ 61 → I1 x = I x) → WP Γ M_Mo_verse (0, 0) S0 I1 J 29 [.ref 53, .int (nI k)] [] (stQ (some (.int (itS n (I 54) ln 34))) (rsT n g (itS n (I 54) ln)) (rmU u) (rmP u (I 55) (I 54)) I J) := by
    intro f
    induction f with
    | zero =>
      intro k I1 hkf w1 w2 w3 w4 w5
      obtain rfl : k = ln := by omega
      refine p_iload_n d_Mo_verse_29 rfl ?_
      refine p_aload_n d_Mo_verse_30 rfl ?_
      refine p_getR d_Mo_verse_31 fl_Mo_7 kd_53 rfl rf_53_0 ?_
      refine p_ic_2 d_Mo_verse_34 ?_
      refine p_ialdN (2) d_Mo_verse_35 ar_54 rfl (by omega) rfl ?_
      refine p_eqI (y := nI k) (by rw [w1, z k 2 (by omega)]; exact hln) ?_
      refine p_icmpgeN (tgt := 53) (k) (k) d_Mo_verse_36 (by decide) rfl rfl (by omega) (by omega) (fun h36 => ?_) (fun h36 => ?_)
      · refine p_aload_n d_Mo_verse_53 rfl ?_
        refine p_getR d_Mo_verse_54 fl_Mo_7 kd_53 rfl rf_53_0 ?_
        refine p_aload_n d_Mo_verse_57 rfl ?_
        refine p_getR d_Mo_verse_58 fl_Mo_7 kd_53 rfl rf_53_0 ?_
        refine p_ic_3 d_Mo_verse_61 ?_
        refine p_ialdN (3) d_Mo_verse_62 ar_54 rfl (by omega) rfl ?_
        refine p_eqI (y := nI g) (by rw [w1, z k 3 (by omega)]; exact hg) ?_
        refine q_S d_Mo_verse_63 ml_Mo_127 sb_Mo_rests ⟨leb rfl, leb rfl⟩ (m_rests Γ I1 J 54 n g ar_54 hn hg9 (by rw [w1, z k 0 (by omega)]; exact h0)) rfl rfl rfl (fun r S1 I1 J1 hQ => ?_)
        obtain ⟨rfl, rfl, rfl, v1, v2⟩ := hQ
        refine p_aload_n d_Mo_verse_66 rfl ?_
        refine p_getR d_Mo_verse_67 fl_Mo_7 kd_53 rfl rf_53_0 ?_
        refine p_bi_34 d_Mo_verse_70 ?_
        refine p_ialdN (34) d_Mo_verse_72 ar_54 rfl (by omega) rfl ?_
        refine p_iret d_Mo_verse_73 rfl rfl ?_
        refine ⟨?_, rfl, rfl, by rw [v1, w1], ?_, ?_, fun y q => ?_, fun x q1 q2 q3 q4 => ?_⟩
        · rw [v1, w1]
          unfold rsT
          rw [if_neg (by omega)]
        · rw [v2 53 (by decide)]; exact w2
        · rw [v2 55 (by decide)]; exact w3
        · rw [v2 53 (by decide)]; exact w4 y q
        · rw [v2 x q2]; exact w5 x q1 q2 q3 q4
      · exact absurd (Nat.le_refl _) h36
    | succ f ih =>
      intro k I1 hkf w1 w2 w3 w4 w5
      refine p_iload_n d_Mo_verse_29 rfl ?_
      refine p_aload_n d_Mo_verse_30 rfl ?_
      refine p_getR d_Mo_verse_31 fl_Mo_7 kd_53 rfl rf_53_0 ?_
      refine p_ic_2 d_Mo_verse_34 ?_
      refine p_ialdN (2) d_Mo_verse_35 ar_54 rfl (by omega) rfl ?_
      refine p_eqI (y := nI ln) (by rw [w1, z k 2 (by omega)]; exact hln) ?_
      refine p_icmpgeN (tgt := 53) (k) (ln) d_Mo_verse_36 (by decide) rfl rfl (by omega) (by omega) (fun h36 => ?_) (fun h36 => ?_)
      · exact absurd h36 (by omega)
      · refine p_aload_n d_Mo_verse_39 rfl ?_
        refine p_aload_n d_Mo_verse_40 rfl ?_
        refine p_getR d_Mo_verse_41 fl_Mo_7 kd_53 rfl rf_53_0 ?_
        refine q_V d_Mo_verse_44 ml_Mo_124 vb_Mo_sings kd_53 ⟨leb rfl, leb rfl⟩ (m_sings Γ I1 J 54 n ar_54 (by decide) hn (by rw [w1, z k 0 (by omega)]; exact h0) (by rw [w1]; exact (hok.it k).2.1)) rfl rfl rfl (fun r S1 I1 J1 hQ => ?_)
        obtain ⟨rfl, rfl, rfl, v1, v2⟩ := hQ
        refine p_incN_1_1 d_Mo_verse_47 (by decide) rfl ?_
        refine p_goto (tgt := 29) d_Mo_verse_50 (by decide) ?_
        refine ih (k + 1) _ (by omega) (by rw [v1, w1]; rfl) ?_ ?_ (fun y q => ?_) (fun x q1 q2 q3 q4 => ?_)
        · rw [v2 53 (by decide) (by decide)]; exact w2
        · rw [v2 55 (by decide) (by decide)]; exact w3
        · rw [v2 53 (by decide) (by decide)]; exact w4 y q
        · rw [v2 x q4 q2]; exact w5 x q1 q2 q3 q4
  refine ct_of [.ref 53, .null] (by decide +kernel) rfl (leb rfl) rfl ?_
  refine p_aload_n d_Mo_verse_0 rfl ?_
  refine p_getR d_Mo_verse_1 fl_Mo_7 kd_53 rfl rf_53_0 ?_
  refine p_bi_38 d_Mo_verse_4 ?_
  refine p_ialdN (38) d_Mo_verse_6 ar_54 rfl (by omega) rfl ?_
  refine p_aload_n d_Mo_verse_7 rfl ?_
  refine p_getR d_Mo_verse_8 fl_Mo_7 kd_53 rfl rf_53_0 ?_
  refine p_ic_2 d_Mo_verse_11 ?_
  refine p_ialdN (2) d_Mo_verse_12 ar_54 rfl (by omega) rfl ?_
  refine p_iadd d_Mo_verse_13 ?_
  refine p_si_999 d_Mo_verse_14 ?_
  refine p_icmple (tgt := 23) d_Mo_verse_17 (by decide) (fun h17 => ?_) (fun h17 => ?_)
  · refine p_aload_n d_Mo_verse_23 rfl ?_
    refine q_V d_Mo_verse_24 ml_Mo_121 vb_Mo_remember kd_53 ⟨leb rfl, leb rfl⟩ (m_remember Γ I J u hu h10) rfl rfl rfl (fun r S1 I1 J1 hQ => ?_)
    obtain ⟨rfl, rfl, rfl, w1, w2, w3, w4, w5⟩ := hQ
    refine p_ic_0 d_Mo_verse_27 ?_
    refine p_is_1 d_Mo_verse_28 (by decide) rfl ?_
    exact LP ln 0 _ (by omega) w1 w2 w3 w4 w5
  · exact absurd (i32_nle.mp h17) hs
theorem m_verse_st (Γ : Cx) (I : MemI) (J : MemJ) (hs : 999 < I 54 38 + I 54 2) : Ct Γ M_Mo_verse [.ref 53] S0 I J (eqQ (some (.int (-1000002))) S0 I J) := by
  refine ct_of [.ref 53, .null] (by decide +kernel) rfl (leb rfl) rfl ?_
  refine p_aload_n d_Mo_verse_0 rfl ?_
  refine p_getR d_Mo_verse_1 fl_Mo_7 kd_53 rfl rf_53_0 ?_
  refine p_bi_38 d_Mo_verse_4 ?_
  refine p_ialdN (38) d_Mo_verse_6 ar_54 rfl (by omega) rfl ?_
  refine p_aload_n d_Mo_verse_7 rfl ?_
  refine p_getR d_Mo_verse_8 fl_Mo_7 kd_53 rfl rf_53_0 ?_
  refine p_ic_2 d_Mo_verse_11 ?_
  refine p_ialdN (2) d_Mo_verse_12 ar_54 rfl (by omega) rfl ?_
  refine p_iadd d_Mo_verse_13 ?_
  refine p_si_999 d_Mo_verse_14 ?_
  refine p_icmple (tgt := 23) d_Mo_verse_17 (by decide) (fun h17 => ?_) (fun h17 => ?_)
  · exact absurd hs (i32_nlt.mpr h17)
  · refine p_ldc d_Mo_verse_20 kc_Mo_120 ?_
    refine p_iret d_Mo_verse_22 rfl rfl ?_
    exact ⟨rfl, rfl, rfl, rfl⟩
theorem m_undo (Γ : Cx) (I : MemI) (J : MemJ) (u : Nat) (hu : I 53 2 = nI (u + 1)) (h10 : u + 1 ≤ 10) : Ct Γ M_Mo_undo [.ref 53] S0 I J (stQ (some (.int (nI u))) (fun y => I 55 (39 * u + y)) u (I 55) I J) := by
  refine ct_of [.ref 53] (by decide +kernel) rfl (leb rfl) rfl ?_
  refine p_aload_n d_Mo_undo_0 rfl ?_
  refine p_getI d_Mo_undo_1 fl_Mo_96 kd_53 (Or.inl rfl) ?_
  refine p_eqI hu ?_
  refine p_ifne (tgt := 10) d_Mo_undo_4 (by decide) (fun h4 => ?_) (fun h4 => ?_)
  · refine p_aload_n d_Mo_undo_10 rfl ?_
    refine p_dup d_Mo_undo_11 rfl ?_
    refine p_getI d_Mo_undo_12 fl_Mo_96 kd_53 (Or.inl rfl) ?_
    refine p_eqI hu ?_
    refine p_ic_1 d_Mo_undo_15 ?_
    refine p_isubN (u + 1) (1) d_Mo_undo_16 rfl rfl (by omega) ?_
    refine p_eqI (y := nI u) (by rw [Nat.add_sub_cancel]) ?_
    refine p_putI d_Mo_undo_17 fl_Mo_96 kd_53 rfl nf_5_2 ?_
    refine p_aload_n d_Mo_undo_20 rfl ?_
    refine p_getR d_Mo_undo_21 fl_Mo_13 kd_53 rfl rf_53_1 ?_
    refine p_bi_39 d_Mo_undo_24 ?_
    refine p_aload_n d_Mo_undo_26 rfl ?_
    refine p_getI d_Mo_undo_27 fl_Mo_96 kd_53 (Or.inl rfl) ?_
    refine p_eqI (y := nI u) (by simp [up2]) ?_
    refine p_imulN (39) (u) d_Mo_undo_30 rfl rfl ?_
    refine p_aload_n d_Mo_undo_31 rfl ?_
    refine p_getR d_Mo_undo_32 fl_Mo_7 kd_53 rfl rf_53_0 ?_
    refine p_ic_0 d_Mo_undo_35 ?_
    refine q_S d_Mo_undo_36 ml_Mo_92 sb_Mo_copies ⟨leb rfl, leb rfl⟩ (m_copies Γ _ J 55 54 (39 * u) 0 390 39 ar_55 ar_54 (by decide) (by omega) (by omega) rfl rfl) rfl rfl rfl (fun r S1 I1 J1 hQ => ?_)
    obtain ⟨rfl, rfl, rfl, v1, v2⟩ := hQ
    refine p_row (fun y => I 55 (39 * u + y)) ar_54 (fun y hy => by rw [v1]; simp [cpR, hy, up2]) ?_
    refine p_aload_n d_Mo_undo_39 rfl ?_
    refine p_getI d_Mo_undo_40 fl_Mo_96 kd_53 (Or.inl rfl) ?_
    refine p_iret d_Mo_undo_43 rfl rfl ?_
    refine ⟨by simp [v2, up2], rfl, rfl, by simp, by simp [v2, up2], ?_, fun y q => ?_, fun x q1 q2 q3 q4 => ?_⟩
    · funext y
      simp [v2, up2]
    · simp [v2, up2, q]
    · funext y
      simp [q2, v2 x q2, up2, q1]
  · exact absurd h4 (nI_ne0 (by omega) (by omega))
theorem m_undo_st (Γ : Cx) (I : MemI) (J : MemJ) (hu : I 53 2 = 0) : Ct Γ M_Mo_undo [.ref 53] S0 I J (eqQ (some (.int (-1000002))) S0 I J) := by
  refine ct_of [.ref 53] (by decide +kernel) rfl (leb rfl) rfl ?_
  refine p_aload_n d_Mo_undo_0 rfl ?_
  refine p_getI d_Mo_undo_1 fl_Mo_96 kd_53 (Or.inl rfl) ?_
  refine p_ifne (tgt := 10) d_Mo_undo_4 (by decide) (fun h4 => ?_) (fun h4 => ?_)
  · exact absurd hu h4
  · refine p_ldc d_Mo_undo_7 kc_Mo_120 ?_
    refine p_iret d_Mo_undo_9 rfl rfl ?_
    exact ⟨rfl, rfl, rfl, rfl⟩
def kpQ (r0 : Option Value) (i : Nat) (row : Nat → Int32) (I : MemI) (J : MemJ) : PQ := fun r S' I' J' => r = r0 ∧ S' = S0 ∧ J' = J ∧ I' 56 = row ∧ (∀ y, I' 57 y = if y = i then 1 else I 57 y) ∧ ∀ x, x ≠ 56 → x ≠ 57 → I' x = I x
theorem m_keep (Γ : Cx) (I : MemI) (J : MemJ) (i : Nat) (hi : i < 2) : Ct Γ M_Mo_keep [.ref 53, .int (nI i)] S0 I J (kpQ (some (.int (I 54 38))) i (cpR (I 56) (I 54) 0 (39 * i)) I J) := by
  refine ct_of [.ref 53, .int (nI i)] (by decide +kernel) rfl (leb rfl) rfl ?_
  refine p_iload_n d_Mo_keep_0 rfl ?_
  refine q_S1 d_Mo_keep_1 ml_Mo_137 sb_Mo_isTwo ⟨leb rfl, leb rfl⟩ (c_isTwo Γ S0 I J (nI i)) rfl rfl rfl ?_
  refine p_ifneB (tgt := 10) d_Mo_keep_4 (by decide) (fun h4 => ?_) (fun h4 => ?_)
  · refine p_aload_n d_Mo_keep_10 rfl ?_
    refine p_getR d_Mo_keep_11 fl_Mo_7 kd_53 rfl rf_53_0 ?_
    refine p_ic_0 d_Mo_keep_14 ?_
    refine p_aload_n d_Mo_keep_15 rfl ?_
    refine p_getR d_Mo_keep_16 fl_Mo_16 kd_53 rfl rf_53_3 ?_
    refine p_bi_39 d_Mo_keep_19 ?_
    refine p_iload_n d_Mo_keep_21 rfl ?_
    refine p_imulN (39) (i) d_Mo_keep_22 rfl rfl ?_
    refine q_S d_Mo_keep_23 ml_Mo_92 sb_Mo_copies ⟨leb rfl, leb rfl⟩ (m_copies Γ I J 54 56 0 (39 * i) 39 78 ar_54 ar_56 (by decide) (by omega) (by omega) rfl rfl) rfl rfl rfl (fun r S1 I1 J1 hQ => ?_)
    obtain ⟨rfl, rfl, rfl, v1, v2⟩ := hQ
    refine p_aload_n d_Mo_keep_26 rfl ?_
    refine p_getR d_Mo_keep_27 fl_Mo_19 kd_53 rfl rf_53_4 ?_
    refine p_iload_n d_Mo_keep_30 rfl ?_
    refine p_ic_1 d_Mo_keep_31 ?_
    refine p_zastN (i) d_Mo_keep_32 ar_57 rfl (by omega) rfl (Or.inr rfl) ?_
    refine p_aload_n d_Mo_keep_33 rfl ?_
    refine p_getR d_Mo_keep_34 fl_Mo_7 kd_53 rfl rf_53_0 ?_
    refine p_bi_38 d_Mo_keep_37 ?_
    refine p_ialdN (38) d_Mo_keep_39 ar_54 rfl (by omega) rfl ?_
    refine p_iret d_Mo_keep_40 rfl rfl ?_
    refine ⟨?_, rfl, rfl, ?_, fun y => ?_, fun x q1 q2 => ?_⟩
    · simp [up2, v2]
    · funext y
      simp [up2, v1]
    · simp [up2, v2]
    · funext y
      simp [up2, q2, v2 x q1]
  · exact absurd (i1 i hi) h4
theorem m_keep_bad (Γ : Cx) (I : MemI) (J : MemJ) (x : Int32) (hb : ¬ (0 ≤ x ∧ x ≤ 1)) : Ct Γ M_Mo_keep [.ref 53, .int x] S0 I J (eqQ (some (.int (-1000001))) S0 I J) := by
  refine ct_of [.ref 53, .int x] (by decide +kernel) rfl (leb rfl) rfl ?_
  refine p_iload_n d_Mo_keep_0 rfl ?_
  refine q_S1 d_Mo_keep_1 ml_Mo_137 sb_Mo_isTwo ⟨leb rfl, leb rfl⟩ (c_isTwo Γ S0 I J x) rfl rfl rfl ?_
  refine p_ifneB (tgt := 10) d_Mo_keep_4 (by decide) (fun h4 => ?_) (fun h4 => ?_)
  · exact absurd h4 hb
  · refine p_ldc d_Mo_keep_7 kc_Mo_51 ?_
    refine p_iret d_Mo_keep_9 rfl rfl ?_
    exact ⟨rfl, rfl, rfl, rfl⟩
theorem m_back (Γ : Cx) (I : MemI) (J : MemJ) (i : Nat) (hi : i < 2) (hk : ¬ I 57 i = 0) : Ct Γ M_Mo_back [.ref 53, .int (nI i)] S0 I J (stQ (some (.int (I 56 (39 * i + 38)))) (fun y => I 56 (39 * i + y)) 0 (I 55) I J) := by
  refine ct_of [.ref 53, .int (nI i)] (by decide +kernel) rfl (leb rfl) rfl ?_
  refine p_iload_n d_Mo_back_0 rfl ?_
  refine q_S1 d_Mo_back_1 ml_Mo_137 sb_Mo_isTwo ⟨leb rfl, leb rfl⟩ (c_isTwo Γ S0 I J (nI i)) rfl rfl rfl ?_
  refine p_ifneB (tgt := 10) d_Mo_back_4 (by decide) (fun h4 => ?_) (fun h4 => ?_)
  · refine p_aload_n d_Mo_back_10 rfl ?_
    refine p_getR d_Mo_back_11 fl_Mo_19 kd_53 rfl rf_53_4 ?_
    refine p_iload_n d_Mo_back_14 rfl ?_
    refine p_zaldN (i) d_Mo_back_15 ar_57 rfl (by omega) rfl ?_
    refine p_ifne (tgt := 22) d_Mo_back_16 (by decide) (fun h16 => ?_) (fun h16 => ?_)
    · refine p_aload_n d_Mo_back_22 rfl ?_
      refine p_getR d_Mo_back_23 fl_Mo_16 kd_53 rfl rf_53_3 ?_
      refine p_bi_39 d_Mo_back_26 ?_
      refine p_iload_n d_Mo_back_28 rfl ?_
      refine p_imulN (39) (i) d_Mo_back_29 rfl rfl ?_
      refine p_aload_n d_Mo_back_30 rfl ?_
      refine p_getR d_Mo_back_31 fl_Mo_7 kd_53 rfl rf_53_0 ?_
      refine p_ic_0 d_Mo_back_34 ?_
      refine q_S d_Mo_back_35 ml_Mo_92 sb_Mo_copies ⟨leb rfl, leb rfl⟩ (m_copies Γ I J 56 54 (39 * i) 0 78 39 ar_56 ar_54 (by decide) (by omega) (by omega) rfl rfl) rfl rfl rfl (fun r S1 I1 J1 hQ => ?_)
      obtain ⟨rfl, rfl, rfl, v1, v2⟩ := hQ
      refine p_row (fun y => I 56 (39 * i + y)) ar_54 (fun y hy => by rw [v1]; simp [cpR, hy]) ?_
      refine p_aload_n d_Mo_back_38 rfl ?_
      refine p_ic_0 d_Mo_back_39 ?_
      refine p_putI d_Mo_back_40 fl_Mo_96 kd_53 rfl nf_5_2 ?_
      refine p_aload_n d_Mo_back_43 rfl ?_
      refine p_getR d_Mo_back_44 fl_Mo_7 kd_53 rfl rf_53_0 ?_
      refine p_bi_38 d_Mo_back_47 ?_
      refine p_ialdN (38) d_Mo_back_49 ar_54 rfl (by omega) rfl ?_
      refine p_iret d_Mo_back_50 rfl rfl ?_
      refine ⟨by simp [up2], rfl, rfl, ?_, by simp [up2, nI_0], ?_, fun y q => ?_, fun x q1 q2 q3 q4 => ?_⟩
      · funext y
        simp [up2]
      · funext y
        simp [up2, v2]
      · simp [up2, v2, q]
      · funext y
        simp [up2, q1, q2, v2 x q2]
    · exact absurd h16 hk
  · exact absurd (i1 i hi) h4
theorem m_back_st (Γ : Cx) (I : MemI) (J : MemJ) (i : Nat) (hi : i < 2) (hk : I 57 i = 0) : Ct Γ M_Mo_back [.ref 53, .int (nI i)] S0 I J (eqQ (some (.int (-1000002))) S0 I J) := by
  refine ct_of [.ref 53, .int (nI i)] (by decide +kernel) rfl (leb rfl) rfl ?_
  refine p_iload_n d_Mo_back_0 rfl ?_
  refine q_S1 d_Mo_back_1 ml_Mo_137 sb_Mo_isTwo ⟨leb rfl, leb rfl⟩ (c_isTwo Γ S0 I J (nI i)) rfl rfl rfl ?_
  refine p_ifneB (tgt := 10) d_Mo_back_4 (by decide) (fun h4 => ?_) (fun h4 => ?_)
  · refine p_aload_n d_Mo_back_10 rfl ?_
    refine p_getR d_Mo_back_11 fl_Mo_19 kd_53 rfl rf_53_4 ?_
    refine p_iload_n d_Mo_back_14 rfl ?_
    refine p_zaldN (i) d_Mo_back_15 ar_57 rfl (by omega) rfl ?_
    refine p_ifne (tgt := 22) d_Mo_back_16 (by decide) (fun h16 => ?_) (fun h16 => ?_)
    · exact absurd hk h16
    · refine p_ldc d_Mo_back_19 kc_Mo_120 ?_
      refine p_iret d_Mo_back_21 rfl rfl ?_
      exact ⟨rfl, rfl, rfl, rfl⟩
  · exact absurd (i1 i hi) h4
theorem m_back_bad (Γ : Cx) (I : MemI) (J : MemJ) (x : Int32) (hb : ¬ (0 ≤ x ∧ x ≤ 1)) : Ct Γ M_Mo_back [.ref 53, .int x] S0 I J (eqQ (some (.int (-1000001))) S0 I J) := by
  refine ct_of [.ref 53, .int x] (by decide +kernel) rfl (leb rfl) rfl ?_
  refine p_iload_n d_Mo_back_0 rfl ?_
  refine q_S1 d_Mo_back_1 ml_Mo_137 sb_Mo_isTwo ⟨leb rfl, leb rfl⟩ (c_isTwo Γ S0 I J x) rfl rfl rfl ?_
  refine p_ifneB (tgt := 10) d_Mo_back_4 (by decide) (fun h4 => ?_) (fun h4 => ?_)
  · exact absurd h4 hb
  · refine p_ldc d_Mo_back_7 kc_Mo_51 ?_
    refine p_iret d_Mo_back_9 rfl rfl ?_
    exact ⟨rfl, rfl, rfl, rfl⟩
