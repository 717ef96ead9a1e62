/-! ===== leaves: numbers, a Church's and a Singing's reads ===== -/
def NONE : Int32 := -1000009
def dv (x b : Int32) : Int32 := if b = 0 then 0 else x / b
def ab (x : Int32) : Int32 := if 0 ≤ x then x else 0 - x
theorem bI_c {P Q : Prop} [Decidable P] [Decidable Q] (h : P ↔ Q) : bI P = bI Q := by
  by_cases q : Q
  · rw [bI_t q, bI_t (h.mpr q)]
  · rw [bI_f q, bI_f (fun z => q (h.mp z))]
theorem eq1 {P : Prop} [Decidable P] {S : Sh} {I : MemI} {J : MemJ} (h : P) : eqQ (some (.int (bI P))) S I J (some (.int 1)) S I J := ⟨by rw [bI_t h], rfl, rfl, rfl⟩
theorem eq0 {P : Prop} [Decidable P] {S : Sh} {I : MemI} {J : MemJ} (h : ¬ P) : eqQ (some (.int (bI P))) S I J (some (.int 0)) S I J := ⟨by rw [bI_f h], rfl, rfl, rfl⟩
theorem i32_nlt {a b : Int32} : ¬ a < b ↔ b ≤ a := by
  simp only [Int32.lt_iff_toInt_lt, Int32.le_iff_toInt_le]
  omega
theorem i32_nle {a b : Int32} : ¬ a ≤ b ↔ b < a := by
  simp only [Int32.lt_iff_toInt_lt, Int32.le_iff_toInt_le]
  omega
theorem c_within (Γ : Cx) (S : Sh) (I : MemI) (J : MemJ) (x lo hi : Int32) : Ct Γ M_Bo_within [.int x, .int lo, .int hi] S I J (eqQ (some (.int (bI (lo ≤ x ∧ x ≤ hi)))) S I J) := by
  refine ct_of [.int x, .int lo, .int hi] (by decide +kernel) rfl (leb rfl) rfl ?_
  refine p_iload_n d_Bo_within_0 rfl ?_
  refine p_iload_n d_Bo_within_1 rfl ?_
  refine p_icmplt (tgt := 14) d_Bo_within_2 (by decide) (fun h2 => ?_) (fun h2 => ?_)
  · refine p_ic_0 d_Bo_within_14 ?_
    refine p_iret d_Bo_within_15 rfl rfl ?_
    first | exact eq1 ⟨i32_nlt.mp h2, i32_nlt.mp h7⟩ | exact eq0 (fun q => i32_nlt.mpr q.1 h2) | exact eq0 (fun q => i32_nlt.mpr q.2 h7)
  · refine p_iload_n d_Bo_within_5 rfl ?_
    refine p_iload_n d_Bo_within_6 rfl ?_
    refine p_icmpgt (tgt := 14) d_Bo_within_7 (by decide) (fun h7 => ?_) (fun h7 => ?_)
    · refine p_ic_0 d_Bo_within_14 ?_
      refine p_iret d_Bo_within_15 rfl rfl ?_
      first | exact eq1 ⟨i32_nlt.mp h2, i32_nlt.mp h7⟩ | exact eq0 (fun q => i32_nlt.mpr q.1 h2) | exact eq0 (fun q => i32_nlt.mpr q.2 h7)
    · refine p_ic_1 d_Bo_within_10 ?_
      refine p_goto (tgt := 15) d_Bo_within_11 (by decide) ?_
      refine p_iret d_Bo_within_15 rfl rfl ?_
      first | exact eq1 ⟨i32_nlt.mp h2, i32_nlt.mp h7⟩ | exact eq0 (fun q => i32_nlt.mpr q.1 h2) | exact eq0 (fun q => i32_nlt.mpr q.2 h7)
theorem c_divided (Γ : Cx) (S : Sh) (I : MemI) (J : MemJ) (x b : Int32) : Ct Γ M_Bo_divided [.int x, .int b] S I J (eqQ (some (.int (dv x b))) S I J) := by
  refine ct_of [.int x, .int b] (by decide +kernel) rfl (leb rfl) rfl ?_
  refine p_iload_n d_Bo_divided_0 rfl ?_
  refine p_ifne (tgt := 8) d_Bo_divided_1 (by decide) (fun h1 => ?_) (fun h1 => ?_)
  · refine p_iload_n d_Bo_divided_8 rfl ?_
    refine p_iload_n d_Bo_divided_9 rfl ?_
    refine p_idiv d_Bo_divided_10 (h1) ?_
    refine p_iret d_Bo_divided_11 rfl rfl ?_
    exact ⟨by simp [dv, h1], rfl, rfl, rfl⟩
  · refine p_ic_0 d_Bo_divided_4 ?_
    refine p_goto (tgt := 11) d_Bo_divided_5 (by decide) ?_
    refine p_iret d_Bo_divided_11 rfl rfl ?_
    exact ⟨by simp [dv, h1], rfl, rfl, rfl⟩
theorem c_isDigit (Γ : Cx) (S : Sh) (I : MemI) (J : MemJ) (x : Int32) : Ct Γ M_Re_isDigit [.int x] S I J (eqQ (some (.int (bI (48 ≤ x ∧ x ≤ 57)))) S I J) := by
  refine ct_of [.int x] (by decide +kernel) rfl (leb rfl) rfl ?_
  refine p_iload_n d_Re_isDigit_0 rfl ?_
  refine p_bi_48 d_Re_isDigit_1 ?_
  refine p_icmplt (tgt := 16) d_Re_isDigit_3 (by decide) (fun h3 => ?_) (fun h3 => ?_)
  · refine p_ic_0 d_Re_isDigit_16 ?_
    refine p_iret d_Re_isDigit_17 rfl rfl ?_
    first | exact eq1 ⟨i32_nlt.mp h3, i32_nlt.mp h9⟩ | exact eq0 (fun q => i32_nlt.mpr q.1 h3) | exact eq0 (fun q => i32_nlt.mpr q.2 h9)
  · refine p_iload_n d_Re_isDigit_6 rfl ?_
    refine p_bi_57 d_Re_isDigit_7 ?_
    refine p_icmpgt (tgt := 16) d_Re_isDigit_9 (by decide) (fun h9 => ?_) (fun h9 => ?_)
    · refine p_ic_0 d_Re_isDigit_16 ?_
      refine p_iret d_Re_isDigit_17 rfl rfl ?_
      first | exact eq1 ⟨i32_nlt.mp h3, i32_nlt.mp h9⟩ | exact eq0 (fun q => i32_nlt.mpr q.1 h3) | exact eq0 (fun q => i32_nlt.mpr q.2 h9)
    · refine p_ic_1 d_Re_isDigit_12 ?_
      refine p_goto (tgt := 17) d_Re_isDigit_13 (by decide) ?_
      refine p_iret d_Re_isDigit_17 rfl rfl ?_
      first | exact eq1 ⟨i32_nlt.mp h3, i32_nlt.mp h9⟩ | exact eq0 (fun q => i32_nlt.mpr q.1 h3) | exact eq0 (fun q => i32_nlt.mpr q.2 h9)
theorem c_has (Γ : Cx) (I : MemI) (J : MemJ) (c : Nat) (hc : isCh c) (x : Int32) : Ct Γ M_Ch_has [.ref c, .int x] S0 I J (eqQ (some (.int (bI (0 ≤ x ∧ x < I c 4)))) S0 I J) := by
  refine ct_of [.ref c, .int x] (by decide +kernel) rfl (leb rfl) rfl ?_
  refine p_iload_n d_Ch_has_0 rfl ?_
  refine p_iflt (tgt := 16) d_Ch_has_1 (by decide) (fun h1 => ?_) (fun h1 => ?_)
  · refine p_ic_0 d_Ch_has_16 ?_
    refine p_iret d_Ch_has_17 rfl rfl ?_
    first | exact eq1 ⟨i32_nlt.mp h1, i32_nle.mp h9⟩ | exact eq0 (fun q => i32_nlt.mpr q.1 h1) | exact eq0 (fun q => i32_nle.mpr q.2 h9)
  · refine p_iload_n d_Ch_has_4 rfl ?_
    refine p_aload_n d_Ch_has_5 rfl ?_
    refine p_getI d_Ch_has_6 fl_Ch_30 hc.1 (Or.inl rfl) ?_
    refine p_icmpge (tgt := 16) d_Ch_has_9 (by decide) (fun h9 => ?_) (fun h9 => ?_)
    · refine p_ic_0 d_Ch_has_16 ?_
      refine p_iret d_Ch_has_17 rfl rfl ?_
      first | exact eq1 ⟨i32_nlt.mp h1, i32_nle.mp h9⟩ | exact eq0 (fun q => i32_nlt.mpr q.1 h1) | exact eq0 (fun q => i32_nle.mpr q.2 h9)
    · refine p_ic_1 d_Ch_has_12 ?_
      refine p_goto (tgt := 17) d_Ch_has_13 (by decide) ?_
      refine p_iret d_Ch_has_17 rfl rfl ?_
      first | exact eq1 ⟨i32_nlt.mp h1, i32_nle.mp h9⟩ | exact eq0 (fun q => i32_nlt.mpr q.1 h1) | exact eq0 (fun q => i32_nle.mpr q.2 h9)
theorem c_lag (Γ : Cx) (I : MemI) (J : MemJ) (c k : Nat) (hc : isCh c) (hk : k < 6) : Ct Γ M_Ch_lag [.ref c, .int (nI k)] S0 I J (eqQ (some (.int (I (c + 1) k / 6))) S0 I J) := by
  refine ct_of [.ref c, .int (nI k)] (by decide +kernel) rfl (leb rfl) rfl ?_
  refine p_aload_n d_Ch_lag_0 rfl ?_
  refine p_getR d_Ch_lag_1 fl_Ch_9 hc.1 rfl hc.2.1.1 ?_
  refine p_iload_n d_Ch_lag_4 rfl ?_
  refine p_ialdN (k) d_Ch_lag_5 hc.2.2.1 rfl (by omega) rfl ?_
  refine p_bi_6 d_Ch_lag_6 ?_
  refine p_idiv d_Ch_lag_8 (by decide) ?_
  refine p_iret d_Ch_lag_9 rfl rfl ?_
  exact ⟨rfl, rfl, rfl, rfl⟩
theorem c_between (Γ : Cx) (I : MemI) (J : MemJ) (c i j : Nat) (hc : isCh c) (hi : i < 6) (hj : j < 6) : Ct Γ M_Ch_between [.ref c, .int (nI i), .int (nI j)] S0 I J (eqQ (some (.int (ab (I (c + 1) i - I (c + 1) j) / 6))) S0 I J) := by
  refine ct_of [.ref c, .int (nI i), .int (nI j)] (by decide +kernel) rfl (leb rfl) rfl ?_
  refine p_aload_n d_Ch_between_0 rfl ?_
  refine p_getR d_Ch_between_1 fl_Ch_9 hc.1 rfl hc.2.1.1 ?_
  refine p_iload_n d_Ch_between_4 rfl ?_
  refine p_ialdN (i) d_Ch_between_5 hc.2.2.1 rfl (by omega) rfl ?_
  refine p_aload_n d_Ch_between_6 rfl ?_
  refine p_getR d_Ch_between_7 fl_Ch_9 hc.1 rfl hc.2.1.1 ?_
  refine p_iload_n d_Ch_between_10 rfl ?_
  refine p_ialdN (j) d_Ch_between_11 hc.2.2.1 rfl (by omega) rfl ?_
  refine p_isub d_Ch_between_12 ?_
  refine p_abs d_Ch_between_13 ml_Ch_43 (leb rfl) (leb rfl) ?_
  refine p_bi_6 d_Ch_between_16 ?_
  refine p_idiv d_Ch_between_18 (by decide) ?_
  refine p_iret d_Ch_between_19 rfl rfl ?_
  exact ⟨rfl, rfl, rfl, rfl⟩
theorem c_isKnower (Γ : Cx) (I : MemI) (J : MemJ) (a : Nat) (ha : isSi a) (x : Int32) : Ct Γ M_Si_isKnower [.ref a, .int x] S0 I J (eqQ (some (.int (bI (I a 3 >>> (x &&& 31) &&& 1 = 1)))) S0 I J) := by
  refine ct_of [.ref a, .int x] (by decide +kernel) rfl (leb rfl) rfl ?_
  refine p_aload_n d_Si_isKnower_0 rfl ?_
  refine p_getI d_Si_isKnower_1 fl_Si_23 ha.1 (Or.inl rfl) ?_
  refine p_iload_n d_Si_isKnower_4 rfl ?_
  refine p_ishr d_Si_isKnower_5 ?_
  refine p_ic_1 d_Si_isKnower_6 ?_
  refine p_iand d_Si_isKnower_7 ?_
  refine p_ic_1 d_Si_isKnower_8 ?_
  refine p_icmpne (tgt := 16) d_Si_isKnower_9 (by decide) (fun h9 => ?_) (fun h9 => ?_)
  · refine p_ic_0 d_Si_isKnower_16 ?_
    refine p_iret d_Si_isKnower_17 rfl rfl ?_
    first | exact eq1 h9 | exact eq0 h9
  · refine p_ic_1 d_Si_isKnower_12 ?_
    refine p_goto (tgt := 17) d_Si_isKnower_13 (by decide) ?_
    refine p_iret d_Si_isKnower_17 rfl rfl ?_
    first | exact eq1 h9 | exact eq0 h9
theorem c_Chempty (Γ : Cx) (I : MemI) (J : MemJ) (c : Nat) (hc : isCh c) : Ct Γ M_Ch_empty [.ref c] S0 I J (eqQ none S0 (up2 (up2 (up2 (up2 I c 4 0) c 5 0) c 6 4) c 7 2) J) := by
  refine ct_of [.ref c] (by decide +kernel) rfl (leb rfl) rfl ?_
  refine p_aload_n d_Ch_empty_0 rfl ?_
  refine p_ic_0 d_Ch_empty_1 ?_
  refine p_putI d_Ch_empty_2 fl_Ch_30 hc.1 rfl nf_0_4 ?_
  refine p_aload_n d_Ch_empty_5 rfl ?_
  refine p_ic_0 d_Ch_empty_6 ?_
  refine p_putI d_Ch_empty_7 fl_Ch_34 hc.1 rfl nf_0_5 ?_
  refine p_aload_n d_Ch_empty_10 rfl ?_
  refine p_ic_4 d_Ch_empty_11 ?_
  refine p_putI d_Ch_empty_12 fl_Ch_37 hc.1 rfl nf_0_6 ?_
  refine p_aload_n d_Ch_empty_15 rfl ?_
  refine p_ic_2 d_Ch_empty_16 ?_
  refine p_putI d_Ch_empty_17 fl_Ch_40 hc.1 rfl nf_0_7 ?_
  refine p_ret d_Ch_empty_20 rfl ?_
  exact ⟨rfl, rfl, rfl, rfl⟩
theorem zc_lt {x y : Int64} : lg_cmp x y < 0 ↔ x < y := by
  unfold lg_cmp
  simp only [Int64.lt_iff_toInt_lt, ← Int64.toInt_inj]
  split
  · constructor
    · intro h; exact absurd h (by decide)
    · intro h; omega
  · split
    · constructor
      · intro h; exact absurd h (by decide)
      · intro h; omega
    · constructor
      · intro h; omega
      · intro h; decide
theorem zc_gt {x y : Int64} : 0 < lg_cmp x y ↔ y < x := by
  unfold lg_cmp
  simp only [Int64.lt_iff_toInt_lt, ← Int64.toInt_inj]
  split
  · constructor
    · intro h; omega
    · intro h; decide
  · split
    · constructor
      · intro h; exact absurd h (by decide)
      · intro h; omega
    · constructor
      · intro h; exact absurd h (by decide)
      · intro h; omega
theorem i64_nlt {a b : Int64} : ¬ a < b ↔ b ≤ a := by
  simp only [Int64.lt_iff_toInt_lt, Int64.le_iff_toInt_le]
  omega
theorem c_inL (Γ : Cx) (S : Sh) (I : MemI) (J : MemJ) (x lo hi : Int64) : Ct Γ M_Mo_in [.long x, .long lo, .long hi] S I J (eqQ (some (.int (bI (lo ≤ x ∧ x ≤ hi)))) S I J) := by
  refine ct_of [.long x, .null, .long lo, .null, .long hi, .null] (by decide +kernel) rfl (leb rfl) rfl ?_
  refine p_lload_n d_Mo_in_0 rfl ?_
  refine p_lload_n d_Mo_in_1 rfl ?_
  refine p_lcmp d_Mo_in_2 ?_
  refine p_iflt (tgt := 17) d_Mo_in_3 (by decide) (fun h3 => ?_) (fun h3 => ?_)
  · refine p_ic_0 d_Mo_in_17 ?_
    refine p_iret d_Mo_in_18 rfl rfl ?_
    first | exact eq1 ⟨i64_nlt.mp (fun q => h3 (zc_lt.mpr q)), i64_nlt.mp (fun q => h10 (zc_gt.mpr q))⟩ | exact eq0 (fun q => i64_nlt.mpr q.1 (zc_lt.mp h3)) | exact eq0 (fun q => i64_nlt.mpr q.2 (zc_gt.mp h10))
  · refine p_lload_n d_Mo_in_6 rfl ?_
    refine p_lload d_Mo_in_7 rfl ?_
    refine p_lcmp d_Mo_in_9 ?_
    refine p_ifgt (tgt := 17) d_Mo_in_10 (by decide) (fun h10 => ?_) (fun h10 => ?_)
    · refine p_ic_0 d_Mo_in_17 ?_
      refine p_iret d_Mo_in_18 rfl rfl ?_
      first | exact eq1 ⟨i64_nlt.mp (fun q => h3 (zc_lt.mpr q)), i64_nlt.mp (fun q => h10 (zc_gt.mpr q))⟩ | exact eq0 (fun q => i64_nlt.mpr q.1 (zc_lt.mp h3)) | exact eq0 (fun q => i64_nlt.mpr q.2 (zc_gt.mp h10))
    · refine p_ic_1 d_Mo_in_13 ?_
      refine p_goto (tgt := 18) d_Mo_in_14 (by decide) ?_
      refine p_iret d_Mo_in_18 rfl rfl ?_
      first | exact eq1 ⟨i64_nlt.mp (fun q => h3 (zc_lt.mpr q)), i64_nlt.mp (fun q => h10 (zc_gt.mpr q))⟩ | exact eq0 (fun q => i64_nlt.mpr q.1 (zc_lt.mp h3)) | exact eq0 (fun q => i64_nlt.mpr q.2 (zc_gt.mp h10))
theorem wide_le {a b : Int32} : a.toInt64 ≤ b.toInt64 ↔ a ≤ b := by
  simp [Int64.le_iff_toInt_le, Int32.le_iff_toInt_le]
theorem c_in (Γ : Cx) (S : Sh) (I : MemI) (J : MemJ) (x lo hi : Int32) {lo' hi' : Int64} (h1 : lo' = lo.toInt64) (h2 : hi' = hi.toInt64) : Ct Γ M_Mo_in [.long x.toInt64, .long lo', .long hi'] S I J (eqQ (some (.int (bI (lo ≤ x ∧ x ≤ hi)))) S I J) := by
  have h := c_inL Γ S I J x.toInt64 lo' hi'
  rw [bI_c (P := lo' ≤ x.toInt64 ∧ x.toInt64 ≤ hi') (Q := lo ≤ x ∧ x ≤ hi) (by rw [h1, h2, wide_le, wide_le])] at h
  exact h
theorem c_isTwo (Γ : Cx) (S : Sh) (I : MemI) (J : MemJ) (x : Int32) : Ct Γ M_Mo_isTwo [.int x] S I J (eqQ (some (.int (bI (0 ≤ x ∧ x ≤ 1)))) S I J) := by
  refine ct_of [.int x] (by decide +kernel) rfl (leb rfl) rfl ?_
  refine p_iload_n d_Mo_isTwo_0 rfl ?_
  refine p_i2l d_Mo_isTwo_1 ?_
  refine p_lc_0 d_Mo_isTwo_2 ?_
  refine p_lc_1 d_Mo_isTwo_3 ?_
  refine q_S1 d_Mo_isTwo_4 ml_Mo_45 sb_Mo_in ⟨leb rfl, leb rfl⟩ (c_in Γ _ _ _ x 0 1 (by decide) (by decide)) rfl rfl rfl ?_
  refine p_iret d_Mo_isTwo_7 rfl bI_nar ?_
  exact ⟨rfl, rfl, rfl, rfl⟩
theorem c_isSpan (Γ : Cx) (S : Sh) (I : MemI) (J : MemJ) (x : Int32) : Ct Γ M_Mo_isSpan [.int x] S I J (eqQ (some (.int (bI (1 ≤ x ∧ x ≤ 30)))) S I J) := by
  refine ct_of [.int x] (by decide +kernel) rfl (leb rfl) rfl ?_
  refine p_iload_n d_Mo_isSpan_0 rfl ?_
  refine p_i2l d_Mo_isSpan_1 ?_
  refine p_lc_1 d_Mo_isSpan_2 ?_
  refine p_ldc2 d_Mo_isSpan_3 kl_Mo_157 ?_
  refine q_S1 d_Mo_isSpan_6 ml_Mo_45 sb_Mo_in ⟨leb rfl, leb rfl⟩ (c_in Γ _ _ _ x 1 30 (by decide) (by decide)) rfl rfl rfl ?_
  refine p_iret d_Mo_isSpan_9 rfl bI_nar ?_
  exact ⟨rfl, rfl, rfl, rfl⟩
theorem c_isPew (Γ : Cx) (I : MemI) (J : MemJ) (x : Int32) : Ct Γ M_Mo_isPew [.ref 53, .int x] S0 I J (eqQ (some (.int (bI (0 ≤ x ∧ x ≤ I 54 0 - 1)))) S0 I J) := by
  refine ct_of [.ref 53, .int x] (by decide +kernel) rfl (leb rfl) rfl ?_
  refine p_iload_n d_Mo_isPew_0 rfl ?_
  refine p_i2l d_Mo_isPew_1 ?_
  refine p_lc_0 d_Mo_isPew_2 ?_
  refine p_aload_n d_Mo_isPew_3 rfl ?_
  refine p_getR d_Mo_isPew_4 fl_Mo_7 kd_53 rfl rf_53_0 ?_
  refine p_ic_0 d_Mo_isPew_7 ?_
  refine p_ialdN (0) d_Mo_isPew_8 ar_54 rfl (by omega) rfl ?_
  refine p_ic_1 d_Mo_isPew_9 ?_
  refine p_isub d_Mo_isPew_10 ?_
  refine p_i2l d_Mo_isPew_11 ?_
  refine q_S1 d_Mo_isPew_12 ml_Mo_45 sb_Mo_in ⟨leb rfl, leb rfl⟩ (c_in Γ _ _ _ x 0 (I 54 0 - 1) (by decide) (rfl)) rfl rfl rfl ?_
  refine p_iret d_Mo_isPew_15 rfl bI_nar ?_
  exact ⟨rfl, rfl, rfl, rfl⟩
