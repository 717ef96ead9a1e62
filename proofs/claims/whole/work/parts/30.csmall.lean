/-! ===== the class's Singing and Church: copies, reads, a pew left out ===== -/
def cfQ (a b : Nat) (I : MemI) (J : MemJ) : PQ := fun r S' I' J' => r = none ∧ S' = S0 ∧ J' = J ∧ (∀ k, k < 6 → I' (a + 1) k = I (b + 1) k) ∧ (∀ y, 1 ≤ y → y ≤ 6 → I' a y = I b y) ∧ ∀ x, x ≠ a → x ≠ a + 1 → I' x = I x
theorem up2_ne {I : MemI} {a k x y : Nat} {v : Int32} (h : ¬ (x = a ∧ y = k)) : up2 I a k v x y = I x y := by simp only [up2, h, if_false]
theorem up2_s {I : MemI} {a k : Nat} {v : Int32} : up2 I a k v a k = v := by simp [up2]
theorem six {P : Nat → Prop} (h1 : P 1) (h2 : P 2) (h3 : P 3) (h4 : P 4) (h5 : P 5) (h6 : P 6) : ∀ y, 1 ≤ y → y ≤ 6 → P y := by
  intro y a b
  rcases (show y = 1 ∨ y = 2 ∨ y = 3 ∨ y = 4 ∨ y = 5 ∨ y = 6 by omega) with rfl | rfl | rfl | rfl | rfl | rfl
  · exact h1
  · exact h2
  · exact h3
  · exact h4
  · exact h5
  · exact h6
theorem c_copy (Γ : Cx) (I : MemI) (J : MemJ) (a b : Nat) (ha : isSi a) (hb : isSi b) (hab : a + 1 < b ∨ b + 1 < a) : Ct Γ M_Si_copyFrom [.ref a, .ref b] S0 I J (cfQ a b I J) := by
  have LP : ∀ (f k : Nat) (I1 : MemI), k + f = 6 → (∀ j, j < k → I1 (a + 1) j = I (b + 1) j) → (∀ x, x ≠ a + 1 → I1 x = I x) → WP Γ M_Si_copyFrom (0, 0) S0 I1 J 2 [.ref a, .ref b, .int (nI k)] [] (cfQ a b I J) := by
    intro f
    induction f with
    | zero =>
      intro k I1 hkf hr hx
      obtain rfl : k = 6 := by omega
      refine p_iload_n d_Si_copyFrom_2 rfl ?_
      refine p_bi_6 d_Si_copyFrom_3 ?_
      refine p_icmpgeN (tgt := 26) (6) (6) d_Si_copyFrom_5 (by decide) rfl rfl (by omega) (by omega) (fun h5 => ?_) (fun h5 => ?_)
      · refine p_aload_n d_Si_copyFrom_26 rfl ?_
        refine p_aload_n d_Si_copyFrom_27 rfl ?_
        refine p_getI d_Si_copyFrom_28 fl_Si_20 hb.1 (Or.inl rfl) ?_
        refine p_putI d_Si_copyFrom_31 fl_Si_20 ha.1 rfl nf_3_1 ?_
        refine p_aload_n d_Si_copyFrom_34 rfl ?_
        refine p_aload_n d_Si_copyFrom_35 rfl ?_
        refine p_getI d_Si_copyFrom_36 fl_Si_16 hb.1 (Or.inl rfl) ?_
        refine p_putI d_Si_copyFrom_39 fl_Si_16 ha.1 rfl nf_3_2 ?_
        refine p_aload_n d_Si_copyFrom_42 rfl ?_
        refine p_aload_n d_Si_copyFrom_43 rfl ?_
        refine p_getI d_Si_copyFrom_44 fl_Si_23 hb.1 (Or.inl rfl) ?_
        refine p_putI d_Si_copyFrom_47 fl_Si_23 ha.1 rfl nf_3_3 ?_
        refine p_aload_n d_Si_copyFrom_50 rfl ?_
        refine p_aload_n d_Si_copyFrom_51 rfl ?_
        refine p_getI d_Si_copyFrom_52 fl_Si_26 hb.1 (Or.inl rfl) ?_
        refine p_putI d_Si_copyFrom_55 fl_Si_26 ha.1 rfl nf_3_4 ?_
        refine p_aload_n d_Si_copyFrom_58 rfl ?_
        refine p_aload_n d_Si_copyFrom_59 rfl ?_
        refine p_getI d_Si_copyFrom_60 fl_Si_29 hb.1 (Or.inl rfl) ?_
        refine p_putI d_Si_copyFrom_63 fl_Si_29 ha.1 rfl nf_3_5 ?_
        refine p_aload_n d_Si_copyFrom_66 rfl ?_
        refine p_aload_n d_Si_copyFrom_67 rfl ?_
        refine p_getI d_Si_copyFrom_68 fl_Si_32 hb.1 (Or.inl rfl) ?_
        refine p_putI d_Si_copyFrom_71 fl_Si_32 ha.1 rfl nf_3_6 ?_
        refine p_ret d_Si_copyFrom_74 rfl ?_
        have eb : I1 b = I b := hx b (by omega)
        have hba : ¬ b = a := by omega
        refine ⟨rfl, rfl, rfl, fun k hk => ?_, six ?_ ?_ ?_ ?_ ?_ ?_, fun x q1 q2 => ?_⟩
        · simp [up2, hr k hk]
        · simp [up2, hba, eb]
        · simp [up2, hba, eb]
        · simp [up2, hba, eb]
        · simp [up2, hba, eb]
        · simp [up2, hba, eb]
        · simp [up2, hba, eb]
        · funext y
          simp [up2, q1, hx x q2]
      · exact absurd (Nat.le_refl _) h5
    | succ f ih =>
      intro k I1 hkf hr hx
      refine p_iload_n d_Si_copyFrom_2 rfl ?_
      refine p_bi_6 d_Si_copyFrom_3 ?_
      refine p_icmpgeN (tgt := 26) (k) (6) d_Si_copyFrom_5 (by decide) rfl rfl (by omega) (by omega) (fun h5 => ?_) (fun h5 => ?_)
      · exact absurd h5 (by omega)
      · refine p_aload_n d_Si_copyFrom_8 rfl ?_
        refine p_getR d_Si_copyFrom_9 fl_Si_9 ha.1 rfl ha.2.1 ?_
        refine p_iload_n d_Si_copyFrom_12 rfl ?_
        refine p_aload_n d_Si_copyFrom_13 rfl ?_
        refine p_getR d_Si_copyFrom_14 fl_Si_9 hb.1 rfl hb.2.1 ?_
        refine p_iload_n d_Si_copyFrom_17 rfl ?_
        refine p_ialdN (k) d_Si_copyFrom_18 hb.2.2 rfl (by omega) rfl ?_
        refine p_iastN (k) d_Si_copyFrom_19 ha.2.2 rfl (by omega) rfl ?_
        refine p_incN_2_1 d_Si_copyFrom_20 (by decide) rfl ?_
        refine p_goto (tgt := 2) d_Si_copyFrom_23 (by decide) ?_
        refine ih (k + 1) _ (by omega) (fun j hj => ?_) (fun x q => ?_)
        · simp only [up2, true_and]
          by_cases q : j = k
          · subst q
            rw [if_pos rfl, hx (b + 1) (by omega)]
          · rw [if_neg q, hr j (by omega)]
        · funext y
          simp only [up2]
          rw [if_neg (fun z => q z.1), hx x q]
  refine ct_of [.ref a, .ref b, .null] (by decide +kernel) rfl (leb rfl) rfl ?_
  refine p_ic_0 d_Si_copyFrom_0 ?_
  refine p_is_2 d_Si_copyFrom_1 (by decide) rfl ?_
  exact LP 6 0 I (by omega) (fun j hj => absurd hj (by omega)) (fun x _ => rfl)
def bgQ (a : Nat) (w : Int32) (I : MemI) (J : MemJ) : PQ := fun r S' I' J' => r = none ∧ S' = S0 ∧ J' = J ∧ (∀ k, k < 6 → I' (a + 1) k = 0) ∧ I' a 1 = 0 ∧ I' a 2 = (-1000009) ∧ I' a 3 = 0 ∧ I' a 4 = w ∧ I' a 5 = 0 ∧ I' a 6 = 0 ∧ ∀ x, x ≠ a → x ≠ a + 1 → I' x = I x
theorem c_begin (Γ : Cx) (I : MemI) (J : MemJ) (a : Nat) (ha : isSi a) (w : Int32) : Ct Γ M_Si_begin [.ref a, .int w] S0 I J (bgQ a w I J) := by
  have LP : ∀ (f k : Nat) (I1 : MemI), k + f = 6 → (∀ j, j < k → I1 (a + 1) j = 0) → (∀ x, x ≠ a + 1 → I1 x = I x) → WP Γ M_Si_begin (0, 0) S0 I1 J 2 [.ref a, .int w, .int (nI k)] [] (bgQ a w I J) := by
    intro f
    induction f with
    | zero =>
      intro k I1 hkf hr hx
      obtain rfl : k = 6 := by omega
      refine p_iload_n d_Si_begin_2 rfl ?_
      refine p_bi_6 d_Si_begin_3 ?_
      refine p_icmpgeN (tgt := 21) (6) (6) d_Si_begin_5 (by decide) rfl rfl (by omega) (by omega) (fun h5 => ?_) (fun h5 => ?_)
      · refine p_aload_n d_Si_begin_21 rfl ?_
        refine p_ic_0 d_Si_begin_22 ?_
        refine p_putI d_Si_begin_23 fl_Si_20 ha.1 rfl nf_3_1 ?_
        refine p_aload_n d_Si_begin_26 rfl ?_
        refine p_ldc d_Si_begin_27 kc_Si_15 ?_
        refine p_putI d_Si_begin_29 fl_Si_16 ha.1 rfl nf_3_2 ?_
        refine p_aload_n d_Si_begin_32 rfl ?_
        refine p_ic_0 d_Si_begin_33 ?_
        refine p_putI d_Si_begin_34 fl_Si_23 ha.1 rfl nf_3_3 ?_
        refine p_aload_n d_Si_begin_37 rfl ?_
        refine p_iload_n d_Si_begin_38 rfl ?_
        refine p_putI d_Si_begin_39 fl_Si_26 ha.1 rfl nf_3_4 ?_
        refine p_aload_n d_Si_begin_42 rfl ?_
        refine p_ic_0 d_Si_begin_43 ?_
        refine p_putI d_Si_begin_44 fl_Si_29 ha.1 rfl nf_3_5 ?_
        refine p_aload_n d_Si_begin_47 rfl ?_
        refine p_ic_0 d_Si_begin_48 ?_
        refine p_putI d_Si_begin_49 fl_Si_32 ha.1 rfl nf_3_6 ?_
        refine p_ret d_Si_begin_52 rfl ?_
        refine ⟨rfl, rfl, rfl, fun k hk => by simp [up2, hr k hk], by simp [up2], by simp [up2], by simp [up2], by simp [up2], by simp [up2], by simp [up2], fun x q1 q2 => ?_⟩
        funext y
        simp [up2, q1, hx x q2]
      · exact absurd (Nat.le_refl _) h5
    | succ f ih =>
      intro k I1 hkf hr hx
      refine p_iload_n d_Si_begin_2 rfl ?_
      refine p_bi_6 d_Si_begin_3 ?_
      refine p_icmpgeN (tgt := 21) (k) (6) d_Si_begin_5 (by decide) rfl rfl (by omega) (by omega) (fun h5 => ?_) (fun h5 => ?_)
      · exact absurd h5 (by omega)
      · refine p_aload_n d_Si_begin_8 rfl ?_
        refine p_getR d_Si_begin_9 fl_Si_9 ha.1 rfl ha.2.1 ?_
        refine p_iload_n d_Si_begin_12 rfl ?_
        refine p_ic_0 d_Si_begin_13 ?_
        refine p_iastN (k) d_Si_begin_14 ha.2.2 rfl (by omega) rfl ?_
        refine p_incN_2_1 d_Si_begin_15 (by decide) rfl ?_
        refine p_goto (tgt := 2) d_Si_begin_18 (by decide) ?_
        refine ih (k + 1) _ (by omega) (fun j hj => ?_) (fun x q => ?_)
        · simp only [up2, true_and]
          by_cases q : j = k
          · rw [if_pos q]
          · rw [if_neg q, hr j (by omega)]
        · funext y
          simp only [up2]
          rw [if_neg (fun z => q z.1), hx x q]
  refine ct_of [.ref a, .int w, .null] (by decide +kernel) rfl (leb rfl) rfl ?_
  refine p_ic_0 d_Si_begin_0 ?_
  refine p_is_2 d_Si_begin_1 (by decide) rfl ?_
  exact LP 6 0 I (by omega) (fun j hj => absurd hj (by omega)) (fun x _ => rfl)
theorem c_apart (Γ : Cx) (I : MemI) (J : MemJ) (a n : Nat) (ha : isSi a) (hn : n ≤ 6) : Ct Γ M_Si_apart [.ref a, .int (nI n)] S0 I J (eqQ (some (.int (mxA (fun k => I (a + 1) k) n - mnA (fun k => I (a + 1) k) n))) S0 I J) := by
  have LP : ∀ (f k : Nat), 0 < k → k + f = n → WP Γ M_Si_apart (0, 0) S0 I J 23 [.ref a, .int (nI n), .int (mxA (fun k => I (a + 1) k) k), .int (mnA (fun k => I (a + 1) k) k), .int (nI k)] [] (eqQ (some (.int (mxA (fun k => I (a + 1) k) n - mnA (fun k => I (a + 1) k) n))) S0 I J) := by
    intro f
    induction f with
    | zero =>
      intro k hk0 hkf
      obtain rfl : k = n := by omega
      refine p_iload d_Si_apart_23 rfl ?_
      refine p_iload_n d_Si_apart_25 rfl ?_
      refine p_icmpgeN (tgt := 59) (k) (k) d_Si_apart_26 (by decide) rfl rfl (by omega) (by omega) (fun h26 => ?_) (fun h26 => ?_)
      · refine p_iload_n d_Si_apart_59 rfl ?_
        refine p_iload_n d_Si_apart_60 rfl ?_
        refine p_isub d_Si_apart_61 ?_
        refine p_iret d_Si_apart_62 rfl rfl ?_
        exact ⟨rfl, rfl, rfl, rfl⟩
      · exact absurd (Nat.le_refl _) h26
    | succ f ih =>
      intro k hk0 hkf
      have e1 : (if mxA (fun k => I (a + 1) k) k < I (a + 1) k then I (a + 1) k else mxA (fun k => I (a + 1) k) k) = mxA (fun k => I (a + 1) k) (k + 1) := by
        show _ = (if k = 0 ∨ mxA (fun k => I (a + 1) k) k < I (a + 1) k then I (a + 1) k else mxA (fun k => I (a + 1) k) k)
        simp [show ¬ k = 0 by omega]
      have e2 : (if I (a + 1) k < mnA (fun k => I (a + 1) k) k then I (a + 1) k else mnA (fun k => I (a + 1) k) k) = mnA (fun k => I (a + 1) k) (k + 1) := by
        show _ = (if k = 0 ∨ I (a + 1) k < mnA (fun k => I (a + 1) k) k then I (a + 1) k else mnA (fun k => I (a + 1) k) k)
        simp [show ¬ k = 0 by omega]
      refine p_iload d_Si_apart_23 rfl ?_
      refine p_iload_n d_Si_apart_25 rfl ?_
      refine p_icmpgeN (tgt := 59) (k) (n) d_Si_apart_26 (by decide) rfl rfl (by omega) (by omega) (fun h26 => ?_) (fun h26 => ?_)
      · exact absurd h26 (by omega)
      · refine p_iload_n d_Si_apart_29 rfl ?_
        refine p_aload_n d_Si_apart_30 rfl ?_
        refine p_getR d_Si_apart_31 fl_Si_9 ha.1 rfl ha.2.1 ?_
        refine p_iload d_Si_apart_34 rfl ?_
        refine p_ialdN (k) d_Si_apart_36 ha.2.2 rfl (by omega) rfl ?_
        refine p_max d_Si_apart_37 ml_Si_35 (leb rfl) (leb rfl) ?_
        refine p_eqI e1 ?_
        refine p_is_2 d_Si_apart_40 (by decide) rfl ?_
        refine p_iload_n d_Si_apart_41 rfl ?_
        refine p_aload_n d_Si_apart_42 rfl ?_
        refine p_getR d_Si_apart_43 fl_Si_9 ha.1 rfl ha.2.1 ?_
        refine p_iload d_Si_apart_46 rfl ?_
        refine p_ialdN (k) d_Si_apart_48 ha.2.2 rfl (by omega) rfl ?_
        refine p_min d_Si_apart_49 ml_Si_41 (leb rfl) (leb rfl) ?_
        refine p_eqI e2 ?_
        refine p_is_3 d_Si_apart_52 (by decide) rfl ?_
        refine p_incN_4_1 d_Si_apart_53 (by decide) rfl ?_
        refine p_goto (tgt := 23) d_Si_apart_56 (by decide) ?_
        exact ih (k + 1) (by omega) (by omega)
  refine ct_of [.ref a, .int (nI n), .null, .null, .null] (by decide +kernel) rfl (leb rfl) rfl ?_
  refine p_iload_n d_Si_apart_0 rfl ?_
  refine p_ifne (tgt := 6) d_Si_apart_1 (by decide) (fun h1 => ?_) (fun h1 => ?_)
  · have g1 : 0 < n := by
      rcases Nat.eq_zero_or_pos n with q | q
      · exact absurd (by rw [q]; rfl) h1
      · exact q
    refine p_aload_n d_Si_apart_6 rfl ?_
    refine p_getR d_Si_apart_7 fl_Si_9 ha.1 rfl ha.2.1 ?_
    refine p_ic_0 d_Si_apart_10 ?_
    refine p_ialdN (0) d_Si_apart_11 ha.2.2 rfl (by omega) rfl ?_
    refine p_is_2 d_Si_apart_12 (by decide) rfl ?_
    refine p_aload_n d_Si_apart_13 rfl ?_
    refine p_getR d_Si_apart_14 fl_Si_9 ha.1 rfl ha.2.1 ?_
    refine p_ic_0 d_Si_apart_17 ?_
    refine p_ialdN (0) d_Si_apart_18 ha.2.2 rfl (by omega) rfl ?_
    refine p_is_3 d_Si_apart_19 (by decide) rfl ?_
    refine p_ic_1 d_Si_apart_20 ?_
    refine p_is_4 d_Si_apart_21 (by decide) rfl ?_
    exact LP (n - 1) 1 (by omega) (by omega)
  · have g1 : n = 0 := by
      rcases Nat.eq_zero_or_pos n with q | q
      · exact q
      · exact absurd h1 (nI_ne0 q (by omega))
    refine p_ic_0 d_Si_apart_4 ?_
    refine p_iret d_Si_apart_5 rfl rfl ?_
    subst g1
    exact ⟨by simp [mxA, mnA], rfl, rfl, rfl⟩
theorem c_greatest (Γ : Cx) (I : MemI) (J : MemJ) (a n : Nat) (ha : isSi a) (hn : n ≤ 6) : Ct Γ M_Si_greatest [.ref a, .int (nI n)] S0 I J (eqQ (some (.int (grA (fun k => I (a + 1) k) n))) S0 I J) := by
  have LP : ∀ (f k : Nat), k + f = n → WP Γ M_Si_greatest (0, 0) S0 I J 4 [.ref a, .int (nI n), .int (grA (fun k => I (a + 1) k) k), .int (nI k)] [] (eqQ (some (.int (grA (fun k => I (a + 1) k) n))) S0 I J) := by
    intro f
    induction f with
    | zero =>
      intro k hkf
      obtain rfl : k = n := by omega
      refine p_iload_n d_Si_greatest_4 rfl ?_
      refine p_iload_n d_Si_greatest_5 rfl ?_
      refine p_icmpgeN (tgt := 29) (k) (k) d_Si_greatest_6 (by decide) rfl rfl (by omega) (by omega) (fun h6 => ?_) (fun h6 => ?_)
      · refine p_iload_n d_Si_greatest_29 rfl ?_
        refine p_iret d_Si_greatest_30 rfl rfl ?_
        exact ⟨rfl, rfl, rfl, rfl⟩
      · exact absurd (Nat.le_refl _) h6
    | succ f ih =>
      intro k hkf
      refine p_iload_n d_Si_greatest_4 rfl ?_
      refine p_iload_n d_Si_greatest_5 rfl ?_
      refine p_icmpgeN (tgt := 29) (k) (n) d_Si_greatest_6 (by decide) rfl rfl (by omega) (by omega) (fun h6 => ?_) (fun h6 => ?_)
      · exact absurd h6 (by omega)
      · refine p_iload_n d_Si_greatest_9 rfl ?_
        refine p_aload_n d_Si_greatest_10 rfl ?_
        refine p_getR d_Si_greatest_11 fl_Si_9 ha.1 rfl ha.2.1 ?_
        refine p_iload_n d_Si_greatest_14 rfl ?_
        refine p_ialdN (k) d_Si_greatest_15 ha.2.2 rfl (by omega) rfl ?_
        refine p_abs d_Si_greatest_16 ml_Si_44 (leb rfl) (leb rfl) ?_
        refine p_max d_Si_greatest_19 ml_Si_35 (leb rfl) (leb rfl) ?_
        refine p_eqI (y := grA (fun k => I (a + 1) k) (k + 1)) rfl ?_
        refine p_is_2 d_Si_greatest_22 (by decide) rfl ?_
        refine p_incN_3_1 d_Si_greatest_23 (by decide) rfl ?_
        refine p_goto (tgt := 4) d_Si_greatest_26 (by decide) ?_
        exact ih (k + 1) (by omega)
  refine ct_of [.ref a, .int (nI n), .null, .null] (by decide +kernel) rfl (leb rfl) rfl ?_
  refine p_ic_0 d_Si_greatest_0 ?_
  refine p_is_2 d_Si_greatest_1 (by decide) rfl ?_
  refine p_ic_0 d_Si_greatest_2 ?_
  refine p_is_3 d_Si_greatest_3 (by decide) rfl ?_
  exact LP n 0 (by omega)
theorem c_asLate (Γ : Cx) (I : MemI) (J : MemJ) (a b n : Nat) (ha : isSi a) (hb : isSi b) (hn : n ≤ 6) : Ct Γ M_Si_isAsLateAs [.ref a, .ref b, .int (nI n)] S0 I J (eqQ (some (.int (bI (∀ i, i < n → I (a + 1) i = I (b + 1) i)))) S0 I J) := by
  have LP : ∀ (f k : Nat), k + f = n → (∀ i, i < k → I (a + 1) i = I (b + 1) i) → WP Γ M_Si_isAsLateAs (0, 0) S0 I J 2 [.ref a, .ref b, .int (nI n), .int (nI k)] [] (eqQ (some (.int (bI (∀ i, i < n → I (a + 1) i = I (b + 1) i)))) S0 I J) := by
    intro f
    induction f with
    | zero =>
      intro k hkf hall
      obtain rfl : k = n := by omega
      refine p_iload_n d_Si_isAsLateAs_2 rfl ?_
      refine p_iload_n d_Si_isAsLateAs_3 rfl ?_
      refine p_icmpgeN (tgt := 30) (k) (k) d_Si_isAsLateAs_4 (by decide) rfl rfl (by omega) (by omega) (fun h4 => ?_) (fun h4 => ?_)
      · refine p_ic_1 d_Si_isAsLateAs_30 ?_
        refine p_iret d_Si_isAsLateAs_31 rfl rfl ?_
        exact eq1 hall
      · exact absurd (Nat.le_refl _) h4
    | succ f ih =>
      intro k hkf hall
      refine p_iload_n d_Si_isAsLateAs_2 rfl ?_
      refine p_iload_n d_Si_isAsLateAs_3 rfl ?_
      refine p_icmpgeN (tgt := 30) (k) (n) d_Si_isAsLateAs_4 (by decide) rfl rfl (by omega) (by omega) (fun h4 => ?_) (fun h4 => ?_)
      · exact absurd h4 (by omega)
      · refine p_aload_n d_Si_isAsLateAs_7 rfl ?_
        refine p_getR d_Si_isAsLateAs_8 fl_Si_9 ha.1 rfl ha.2.1 ?_
        refine p_iload_n d_Si_isAsLateAs_11 rfl ?_
        refine p_ialdN (k) d_Si_isAsLateAs_12 ha.2.2 rfl (by omega) rfl ?_
        refine p_aload_n d_Si_isAsLateAs_13 rfl ?_
        refine p_getR d_Si_isAsLateAs_14 fl_Si_9 hb.1 rfl hb.2.1 ?_
        refine p_iload_n d_Si_isAsLateAs_17 rfl ?_
        refine p_ialdN (k) d_Si_isAsLateAs_18 hb.2.2 rfl (by omega) rfl ?_
        refine p_icmpeq (tgt := 24) d_Si_isAsLateAs_19 (by decide) (fun h19 => ?_) (fun h19 => ?_)
        · refine p_incN_3_1 d_Si_isAsLateAs_24 (by decide) rfl ?_
          refine p_goto (tgt := 2) d_Si_isAsLateAs_27 (by decide) ?_
          refine ih (k + 1) (by omega) (fun i hi => ?_)
          rcases Nat.lt_or_ge i k with q | q
          · exact hall i q
          · rw [show i = k by omega]
            exact h19
        · refine p_ic_0 d_Si_isAsLateAs_22 ?_
          refine p_iret d_Si_isAsLateAs_23 rfl rfl ?_
          exact eq0 (fun q => h19 (q k (by omega)))
  refine ct_of [.ref a, .ref b, .int (nI n), .null] (by decide +kernel) rfl (leb rfl) rfl ?_
  refine p_ic_0 d_Si_isAsLateAs_0 ?_
  refine p_is_3 d_Si_isAsLateAs_1 (by decide) rfl ?_
  exact LP n 0 (by omega) (fun i hi => absurd hi (by omega))
def woD (x : Int32) (k : Nat) : Int32 := if x = nI k then (-1000009) else if nI k < x then x - 1 else x
def loQ (a k : Nat) (I : MemI) (J : MemJ) : PQ := fun r S' I' J' => r = none ∧ S' = S0 ∧ J' = J ∧ (∀ i, i < 6 → I' (a + 1) i = if k ≤ i ∧ i < 5 then I (a + 1) (i + 1) else I (a + 1) i) ∧ I' a 3 = woK (I a 3) k ∧ I' a 2 = woD (I a 2) k ∧ (∀ y, y ≠ 2 → y ≠ 3 → I' a y = I a y) ∧ ∀ x, x ≠ a → x ≠ a + 1 → I' x = I x
theorem i5k : ∀ k, k < 6 → (0 : Int32) ≤ nI k ∧ nI k ≤ 5 := by decide +kernel
theorem c_SiLeave (Γ : Cx) (I : MemI) (J : MemJ) (a k : Nat) (ha : isSi a) (hk : k < 6) : Ct Γ M_Si_leaveOut [.ref a, .int (nI k)] S0 I J (loQ a k I J) := by
  have LP : ∀ (f i : Nat) (I1 : MemI), i + f = 5 → k ≤ i → (∀ j, I1 (a + 1) j = if k ≤ j ∧ j < i then I (a + 1) (j + 1) else I (a + 1) j) → (∀ x, x ≠ a + 1 → I1 x = I x) → WP Γ M_Si_leaveOut (0, 0) S0 I1 J 12 [.ref a, .int (nI k), .int (nI i)] [] (loQ a k I J) := by
    intro f
    induction f with
    | zero =>
      intro i I1 hif hki hr hx
      obtain rfl : i = 5 := by omega
      have ea : I1 a = I a := hx a (by omega)
      refine p_iload_n d_Si_leaveOut_12 rfl ?_
      refine p_ic_1 d_Si_leaveOut_13 ?_
      refine p_iaddN (5) (1) d_Si_leaveOut_14 rfl rfl ?_
      refine p_bi_6 d_Si_leaveOut_15 ?_
      refine p_icmpgeN (tgt := 40) (5 + 1) (6) d_Si_leaveOut_17 (by decide) rfl rfl (by omega) (by omega) (fun h17 => ?_) (fun h17 => ?_)
      · refine p_ic_1 d_Si_leaveOut_40 ?_
        refine p_iload_n d_Si_leaveOut_41 rfl ?_
        refine p_ishl d_Si_leaveOut_42 ?_
        refine p_ic_1 d_Si_leaveOut_43 ?_
        refine p_isub d_Si_leaveOut_44 ?_
        refine p_is_2 d_Si_leaveOut_45 (by decide) rfl ?_
        refine p_aload_n d_Si_leaveOut_46 rfl ?_
        refine p_aload_n d_Si_leaveOut_47 rfl ?_
        refine p_getI d_Si_leaveOut_48 fl_Si_23 ha.1 (Or.inl rfl) ?_
        refine p_eqI (y := I a 3) (by rw [ea]) ?_
        refine p_iload_n d_Si_leaveOut_51 rfl ?_
        refine p_iand d_Si_leaveOut_52 ?_
        refine p_aload_n d_Si_leaveOut_53 rfl ?_
        refine p_getI d_Si_leaveOut_54 fl_Si_23 ha.1 (Or.inl rfl) ?_
        refine p_eqI (y := I a 3) (by rw [ea]) ?_
        refine p_ic_1 d_Si_leaveOut_57 ?_
        refine p_ishr d_Si_leaveOut_58 ?_
        refine p_iload_n d_Si_leaveOut_59 rfl ?_
        refine p_ic_m1 d_Si_leaveOut_60 ?_
        refine p_ixor d_Si_leaveOut_61 ?_
        refine p_iand d_Si_leaveOut_62 ?_
        refine p_ior d_Si_leaveOut_63 ?_
        refine p_putI d_Si_leaveOut_64 fl_Si_23 ha.1 rfl nf_3_3 ?_
        refine p_aload_n d_Si_leaveOut_67 rfl ?_
        refine p_getI d_Si_leaveOut_68 fl_Si_16 ha.1 (Or.inl rfl) ?_
        refine p_eqI (y := I a 2) (by simp only [up2]; rw [if_neg (by omega), ea]) ?_
        refine p_iload_n d_Si_leaveOut_71 rfl ?_
        refine p_icmpne (tgt := 84) d_Si_leaveOut_72 (by decide) (fun h72 => ?_) (fun h72 => ?_)
        · refine p_aload_n d_Si_leaveOut_84 rfl ?_
          refine p_getI d_Si_leaveOut_85 fl_Si_16 ha.1 (Or.inl rfl) ?_
          refine p_eqI (y := I a 2) (by simp only [up2]; rw [if_neg (by omega), ea]) ?_
          refine p_iload_n d_Si_leaveOut_88 rfl ?_
          refine p_icmple (tgt := 102) d_Si_leaveOut_89 (by decide) (fun h89 => ?_) (fun h89 => ?_)
          · refine p_ret d_Si_leaveOut_102 rfl ?_
            refine ⟨rfl, rfl, rfl, fun i hi => ?_, ?_, ?_, fun y q1 q2 => ?_, fun x q1 q2 => ?_⟩
            · simp [up2, hr i]
            · simp [up2, ea, woK]
            · simp only [up2]
              unfold woD
              first | (simp [h72]; done) | (simp [h72, i32_nlt.mpr h89, ea]; done) | (simp [h72, i32_nle.mp h89, ea]; done)
            · simp [up2, q1, q2, ea]
            · funext y
              simp [up2, q1, hx x q2]
          · refine p_aload_n d_Si_leaveOut_92 rfl ?_
            refine p_dup d_Si_leaveOut_93 rfl ?_
            refine p_getI d_Si_leaveOut_94 fl_Si_16 ha.1 (Or.inl rfl) ?_
            refine p_eqI (y := I a 2) (by simp only [up2]; rw [if_neg (by omega), ea]) ?_
            refine p_ic_1 d_Si_leaveOut_97 ?_
            refine p_isub d_Si_leaveOut_98 ?_
            refine p_putI d_Si_leaveOut_99 fl_Si_16 ha.1 rfl nf_3_2 ?_
            refine p_ret d_Si_leaveOut_102 rfl ?_
            refine ⟨rfl, rfl, rfl, fun i hi => ?_, ?_, ?_, fun y q1 q2 => ?_, fun x q1 q2 => ?_⟩
            · simp [up2, hr i]
            · simp [up2, ea, woK]
            · simp only [up2]
              unfold woD
              first | (simp [h72]; done) | (simp [h72, i32_nlt.mpr h89, ea]; done) | (simp [h72, i32_nle.mp h89, ea]; done)
            · simp [up2, q1, q2, ea]
            · funext y
              simp [up2, q1, hx x q2]
        · refine p_aload_n d_Si_leaveOut_75 rfl ?_
          refine p_ldc d_Si_leaveOut_76 kc_Si_15 ?_
          refine p_putI d_Si_leaveOut_78 fl_Si_16 ha.1 rfl nf_3_2 ?_
          refine p_goto (tgt := 102) d_Si_leaveOut_81 (by decide) ?_
          refine p_ret d_Si_leaveOut_102 rfl ?_
          refine ⟨rfl, rfl, rfl, fun i hi => ?_, ?_, ?_, fun y q1 q2 => ?_, fun x q1 q2 => ?_⟩
          · simp [up2, hr i]
          · simp [up2, ea, woK]
          · simp only [up2]
            unfold woD
            first | (simp [h72]; done) | (simp [h72, i32_nlt.mpr h89, ea]; done) | (simp [h72, i32_nle.mp h89, ea]; done)
          · simp [up2, q1, q2, ea]
          · funext y
            simp [up2, q1, hx x q2]
      · exact absurd (by omega) h17
    | succ f ih =>
      intro i I1 hif hki hr hx
      refine p_iload_n d_Si_leaveOut_12 rfl ?_
      refine p_ic_1 d_Si_leaveOut_13 ?_
      refine p_iaddN (i) (1) d_Si_leaveOut_14 rfl rfl ?_
      refine p_bi_6 d_Si_leaveOut_15 ?_
      refine p_icmpgeN (tgt := 40) (i + 1) (6) d_Si_leaveOut_17 (by decide) rfl rfl (by omega) (by omega) (fun h17 => ?_) (fun h17 => ?_)
      · exact absurd h17 (by omega)
      · refine p_aload_n d_Si_leaveOut_20 rfl ?_
        refine p_getR d_Si_leaveOut_21 fl_Si_9 ha.1 rfl ha.2.1 ?_
        refine p_iload_n d_Si_leaveOut_24 rfl ?_
        refine p_aload_n d_Si_leaveOut_25 rfl ?_
        refine p_getR d_Si_leaveOut_26 fl_Si_9 ha.1 rfl ha.2.1 ?_
        refine p_iload_n d_Si_leaveOut_29 rfl ?_
        refine p_ic_1 d_Si_leaveOut_30 ?_
        refine p_iaddN (i) (1) d_Si_leaveOut_31 rfl rfl ?_
        refine p_ialdN (i + 1) d_Si_leaveOut_32 ha.2.2 rfl (by omega) rfl ?_
        refine p_iastN (i) d_Si_leaveOut_33 ha.2.2 rfl (by omega) rfl ?_
        refine p_incN_2_1 d_Si_leaveOut_34 (by decide) rfl ?_
        refine p_goto (tgt := 12) d_Si_leaveOut_37 (by decide) ?_
        refine ih (i + 1) _ (by omega) (by omega) (fun j => ?_) (fun x q => ?_)
        · simp only [up2, true_and]
          by_cases q : j = i
          · subst q
            rw [if_pos rfl, if_pos (by omega), hr, if_neg (by omega)]
          · rw [if_neg q, hr j]
            by_cases q2 : k ≤ j ∧ j < i
            · rw [if_pos q2, if_pos (by omega)]
            · rw [if_neg q2, if_neg (by omega)]
        · funext y
          simp only [up2]
          rw [if_neg (fun z => q z.1), hx x q]
  refine ct_of [.ref a, .int (nI k), .null] (by decide +kernel) rfl (leb rfl) rfl ?_
  refine p_iload_n d_Si_leaveOut_0 rfl ?_
  refine p_ic_0 d_Si_leaveOut_1 ?_
  refine p_ic_5 d_Si_leaveOut_2 ?_
  refine q_SN1 d_Si_leaveOut_3 nl_Si_48 sb_Bo_within ⟨leb rfl, leb rfl⟩ (c_within Γ S0 I J (nI k) 0 5) rfl rfl rfl ?_
  refine p_ifneB (tgt := 10) d_Si_leaveOut_6 (by decide) (fun h6 => ?_) (fun h6 => ?_)
  · refine p_iload_n d_Si_leaveOut_10 rfl ?_
    refine p_is_2 d_Si_leaveOut_11 (by decide) rfl ?_
    exact LP (5 - k) k I (by omega) (Nat.le_refl _) (fun j => by rw [if_neg (by omega)]) (fun x _ => rfl)
  · exact absurd (i5k k hk) h6
theorem bc64 : ∀ b, b < 64 → (let x1 : Int32 := nI b - (((nI b).toUInt32 >>> ((1 : Int32).toUInt32 &&& Int32.toUInt32 31)).toInt32 &&& 1431655765); let x2 : Int32 := (x1 &&& 858993459) + ((x1.toUInt32 >>> ((2 : Int32).toUInt32 &&& Int32.toUInt32 31)).toInt32 &&& 858993459); let x3 : Int32 := (x2 + (x2.toUInt32 >>> ((4 : Int32).toUInt32 &&& Int32.toUInt32 31)).toInt32) &&& 252645135; let x4 : Int32 := x3 + (x3.toUInt32 >>> ((8 : Int32).toUInt32 &&& Int32.toUInt32 31)).toInt32; let x5 : Int32 := x4 + (x4.toUInt32 >>> ((16 : Int32).toUInt32 &&& Int32.toUInt32 31)).toInt32; x5 &&& 63) = nI (pop b) := by decide +kernel
theorem c_bitCount (Γ : Cx) (S : Sh) (I : MemI) (J : MemJ) (b : Nat) (hb : b < 64) : Ct Γ M_In_bitCount [.int (nI b)] S I J (eqQ (some (.int (nI (pop b)))) S I J) := by
  refine ct_of [.int (nI b)] (by decide +kernel) rfl (leb rfl) rfl ?_
  refine p_iload_n d_In_bitCount_0 rfl ?_
  refine p_iload_n d_In_bitCount_1 rfl ?_
  refine p_ic_1 d_In_bitCount_2 ?_
  refine p_iushr d_In_bitCount_3 ?_
  refine p_ldcw d_In_bitCount_4 kc_In_265 ?_
  refine p_iand d_In_bitCount_7 ?_
  refine p_isub d_In_bitCount_8 ?_
  refine p_is_0 d_In_bitCount_9 (by decide) ?_
  refine p_iload_n d_In_bitCount_10 rfl ?_
  refine p_ldcw d_In_bitCount_11 kc_In_266 ?_
  refine p_iand d_In_bitCount_14 ?_
  refine p_iload_n d_In_bitCount_15 rfl ?_
  refine p_ic_2 d_In_bitCount_16 ?_
  refine p_iushr d_In_bitCount_17 ?_
  refine p_ldcw d_In_bitCount_18 kc_In_266 ?_
  refine p_iand d_In_bitCount_21 ?_
  refine p_iadd d_In_bitCount_22 ?_
  refine p_is_0 d_In_bitCount_23 (by decide) ?_
  refine p_iload_n d_In_bitCount_24 rfl ?_
  refine p_iload_n d_In_bitCount_25 rfl ?_
  refine p_ic_4 d_In_bitCount_26 ?_
  refine p_iushr d_In_bitCount_27 ?_
  refine p_iadd d_In_bitCount_28 ?_
  refine p_ldcw d_In_bitCount_29 kc_In_267 ?_
  refine p_iand d_In_bitCount_32 ?_
  refine p_is_0 d_In_bitCount_33 (by decide) ?_
  refine p_iload_n d_In_bitCount_34 rfl ?_
  refine p_iload_n d_In_bitCount_35 rfl ?_
  refine p_bi_8 d_In_bitCount_36 ?_
  refine p_iushr d_In_bitCount_38 ?_
  refine p_iadd d_In_bitCount_39 ?_
  refine p_is_0 d_In_bitCount_40 (by decide) ?_
  refine p_iload_n d_In_bitCount_41 rfl ?_
  refine p_iload_n d_In_bitCount_42 rfl ?_
  refine p_bi_16 d_In_bitCount_43 ?_
  refine p_iushr d_In_bitCount_45 ?_
  refine p_iadd d_In_bitCount_46 ?_
  refine p_is_0 d_In_bitCount_47 (by decide) ?_
  refine p_iload_n d_In_bitCount_48 rfl ?_
  refine p_bi_63 d_In_bitCount_49 ?_
  refine p_iand d_In_bitCount_51 ?_
  refine p_iret d_In_bitCount_52 rfl rfl ?_
  refine ⟨congrArg (fun z => some (Value.int z)) ?_, rfl, rfl, rfl⟩
  exact bc64 b hb
