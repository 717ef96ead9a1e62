/-! ===== both sides ask the same: bounds ===== -/
theorem ti_add {a b : Int32} (h1 : -2000000000 ≤ a.toInt + b.toInt) (h2 : a.toInt + b.toInt ≤ 2000000000) : (a + b).toInt = a.toInt + b.toInt := by
  rw [Int32.toInt_add]
  exact Int.bmod_eq_of_le (by omega) (by omega)
theorem clT_b (v : Int32) : -99 ≤ (clT v).toInt ∧ (clT v).toInt ≤ 999 := by
  have e1 : (-99 : Int32).toInt = -99 := by decide
  have e2 : (999 : Int32).toInt = 999 := by decide
  unfold clT
  by_cases h1 : v < (-99)
  · rw [if_pos h1, e1]; omega
  · rw [if_neg h1]
    by_cases h2 : 999 < v
    · rw [if_pos h2, e2]; omega
    · rw [if_neg h2]
      rw [i32_lt, e1] at h1
      rw [i32_lt, e2] at h2
      omega
theorem thT_b (n : Nat) (t : Nat → Int32) (k : Nat) : -99 ≤ (thT n t k).toInt ∧ (thT n t k).toInt ≤ 999 := by
  unfold thT
  by_cases h : nI k = t 36
  · rw [if_pos h]; decide
  · rw [if_neg h]; exact clT_b _
theorem sumN_b {f : Nat → Int32} (h : ∀ k, -99 ≤ (f k).toInt ∧ (f k).toInt ≤ 999) : ∀ (n : Nat), n ≤ 6 → -99 * (n : Int) ≤ (sumN f n).toInt ∧ (sumN f n).toInt ≤ 999 * (n : Int)
  | 0, _ => by
    have : (sumN f 0).toInt = 0 := by rfl
    omega
  | n + 1, hn => by
    have ih := sumN_b h n (by omega)
    have hk := h n
    have e : (sumN f (n + 1)).toInt = (sumN f n).toInt + (f n).toInt := by
      show (sumN f n + f n).toInt = _
      exact ti_add (by omega) (by omega)
    rw [e]
    omega
theorem paF_L {n q : Nat} {t : Nat → Int32} {f a : Nat} {b l1 l2 : Int32} (h1 : gA n q t a < l1) (h2 : gA n q t a < l2) : paF n q t (f + 1) a b l1 = paF n q t (f + 1) a b l2 := by
  show (if gA n q t a < l1 then _ else _) = (if gA n q t a < l2 then _ else _)
  rw [if_pos h1, if_pos h2]
theorem stF_L {n q : Nat} {t : Nat → Int32} {f a : Nat} {b l1 l2 : Int32} (h1 : stA n q t (cvk n a) < l1) (h2 : stA n q t (cvk n a) < l2) : stF n q t (f + 1) a b l1 = stF n q t (f + 1) a b l2 := by
  show (if stA n q t (cvk n a) < l1 then _ else _) = (if stA n q t (cvk n a) < l2 then _ else _)
  rw [if_pos h1, if_pos h2]
