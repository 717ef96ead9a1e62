/-! ===== both sides ask the same: bounds ===== -/
theorem ti_add {a b : Int32} (h1 : -2000000000 ≤ a.toInt + b.toInt) (h2 : a.toInt + b.toInt ≤ 2000000000) : (a + b).toInt = a.toInt + b.toInt := by
  rw [Int32.toInt_add]
  exact Int.bmod_eq_of_le (by omega) (by omega)
theorem clT_b (v : Int32) : -99 ≤ (clT v).toInt ∧ (clT v).toInt ≤ 999 := by
  have e1 : (-99 : Int32).toInt = -99 := by decide
  have e2 : (999 : Int32).toInt = 999 := by decide
  unfold clT
  by_cases h1 : v < (-99)
  · rw [if_pos h1, e1]; omega
  · rw [if_neg h1]
    by_cases h2 : 999 < v
    · rw [if_pos h2, e2]; omega
    · rw [if_neg h2]
      rw [i32_lt, e1] at h1
      rw [i32_lt, e2] at h2
      omega
theorem thT_b (n : Nat) (t : Nat → Int32) (k : Nat) : -99 ≤ (thT n t k).toInt ∧ (thT n t k).toInt ≤ 999 := by
  unfold thT
  by_cases h : nI k = t 36
  · rw [if_pos h]; decide
  · rw [if_neg h]; exact clT_b _
theorem sumN_b {f : Nat → Int32} (h : ∀ k, -99 ≤ (f k).toInt ∧ (f k).toInt ≤ 999) : ∀ (n : Nat), n ≤ 6 → -99 * (n : Int) ≤ (sumN f n).toInt ∧ (sumN f n).toInt ≤ 999 * (n : Int)
  | 0, _ => by
    have : (sumN f 0).toInt = 0 := by rfl
    omega
  | n + 1, hn => by
    have ih := sumN_b h n (by omega)
    have hk := h n
    have e : (sumN f (n + 1)).toInt = (sumN f n).toInt + (f n).toInt := by
      show (sumN f n + f n).toInt = _
      exact ti_add (by omega) (by omega)
    rw [e]
    omega
theorem paF_L {n q : Nat} {t : Nat → Int32} {f a : Nat} {b l1 l2 : Int32} (h1 : gA n q t a < l1) (h2 : gA n q t a < l2) : paF n q t (f + 1) a b l1 = paF n q t (f + 1) a b l2 := by
  show (if gA n q t a < l1 then _ else _) = (if gA n q t a < l2 then _ else _)
  rw [if_pos h1, if_pos h2]
theorem stF_L {n q : Nat} {t : Nat → Int32} {f a : Nat} {b l1 l2 : Int32} (h1 : stA n q t (cvk n a) < l1) (h2 : stA n q t (cvk n a) < l2) : stF n q t (f + 1) a b l1 = stF n q t (f + 1) a b l2 := by
  show (if stA n q t (cvk n a) < l1 then _ else _) = (if stA n q t (cvk n a) < l2 then _ else _)
  rw [if_pos h1, if_pos h2]
theorem td_b {S : Int} {n : Nat} (h0 : 0 < n) (hn : n ≤ 6) (h1 : -99 * (n : Int) ≤ S) (h2 : S ≤ 999 * (n : Int)) : -99 ≤ S.tdiv n ∧ S.tdiv n ≤ 999 := by
  rcases Int.le_total 0 S with h | h
  · rw [Int.tdiv_eq_ediv_of_nonneg h]
    rcases (show n = 1 ∨ n = 2 ∨ n = 3 ∨ n = 4 ∨ n = 5 ∨ n = 6 by omega) with rfl | rfl | rfl | rfl | rfl | rfl <;> omega
  · have e : S.tdiv n = -((-S).tdiv n) := by rw [Int.neg_tdiv, Int.neg_neg]
    rw [e, Int.tdiv_eq_ediv_of_nonneg (by omega)]
    rcases (show n = 1 ∨ n = 2 ∨ n = 3 ∨ n = 4 ∨ n = 5 ∨ n = 6 by omega) with rfl | rfl | rfl | rfl | rfl | rfl <;> omega
theorem nI_ne_m1 {n : Nat} (h : n ≤ 6) : nI n ≠ -1 := by
  have : ∀ n, n < 7 → nI n ≠ -1 := by decide +kernel
  exact this n (by omega)
theorem mean_b {n : Nat} {t : Nat → Int32} (h0 : 0 < n) (hn : n ≤ 6) : -99 ≤ (sumN (thT n t) n / nI n).toInt ∧ (sumN (thT n t) n / nI n).toInt ≤ 999 := by
  have b := sumN_b (f := thT n t) (thT_b n t) n hn
  rw [Int32.toInt_div_of_ne_right _ _ (nI_ne_m1 hn), nI_toInt (by omega)]
  exact td_b h0 hn b.1 b.2
theorem w0_b {n : Nat} {t : Nat → Int32} (hn : n ≤ 6) (h1 : 0 ≤ (t 1).toInt ∧ (t 1).toInt ≤ 10) : (w0T n t).toInt ≤ 999 := by
  unfold w0T
  by_cases z : n = 0
  · rw [if_pos z]; decide
  · rw [if_neg z]
    obtain ⟨m1, m2⟩ := mean_b (t := t) (show 0 < n by omega) hn
    have p1 : (t 1).toInt * (sumN (thT n t) n / nI n).toInt ≤ 9990 := by
      have := Int.mul_le_mul h1.2 m2 
      rcases Int.le_total 0 (sumN (thT n t) n / nI n).toInt with q | q
      · exact Int.le_trans (Int.mul_le_mul h1.2 m2 q (by omega)) (by omega)
      · exact Int.le_trans (Int.mul_nonpos_of_nonneg_of_nonpos h1.1 q) (by omega)
    have p2 : -990 ≤ (t 1).toInt * (sumN (thT n t) n / nI n).toInt := by
      have a1 : (t 1).toInt * (-99) ≤ (t 1).toInt * (sumN (thT n t) n / nI n).toInt := Int.mul_le_mul_of_nonneg_left m1 h1.1
      omega
    have e : (t 1 * (sumN (thT n t) n / nI n)).toInt = (t 1).toInt * (sumN (thT n t) n / nI n).toInt := by
      rw [Int32.toInt_mul]
      exact Int.bmod_eq_of_le (by omega) (by omega)
    rw [Int32.toInt_div_of_ne_right _ _ (by decide), e]
    have e10 : (10 : Int32).toInt = 10 := by decide
    rw [e10]
    generalize (t 1).toInt * (sumN (thT n t) n / nI n).toInt = P at *
    rcases Int.le_total 0 P with q | q
    · rw [Int.tdiv_eq_ediv_of_nonneg q]; omega
    · have e : P.tdiv 10 = -((-P).tdiv 10) := by rw [Int.neg_tdiv, Int.neg_neg]
      rw [e, Int.tdiv_eq_ediv_of_nonneg (by omega)]; omega
theorem wT_b {n : Nat} {t : Nat → Int32} (hn : n ≤ 6) (h1 : 0 ≤ (t 1).toInt ∧ (t 1).toInt ≤ 10) : 0 ≤ (wT n t).toInt ∧ (wT n t).toInt ≤ 999 := by
  have b := w0_b (n := n) hn h1
  have e0 : (0 : Int32).toInt = 0 := by decide
  unfold wT
  by_cases q : 0 < w0T n t
  · rw [if_pos q]
    rw [i32_lt, e0] at q
    omega
  · rw [if_neg q, e0]
    omega
/-- how late they are, in bounds -/
def LBd (n : Nat) (t : Nat → Int32) : Prop := ∀ k, k < n → -1098 ≤ (t (28 + k)).toInt ∧ (t (28 + k)).toInt ≤ 999
theorem sing_b {n : Nat} {t : Nat → Int32} (hn : n ≤ 6) (h1 : 0 ≤ (t 1).toInt ∧ (t 1).toInt ≤ 10) : LBd n (singT n t) := by
  intro k hk
  have a := thT_b n t k
  have b := wT_b (n := n) hn h1
  unfold singT
  rw [if_pos (by omega), show 28 + k - 28 = k by omega, Int32.toInt_sub, Int.bmod_eq_of_le (by omega) (by omega)]
  omega
theorem it_b {n : Nat} {t : Nat → Int32} (hn : n ≤ 6) (h1 : 0 ≤ (t 1).toInt ∧ (t 1).toInt ≤ 10) : ∀ q, 1 ≤ q → LBd n (itS n t q)
  | 0, h => absurd h (by omega)
  | q + 1, _ => by
    show LBd n (singT n (itS n t q))
    exact sing_b hn (by rw [it_low 1 (by omega) q hn]; exact h1)
theorem mxA_b {f : Nat → Int32} : ∀ {n : Nat}, (∀ k, k < n → -1098 ≤ (f k).toInt ∧ (f k).toInt ≤ 999) → -1098 ≤ (mxA f n).toInt ∧ (mxA f n).toInt ≤ 999
  | 0, _ => (by decide : -1098 ≤ (0 : Int32).toInt ∧ (0 : Int32).toInt ≤ 999)
  | n + 1, h => by
    unfold mxA
    by_cases q : n = 0 ∨ mxA f n < f n
    · rw [if_pos q]; exact h n (by omega)
    · rw [if_neg q]; exact mxA_b (fun k hk => h k (by omega))
theorem mnA_b {f : Nat → Int32} : ∀ {n : Nat}, (∀ k, k < n → -1098 ≤ (f k).toInt ∧ (f k).toInt ≤ 999) → -1098 ≤ (mnA f n).toInt ∧ (mnA f n).toInt ≤ 999
  | 0, _ => (by decide : -1098 ≤ (0 : Int32).toInt ∧ (0 : Int32).toInt ≤ 999)
  | n + 1, h => by
    unfold mnA
    by_cases q : n = 0 ∨ f n < mnA f n
    · rw [if_pos q]; exact h n (by omega)
    · rw [if_neg q]; exact mnA_b (fun k hk => h k (by omega))
theorem ap_b {n : Nat} {t : Nat → Int32} (h : LBd n t) : (apT n t).toInt ≤ 2097 := by
  have a := mxA_b (f := fun k => t (28 + k)) h
  have b := mnA_b (f := fun k => t (28 + k)) h
  unfold apT
  rw [Int32.toInt_sub, Int.bmod_eq_of_le (by omega) (by omega)]
  omega
theorem ab_b {x : Int32} (h : -1098 ≤ x.toInt ∧ x.toInt ≤ 999) : 0 ≤ (ab x).toInt ∧ (ab x).toInt ≤ 1098 ∧ ((ab x).toInt = x.toInt ∨ (ab x).toInt = -x.toInt) := by
  have e0 : (0 : Int32).toInt = 0 := by decide
  unfold ab
  by_cases q : 0 ≤ x
  · rw [if_pos q]
    rw [i32_le, e0] at q
    omega
  · rw [if_neg q, Int32.toInt_sub, e0, Int.bmod_eq_of_le (by omega) (by omega)]
    rw [i32_le, e0] at q
    omega
theorem grA_b {f : Nat → Int32} : ∀ {n : Nat}, (∀ k, k < n → -1098 ≤ (f k).toInt ∧ (f k).toInt ≤ 999) → 0 ≤ (grA f n).toInt ∧ (grA f n).toInt ≤ 1098
  | 0, _ => (by decide : 0 ≤ (0 : Int32).toInt ∧ (0 : Int32).toInt ≤ 1098)
  | n + 1, h => by
    have a := ab_b (h n (by omega))
    unfold grA
    by_cases q : grA f n < ab (f n)
    · rw [if_pos q]; omega
    · rw [if_neg q]; exact grA_b (fun k hk => h k (by omega))
theorem gr_b {n : Nat} {t : Nat → Int32} (h : LBd n t) : 0 ≤ (grT n t).toInt ∧ (grT n t).toInt ≤ 1098 := grA_b h
theorem pa_eq {n q : Nat} {t : Nat → Int32} (hn : n ≤ 6) (hq : 1 ≤ q) (h1 : 0 ≤ (t 1).toInt ∧ (t 1).toInt ≤ 10) : paF n q t 21 0 0 2147483647 = paF n q t 21 0 0 1000000 := by
  have b := (gr_b (it_b (n := n) (t := upd t 35 (nI 0)) hn (by rw [upd_ne (by omega)]; exact h1) q hq)).2
  have e1 : (2147483647 : Int32).toInt = 2147483647 := by decide
  have e2 : (1000000 : Int32).toInt = 1000000 := by decide
  refine paF_L (f := 20) ?_ ?_
  · rw [i32_lt, e1]; show (grT n (itS n (upd t 35 (nI 0)) q)).toInt < _; omega
  · rw [i32_lt, e2]; show (grT n (itS n (upd t 35 (nI 0)) q)).toInt < _; omega
theorem st_eq {n q : Nat} {t : Nat → Int32} (hn : n ≤ 6) (hq : 1 ≤ q) (h1 : 0 ≤ (t 1).toInt ∧ (t 1).toInt ≤ 10) : stF n q t (n + 1) 0 (-1000009) 2147483647 = stF n q t (n + 1) 0 (-1000009) 1000000 := by
  have b := ap_b (it_b (n := n) (t := upd t 36 (cvk n 0)) hn (by rw [upd_ne (by omega)]; exact h1) q hq)
  have e1 : (2147483647 : Int32).toInt = 2147483647 := by decide
  have e2 : (1000000 : Int32).toInt = 1000000 := by decide
  refine stF_L ?_ ?_
  · rw [i32_lt, e1]; show (apT n (itS n (upd t 36 (cvk n 0)) q)).toInt < _; omega
  · rw [i32_lt, e2]; show (apT n (itS n (upd t 36 (cvk n 0)) q)).toInt < _; omega
