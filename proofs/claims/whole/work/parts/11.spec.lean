/-! ===== what the two programs compute, over the reference's row of 39 numbers ===== -/
def frT (t : Nat → Int32) (k e : Nat) : Int32 := t (28 + e) + ab (t (4 + k) - t (4 + e)) / 6
def s1T (t : Nat → Int32) (k : Nat) : Int32 := if 0 < k then 0 + frT t k (k - 1) else 0
def smT (n : Nat) (t : Nat → Int32) (k : Nat) : Int32 := if k + 1 < n then s1T t k + frT t k (k + 1) else s1T t k
def myT (n k : Nat) : Nat := (if 0 < k then 1 else 0) + (if k + 1 < n then 1 else 0)
def nrT (n : Nat) (t : Nat → Int32) (k : Nat) : Int32 := if myT n k = 0 then 0 else t (16 + k)
def mnT (n : Nat) (t : Nat → Int32) (k : Nat) : Int32 := if myT n k = 0 then 0 else smT n t k / nI (myT n k)
def vT (n : Nat) (t : Nat → Int32) (k : Nat) : Int32 := (t (10 + k) * (t (4 + k) / 6 - t 35) + nrT n t k * mnT n t k + 5 * t (28 + k)) / (t (10 + k) + nrT n t k + 5) + (if t 37 >>> (nI k &&& 31) &&& 1 = 1 then 0 else t (22 + k))
def clT (v : Int32) : Int32 := if v < (-99) then (-99) else if 999 < v then 999 else v
def ltT (n : Nat) (t : Nat → Int32) (k : Nat) : Int32 := clT (vT n t k)
def thT (n : Nat) (t : Nat → Int32) (k : Nat) : Int32 := if nI k = t 36 then 0 else ltT n t k
def sumN (f : Nat → Int32) : Nat → Int32
  | 0 => 0
  | k + 1 => sumN f k + f k
def w0T (n : Nat) (t : Nat → Int32) : Int32 := if n = 0 then 0 else t 1 * (sumN (thT n t) n / nI n) / 10
def wT (n : Nat) (t : Nat → Int32) : Int32 := if 0 < w0T n t then w0T n t else 0
def capT (p : Int32) : Int32 := if 9999 < p then 9999 else p
/-- a line is sung -/
def singT (n : Nat) (t : Nat → Int32) : Nat → Int32 := fun y => if 28 ≤ y ∧ y < 28 + n then thT n t (y - 28) - wT n t else if y = 34 then capT (t 34 + wT n t) else if y = 38 then t 38 + 1 else t y
/-- so many lines -/
def itS (n : Nat) (t : Nat → Int32) : Nat → Nat → Int32
  | 0 => t
  | j + 1 => singT n (itS n t j)
def okD (n : Nat) (t : Nat → Int32) : Prop := ∀ k, k < n → ¬ (t (10 + k) + nrT n t k + 5 = 0)
theorem i32_lt {a b : Int32} : a < b ↔ a.toInt < b.toInt := Int32.lt_iff_toInt_lt
theorem i32_le {a b : Int32} : a ≤ b ↔ a.toInt ≤ b.toInt := Int32.le_iff_toInt_le
theorem i32_eq {a b : Int32} : a = b ↔ a.toInt = b.toInt := Int32.toInt_inj.symm
theorem zsub (x : Int32) : 0 - x = -x := by simp
theorem ab_neg (a b : Int32) : ab (a - b) = ab (b - a) := by
  have h : b - a = -(a - b) := by simp
  rw [h]
  generalize a - b = x
  unfold ab
  by_cases h1 : 0 ≤ x
  · by_cases h2 : 0 ≤ -x
    · rw [if_pos h1, if_pos h2]
      by_cases h3 : x = -2147483648
      · subst h3; decide
      · rw [i32_le] at h1 h2
        have h4 : (-x).toInt = -x.toInt := by
          rw [Int32.toInt_neg]
          have q1 := Int32.toInt_lt x
          have q2 := Int32.le_toInt x
          have q3 : x.toInt ≠ -2147483648 := fun q => h3 (i32_eq.mpr q)
          rw [Int.bmod_eq_of_le] <;> omega
        rw [h4] at h2
        have e0 : (0 : Int32).toInt = 0 := by decide
        rw [e0] at h1 h2
        have : x = 0 := i32_eq.mpr (by rw [e0]; omega)
        subst this
        decide
    · rw [if_pos h1, if_neg h2]
      simp
  · by_cases h2 : 0 ≤ -x
    · rw [if_neg h1, if_pos h2, zsub]
    · rw [if_neg h1, if_neg h2]
      have e0 : (0 : Int32).toInt = 0 := by decide
      rw [i32_le] at h1 h2
      rw [e0] at h1 h2
      by_cases h3 : x = -2147483648
      · subst h3; decide
      · exfalso
        have h4 : (-x).toInt = -x.toInt := by
          rw [Int32.toInt_neg]
          have q1 := Int32.toInt_lt x
          have q2 := Int32.le_toInt x
          have q3 : x.toInt ≠ -2147483648 := fun q => h3 (i32_eq.mpr q)
          rw [Int.bmod_eq_of_le] <;> omega
        rw [h4] at h2
        omega
theorem singT_off {n : Nat} {t : Nat → Int32} {y : Nat} (h1 : ¬ (28 ≤ y ∧ y < 28 + n)) (h2 : y ≠ 34) (h3 : y ≠ 38) : singT n t y = t y := by
  simp only [singT, h1, h2, h3, if_false]
