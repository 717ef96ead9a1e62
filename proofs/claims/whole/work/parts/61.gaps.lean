/-! ===== gaps: the greatest of the divided is the divided greatest ===== -/
theorem nI_ne_m1' {c : Nat} (h : c ≤ 10) : nI c ≠ -1 := by
  have : ∀ n, n < 11 → nI n ≠ -1 := by decide +kernel
  exact this c (by omega)
theorem dv_ti {x : Int32} {c : Nat} (h : c ≤ 10) : (x / nI c).toInt = x.toInt.tdiv c := by
  rw [Int32.toInt_div_of_ne_right _ _ (nI_ne_m1' h), nI_toInt (by omega)]
theorem td_ab {S : Int} {c : Nat} (h0 : 0 < c) (h1 : -1098 ≤ S ∧ S ≤ 999) : -1098 ≤ S.tdiv c ∧ S.tdiv c ≤ 999 ∧ (0 ≤ S → S.tdiv c = S / c) ∧ (S ≤ 0 → S.tdiv c = -((-S) / c)) := by
  have A : 0 ≤ S → S.tdiv c = S / c := fun h => Int.tdiv_eq_ediv_of_nonneg h
  have B : S ≤ 0 → S.tdiv c = -((-S) / c) := fun h => by
    have e : S.tdiv c = -((-S).tdiv c) := by rw [Int.neg_tdiv, Int.neg_neg]
    rw [e, Int.tdiv_eq_ediv_of_nonneg (by omega)]
  refine ⟨?_, ?_, A, B⟩
  · rcases Int.le_total 0 S with h | h
    · rw [A h]
      have := Int.ediv_nonneg h (show (0 : Int) ≤ (c : Int) by omega)
      omega
    · rw [B h]
      have := Int.ediv_le_self (c : Int) (show (0 : Int) ≤ -S by omega)
      omega
  · rcases Int.le_total 0 S with h | h
    · rw [A h]
      have := Int.ediv_le_self (c : Int) h
      omega
    · rw [B h]
      have := Int.ediv_nonneg (show (0 : Int) ≤ -S by omega) (show (0 : Int) ≤ (c : Int) by omega)
      omega
theorem ab_dv {x : Int32} {c : Nat} (h0 : 0 < c) (hc : c ≤ 10) (h : -1098 ≤ x.toInt ∧ x.toInt ≤ 999) : (ab (x / nI c)).toInt = (ab x).toInt / c := by
  obtain ⟨d1, d2, d3, d4⟩ := td_ab h0 h
  have a := ab_b h
  have b := ab_b (x := x / nI c) (by rw [dv_ti hc]; exact ⟨d1, d2⟩)
  rw [dv_ti hc] at b
  rcases Int.le_total 0 x.toInt with q | q
  · have e := d3 q
    have n0 := Int.ediv_nonneg q (show (0 : Int) ≤ (c : Int) by omega)
    have ea : (ab x).toInt = x.toInt := by omega
    rw [ea]
    omega
  · have e := d4 q
    have n0 := Int.ediv_nonneg (show (0 : Int) ≤ -x.toInt by omega) (show (0 : Int) ≤ (c : Int) by omega)
    have ea : (ab x).toInt = -x.toInt := by omega
    rw [ea]
    omega
theorem grA_dv {f g : Nat → Int32} {c : Nat} (h0 : 0 < c) (hc : c ≤ 10) : ∀ {n : Nat}, (∀ k, k < n → (-1098 ≤ (f k).toInt ∧ (f k).toInt ≤ 999) ∧ g k = f k / nI c) → (grA g n).toInt = (grA f n).toInt / c
  | 0, _ => by
    show (0 : Int32).toInt = (0 : Int32).toInt / (c : Int)
    have e0 : (0 : Int32).toInt = 0 := by decide
    rw [e0]
    simp
  | n + 1, h => by
    have ih := grA_dv (f := f) (g := g) h0 hc (n := n) (fun k hk => h k (by omega))
    obtain ⟨hb, hg⟩ := h n (by omega)
    have e := ab_dv h0 hc hb
    rw [← hg] at e
    have mono : ∀ {a b : Int}, a ≤ b → a / (c : Int) ≤ b / (c : Int) := fun h => Int.ediv_le_ediv (by omega) h
    unfold grA
    by_cases q : grA f n < ab (f n)
    · rw [if_pos q]
      rw [i32_lt] at q
      have m1 := mono (Int.le_of_lt q)
      by_cases q2 : grA g n < ab (g n)
      · rw [if_pos q2]; exact e
      · rw [if_neg q2]
        rw [i32_lt] at q2
        omega
    · rw [if_neg q]
      rw [i32_lt] at q
      have m1 := mono (show (ab (f n)).toInt ≤ (grA f n).toInt by omega)
      by_cases q2 : grA g n < ab (g n)
      · rw [if_pos q2]
        rw [i32_lt] at q2
        omega
      · rw [if_neg q2]; exact ih
theorem gr_rs {n g : Nat} {t : Nat → Int32} (h : LBd n t) (hg : g ≤ 9) : grT n (rsT n g t) = dv (grT n t) (nI (g + 1)) := by
  have e := grA_dv (f := fun k => t (28 + k)) (g := fun k => rsT n g t (28 + k)) (c := g + 1) (by omega) (by omega) (n := n) (fun k hk => ⟨h k hk, by show rsT n g t (28 + k) = _; unfold rsT; rw [if_pos (by omega)]⟩)
  have b := gr_b h
  rw [i32_eq]
  unfold dv
  rw [if_neg (ne0 (by omega)), dv_ti (by omega), Int.tdiv_eq_ediv_of_nonneg b.1]
  exact e
theorem gp_eq {n ln : Nat} {t : Nat → Int32} {d : Int32} (h : LBd n (itS n t ln)) : ∀ f g, g + f ≤ 10 → gcF (grT n (itS n t ln)) d f g = gpF n ln t d f g
  | 0, _, _ => rfl
  | f + 1, g, hf => by
    show (if dv (grT n (itS n t ln)) (nI (g + 1)) ≤ d then nI g else gcF (grT n (itS n t ln)) d f (g + 1)) = (if grT n (rsT n g (itS n t ln)) ≤ d then nI g else gpF n ln t d f (g + 1))
    rw [gr_rs h (by omega), gp_eq h f (g + 1) (by omega)]
