/-! ===== knowers: by size, then by number ===== -/
def gd (n q : Nat) (t : Nat → Int32) (kn : Nat) (d : Int32) (s : Nat) : Prop := (s &&& kn) = 0 ∧ apT n (itS n (upd t 37 (nI (kn ||| s))) q) ≤ d
def isB (G : Nat → Prop) (N : Nat) : Option Nat → Prop
  | none => ∀ s, s < N → ¬ G s
  | some b => b < N ∧ G b ∧ ∀ s, s < N → G s → pop b < pop s ∨ (pop b = pop s ∧ b ≤ s)
theorem isB_u {G : Nat → Prop} {N : Nat} : ∀ {o1 o2 : Option Nat}, isB G N o1 → isB G N o2 → o1 = o2
  | none, none, _, _ => rfl
  | none, some b, h1, h2 => absurd h2.2.1 (h1 b h2.1)
  | some b, none, h1, h2 => absurd h1.2.1 (h2 b h1.1)
  | some b, some c, h1, h2 => by
    have a := h1.2.2 c h2.1 h2.2.1
    have b' := h2.2.2 b h1.1 h1.2.1
    have : b = c := by omega
    rw [this]
theorem knF_B {n q : Nat} {t : Nat → Int32} {kn : Nat} {d : Int32} : ∀ (f s : Nat) (o : Option Nat), isB (gd n q t kn d) s o → isB (gd n q t kn d) (s + f) (knF n q t kn d f s o)
  | 0, _, _, h => h
  | f + 1, s, o, h => by
    show isB _ _ (if (s &&& kn = 0 ∧ fw s o = true) ∧ apT n (itS n (upd t 37 (nI (kn ||| s))) q) ≤ d then knF n q t kn d f (s + 1) (some s) else knF n q t kn d f (s + 1) o)
    rw [show s + (f + 1) = s + 1 + f by omega]
    by_cases z : (s &&& kn = 0 ∧ fw s o = true) ∧ apT n (itS n (upd t 37 (nI (kn ||| s))) q) ≤ d
    · rw [if_pos z]
      refine knF_B f (s + 1) (some s) ⟨by omega, ⟨z.1.1, z.2⟩, fun r hr hg => ?_⟩
      rcases Nat.lt_or_ge r s with y | y
      · cases o with
        | none => exact absurd hg (h r y)
        | some b =>
          have w : pop s < pop b := of_decide_eq_true z.1.2
          have v := h.2.2 r y hg
          omega
      · have e : r = s := by omega
        subst e
        exact Or.inr ⟨rfl, Nat.le_refl _⟩
    · rw [if_neg z]
      refine knF_B f (s + 1) o ?_
      cases o with
      | none =>
        intro r hr hg
        rcases Nat.lt_or_ge r s with y | y
        · exact h r y hg
        · have e : r = s := by omega
          subst e
          exact z ⟨⟨hg.1, rfl⟩, hg.2⟩
      | some b =>
        refine ⟨by have := h.1; omega, h.2.1, fun r hr hg => ?_⟩
        rcases Nat.lt_or_ge r s with y | y
        · exact h.2.2 r y hg
        · have e : r = s := by omega
          subst e
          have w : ¬ pop r < pop b := fun w => z ⟨⟨hg.1, decide_eq_true w⟩, hg.2⟩
          have := h.1
          omega
theorem kok_gd {n q : Nat} {t : Nat → Int32} {kn : Nat} {d : Int32} {sz b : Nat} : kok n q t kn d sz b = true ↔ (pop b = sz ∧ gd n q t kn d b) := kok_iff
theorem ksF_n {n q : Nat} {t : Nat → Int32} {kn : Nat} {d : Int32} {sz : Nat} : ∀ (f b : Nat), (ksF n q t kn d sz f b = none → ∀ s, b ≤ s → s < b + f → ¬ (pop s = sz ∧ gd n q t kn d s)) ∧ ∀ c, ksF n q t kn d sz f b = some c → b ≤ c ∧ c < b + f ∧ (pop c = sz ∧ gd n q t kn d c) ∧ ∀ s, b ≤ s → s < c → ¬ (pop s = sz ∧ gd n q t kn d s)
  | 0, b => ⟨fun _ s h1 h2 => absurd h1 (by omega), fun c h => by cases h⟩
  | f + 1, b => by
    obtain ⟨i1, i2⟩ := ksF_n (n := n) (q := q) (t := t) (kn := kn) (d := d) (sz := sz) f (b + 1)
    have e : ksF n q t kn d sz (f + 1) b = (if kok n q t kn d sz b = true then some b else ksF n q t kn d sz f (b + 1)) := rfl
    rw [e]
    by_cases z : kok n q t kn d sz b = true
    · rw [if_pos z]
      refine ⟨fun h => (by cases h), fun c h => ?_⟩
      cases h
      exact ⟨Nat.le_refl _, by omega, kok_gd.mp z, fun s h1 h2 => absurd h1 (by omega)⟩
    · rw [if_neg z]
      have hb : ¬ (pop b = sz ∧ gd n q t kn d b) := fun w => z (kok_gd.mpr w)
      refine ⟨fun h s h1 h2 => ?_, fun c h => ?_⟩
      · by_cases y : s = b
        · rw [y]; exact hb
        · exact i1 h s (by omega) (by omega)
      · obtain ⟨j1, j2, j3, j4⟩ := i2 c h
        refine ⟨by omega, by omega, j3, fun s h1 h2 => ?_⟩
        by_cases y : s = b
        · rw [y]; exact hb
        · exact j4 s (by omega) h2
theorem kzF_B {n q : Nat} {t : Nat → Int32} {kn : Nat} {d : Int32} : ∀ (f z : Nat), (∀ s, s < 2 ^ n → gd n q t kn d s → z ≤ pop s ∧ pop s < z + f) → isB (gd n q t kn d) (2 ^ n) (kzF n q t kn d f z)
  | 0, z, h => fun s hs hg => by have := h s hs hg; omega
  | f + 1, z, h => by
    obtain ⟨i1, i2⟩ := ksF_n (n := n) (q := q) (t := t) (kn := kn) (d := d) (sz := z) (2 ^ n) 0
    show isB _ _ (if (ksF n q t kn d z (2 ^ n) 0).isSome = true then ksF n q t kn d z (2 ^ n) 0 else kzF n q t kn d f (z + 1))
    cases hc : ksF n q t kn d z (2 ^ n) 0 with
    | none =>
      rw [if_neg (by simp)]
      refine kzF_B f (z + 1) (fun s hs hg => ?_)
      have a := h s hs hg
      have b := i1 hc s (by omega) (by omega)
      have c : ¬ pop s = z := fun w => b ⟨w, hg⟩
      omega
    | some c =>
      rw [if_pos (show (some c).isSome = true from rfl)]
      obtain ⟨j1, j2, j3, j4⟩ := i2 c hc
      refine ⟨by omega, j3.2, fun s hs hg => ?_⟩
      have a := h s hs hg
      by_cases y : pop s = z
      · refine Or.inr ⟨by omega, ?_⟩
        rcases Nat.lt_or_ge s c with w | w
        · exact absurd ⟨y, hg⟩ (j4 s (by omega) w)
        · exact w
      · have := j3.1
        omega
theorem pop_n : ∀ n, n ≤ 6 → ∀ s, s < 64 → s < 2 ^ n → pop s ≤ n := by decide +kernel
theorem kz_eq {n q : Nat} {t : Nat → Int32} {kn : Nat} {d : Int32} (hn : n ≤ 6) : kzF n q t kn d (n + 1) 0 = knF n q t kn d (2 ^ n) 0 none := by
  have h2 := (shl1 n hn).2
  refine isB_u (kzF_B (n + 1) 0 (fun s hs _ => ?_)) ?_
  · have := pop_n n hn s (by omega) hs
    omega
  · have := knF_B (n := n) (q := q) (t := t) (kn := kn) (d := d) (2 ^ n) 0 none (fun s hs => absurd hs (by omega))
    rw [Nat.zero_add] at this
    exact this
