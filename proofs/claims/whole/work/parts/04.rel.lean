/-! ===== what an abstract state is, and how a heap holds it ===== -/
/-- the launch, the script's address, where new cells begin; the script; where classes and fields lie; the array classes -/
abbrev Cx : Type := (Launch × Nat × Nat) × (Nat × (Nat → Int32)) × va_G × (ClassId × ClassId × ClassId)
/-- how many cells, their kinds and lengths, their references -/
abbrev Sh : Type := Nat × (Nat → Nat × Nat) × (Nat → Nat → Option Nat)
abbrev MemI : Type := Nat → Nat → Int32
abbrev MemJ : Type := Nat → Nat → Int64
abbrev PQ : Type := Option Value → Sh → MemI → MemJ → Prop
def ad (Γ : Cx) (i : Nat) : Nat := match i with
  | 0 => Γ.1.2.1
  | i + 1 => Γ.1.2.2 + i
def cv (Γ : Cx) (v : Value) : Value := match v with
  | .ref i => .ref (ad Γ i)
  | w => w
def tyC (ci : Nat) : Nat → FieldType := match ci with
  | 0 => tyX0
  | 1 => tyX1
  | 2 => tyX2
  | 3 => tyX3
  | 4 => tyX4
  | _ => tyX5
def nC (ci : Nat) : Nat := match ci with
  | 0 => 9
  | 1 => 3
  | 2 => 9
  | 3 => 7
  | 4 => 14
  | _ => 17
def fv (Γ : Cx) (ty : FieldType) (i : Int32) (j : Int64) (r : Option Nat) : Value := match ty with
  | .long => .long j
  | .object _ => va_rf (r.map (ad Γ))
  | .array _ => va_rf (r.map (ad Γ))
  | _ => .int i
def fsOf (Γ : Cx) (S : Sh) (I : MemI) (J : MemJ) (ci a : Nat) : List Value := (List.range (nC ci)).map fun k => fv Γ (tyC ci k) (I a k) (J a k) (S.2.2 a k)
def cE (Γ : Cx) (S : Sh) (I : MemI) (J : MemJ) (a : Nat) : va_E :=
  if (S.2.1 a).1 = 10 then .inl (Γ.2.2.2.1, (S.2.1 a).2, .inl (I a))
  else if (S.2.1 a).1 = 11 then .inl (Γ.2.2.2.2.1, (S.2.1 a).2, .inl (I a))
  else if (S.2.1 a).1 = 12 then .inl (Γ.2.2.2.2.2, (S.2.1 a).2, .inr (.inr (.inr (.inr (fun k => (S.2.2 a k).map (ad Γ))))))
  else .inr ((S.2.1 a).1, fsOf Γ S I J (S.2.1 a).1 a)
def wsOf (Γ : Cx) (S : Sh) (I : MemI) (J : MemJ) : va_W := (List.range S.1).map fun i => (Γ.1.2.2 + i, cE Γ S I J (i + 1))
def Rel (Γ : Cx) (S : Sh) (I : MemI) (J : MemJ) (H : Heap) : Prop := H.size = Γ.1.2.2 + S.1 ∧ va_P Γ.2.2.1 vwCl (wsOf Γ S I J) H
def AF (Γ : Cx) : Nat → Prop := fun q => Γ.1.2.2 ≤ q
/-- a cell of a kind; an array of a kind and a length -/
def kd (S : Sh) (a c : Nat) : Prop := 0 < a ∧ a ≤ S.1 ∧ (S.2.1 a).1 = c
def ar (S : Sh) (a c n : Nat) : Prop := 0 < a ∧ a ≤ S.1 ∧ S.2.1 a = (c, n)
def up2 (I : MemI) (a k : Nat) (v : Int32) : MemI := fun x y => if x = a ∧ y = k then v else I x y
def upJ (J : MemJ) (a k : Nat) (v : Int64) : MemJ := fun x y => if x = a ∧ y = k then v else J x y
def upP (S : Sh) (a k b : Nat) : Sh := (S.1, S.2.1, fun x y => if x = a ∧ y = k then some b else S.2.2 x y)
/-- a new cell -/
def nwS (S : Sh) (c n : Nat) : Sh := (S.1 + 1, (fun x => if x = S.1 + 1 then (c, n) else S.2.1 x), fun x y => if x = S.1 + 1 then none else S.2.2 x y)
def nwI (S : Sh) (I : MemI) : MemI := fun x y => if x = S.1 + 1 then 0 else I x y
def nwJ (S : Sh) (J : MemJ) : MemJ := fun x y => if x = S.1 + 1 then 0 else J x y
theorem ad_s (Γ : Cx) (i : Nat) : ad Γ (i + 1) = Γ.1.2.2 + i := rfl
theorem wsOf_get {Γ : Cx} {S : Sh} {I : MemI} {J : MemJ} {i : Nat} (h : i < S.1) : (wsOf Γ S I J)[i]? = some (ad Γ (i + 1), cE Γ S I J (i + 1)) := by
  simp [wsOf, ad, h]
theorem wsOf_len {Γ : Cx} {S : Sh} {I : MemI} {J : MemJ} : (wsOf Γ S I J).length = S.1 := by simp [wsOf]
theorem wsOf_some {Γ : Cx} {S : Sh} {I : MemI} {J : MemJ} {i : Nat} {q : Nat × va_E} (h : (wsOf Γ S I J)[i]? = some q) : i < S.1 ∧ q = (ad Γ (i + 1), cE Γ S I J (i + 1)) := by
  have hl : i < S.1 := by
    have := (List.getElem?_eq_some_iff.mp h).1
    rwa [wsOf_len] at this
  rw [wsOf_get hl] at h
  exact ⟨hl, (Option.some.inj h).symm⟩
theorem wsOf_D {Γ : Cx} {S : Sh} {I : MemI} {J : MemJ} : va_D (AF Γ) (wsOf Γ S I J) := by
  refine ⟨fun i j p q hp hq he => ?_, fun k q hq => ?_⟩
  · obtain ⟨-, rfl⟩ := wsOf_some hp
    obtain ⟨-, rfl⟩ := wsOf_some hq
    simp only [ad_s] at he
    omega
  · obtain ⟨-, rfl⟩ := wsOf_some hq
    simp only [ad_s, AF]
    omega
theorem wsOf_set {Γ : Cx} {S S' : Sh} {I I' : MemI} {J J' : MemJ} {i : Nat} {E : va_E} (h1 : S'.1 = S.1) (hE : cE Γ S' I' J' (i + 1) = E) (ho : ∀ b, b ≠ i + 1 → cE Γ S' I' J' b = cE Γ S I J b) : (wsOf Γ S I J).set i (ad Γ (i + 1), E) = wsOf Γ S' I' J' := by
  apply List.ext_getElem?
  intro j
  by_cases hj : j < S.1
  · rw [wsOf_get (by rw [h1]; exact hj)]
    by_cases hi : i = j
    · subst hi
      rw [List.getElem?_set_self (by rw [wsOf_len]; exact hj), hE]
    · rw [List.getElem?_set_ne hi, wsOf_get hj, ho (j + 1) (by omega)]
  · rw [List.getElem?_eq_none (by rw [List.length_set, wsOf_len]; omega), List.getElem?_eq_none (by rw [wsOf_len]; omega)]
theorem fsOf_get {Γ : Cx} {S : Sh} {I : MemI} {J : MemJ} {ci a k : Nat} (h : k < nC ci) : (fsOf Γ S I J ci a)[k]? = some (fv Γ (tyC ci k) (I a k) (J a k) (S.2.2 a k)) := by
  simp [fsOf, h]
theorem fsOf_len {Γ : Cx} {S : Sh} {I : MemI} {J : MemJ} {ci a : Nat} : (fsOf Γ S I J ci a).length = nC ci := by simp [fsOf]
theorem fsOf_set {Γ : Cx} {S S' : Sh} {I I' : MemI} {J J' : MemJ} {ci a k : Nat} {v : Value} (hv : fv Γ (tyC ci k) (I' a k) (J' a k) (S'.2.2 a k) = v)
    (ho : ∀ y, y ≠ k → I' a y = I a y ∧ J' a y = J a y ∧ S'.2.2 a y = S.2.2 a y) : (fsOf Γ S I J ci a).set k v = fsOf Γ S' I' J' ci a := by
  apply List.ext_getElem?
  intro j
  by_cases hj : j < nC ci
  · rw [fsOf_get hj]
    by_cases hi : k = j
    · subst hi
      rw [List.getElem?_set_self (by rw [fsOf_len]; exact hj), hv]
    · obtain ⟨e1, e2, e3⟩ := ho j (fun q => hi q.symm)
      rw [List.getElem?_set_ne hi, fsOf_get hj, e1, e2, e3]
  · rw [List.getElem?_eq_none (by rw [List.length_set, fsOf_len]; omega), List.getElem?_eq_none (by rw [fsOf_len]; omega)]
theorem fsOf_congr {Γ : Cx} {S S' : Sh} {I I' : MemI} {J J' : MemJ} {ci a : Nat} (ho : ∀ y, I' a y = I a y ∧ J' a y = J a y ∧ S'.2.2 a y = S.2.2 a y) : fsOf Γ S' I' J' ci a = fsOf Γ S I J ci a := by
  unfold fsOf
  congr 1
  funext k
  obtain ⟨e1, e2, e3⟩ := ho k
  rw [e1, e2, e3]
theorem cE_congr {Γ : Cx} {S S' : Sh} {I I' : MemI} {J J' : MemJ} {a : Nat} (hk : S'.2.1 a = S.2.1 a) (ho : ∀ y, I' a y = I a y ∧ J' a y = J a y ∧ S'.2.2 a y = S.2.2 a y) : cE Γ S' I' J' a = cE Γ S I J a := by
  unfold cE
  rw [hk, fsOf_congr ho]
  have e1 : I' a = I a := funext fun y => (ho y).1
  have e2 : (fun k => (S'.2.2 a k).map (ad Γ)) = (fun k => (S.2.2 a k).map (ad Γ)) := funext fun y => by rw [(ho y).2.2]
  rw [e1, e2]
theorem cE_int {Γ : Cx} {S : Sh} {I : MemI} {J : MemJ} {a n : Nat} (h : S.2.1 a = (10, n)) : cE Γ S I J a = .inl (Γ.2.2.2.1, n, .inl (I a)) := by simp [cE, h]
theorem cE_bool {Γ : Cx} {S : Sh} {I : MemI} {J : MemJ} {a n : Nat} (h : S.2.1 a = (11, n)) : cE Γ S I J a = .inl (Γ.2.2.2.2.1, n, .inl (I a)) := by simp [cE, h]
theorem cE_ref {Γ : Cx} {S : Sh} {I : MemI} {J : MemJ} {a n : Nat} (h : S.2.1 a = (12, n)) : cE Γ S I J a = .inl (Γ.2.2.2.2.2, n, .inr (.inr (.inr (.inr (fun k => (S.2.2 a k).map (ad Γ)))))) := by simp [cE, h]
theorem cE_obj {Γ : Cx} {S : Sh} {I : MemI} {J : MemJ} {a ci : Nat} (h : (S.2.1 a).1 = ci) (hc : ci < 6) : cE Γ S I J a = .inr (ci, fsOf Γ S I J ci a) := by
  unfold cE
  rw [h, if_neg (by omega), if_neg (by omega), if_neg (by omega)]
theorem ci_lt {ci : Nat} {q : vw_C} (h : vwCl[ci]? = some q) : ci < 6 := (List.getElem?_eq_some_iff.mp h).1
set_option maxRecDepth 100000 in
theorem clOK : ∀ (ci : Nat) (q : vw_C), vwCl[ci]? = some q → (∀ w ∈ u_ws q.1 q.2.1 q.2.2, w ∈ WS) ∧ q.2.2 = nC ci ∧ (∀ k, k < q.2.2 → parseFieldDescriptor (q.2.1 k).2.2.1 = some (tyC ci k)) ∧ (∀ a, a < q.2.2 → ∀ b, b < q.2.2 → a ≠ b → (q.2.1 a).2.1 ≠ (q.2.1 b).2.1) := by
  intro ci q h
  match ci, h with
  | 0, h => cases h; exact ⟨by decide +kernel, rfl, tyX0_ok, nmX0⟩
  | 1, h => cases h; exact ⟨by decide +kernel, rfl, tyX1_ok, nmX1⟩
  | 2, h => cases h; exact ⟨by decide +kernel, rfl, tyX2_ok, nmX2⟩
  | 3, h => cases h; exact ⟨by decide +kernel, rfl, tyX3_ok, nmX3⟩
  | 4, h => cases h; exact ⟨by decide +kernel, rfl, tyX4_ok, nmX4⟩
  | 5, h => cases h; exact ⟨by decide +kernel, rfl, tyX5_ok, nmX5⟩
  | ci + 6, h => exact absurd (ci_lt h) (by omega)
def okTy (t : FieldType) : Bool := match t with
  | .int => true
  | .boolean => true
  | .long => true
  | .object _ => true
  | .array _ => true
  | _ => false
theorem tyC_ok : ∀ ci, ci < 6 → ∀ k, k < nC ci → okTy (tyC ci k) = true := by decide +kernel
theorem fv_def {Γ : Cx} {t : FieldType} (h : okTy t = true) : defaultValue t = fv Γ t 0 0 none := by
  cases t <;> first | rfl | simp [okTy] at h
theorem Rel.at {Γ : Cx} {S : Sh} {I : MemI} {J : MemJ} {H : Heap} (h : Rel Γ S I J H) {i : Nat} (hi : i < S.1) : va_at Γ.2.2.1 vwCl (ad Γ (i + 1), cE Γ S I J (i + 1)) H := h.2 i _ (wsOf_get hi)
theorem Rel.push {Γ : Cx} {S S' : Sh} {I I' : MemI} {J J' : MemJ} {H H1 : Heap} (h : Rel Γ S I J H) (hs : S'.1 = S.1 + 1) (hz : H1.size = H.size + 1) (hk : ∀ q, q < H.size → H1[q]? = H[q]?)
    (ho : ∀ b, b ≠ S.1 + 1 → cE Γ S' I' J' b = cE Γ S I J b) (hn : va_at Γ.2.2.1 vwCl (H.size, cE Γ S' I' J' (S.1 + 1)) H1) : Rel Γ S' I' J' H1 := by
  refine ⟨by rw [hz, h.1, hs]; omega, fun k q hq => ?_⟩
  obtain ⟨hl, rfl⟩ := wsOf_some hq
  by_cases e : k = S.1
  · subst e
    rw [ad_s, ← h.1]
    exact hn
  · have hl' : k < S.1 := by omega
    rw [ho (k + 1) (by omega)]
    refine (h.at hl').kept (hk _ ?_)
    show ad Γ (k + 1) < H.size
    rw [ad_s, h.1]
    omega
/-- another way to say the same heap -/
theorem Rel.conv {Γ : Cx} {S S' : Sh} {I I' : MemI} {J J' : MemJ} {H : Heap} (h : Rel Γ S I J H) (hs : S'.1 = S.1) (ho : ∀ b, 0 < b → b ≤ S.1 → cE Γ S' I' J' b = cE Γ S I J b) : Rel Γ S' I' J' H := by
  refine ⟨by rw [h.1, hs], fun k q hq => ?_⟩
  obtain ⟨hl, rfl⟩ := wsOf_some hq
  rw [ho (k + 1) (by omega) (by omega)]
  exact h.at (by omega)
