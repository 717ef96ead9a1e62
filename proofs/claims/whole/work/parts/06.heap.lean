/-! ===== the rules that read and write cells ===== -/
theorem bs_map {a n : Nat} (h1 : 0 < a) (h2 : a ≤ n) : ∃ i, a = i + 1 ∧ i < n := ⟨a - 1, by omega, by omega⟩
theorem fsOf_V {Γ : Cx} {S : Sh} {I : MemI} {J : MemJ} {ci a k : Nat} (h : k < nC ci) : vp_V (fsOf Γ S I J ci a) k = fv Γ (tyC ci k) (I a k) (J a k) (S.2.2 a k) := by
  simp [vp_V, List.getD, fsOf_get h]
theorem Rel.write {Γ : Cx} {S S' : Sh} {I I' : MemI} {J J' : MemJ} {H H1 : Heap} {i : Nat} (h : Rel Γ S I J H) (hz : H1.size = H.size) (oq : ∀ q, q ≠ ad Γ (i + 1) → H1[q]? = H[q]?) (hs : S'.1 = S.1)
    (ho : ∀ b, b ≠ i + 1 → cE Γ S' I' J' b = cE Γ S I J b) (hn : va_at Γ.2.2.1 vwCl (ad Γ (i + 1), cE Γ S' I' J' (i + 1)) H1) : Rel Γ S' I' J' H1 := by
  refine ⟨by rw [hz, h.1, hs], fun k q hq => ?_⟩
  obtain ⟨hl, rfl⟩ := wsOf_some hq
  by_cases e : k = i
  · subst e
    exact hn
  · rw [ho (k + 1) (by omega)]
    refine (h.at (by omega)).kept (oq _ ?_)
    show ad Γ (k + 1) ≠ ad Γ (i + 1)
    rw [ad_s, ad_s]
    omega
def isRefTy (t : FieldType) : Bool := match t with
  | .object _ => true
  | .array _ => true
  | _ => false
theorem fv_ref {Γ : Cx} {t : FieldType} {i : Int32} {j : Int64} {b : Nat} (h : isRefTy t = true) : fv Γ t i j (some b) = .ref (ad Γ b) := by
  cases t <;> first | rfl | simp [isRefTy] at h
section RH
variable {Γ : Cx} {M : MI} {B : Nat × Nat} {S : Sh} {I : MemI} {J : MemJ} {pc : Nat} {ls st : List Value} {Q : PQ}
/-- fields -/
theorem p_getV {idx ci k a : Nat} {v : Value} (hd : decode M.1 pc = .ok (.getfield idx, 3)) (hf : FL M.2.1 idx ci k) (hk : kd S a ci) (hv : ∀ Γ : Cx, fv Γ (tyC ci k) (I a k) (J a k) (S.2.2 a k) = cv Γ v) (kk : WP Γ M B S I J (pc + 3) ls (v :: st) Q) : WP Γ M B S I J pc ls (.ref a :: st) Q := by
  intro p e s m args below meth c Z C E H locs cells slots lr hR hS hc hs hl
  obtain ⟨q, hq, hkq, hfl⟩ := hf
  obtain ⟨h0, h1, h2⟩ := hk
  obtain ⟨i, rfl, hi⟩ := bs_map h0 h1
  obtain ⟨c1, c2, c3, c4⟩ := clOK ci q hq
  have he : (wsOf Γ S I J)[i]? = some (ad Γ (i + 1), .inr (ci, fsOf Γ S I J ci (i + 1))) := by rw [wsOf_get hi, cE_obj h2 (ci_lt hq)]
  exact va_get (C := q.1) (T := q.2.1) (N := q.2.2) (v := cv Γ v) C.1 C.2.1 C.2.2.2.2.1 c1 C.2.2.2.1 C.2.2.2.2.2.1.1 hR.2 i he hq k hkq (C.2.2.2.2.1 _ hfl) (fun _ h => h) (by rw [fsOf_get (by rw [← c2]; exact hkq), hv Γ]) hd (kk p e s m args below meth c Z C E H locs cells slots lr hR hS hc hs hl)
theorem p_getI {idx ci k a : Nat} (hd : decode M.1 pc = .ok (.getfield idx, 3)) (hf : FL M.2.1 idx ci k) (hk : kd S a ci) (ht : tyC ci k = .int ∨ tyC ci k = .boolean) (kk : WP Γ M B S I J (pc + 3) ls (.int (I a k) :: st) Q) : WP Γ M B S I J pc ls (.ref a :: st) Q :=
  p_getV hd hf hk (fun Γ => by rcases ht with h | h <;> rw [h] <;> rfl) kk
theorem p_getJ {idx ci k a : Nat} (hd : decode M.1 pc = .ok (.getfield idx, 3)) (hf : FL M.2.1 idx ci k) (hk : kd S a ci) (ht : tyC ci k = .long) (kk : WP Γ M B S I J (pc + 3) ls (.long (J a k) :: st) Q) : WP Γ M B S I J pc ls (.ref a :: st) Q :=
  p_getV hd hf hk (fun Γ => by rw [ht]; rfl) kk
theorem p_getR {idx ci k a b : Nat} (hd : decode M.1 pc = .ok (.getfield idx, 3)) (hf : FL M.2.1 idx ci k) (hk : kd S a ci) (ht : isRefTy (tyC ci k) = true) (hb : S.2.2 a k = some b) (kk : WP Γ M B S I J (pc + 3) ls (.ref b :: st) Q) : WP Γ M B S I J pc ls (.ref a :: st) Q :=
  p_getV hd hf hk (fun Γ => by rw [hb]; exact fv_ref ht) kk
/-- a field takes a value: what is the same of every put -/
theorem gx_put {ci k i : Nat} {v : Value} {S' : Sh} {I' : MemI} {J' : MemJ} {H H1 : Heap} {s : State} {args : Array Value} {q : vw_C} {cell : Cell} (hR : Rel Γ S I J H) (hts : ∀ w ∈ WS, w.before args s = true) (hK : va_K Γ.2.2.1 vwCl (tysOf Γ) s) (hq : vwCl[ci]? = some q) (hkq : k < q.2.2) (h2 : (S.2.1 (i + 1)).1 = ci)
    (q2 : cell.cls = Γ.2.2.1.1 ci) (q3 : cell.vm = .none) (q4 : ∀ k, k < q.2.2 → cell.slots[Γ.2.2.1.2 ci k]? = some (vp_V (fsOf Γ S I J ci (i + 1)) k))
    (e1 : S'.1 = S.1) (e2 : S'.2.1 = S.2.1) (e3 : fv Γ (tyC ci k) (I' (i + 1) k) (J' (i + 1) k) (S'.2.2 (i + 1) k) = cv Γ v) (e4 : ∀ x y, ¬ (x = i + 1 ∧ y = k) → I' x y = I x y ∧ J' x y = J x y ∧ S'.2.2 x y = S.2.2 x y)
    (g1 : H1[ad Γ (i + 1)]? = some (cell.setSlot (Γ.2.2.1.2 ci k) (cv Γ v))) (g2 : H1.size = H.size) (g3 : ∀ q, q ≠ ad Γ (i + 1) → H1[q]? = H[q]?) : Rel Γ S' I' J' H1 := by
  obtain ⟨c1, c2, c3, c4⟩ := clOK ci q hq
  have hap := va_apart (own := q.1) hts c1 (tyC ci) c3 c4 hK hq
  refine hR.write g2 g3 e1 (fun b hb => cE_congr (by rw [e2]) (fun y => e4 b y (fun z => hb z.1))) ?_
  rw [cE_obj (by rw [e2]; exact h2) (ci_lt hq)]
  refine ⟨q, hq, _, g1, q2, q3, fun j hj => ?_⟩
  rw [t_set q4 hap hkq (cv Γ v) j hj]
  congr 1
  rw [fsOf_V (by rw [← c2]; exact hj)]
  by_cases e : j = k
  · subst e
    simp [updV, e3]
  · obtain ⟨a1, a2, a3⟩ := e4 (i + 1) j (fun z => e z.2)
    simp only [updV, e, if_false]
    rw [fsOf_V (by rw [← c2]; exact hj), a1, a2, a3]
theorem p_putV {idx ci k a : Nat} {v : Value} {S' : Sh} {I' : MemI} {J' : MemJ} (hd : decode M.1 pc = .ok (.putfield idx, 3)) (hf : FL M.2.1 idx ci k) (hk : kd S a ci) (hfin : ∀ q : vw_C, vwCl[ci]? = some q → (q.2.1 k).2.2.2 = false) (hn : ∀ Γ : Cx, narrow (tyC ci k) (cv Γ v) = cv Γ v) (hfit : ∀ Γ : Cx, fits (tyC ci k) (cv Γ v) = true)
    (e1 : S'.1 = S.1) (e2 : S'.2.1 = S.2.1) (e3 : ∀ Γ : Cx, fv Γ (tyC ci k) (I' a k) (J' a k) (S'.2.2 a k) = cv Γ v) (e4 : ∀ x y, ¬ (x = a ∧ y = k) → I' x y = I x y ∧ J' x y = J x y ∧ S'.2.2 x y = S.2.2 x y)
    (kk : WP Γ M B S' I' J' (pc + 3) ls st Q) : WP Γ M B S I J pc ls (v :: .ref a :: st) Q := by
  intro p e s m args below meth c Z C E H locs cells slots lr hR hS hc hs hl
  obtain ⟨q, hq, hkq, hfl⟩ := hf
  obtain ⟨h0, h1, h2⟩ := hk
  obtain ⟨i, rfl, hi⟩ := bs_map h0 h1
  obtain ⟨c1, c2, c3, c4⟩ := clOK ci q hq
  have hat := hR.at hi
  rw [cE_obj h2 (ci_lt hq)] at hat
  obtain ⟨r, hr, cell, q1, q2, q3, q4⟩ := hat
  cases hr.symm.trans hq
  have hK := C.2.2.2.2.2.1.1
  obtain ⟨hSl, hfc, kC, hkC, hkind⟩ := hK.1 ci _ hq
  obtain ⟨cf, kf, fi, f, hif, hsl⟩ := hSl k hkq
  have hlay := C.2.2.2.2.1 _ (c1 _ (u_in_lay hkq))
  unfold u_lay at hlay
  rw [if_neg (by rw [hfin q hq]; decide)] at hlay
  have hst := (u_facts hfc hkC (u_lays C.2.2.2.2.1 c1 hkq) hif).1
  have h6 := u_store hfc hkC hkind hlay hif (c3 k hkq) (hn Γ) (hfit Γ)
  refine W.putK C.1 C.2.1 (f := f) (v := cv Γ v) ⟨C.2.2.2.1, C.2.2.2.2.1 _ hfl, ⟨_, _, _, hif⟩, hst⟩ (by rw [q2]; exact h6) q1 q3 (by rw [hsl]; exact k2_hasslot (q4 k hkq)) rfl rfl hd fun H1 g1 g2 g3 => ?_
  rw [hsl] at g1 ⊢
  exact kk p e s m args below meth c Z C E H1 _ cells slots lr (gx_put hR C.2.2.2.2.1 hK hq hkq h2 q2 q3 q4 e1 e2 (e3 Γ) e4 g1 g2 g3) (hS.put g2 g3 (by show Γ.1.2.2 ≤ ad Γ (i + 1); rw [ad_s]; omega)) hc hs hl
theorem p_putFV {idx ci k a : Nat} {v : Value} {S' : Sh} {I' : MemI} {J' : MemJ} (hd : decode M.1 pc = .ok (.putfield idx, 3)) (hf : FL M.2.1 idx ci k) (hk : kd S a ci) (hfin : ∀ q : vw_C, vwCl[ci]? = some q → (q.2.1 k).2.2.2 = true ∧ (q.2.1 k).1 = M.2.1) (hin : M.2.2.2.2.2.name = "<init>") (hn : ∀ Γ : Cx, narrow (tyC ci k) (cv Γ v) = cv Γ v) (hfit : ∀ Γ : Cx, fits (tyC ci k) (cv Γ v) = true)
    (e1 : S'.1 = S.1) (e2 : S'.2.1 = S.2.1) (e3 : ∀ Γ : Cx, fv Γ (tyC ci k) (I' a k) (J' a k) (S'.2.2 a k) = cv Γ v) (e4 : ∀ x y, ¬ (x = a ∧ y = k) → I' x y = I x y ∧ J' x y = J x y ∧ S'.2.2 x y = S.2.2 x y)
    (kk : WP Γ M B S' I' J' (pc + 3) ls st Q) : WP Γ M B S I J pc ls (v :: .ref a :: st) Q := by
  intro p e s m args below meth c Z C E H locs cells slots lr hR hS hc hs hl
  obtain ⟨q, hq, hkq, hfl⟩ := hf
  obtain ⟨h0, h1, h2⟩ := hk
  obtain ⟨i, rfl, hi⟩ := bs_map h0 h1
  obtain ⟨c1, c2, c3, c4⟩ := clOK ci q hq
  have hat := hR.at hi
  rw [cE_obj h2 (ci_lt hq)] at hat
  obtain ⟨r, hr, cell, q1, q2, q3, q4⟩ := hat
  cases hr.symm.trans hq
  have hK := C.2.2.2.2.2.1.1
  obtain ⟨hSl, hfc, kC, hkC, hkind⟩ := hK.1 ci _ hq
  obtain ⟨cf, kf, fi, f, hif, hsl⟩ := hSl k hkq
  have hlay := C.2.2.2.2.1 _ (c1 _ (u_in_lay hkq))
  unfold u_lay at hlay
  rw [if_pos (hfin q hq).1] at hlay
  have hst := (u_facts hfc hkC (u_lays C.2.2.2.2.1 c1 hkq) hif).1
  have hcf : m.cls = cf := by
    obtain ⟨_, _, c', _, _, _, -, -, hf', -, -, -, hown2, -⟩ := Cond.laysFinal_spec hlay
    have z1 : c' = cf := by have := hif.symm.trans hf'; simp at this; exact this.1.symm
    rw [(hfin q hq).2] at hown2
    rw [← z1]
    exact Option.some.inj (C.2.2.2.1.symm.trans hown2)
  have h6 := u_fits hfc hkC hkind (Or.inr hlay) hif (c3 k hkq) (hn Γ) (hfit Γ)
  refine W.putFinK C.1 C.2.1 (v := cv Γ v) C.2.2.2.1 (C.2.2.2.2.1 _ hfl) hif hst hcf (C.2.2.2.2.2.2 hin) (by rw [q2]; exact h6) q1 q3 (by rw [hsl]; exact k2_hasslot (q4 k hkq)) rfl rfl hd fun H1 g1 g2 g3 => ?_
  rw [hsl] at g1 ⊢
  exact kk p e s m args below meth c Z C E H1 _ cells slots lr (gx_put hR C.2.2.2.2.1 hK hq hkq h2 q2 q3 q4 e1 e2 (e3 Γ) e4 g1 g2 g3) (hS.put g2 g3 (by show Γ.1.2.2 ≤ ad Γ (i + 1); rw [ad_s]; omega)) hc hs hl
theorem p_putI {idx ci k a : Nat} {x : Int32} (hd : decode M.1 pc = .ok (.putfield idx, 3)) (hf : FL M.2.1 idx ci k) (hk : kd S a ci) (ht : tyC ci k = .int) (hfin : ∀ q : vw_C, vwCl[ci]? = some q → (q.2.1 k).2.2.2 = false) (kk : WP Γ M B S (up2 I a k x) J (pc + 3) ls st Q) : WP Γ M B S I J pc ls (.int x :: .ref a :: st) Q :=
  p_putV (v := .int x) hd hf hk hfin (fun Γ => by rw [ht]; rfl) (fun Γ => by rw [ht]; rfl) rfl rfl (fun Γ => by rw [ht]; simp [up2, fv, cv]) (fun a b h => ⟨by simp only [up2, h, if_false], rfl, rfl⟩) kk
theorem p_putZ {idx ci k a : Nat} {x : Int32} (hd : decode M.1 pc = .ok (.putfield idx, 3)) (hf : FL M.2.1 idx ci k) (hk : kd S a ci) (ht : tyC ci k = .boolean) (hx : x = 0 ∨ x = 1) (hfin : ∀ q : vw_C, vwCl[ci]? = some q → (q.2.1 k).2.2.2 = false) (kk : WP Γ M B S (up2 I a k x) J (pc + 3) ls st Q) : WP Γ M B S I J pc ls (.int x :: .ref a :: st) Q :=
  p_putV (v := .int x) hd hf hk hfin (fun Γ => by rw [ht]; rcases hx with rfl | rfl <;> rfl) (fun Γ => by rw [ht]; rcases hx with rfl | rfl <;> rfl) rfl rfl (fun Γ => by rw [ht]; simp [up2, fv, cv]) (fun a b h => ⟨by simp only [up2, h, if_false], rfl, rfl⟩) kk
theorem p_putJ {idx ci k a : Nat} {x : Int64} (hd : decode M.1 pc = .ok (.putfield idx, 3)) (hf : FL M.2.1 idx ci k) (hk : kd S a ci) (ht : tyC ci k = .long) (hfin : ∀ q : vw_C, vwCl[ci]? = some q → (q.2.1 k).2.2.2 = false) (kk : WP Γ M B S I (upJ J a k x) (pc + 3) ls st Q) : WP Γ M B S I J pc ls (.long x :: .ref a :: st) Q :=
  p_putV (v := .long x) hd hf hk hfin (fun Γ => by rw [ht]; rfl) (fun Γ => by rw [ht]; rfl) rfl rfl (fun Γ => by rw [ht]; simp [upJ, fv, cv]) (fun a b h => ⟨rfl, by simp only [upJ, h, if_false], rfl⟩) kk
theorem p_putR {idx ci k a b : Nat} (hd : decode M.1 pc = .ok (.putfield idx, 3)) (hf : FL M.2.1 idx ci k) (hk : kd S a ci) (ht : isRefTy (tyC ci k) = true) (hfin : ∀ q : vw_C, vwCl[ci]? = some q → (q.2.1 k).2.2.2 = true ∧ (q.2.1 k).1 = M.2.1) (hin : M.2.2.2.2.2.name = "<init>") (kk : WP Γ M B (upP S a k b) I J (pc + 3) ls st Q) : WP Γ M B S I J pc ls (.ref b :: .ref a :: st) Q := by
  refine p_putFV (v := .ref b) (S' := upP S a k b) (I' := I) (J' := J) hd hf hk hfin hin (fun Γ => ?_) (fun Γ => ?_) rfl rfl (fun Γ => ?_) (fun a b h => ⟨rfl, rfl, by simp only [upP, h, if_false]⟩) kk
  · cases h : tyC ci k <;> first | rfl | (rw [h] at ht; simp [isRefTy] at ht)
  · cases h : tyC ci k <;> first | rfl | (rw [h] at ht; simp [isRefTy] at ht)
  · have : (upP S a k b).2.2 a k = some b := by simp [upP]
    rw [this]
    exact fv_ref ht
/-- arrays -/
theorem p_iald {a n : Nat} {i : Int32} (hd : decode M.1 pc = .ok (.iaload, 1)) (ha : ar S a 10 n) (hin : vp_in i n) (kk : WP Γ M B S I J (pc + 1) ls (.int (I a i.toNatClampNeg) :: st) Q) : WP Γ M B S I J pc ls (.int i :: .ref a :: st) Q := by
  intro p e s m args below meth c Z C E H locs cells slots lr hR hS hc hs hl
  obtain ⟨h0, h1, h2⟩ := ha
  obtain ⟨j, rfl, hj⟩ := bs_map h0 h1
  have he : (wsOf Γ S I J)[j]? = some (ad Γ (j + 1), .inl (Γ.2.2.2.1, n, .inl (I (j + 1)))) := by rw [wsOf_get hj, cE_int h2]
  exact va_iald C.1 C.2.1 C.2.2.2.2.2.1.1 hR.2 j 0 he rfl hin hd (kk p e s m args below meth c Z C E H locs cells slots lr hR hS hc hs hl)
theorem p_zald {a n : Nat} {i : Int32} (hd : decode M.1 pc = .ok (.baload, 1)) (ha : ar S a 11 n) (hin : vp_in i n) (kk : WP Γ M B S I J (pc + 1) ls (.int (I a i.toNatClampNeg) :: st) Q) : WP Γ M B S I J pc ls (.int i :: .ref a :: st) Q := by
  intro p e s m args below meth c Z C E H locs cells slots lr hR hS hc hs hl
  obtain ⟨h0, h1, h2⟩ := ha
  obtain ⟨j, rfl, hj⟩ := bs_map h0 h1
  have he : (wsOf Γ S I J)[j]? = some (ad Γ (j + 1), .inl (Γ.2.2.2.2.1, n, .inl (I (j + 1)))) := by rw [wsOf_get hj, cE_bool h2]
  exact va_zald C.1 C.2.1 C.2.2.2.2.2.1.1 hR.2 j 1 he rfl hin hd (kk p e s m args below meth c Z C E H locs cells slots lr hR hS hc hs hl)
theorem p_aald {a n b : Nat} {i : Int32} (hd : decode M.1 pc = .ok (.aaload, 1)) (ha : ar S a 12 n) (hin : vp_in i n) (hb : S.2.2 a i.toNatClampNeg = some b) (kk : WP Γ M B S I J (pc + 1) ls (.ref b :: st) Q) : WP Γ M B S I J pc ls (.int i :: .ref a :: st) Q := by
  intro p e s m args below meth c Z C E H locs cells slots lr hR hS hc hs hl
  obtain ⟨h0, h1, h2⟩ := ha
  obtain ⟨j, rfl, hj⟩ := bs_map h0 h1
  have he : (wsOf Γ S I J)[j]? = some (ad Γ (j + 1), .inl (Γ.2.2.2.2.2, n, .inr (.inr (.inr (.inr (fun k => (S.2.2 (j + 1) k).map (ad Γ))))))) := by rw [wsOf_get hj, cE_ref h2]
  refine va_aldq C.1 C.2.1 C.2.2.2.2.2.1.1 hR.2 j 2 he (C := RX3) rfl hin hd ?_
  rw [hb]
  exact kk p e s m args below meth c Z C E H locs cells slots lr hR hS hc hs hl
theorem p_sld {i : Int32} (hd : decode M.1 pc = .ok (.iaload, 1)) (hin : vp_in i Γ.2.1.1) (kk : WP Γ M B S I J (pc + 1) ls (.int (Γ.2.1.2 i.toNatClampNeg) :: st) Q) : WP Γ M B S I J pc ls (.int i :: .ref 0 :: st) Q := by
  intro p e s m args below meth c Z C E H locs cells slots lr hR hS hc hs hl
  obtain ⟨-, -, -, hX, hb1, hb2⟩ := C.2.2.2.2.2.1
  exact va_sld (b := Γ.1.2.1) C.1 C.2.1 hX (by omega) (by show ¬ Γ.1.2.2 ≤ Γ.1.2.1; omega) hS hin hd (kk p e s m args below meth c Z C E H locs cells slots lr hR hS hc hs hl)
theorem p_slen (hd : decode M.1 pc = .ok (.arraylength, 1)) (kk : WP Γ M B S I J (pc + 1) ls (.int (Int32.ofNat Γ.2.1.1) :: st) Q) : WP Γ M B S I J pc ls (.ref 0 :: st) Q := by
  intro p e s m args below meth c Z C E H locs cells slots lr hR hS hc hs hl
  obtain ⟨-, -, -, hX, hb1, hb2⟩ := C.2.2.2.2.2.1
  exact va_slen (b := Γ.1.2.1) C.1 C.2.1 hX (by omega) (by show ¬ Γ.1.2.2 ≤ Γ.1.2.1; omega) hS hd (kk p e s m args below meth c Z C E H locs cells slots lr hR hS hc hs hl)
theorem up2_row (I : MemI) (a k : Nat) (x : Int32) : up2 I a k x a = upd (I a) k x := by
  funext y
  simp [up2, upd]
theorem p_iast {a n : Nat} {i x : Int32} (hd : decode M.1 pc = .ok (.iastore, 1)) (ha : ar S a 10 n) (hin : vp_in i n) (kk : WP Γ M B S (up2 I a i.toNatClampNeg x) J (pc + 1) ls st Q) : WP Γ M B S I J pc ls (.int x :: .int i :: .ref a :: st) Q := by
  intro p e s m args below meth c Z C E H locs cells slots lr hR hS hc hs hl
  obtain ⟨h0, h1, h2⟩ := ha
  obtain ⟨j, rfl, hj⟩ := bs_map h0 h1
  have hat := hR.at hj
  rw [cE_int h2] at hat
  refine W.iast C.1 C.2.1 hat (((C.2.2.2.2.2.1.1).2 0 _ rfl).1 n _) (fun q => by cases q) (by show ¬ (i < 0 ∨ (arrV _ _ _).slots.size ≤ _); rw [arrV_size]; exact hin) rfl rfl hd fun H1 g1 g2 g3 => ?_
  refine kk p e s m args below meth c Z C E H1 _ cells slots lr (hR.write g2 g3 rfl (fun b hb => cE_congr rfl (fun y => ⟨by simp [up2, hb], rfl, rfl⟩)) ?_) (hS.put g2 g3 (by show Γ.1.2.2 ≤ ad Γ (j + 1); rw [ad_s]; omega)) hc hs hl
  rw [cE_int h2]
  show H1[ad Γ (j + 1)]? = some (vp_cell _ _)
  rw [g1, vp_cell_i, vp_cell_i, arrV_store, up2_row]
  congr 2
  funext q
  by_cases hq : q = i.toNatClampNeg
  · subst hq
    simp [updV, upd]
  · simp [updV, upd, hq]
theorem p_zast {a n : Nat} {i x : Int32} (hd : decode M.1 pc = .ok (.bastore, 1)) (ha : ar S a 11 n) (hin : vp_in i n) (hx : x = 0 ∨ x = 1) (kk : WP Γ M B S (up2 I a i.toNatClampNeg x) J (pc + 1) ls st Q) : WP Γ M B S I J pc ls (.int x :: .int i :: .ref a :: st) Q := by
  intro p e s m args below meth c Z C E H locs cells slots lr hR hS hc hs hl
  obtain ⟨h0, h1, h2⟩ := ha
  obtain ⟨j, rfl, hj⟩ := bs_map h0 h1
  have hat := hR.at hj
  rw [cE_bool h2] at hat
  refine W.zast C.1 C.2.1 hat (((C.2.2.2.2.2.1.1).2 1 _ rfl).1 n _) (fun q => by cases q) (by show ¬ (i < 0 ∨ (arrV _ _ _).slots.size ≤ _); rw [arrV_size]; exact hin) rfl rfl hd fun H1 g1 g2 g3 => ?_
  refine kk p e s m args below meth c Z C E H1 _ cells slots lr (hR.write g2 g3 rfl (fun b hb => cE_congr rfl (fun y => ⟨by simp [up2, hb], rfl, rfl⟩)) ?_) (hS.put g2 g3 (by show Γ.1.2.2 ≤ ad Γ (j + 1); rw [ad_s]; omega)) hc hs hl
  rw [cE_bool h2]
  show H1[ad Γ (j + 1)]? = some (vp_cell _ _)
  have hnx : narrow .boolean (.int x) = .int x := by rcases hx with rfl | rfl <;> rfl
  rw [g1, hnx, vp_cell_i, vp_cell_i, arrV_store, up2_row]
  congr 2
  funext q
  by_cases hq : q = i.toNatClampNeg
  · subst hq
    simp [updV, upd]
  · simp [updV, upd, hq]
theorem p_aast {a n b : Nat} {i : Int32} (hd : decode M.1 pc = .ok (.aastore, 1)) (ha : ar S a 12 n) (hin : vp_in i n) (hb : kd S b 3) (kk : WP Γ M B (upP S a i.toNatClampNeg b) I J (pc + 1) ls st Q) : WP Γ M B S I J pc ls (.ref b :: .int i :: .ref a :: st) Q := by
  intro p e s m args below meth c Z C E H locs cells slots lr hR hS hc hs hl
  obtain ⟨h0, h1, h2⟩ := ha
  obtain ⟨j, rfl, hj⟩ := bs_map h0 h1
  obtain ⟨b0, b1, b2⟩ := hb
  obtain ⟨b', rfl, hb'⟩ := bs_map b0 b1
  have hlt : i.toNatClampNeg < n := Nat.not_le.mp fun q => hin (Or.inr q)
  have hneg : ¬ i < 0 := fun q => hin (Or.inl q)
  have hat := hR.at hj
  rw [cE_ref h2] at hat
  have hbt := hR.at hb'
  rw [cE_obj b2 (by omega)] at hbt
  obtain ⟨r, hr, cellV, q1, q2, q3, -⟩ := hbt
  have hK := C.2.2.2.2.2.1.1
  have hcls := (hK.1 3 _ hr).2
  obtain ⟨kA, comp, k1, k2, k3, -⟩ := (hK.2 2 _ rfl).2
  have hr' : r = (RX3, TX3, 7) := Option.some.inj (hr.symm.trans rfl)
  subst hr'
  have hcomp : comp = Γ.2.2.1.1 3 := Option.some.inj (k3.symm.trans hcls.1)
  subst hcomp
  obtain ⟨kC, hkC, -⟩ := hcls.2
  refine W.aast C.1 C.2.1 hat (fun q h => by cases h) (fun h => by cases h) k1 k2 rfl hkC ⟨hneg, by show _ < (arrV _ _ _).slots.size; rw [arrV_size]; exact hlt⟩ q1 (fun q h => by rw [q3] at h; cases h) (by rw [q2]; exact hkC) (by rw [q2]; exact va_assign hcls) rfl rfl hd fun H1 g1 g2 g3 => ?_
  refine kk p e s m args below meth c Z C E H1 _ cells slots lr (hR.write g2 g3 rfl (fun b hb => cE_congr rfl (fun y => ⟨rfl, rfl, by simp [upP, hb]⟩)) ?_) (hS.put g2 g3 (by show Γ.1.2.2 ≤ ad Γ (j + 1); rw [ad_s]; omega)) hc hs hl
  rw [cE_ref (S := upP S (j + 1) i.toNatClampNeg (b' + 1)) h2]
  show H1[ad Γ (j + 1)]? = some (vp_cell _ _)
  rw [g1, vp_cell_q, vp_cell_q, arrV_store]
  congr 2
  funext q
  by_cases hq : q = i.toNatClampNeg
  · subst hq
    simp [updV, upP, va_rf]
  · simp [updV, upP, hq]
/-- new cells -/
theorem p_new {idx ci N : Nat} {q : vw_C} (hd : decode M.1 pc = .ok (.new idx, 3)) (hq : vwCl[ci]? = some q) (hcl : Cond.classLink M.2.1 idx q.1 ∈ WS) (hins : Cond.instantiable q.1 N ∈ WS) (hini : Cond.initialized q.1 ∈ WS) (hN : N = q.2.2) (hB : 1 ≤ B.1 ∧ N ≤ B.2)
    (kk : WP Γ M (B.1 - 1, B.2 - N) (nwS S ci 0) (nwI S I) (nwJ S J) (pc + 3) ls (.ref (S.1 + 1) :: st) Q) : WP Γ M B S I J pc ls st Q := by
  intro p e s m args below meth c Z C E H locs cells slots lr hR hS hc hs hl
  obtain ⟨c1, c2, c3, c4⟩ := clOK ci q hq
  have hK := C.2.2.2.2.2.1.1
  have hKn := hK.1 ci _ hq
  refine W.newcK C.1 C.2.1 C.2.2.2.1 (C.2.2.2.2.1 _ hcl) (C.2.2.2.2.1 _ hins) (C.2.2.2.2.1 _ hini) rfl hd (by omega) (by omega) hKn.2.1 rfl fun H1 kC hkC g1 g2 g3 => ?_
  have hR1 : Rel Γ (nwS S ci 0) (nwI S I) (nwJ S J) H1 := by
    refine hR.push rfl g2 g3 (fun b hb => cE_congr (by simp [nwS, hb]) (fun y => ⟨by simp [nwI, hb], by simp [nwJ, hb], by simp [nwS, hb]⟩)) ?_
    rw [cE_obj (S := nwS S ci 0) (ci := ci) (by simp [nwS]) (ci_lt hq)]
    refine ⟨q, hq, (u_born (tyC ci) C.2.2.2.2.1 c1 hKn hkC g1 c3).to (fun j hj => ?_)⟩
    rw [fsOf_V (by rw [← c2]; exact hj)]
    simp only [nwI, nwJ, nwS, if_true]
    exact fv_def (tyC_ok ci (ci_lt hq) j (by rw [← c2]; exact hj))
  have hz : H.size = ad Γ (S.1 + 1) := by rw [ad_s]; exact hR.1
  have h3 := kk p e s m args below meth c Z C E H1 locs (cells + 1) (slots + N) lr hR1 ⟨Nat.le_trans hS.1 (by omega), fun x a1 a2 => (g3 x (Nat.lt_of_lt_of_le a1 hS.1)).trans (hS.2.1 x a1 a2), hS.2.2⟩ (by show cells + 1 + (B.1 - 1) ≤ _; omega) (by show slots + N + (B.2 - N) ≤ _; omega) hl
  rw [hz]
  exact h3
theorem p_newI {x : Int32} {N : Nat} (hd : decode M.1 pc = .ok (.newarray .int, 2)) (ha : Cond.arrayClass .int ∈ WS) (hx : ¬ x < 0) (hN : x.toNatClampNeg = N) (hN2 : N ≤ 1000) (hB : 1 ≤ B.1 ∧ N ≤ B.2) (kk : WP Γ M (B.1 - 1, B.2 - N) (nwS S 10 N) (nwI S I) (nwJ S J) (pc + 2) ls (.ref (S.1 + 1) :: st) Q) : WP Γ M B S I J pc ls (.int x :: st) Q := by
  intro p e s m args below meth c Z C E H locs cells slots lr hR hS hc hs hl
  refine va_newaK C.1 C.2.1 (atype := .int) (C.2.2.2.2.1 _ ha) rfl hd rfl hx hN (by show N * 4 ≤ _; omega) (by omega) (by omega) rfl fun H1 cA g1 g2 g3 hAr hNm => ?_
  have hRA := ((C.2.2.2.2.2.1.1).2 0 _ rfl).2
  have hcA : cA = Γ.2.2.2.1 := Option.some.inj (hNm.symm.trans hRA)
  subst hcA
  have hR1 : Rel Γ (nwS S 10 N) (nwI S I) (nwJ S J) H1 := by
    refine hR.push rfl g2 g3 (fun b hb => cE_congr (by simp [nwS, hb]) (fun y => ⟨by simp [nwI, hb], by simp [nwJ, hb], by simp [nwS, hb]⟩)) ?_
    rw [cE_int (S := nwS S 10 N) (n := N) (by simp [nwS])]
    show H1[H.size]? = some (vp_cell _ _)
    rw [g1, vp_cell_i]
    congr 2
    funext j
    simp [nwI]
    rfl
  have hz : H.size = ad Γ (S.1 + 1) := by rw [ad_s]; exact hR.1
  have h3 := kk p e s m args below meth c Z C E H1 locs (cells + 1) (slots + N) lr hR1 ⟨Nat.le_trans hS.1 (by omega), fun x a1 a2 => (g3 x (Nat.lt_of_lt_of_le a1 hS.1)).trans (hS.2.1 x a1 a2), hS.2.2⟩ (by show cells + 1 + (B.1 - 1) ≤ _; omega) (by show slots + N + (B.2 - N) ≤ _; omega) hl
  rw [hz]
  exact h3
theorem p_newZ {x : Int32} {N : Nat} (hd : decode M.1 pc = .ok (.newarray .boolean, 2)) (ha : Cond.arrayClass .boolean ∈ WS) (hx : ¬ x < 0) (hN : x.toNatClampNeg = N) (hN2 : N ≤ 1000) (hB : 1 ≤ B.1 ∧ N ≤ B.2) (kk : WP Γ M (B.1 - 1, B.2 - N) (nwS S 11 N) (nwI S I) (nwJ S J) (pc + 2) ls (.ref (S.1 + 1) :: st) Q) : WP Γ M B S I J pc ls (.int x :: st) Q := by
  intro p e s m args below meth c Z C E H locs cells slots lr hR hS hc hs hl
  refine va_newaK C.1 C.2.1 (atype := .boolean) (C.2.2.2.2.1 _ ha) rfl hd rfl hx hN (by show N * 1 ≤ _; omega) (by omega) (by omega) rfl fun H1 cA g1 g2 g3 hAr hNm => ?_
  have hRA := ((C.2.2.2.2.2.1.1).2 1 _ rfl).2
  have hcA : cA = Γ.2.2.2.2.1 := Option.some.inj (hNm.symm.trans hRA)
  subst hcA
  have hR1 : Rel Γ (nwS S 11 N) (nwI S I) (nwJ S J) H1 := by
    refine hR.push rfl g2 g3 (fun b hb => cE_congr (by simp [nwS, hb]) (fun y => ⟨by simp [nwI, hb], by simp [nwJ, hb], by simp [nwS, hb]⟩)) ?_
    rw [cE_bool (S := nwS S 11 N) (n := N) (by simp [nwS])]
    show H1[H.size]? = some (vp_cell _ _)
    rw [g1, vp_cell_i]
    congr 2
    funext j
    simp [nwI]
    rfl
  have hz : H.size = ad Γ (S.1 + 1) := by rw [ad_s]; exact hR.1
  have h3 := kk p e s m args below meth c Z C E H1 locs (cells + 1) (slots + N) lr hR1 ⟨Nat.le_trans hS.1 (by omega), fun x a1 a2 => (g3 x (Nat.lt_of_lt_of_le a1 hS.1)).trans (hS.2.1 x a1 a2), hS.2.2⟩ (by show cells + 1 + (B.1 - 1) ≤ _; omega) (by show slots + N + (B.2 - N) ≤ _; omega) hl
  rw [hz]
  exact h3
theorem p_newR {x : Int32} {idx N : Nat} (hd : decode M.1 pc = .ok (.anewarray idx, 3)) (hcl : Cond.classLink M.2.1 idx RX3 ∈ WS) (hx : ¬ x < 0) (hN : x.toNatClampNeg = N) (hN2 : N ≤ 1000) (hB : 1 ≤ B.1 ∧ N ≤ B.2) (kk : WP Γ M (B.1 - 1, B.2 - N) (nwS S 12 N) (nwI S I) (nwJ S J) (pc + 3) ls (.ref (S.1 + 1) :: st) Q) : WP Γ M B S I J pc ls (.int x :: st) Q := by
  intro p e s m args below meth c Z C E H locs cells slots lr hR hS hc hs hl
  subst hN
  refine W.anew C.1 C.2.1 C.2.2.2.1 (C.2.2.2.2.1 _ hcl) (va_AO.use C.2.2.2.2.2.1.2.2.1) rfl hd rfl hx (by omega) (by omega) (by omega) fun cA kA comp f1 f2 f3 f4 => ?_
  obtain ⟨kA', comp', k1, k2, k3, k4⟩ := ((C.2.2.2.2.2.1.1).2 2 _ rfl).2
  have hcA : cA = Γ.2.2.2.2.2 := Option.some.inj (f1.symm.trans k4)
  subst hcA
  generalize hH1 : H.push ({ cls := Γ.2.2.2.2.2, slots := Array.replicate x.toNatClampNeg .null, vm := .none } : Cell) = H1
  have g2 : H1.size = H.size + 1 := by rw [← hH1, Array.size_push]
  have g1 : H1[H.size]? = some (arrV Γ.2.2.2.2.2 x.toNatClampNeg (fun _ => .null)) := by rw [← hH1, Array.getElem?_push_size, ← arrV_new]
  have g3 : ∀ q : Nat, q < H.size → H1[q]? = H[q]? := fun q hq => by rw [← hH1, Array.getElem?_push, if_neg (Nat.ne_of_lt hq)]
  have hR1 : Rel Γ (nwS S 12 x.toNatClampNeg) (nwI S I) (nwJ S J) H1 := by
    refine hR.push rfl g2 g3 (fun b hb => cE_congr (by simp [nwS, hb]) (fun y => ⟨by simp [nwI, hb], by simp [nwJ, hb], by simp [nwS, hb]⟩)) ?_
    rw [cE_ref (S := nwS S 12 x.toNatClampNeg) (n := x.toNatClampNeg) (by simp [nwS])]
    show H1[H.size]? = some (vp_cell _ _)
    rw [g1, vp_cell_q]
    congr 2
    funext j
    simp [nwS, va_rf]
  have hz : H.size = ad Γ (S.1 + 1) := by rw [ad_s]; exact hR.1
  have h3 := kk p e s m args below meth c Z C E H1 locs (cells + 1) (slots + x.toNatClampNeg) lr hR1 ⟨Nat.le_trans hS.1 (by omega), fun x a1 a2 => (g3 x (Nat.lt_of_lt_of_le a1 hS.1)).trans (hS.2.1 x a1 a2), hS.2.2⟩ (by show cells + 1 + (B.1 - 1) ≤ _; omega) (by show slots + _ + (B.2 - _) ≤ _; omega) hl
  rw [hz]
  exact h3
end RH
