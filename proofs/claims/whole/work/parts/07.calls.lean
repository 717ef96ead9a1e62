/-! ===== contracts, calls ===== -/
def QcOf (Γ : Cx) (Q : PQ) : Array Value → State → Outcome → State → Prop := fun _ st o t => (∃ (r : Option Value) (S : Sh) (I : MemI) (J : MemJ), o = .returned (r.map (cv Γ)) ∧ Q r S I J ∧ Rel Γ S I J t.heap) ∧ va_F (AF Γ) st t
def PcOf (Γ : Cx) (av : List Value) (S : Sh) (I : MemI) (J : MemJ) : Array Value → State → Prop := va_Pc (av.map (cv Γ)) (fun U => Rel Γ S I J U.heap ∧ SR Γ U)
def wsM (M : MI) : List Cond := Cond.code M.2.2.2.2.2 M.1 M.2.2.1 M.2.2.2.1 :: WS
/-- a method's contract at these arguments, in this state -/
def Ct (Γ : Cx) (M : MI) (av : List Value) (S : Sh) (I : MemI) (J : MemJ) (Q : PQ) : Prop := Met Γ.1.1 M.2.2.2.2.2 (wsM M) M.2.2.2.2.1 (PcOf Γ av S I J) (QcOf Γ Q) M.2.2.2.2.1.cells M.2.2.2.2.1.slots (AF Γ)
/-- just one end -/
def eqQ (r : Option Value) (S : Sh) (I : MemI) (J : MemJ) : PQ := fun r' S' I' J' => r' = r ∧ S' = S ∧ I' = I ∧ J' = J
theorem SR.moved {Γ : Cx} {s U : State} {H : Heap} (h : SR Γ s) (hW : s.WarmedH U.vm) (hU : U.heap = H) {locs : List Loc} (hS : va_S (AF Γ) s.heap H locs) : SR Γ U := by
  obtain ⟨h1, h2, h3, h4, h5, h6⟩ := h
  refine ⟨va_K.moved hW.alike h1, fun a i x z hm => va_Nw.warmM hW (h2 a i x z hm), va_AO.moved hW.alike h3, ?_, h5, by rw [hU]; exact Nat.le_trans h6 hS.1⟩
  refine va_X.moved hW.alike (h4.kept ?_)
  rw [hU]
  exact hS.2.1 _ (by omega) (by show ¬ Γ.1.2.2 ≤ Γ.1.2.1; omega)
theorem SR.same {Γ : Cx} {u U : State} (h : SR Γ u) (hv : u.vm = U.vm) (hh : u.heap = U.heap) : SR Γ U := by
  obtain ⟨h1, h2, h3, h4, h5, h6⟩ := h
  have hA : u.vm.Alike U.vm := by rw [hv]; exact Vm.Alike.refl _
  refine ⟨va_K.moved hA h1, fun a i x z hm => va_Nw.same rfl hv (h2 a i x z hm), va_AO.moved hA h3, ?_, h5, by rw [← hh]; exact h6⟩
  rw [← hh]
  exact va_X.moved hA h4
theorem Pc_blind {Γ : Cx} {av : List Value} {S : Sh} {I : MemI} {J : MemJ} : FrameBlind (PcOf Γ av S I J) := by
  intro a U g mk h
  obtain ⟨h1, h2, h3⟩ := h
  exact ⟨h1, h2, h3.same rfl rfl⟩
theorem Pc_at {Γ : Cx} {av : List Value} {S : Sh} {I : MemI} {J : MemJ} {s U : State} {H : Heap} {locs : List Loc} (hR : Rel Γ S I J H) (hs : SR Γ s) (hS : va_S (AF Γ) s.heap H locs) (hU : U.heap = H) (hW : s.WarmedH U.vm) : PcOf Γ av S I J (av.map (cv Γ)).toArray U :=
  ⟨rfl, by rw [hU]; exact hR, hs.moved hW hU hS⟩
theorem wsM_good {n : Nat} {M : MI} (h : MOK n M) : GoodIn WS (wsM M) := by
  intro w hw
  rcases List.mem_cons.mp hw with rfl | hw
  · exact ws_all _ h.1
  · exact ws_all _ hw
/-- locals at a method's entry -/
def ent (av : List Value) : List Value := av.flatMap fun v => if v.category = 2 then [v, .null] else [v]
theorem ent_args {Γ : Cx} : ∀ (av : List Value) (o i : Nat) (v : Value), (ent av)[i]? = some v → v ≠ .null → (o + i, cv Γ v) ∈ lv_args o (av.map (cv Γ))
  | [], o, i, v, h, _ => by simp [ent] at h
  | w :: av, o, i, v, h, hv => by
    have ih := ent_args (Γ := Γ) av
    by_cases hc : w.category = 2
    · have e : ent (w :: av) = w :: .null :: ent av := by simp [ent, hc]
      rw [e] at h
      show _ ∈ (o, cv Γ w) :: lv_args _ _
      match i, h with
      | 0, h => cases h; exact List.mem_cons_self
      | 1, h => cases h; exact absurd rfl hv
      | i + 2, h =>
        refine List.mem_cons_of_mem _ ?_
        rw [cv_cat, if_pos hc, show o + (i + 2) = (o + 2) + i by omega]
        exact ih (o + 2) i v h hv
    · have e : ent (w :: av) = w :: ent av := by simp [ent, hc]
      rw [e] at h
      show _ ∈ (o, cv Γ w) :: lv_args _ _
      match i, h with
      | 0, h => cases h; exact List.mem_cons_self
      | i + 1, h =>
        refine List.mem_cons_of_mem _ ?_
        rw [cv_cat, if_neg hc, show o + (i + 1) = (o + 1) + i by omega]
        exact ih (o + 1) i v h hv
theorem ent_len {Γ : Cx} (av : List Value) : (lg_sl (av.map (cv Γ))).length = (ent av).length := by
  induction av with
  | nil => rfl
  | cons w av ih =>
    by_cases hc : w.category = 2
    · simp only [lg_sl, ent, List.map_cons, List.flatMap_cons, List.length_append, cv_cat, hc, if_true] at ih ⊢
      simp at ih ⊢
      exact ih
    · simp only [lg_sl, ent, List.map_cons, List.flatMap_cons, List.length_append, cv_cat, hc, if_false] at ih ⊢
      simp at ih ⊢
      exact ih
theorem LR_entry {Γ : Cx} {av : List Value} {n : Nat} {ls : List Value} (hn : (ent av).length ≤ n) (hl : ent av ++ List.replicate (n - (ent av).length) .null = ls) :
    LR Γ ((lg_sl (av.map (cv Γ)) ++ List.replicate (n - (lg_sl (av.map (cv Γ))).length) Slot.unset).toArray) n ls := by
  refine ⟨_, lv_entry (av.map (cv Γ)) (by rw [ent_len]; exact hn), fun i v hi hv => ?_⟩
  rw [← hl] at hi
  by_cases h : i < (ent av).length
  · rw [List.getElem?_append_left h] at hi
    have := ent_args (Γ := Γ) av 0 i v hi hv
    rwa [Nat.zero_add] at this
  · rw [List.getElem?_append_right (by omega), List.getElem?_replicate] at hi
    split at hi
    · cases hi; exact absurd rfl hv
    · cases hi
/-- a method's contract out of its body -/
theorem ct_of {Γ : Cx} {M : MI} {av : List Value} {S : Sh} {I : MemI} {J : MemJ} {Q : PQ} (ls : List Value) (hpl : plainName M.2.2.2.2.2.cls = true) (how : M.2.1 = M.2.2.2.2.2.cls) (hn : (ent av).length ≤ M.2.2.1) (hl : ent av ++ List.replicate (M.2.2.1 - (ent av).length) .null = ls)
    (h : WP Γ M (M.2.2.2.2.1.cells, M.2.2.2.2.1.slots) S I J 0 ls [] Q) : Ct Γ M av S I J Q := by
  refine Met.ofW (cc := M.1) (maxL := M.2.2.1) (ret := M.2.2.2.1) hpl rfl ?_
  intro p e s m args below meth c s₁ Bd hml hv
  obtain ⟨rfl, hR, hsr⟩ := hv
  have hts := atoms_spec (ws := wsM M) Bd.pre
  have hown : s.vm.findClass M.2.1 = some m.cls := by rw [how]; exact findClass_of_methodNamed Bd.named
  have hlocks := Bd.notSynchronized
  have hC : CT Γ M p s m (av.map (cv Γ)).toArray meth c := ⟨Bd.exec, Bd.bytes, hml, hown, fun w hw => hts w (List.mem_cons_of_mem _ hw), hsr, fun hi => (name_of_methodNamed Bd.named Bd.method).1.trans hi⟩
  rw [lg_entry_eq]
  refine h p e s m _ below meth c _ hC ?_ s.heap [] 0 0 _ hR va_S.rf (by simp) (by simp) (LR_entry hn hl)
  intro r S' I' J' hQ H locs cells slots lr pc hR' hS hc hs hrt
  refine W.widen hc hs ?_
  match r, hrt with
  | none, hrt => exact W.vret Bd.exec Bd.bytes (Bd.returns.trans hrt.2) (fun t ht hW => ⟨⟨none, S', I', J', rfl, hQ, by rw [ht]; exact hR'⟩, hS.F ht⟩) hS.2.2 hrt.1
  | some (.int v), hrt =>
    obtain ⟨hd, ty, hty, hnw⟩ := hrt
    exact W.zret Bd.exec Bd.bytes (Bd.returns.trans hty) hnw (fun t ht hW => ⟨⟨some (.int v), S', I', J', rfl, hQ, by rw [ht]; exact hR'⟩, hS.F ht⟩) hS.2.2 hd
  | some (.long v), hrt => exact W.lret Bd.exec Bd.bytes (Bd.returns.trans hrt.2) (fun t ht hW => ⟨⟨some (.long v), S', I', J', rfl, hQ, by rw [ht]; exact hR'⟩, hS.F ht⟩) hS.2.2 hrt.1
  | some (.null), hrt => exact hrt.elim
  | some (.ref _), hrt => exact hrt.elim
  | some (.float _), hrt => exact hrt.elim
  | some (.double _), hrt => exact hrt.elim
section RC
variable {Γ : Cx} {M N : MI} {B B' : Nat × Nat} {S : Sh} {I : MemI} {J : MemJ} {pc : Nat} {ls st rest : List Value} {Q Q1 : PQ}
theorem gx_call {p : Program} {e : Env} {R : Room} {s : State} {m : MethodId} {args a : Array Value} {below : List Frame} {meth : Method} {c : Code} {H : Heap} {locs : List Loc} {cells slots mc ms : Nat} {Z : State → Prop} {lr : Array Slot} {st0 rs : List Value}
    (hr : va_Run p Γ.1.1 e R s m args below meth c H locs cells slots mc ms (F0 m pc lr st0) rs (QcOf Γ Q1 a) (AF Γ)) (hS : va_S (AF Γ) s.heap H locs)
    (kk : ∀ (r : Option Value) (S : Sh) (I : MemI) (J : MemJ) (H1 : Heap) (locs1 : List Loc), Q1 r S I J → Rel Γ S I J H1 → va_S (AF Γ) s.heap H1 locs1 → W p Γ.1.1 e R s m args below meth c H1 locs1 (cells + mc) (slots + ms) Z (F0 m (pc + 3) lr (r.toList.map (cv Γ) ++ rs))) :
    W p Γ.1.1 e R s m args below meth c H locs cells slots Z (F0 m pc lr st0) := by
  intro T hT X
  obtain ⟨v, st₀, t, T', L, h0, X', hL, e1, e2, ⟨⟨r, S', I', J', hv, hQ, hR'⟩, hz, hk⟩, go⟩ := hr T hT X
  rw [h0] at hz hk
  have hv' : v = r.map (cv Γ) := by cases hv; rfl
  subst hv'
  obtain ⟨t2, a1, b1⟩ := kk r S' I' J' T'.heap (locs ++ L) hQ (by rw [e1]; exact hR') ⟨Nat.le_trans hS.1 (by rw [e1]; exact hz), fun q h1 h2 => by rw [e1, hk q (Nat.lt_of_lt_of_le h1 hS.1) h2]; exact hS.2.1 q h1 h2, fun q hq => by
      rcases List.mem_append.mp hq with h | h
      · exact hS.2.2 q h
      · exact hL q h⟩ T' rfl X'
  refine ⟨t2, go t2 ?_, b1⟩
  have e3 : (r.map (cv Γ)).toList ++ rs = r.toList.map (cv Γ) ++ rs := by cases r <;> rfl
  show Steps p.tables e below (T'.setTop (F0 m (pc + 3) lr ((r.map (cv Γ)).toList ++ rs))) t2
  rw [e3]
  exact a1
/-- rooms, and the stack that is left -/
def RmOK (M N : MI) : Prop := N.2.2.2.2.1.frames + 1 ≤ M.2.2.2.2.1.frames ∧ 8 + (N.2.2.1 + 11) + N.2.2.2.2.1.locals ≤ M.2.2.2.2.1.locals
def stOK (rest : List Value) : Prop := (rest.map fun v => v.category).sum ≤ 8
theorem stOK_cv (h : stOK rest) : ((rest.map (cv Γ)).map fun v => v.category).sum ≤ 8 := by
  rw [List.map_map]
  simpa [Function.comp_def, cv_cat, stOK] using h
theorem map_rev (av rest : List Value) : (av.reverse ++ rest).map (cv Γ) = (av.map (cv Γ)).reverse ++ rest.map (cv Γ) := by simp
theorem map_rev1 (v : Value) (av rest : List Value) : ((v :: av).reverse ++ rest).map (cv Γ) = (av.map (cv Γ)).reverse ++ cv Γ v :: rest.map (cv Γ) := by simp
theorem map_res (r : Option Value) (rest : List Value) : r.toList.map (cv Γ) ++ rest.map (cv Γ) = (r.toList ++ rest).map (cv Γ) := by simp
theorem p_invV {idx ci n a : Nat} {av : List Value} {q : vw_C} (hd : decode M.1 pc = .ok (.invokevirtual idx, 3)) (hl0 : Cond.methodLink M.2.1 idx N.2.2.2.2.2 ∈ WS) (hok : MOK n N) (hv : MV N) (hn : av.length = n) (hk : kd S a ci) (hq : vwCl[ci]? = some q) (hC : q.1 = N.2.2.2.2.2.cls) (hrm : RmOK M N) (hst : stOK rest)
    (hB : N.2.2.2.2.1.cells + B'.1 ≤ B.1 ∧ N.2.2.2.2.1.slots + B'.2 ≤ B.2) (hc : Ct Γ N (.ref a :: av) S I J Q1) (kk : ∀ r S' I' J', Q1 r S' I' J' → WP Γ M B' S' I' J' (pc + 3) ls (r.toList ++ rest) Q) : WP Γ M B S I J pc ls ((.ref a :: av).reverse ++ rest) Q := by
  intro p e s m args below meth c Z C E H locs cells slots lr hR hS hc1 hs1 hl
  obtain ⟨h0, h1, h2⟩ := hk
  obtain ⟨i, rfl, hi⟩ := bs_map h0 h1
  have hat := hR.at hi
  rw [cE_obj h2 (ci_lt hq)] at hat
  obtain ⟨r, hr, cell, q1, q2, q3, -⟩ := hat
  cases hr.symm.trans hq
  have hts := C.2.2.2.2.1
  rw [map_rev1]
  refine gx_call (va_runV (As := av.map (cv Γ)) (rest := rest.map (cv Γ)) (C := N.2.2.2.2.2.cls) (n := n) ⟨C.1, C.2.1, C.2.2.1, C.2.2.2.1, hts⟩ hc ⟨callB_of n hts (wsM_good hok) rfl rfl rfl (hts _ hok.2.1) (hts _ hl0) hok.2.2 hrm, hts _ hv.1, hts _ hv.2⟩ ⟨Pc_blind, ⟨cell, q1, by rw [q3]; rfl, ?_⟩, fun U hU hW => Pc_at hR C.2.2.2.2.2.1 hS hU hW⟩ rfl (by simpa using hn) hl.size rfl (lv_room (stOK_cv hst)) hd ⟨by omega, by omega⟩) hS (fun r S' I' J' H1 locs1 hQ hR1 hS1 => ?_)
  · rw [← hC, q2]
    exact ((C.2.2.2.2.2.1.1).1 ci _ hq).2.1
  · rw [map_res]
    exact kk r S' I' J' hQ p e s m args below meth c Z C E H1 locs1 _ _ lr hR1 hS1 (by omega) (by omega) hl
theorem p_invS {idx n : Nat} {av : List Value} (hd : decode M.1 pc = .ok (.invokestatic idx, 3)) (hl0 : Cond.methodLink M.2.1 idx N.2.2.2.2.2 ∈ WS) (hok : MOK n N) (hv : Cond.static N.2.2.2.2.2 ∈ WS) (hn : av.length = n) (hrm : RmOK M N) (hst : stOK rest)
    (hB : N.2.2.2.2.1.cells + B'.1 ≤ B.1 ∧ N.2.2.2.2.1.slots + B'.2 ≤ B.2) (hc : Ct Γ N av S I J Q1) (kk : ∀ r S' I' J', Q1 r S' I' J' → WP Γ M B' S' I' J' (pc + 3) ls (r.toList ++ rest) Q) : WP Γ M B S I J pc ls (av.reverse ++ rest) Q := by
  intro p e s m args below meth c Z C E H locs cells slots lr hR hS hc1 hs1 hl
  have hts := C.2.2.2.2.1
  rw [map_rev]
  refine gx_call (va_runS (As := av.map (cv Γ)) (rest := rest.map (cv Γ)) (n := n) ⟨C.1, C.2.1, C.2.2.1, C.2.2.2.1, hts⟩ hc ⟨callB_of n hts (wsM_good hok) rfl rfl rfl (hts _ hok.2.1) (hts _ hl0) hok.2.2 hrm, hts _ hv⟩ ⟨Pc_blind, fun U hU hW => Pc_at hR C.2.2.2.2.2.1 hS hU hW⟩ rfl (by simpa using hn) hl.size rfl (lv_room (stOK_cv hst)) hd ⟨by omega, by omega⟩) hS (fun r S' I' J' H1 locs1 hQ hR1 hS1 => ?_)
  rw [map_res]
  exact kk r S' I' J' hQ p e s m args below meth c Z C E H1 locs1 _ _ lr hR1 hS1 (by omega) (by omega) hl
theorem p_invSN {idx n : Nat} {av : List Value} {host : String} (hd : decode M.1 pc = .ok (.invokestatic idx, 3)) (hl0 : Cond.methodLinkNest M.2.1 idx N.2.2.2.2.2 host ∈ tables_1) (hok : MOK n N) (hv : Cond.static N.2.2.2.2.2 ∈ WS) (hn : av.length = n) (hrm : RmOK M N) (hst : stOK rest)
    (hB : N.2.2.2.2.1.cells + B'.1 ≤ B.1 ∧ N.2.2.2.2.1.slots + B'.2 ≤ B.2) (hc : Ct Γ N av S I J Q1) (kk : ∀ r S' I' J', Q1 r S' I' J' → WP Γ M B' S' I' J' (pc + 3) ls (r.toList ++ rest) Q) : WP Γ M B S I J pc ls (av.reverse ++ rest) Q := by
  intro p e s m args below meth c Z C E H locs cells slots lr hR hS hc1 hs1 hl
  have hts := C.2.2.2.2.1
  rw [map_rev]
  refine gx_call (va_runSN (As := av.map (cv Γ)) (rest := rest.map (cv Γ)) (n := n) ⟨C.1, C.2.1, C.2.2.1, C.2.2.2.1, hts⟩ hc ⟨va_cnB n hts (wsM_good hok) rfl rfl rfl (C.2.2.2.2.2.1.2.1 _ _ _ _ hl0) (hts _ hok.2.1) hok.2.2 hrm, hts _ hv, trivial⟩ ⟨Pc_blind, fun U hU hW => Pc_at hR C.2.2.2.2.2.1 hS hU hW⟩ rfl (by simpa using hn) hl.size rfl (lv_room (stOK_cv hst)) hd ⟨by omega, by omega⟩) hS (fun r S' I' J' H1 locs1 hQ hR1 hS1 => ?_)
  rw [map_res]
  exact kk r S' I' J' hQ p e s m args below meth c Z C E H1 locs1 _ _ lr hR1 hS1 (by omega) (by omega) hl
theorem p_invI {idx n a : Nat} {av : List Value} (hd : decode M.1 pc = .ok (.invokespecial idx, 3)) (hl0 : Cond.methodLink M.2.1 idx N.2.2.2.2.2 ∈ WS) (hok : MOK n N) (hv : Cond.instanceMethod N.2.2.2.2.2 ∈ WS) (hnm : N.2.2.2.2.2.name = "<init>") (hret : N.2.2.2.1 = none) (hn : av.length = n) (hrm : RmOK M N) (hst : stOK rest)
    (hB : N.2.2.2.2.1.cells + B'.1 ≤ B.1 ∧ N.2.2.2.2.1.slots + B'.2 ≤ B.2) (hc : Ct Γ N (.ref a :: av) S I J Q1) (kk : ∀ r S' I' J', Q1 r S' I' J' → WP Γ M B' S' I' J' (pc + 3) ls (r.toList ++ rest) Q) : WP Γ M B S I J pc ls ((.ref a :: av).reverse ++ rest) Q := by
  intro p e s m args below meth c Z C E H locs cells slots lr hR hS hc1 hs1 hl
  have hts := C.2.2.2.2.1
  rw [map_rev1]
  refine gx_call (va_runI (As := av.map (cv Γ)) (rest := rest.map (cv Γ)) (n := n) ⟨C.1, C.2.1, C.2.2.1, C.2.2.2.1, hts⟩ hc ⟨callB_of n hts (wsM_good hok) (by unfold wsM; rw [hret]) rfl rfl (hts _ hok.2.1) (hts _ hl0) hok.2.2 hrm, hnm, hts _ hv⟩ ⟨Pc_blind, fun U hU hW => Pc_at (av := .ref a :: av) hR C.2.2.2.2.2.1 hS hU hW⟩ rfl (by simpa using hn) hl.size rfl (lv_room (stOK_cv hst)) hd ⟨by omega, by omega⟩) hS (fun r S' I' J' H1 locs1 hQ hR1 hS1 => ?_)
  rw [map_res]
  exact kk r S' I' J' hQ p e s m args below meth c Z C E H1 locs1 _ _ lr hR1 hS1 (by omega) (by omega) hl
theorem p_invIN {idx n a : Nat} {av : List Value} {host : String} (hd : decode M.1 pc = .ok (.invokespecial idx, 3)) (hl0 : Cond.methodLinkNest M.2.1 idx N.2.2.2.2.2 host ∈ tables_1) (hok : MOK n N) (hv : Cond.instanceMethod N.2.2.2.2.2 ∈ WS) (hnm : N.2.2.2.2.2.name = "<init>") (hret : N.2.2.2.1 = none) (hn : av.length = n) (hrm : RmOK M N) (hst : stOK rest)
    (hB : N.2.2.2.2.1.cells + B'.1 ≤ B.1 ∧ N.2.2.2.2.1.slots + B'.2 ≤ B.2) (hc : Ct Γ N (.ref a :: av) S I J Q1) (kk : ∀ r S' I' J', Q1 r S' I' J' → WP Γ M B' S' I' J' (pc + 3) ls (r.toList ++ rest) Q) : WP Γ M B S I J pc ls ((.ref a :: av).reverse ++ rest) Q := by
  intro p e s m args below meth c Z C E H locs cells slots lr hR hS hc1 hs1 hl
  have hts := C.2.2.2.2.1
  rw [map_rev1]
  refine gx_call (va_runIN (As := av.map (cv Γ)) (rest := rest.map (cv Γ)) (n := n) ⟨C.1, C.2.1, C.2.2.1, C.2.2.2.1, hts⟩ hc ⟨va_cnB n hts (wsM_good hok) (by unfold wsM; rw [hret]) rfl rfl (C.2.2.2.2.2.1.2.1 _ _ _ _ hl0) (hts _ hok.2.1) hok.2.2 hrm, hnm, hts _ hv⟩ ⟨Pc_blind, fun U hU hW => Pc_at (av := .ref a :: av) hR C.2.2.2.2.2.1 hS hU hW⟩ rfl (by simpa using hn) hl.size rfl (lv_room (stOK_cv hst)) hd ⟨by omega, by omega⟩) hS (fun r S' I' J' H1 locs1 hQ hR1 hS1 => ?_)
  rw [map_res]
  exact kk r S' I' J' hQ p e s m args below meth c Z C E H1 locs1 _ _ lr hR1 hS1 (by omega) (by omega) hl
theorem p_objInit {idx a : Nat} (hd : decode M.1 pc = .ok (.invokespecial idx, 3)) (hl0 : Cond.methodLink M.2.1 idx objectInit ∈ WS) (hi : Cond.instanceMethod objectInit ∈ WS) (hcd : Cond.code objectInit ⟨#[0xb1]⟩ 1 none ∈ WS) (hf : 1 ≤ M.2.2.2.2.1.frames) (hw : (st.map fun v => v.category).sum + 12 ≤ M.2.2.2.2.1.locals)
    (kk : WP Γ M B S I J (pc + 3) ls st Q) : WP Γ M B S I J pc ls (.ref a :: st) Q := by
  intro p e s m args below meth c Z C E H locs cells slots lr hR hS hc1 hs1 hl
  have hts := C.2.2.2.2.1
  have hw' : ((st.map (cv Γ)).map fun v => v.category).sum + 12 ≤ M.2.2.2.2.1.locals := by
    rw [List.map_map]
    simpa [Function.comp_def, cv_cat] using hw
  exact W.objInit C.1 C.2.1 C.2.2.2.1 (hts _ hl0) (hts _ hi) (hts _ hcd) rfl (by rw [C.2.2.1]; exact hl.size) rfl hd hf (by show 2 * 0 + _ + 12 ≤ _; omega) (kk p e s m args below meth c Z C E H locs cells slots lr hR hS hc1 hs1 hl)
end RC
