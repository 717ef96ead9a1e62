/-! ===== the judgement: from an abstract state in a method's body the machine comes to the method's end, with Q ===== -/
def NS (U : State) : Prop := ∀ (a : String) (i : Nat) (x : MethodName) (h : String), Cond.methodLinkNest a i x h ∈ tables_1 → va_Nw (.methodLinkNest a i x h) U
def tysOf (Γ : Cx) : List (ClassId × FieldType) := [(Γ.2.2.2.1, .int), (Γ.2.2.2.2.1, .boolean), (Γ.2.2.2.2.2, .object RX3)]
def SR (Γ : Cx) (U : State) : Prop := va_K Γ.2.2.1 vwCl (tysOf Γ) U ∧ NS U ∧ va_AO RX3 U ∧ va_X Γ.1.2.1 Γ.2.1.1 Γ.2.1.2 U U.heap ∧ Γ.1.2.1 < Γ.1.2.2 ∧ Γ.1.2.2 ≤ U.heap.size
def CT (Γ : Cx) (M : MI) (p : Program) (s : State) (m : MethodId) (args : Array Value) (meth : Method) (c : Code) : Prop :=
  p.tables.exec = Jvm.exec ∧ c.code = M.1 ∧ c.maxLocals = M.2.2.1 ∧ s.vm.findClass M.2.1 = some m.cls ∧ (∀ w ∈ WS, w.before args s = true) ∧ SR Γ s ∧ (M.2.2.2.2.2.name = "<init>" → meth.name = "<init>")
def RT (M : MI) (r : Option Value) (pc : Nat) : Prop := match r with
  | none => decode M.1 pc = .ok (.return_, 1) ∧ M.2.2.2.1 = none
  | some (.int v) => decode M.1 pc = .ok (.ireturn, 1) ∧ ∃ ty, M.2.2.2.1 = some ty ∧ narrow ty (.int v) = .int v
  | some (.long _) => decode M.1 pc = .ok (.lreturn, 1) ∧ M.2.2.2.1 = some .long
  | _ => False
def EN (Γ : Cx) (M : MI) (p : Program) (e : Env) (s : State) (m : MethodId) (args : Array Value) (below : List Frame) (meth : Method) (c : Code) (Q : PQ) (Z : State → Prop) : Prop :=
  ∀ (r : Option Value) (S : Sh) (I : MemI) (J : MemJ), Q r S I J → ∀ (H : Heap) (locs : List Loc) (cells slots : Nat) (lr : Array Slot) (pc : Nat), Rel Γ S I J H → va_S (AF Γ) s.heap H locs → cells ≤ M.2.2.2.2.1.cells → slots ≤ M.2.2.2.2.1.slots → RT M r pc →
    W p Γ.1.1 e M.2.2.2.2.1 s m args below meth c H locs cells slots Z (F0 m pc lr (r.toList.map (cv Γ)))
def LR (Γ : Cx) (lr : Array Slot) (n : Nat) (ls : List Value) : Prop := ∃ l, lv_has lr n l ∧ ∀ (i : Nat) (v : Value), ls[i]? = some v → v ≠ .null → (i, cv Γ v) ∈ l
def WP (Γ : Cx) (M : MI) (B : Nat × Nat) (S : Sh) (I : MemI) (J : MemJ) (pc : Nat) (ls st : List Value) (Q : PQ) : Prop :=
  ∀ (p : Program) (e : Env) (s : State) (m : MethodId) (args : Array Value) (below : List Frame) (meth : Method) (c : Code) (Z : State → Prop), CT Γ M p s m args meth c → EN Γ M p e s m args below meth c Q Z →
    ∀ (H : Heap) (locs : List Loc) (cells slots : Nat) (lr : Array Slot), Rel Γ S I J H → va_S (AF Γ) s.heap H locs → cells + B.1 ≤ M.2.2.2.2.1.cells → slots + B.2 ≤ M.2.2.2.2.1.slots → LR Γ lr M.2.2.1 ls →
    W p Γ.1.1 e M.2.2.2.2.1 s m args below meth c H locs cells slots Z (F0 m pc lr (st.map (cv Γ)))
theorem LR.get {Γ : Cx} {lr : Array Slot} {n i : Nat} {ls : List Value} {v : Value} (h : LR Γ lr n ls) (hi : ls[i]? = some v) (hv : v ≠ .null) : lr[i]? = some (.val (cv Γ v)) := by
  obtain ⟨l, h1, h2⟩ := h
  exact h1.2.2 (i, cv Γ v) (h2 i v hi hv)
theorem LR.size {Γ : Cx} {lr : Array Slot} {n : Nat} {ls : List Value} (h : LR Γ lr n ls) : lr.size = n := by
  obtain ⟨l, h1, -⟩ := h
  exact h1.1
theorem cv_cat (Γ : Cx) (v : Value) : (cv Γ v).category = v.category := by cases v <;> rfl
section RU
variable {Γ : Cx} {M : MI} {B : Nat × Nat} {S : Sh} {I : MemI} {J : MemJ} {pc : Nat} {ls st : List Value} {Q : PQ}
theorem p_post {Q' : PQ} (hQ : ∀ r S I J, Q' r S I J → Q r S I J) (k : WP Γ M B S I J pc ls st Q') : WP Γ M B S I J pc ls st Q :=
  fun p e s m args below meth c Z C E => k p e s m args below meth c Z C (fun r S I J h => E r S I J (hQ r S I J h))
theorem p_conv {S' : Sh} {I' : MemI} {J' : MemJ} (hs : S'.1 = S.1) (ho : ∀ Γ : Cx, ∀ b, 0 < b → b ≤ S.1 → cE Γ S' I' J' b = cE Γ S I J b) (k : WP Γ M B S' I' J' pc ls st Q) : WP Γ M B S I J pc ls st Q :=
  fun p e s m args below meth c Z C E H locs cells slots lr hR => k p e s m args below meth c Z C E H locs cells slots lr (hR.conv hs (ho Γ))
theorem p_B {B' : Nat × Nat} (h1 : B'.1 ≤ B.1) (h2 : B'.2 ≤ B.2) (k : WP Γ M B' S I J pc ls st Q) : WP Γ M B S I J pc ls st Q :=
  fun p e s m args below meth c Z C E H locs cells slots lr hR hS hc hs => k p e s m args below meth c Z C E H locs cells slots lr hR hS (by omega) (by omega)
/-- the end -/
theorem p_iret {v : Int32} {ty : FieldType} (hd : decode M.1 pc = .ok (.ireturn, 1)) (ht : M.2.2.2.1 = some ty) (hn : narrow ty (.int v) = .int v) (hQ : Q (some (.int v)) S I J) : WP Γ M B S I J pc ls [.int v] Q :=
  fun _ _ _ _ _ _ _ _ _ _ E H locs cells slots lr hR hS hc hs _ => E _ _ _ _ hQ H locs cells slots lr pc hR hS (by omega) (by omega) ⟨hd, ty, ht, hn⟩
theorem p_lret {v : Int64} (hd : decode M.1 pc = .ok (.lreturn, 1)) (ht : M.2.2.2.1 = some .long) (hQ : Q (some (.long v)) S I J) : WP Γ M B S I J pc ls [.long v] Q :=
  fun _ _ _ _ _ _ _ _ _ _ E H locs cells slots lr hR hS hc hs _ => E _ _ _ _ hQ H locs cells slots lr pc hR hS (by omega) (by omega) ⟨hd, ht⟩
theorem p_ret (hd : decode M.1 pc = .ok (.return_, 1)) (ht : M.2.2.2.1 = none) (hQ : Q none S I J) : WP Γ M B S I J pc ls [] Q :=
  fun _ _ _ _ _ _ _ _ _ _ E H locs cells slots lr hR hS hc hs _ => E _ _ _ _ hQ H locs cells slots lr pc hR hS (by omega) (by omega) ⟨hd, ht⟩
/-- constants -/
theorem p_iconst {n : Int} {v : Int32} (hd : decode M.1 pc = .ok (.iconst n, 1)) (hv : Int32.ofInt n = v) (k : WP Γ M B S I J (pc + 1) ls (.int v :: st) Q) : WP Γ M B S I J pc ls st Q :=
  fun p e s m args below meth c Z C E H locs cells slots lr hR hS hc hs hl => lv_iconst C.1 C.2.1 hd hv (k p e s m args below meth c Z C E H locs cells slots lr hR hS hc hs hl)
theorem p_bipush {n : Int} {v : Int32} (hd : decode M.1 pc = .ok (.bipush n, 2)) (hv : (Int8.ofInt n).toInt32 = v) (k : WP Γ M B S I J (pc + 2) ls (.int v :: st) Q) : WP Γ M B S I J pc ls st Q :=
  fun p e s m args below meth c Z C E H locs cells slots lr hR hS hc hs hl => lv_bipush C.1 C.2.1 hd hv (k p e s m args below meth c Z C E H locs cells slots lr hR hS hc hs hl)
theorem p_sipush {n : Int} {v : Int32} (hd : decode M.1 pc = .ok (.sipush n, 3)) (hv : (Int16.ofInt n).toInt32 = v) (k : WP Γ M B S I J (pc + 3) ls (.int v :: st) Q) : WP Γ M B S I J pc ls st Q :=
  fun p e s m args below meth c Z C E H locs cells slots lr hR hS hc hs hl => lv_sipush C.1 C.2.1 hd hv (k p e s m args below meth c Z C E H locs cells slots lr hR hS hc hs hl)
theorem p_lconst {n : Fin 2} {v : Int64} (hd : decode M.1 pc = .ok (.lconst n, 1)) (hv : Int64.ofNat (n : Nat) = v) (k : WP Γ M B S I J (pc + 1) ls (.long v :: st) Q) : WP Γ M B S I J pc ls st Q :=
  fun p e s m args below meth c Z C E H locs cells slots lr hR hS hc hs hl => lv_lconst C.1 C.2.1 hd hv (k p e s m args below meth c Z C E H locs cells slots lr hR hS hc hs hl)
theorem p_ldc {i : Nat} {v : Int32} (hd : decode M.1 pc = .ok (.ldc i, 2)) (hk : Cond.constant M.2.1 i v ∈ WS) (k : WP Γ M B S I J (pc + 2) ls (.int v :: st) Q) : WP Γ M B S I J pc ls st Q :=
  fun p e s m args below meth c Z C E H locs cells slots lr hR hS hc hs hl => lv_ldc C.1 C.2.1 C.2.2.2.1 (C.2.2.2.2.1 _ hk) hd (k p e s m args below meth c Z C E H locs cells slots lr hR hS hc hs hl)
theorem p_ldcw {i : Nat} {v : Int32} (hd : decode M.1 pc = .ok (.ldc_w i, 3)) (hk : Cond.constant M.2.1 i v ∈ WS) (k : WP Γ M B S I J (pc + 3) ls (.int v :: st) Q) : WP Γ M B S I J pc ls st Q :=
  fun p e s m args below meth c Z C E H locs cells slots lr hR hS hc hs hl => lv_ldcw C.1 C.2.1 C.2.2.2.1 (C.2.2.2.2.1 _ hk) hd (k p e s m args below meth c Z C E H locs cells slots lr hR hS hc hs hl)
theorem p_ldc2 {i : Nat} {v : Int64} (hd : decode M.1 pc = .ok (.ldc2_w i, 3)) (hk : Cond.constantLong M.2.1 i v ∈ WS) (k : WP Γ M B S I J (pc + 3) ls (.long v :: st) Q) : WP Γ M B S I J pc ls st Q :=
  fun p e s m args below meth c Z C E H locs cells slots lr hR hS hc hs hl => lv_ldc2 C.1 C.2.1 C.2.2.2.1 (C.2.2.2.2.1 _ hk) hd (k p e s m args below meth c Z C E H locs cells slots lr hR hS hc hs hl)
/-- loads -/
theorem p_iload_n {i : Fin 4} {x : Int32} (hd : decode M.1 pc = .ok (.iload_n i, 1)) (h : ls[(i : Nat)]? = some (.int x)) (k : WP Γ M B S I J (pc + 1) ls (.int x :: st) Q) : WP Γ M B S I J pc ls st Q :=
  fun p e s m args below meth c Z C E H locs cells slots lr hR hS hc hs hl => lv_iload_n C.1 C.2.1 hd rfl (hl.get h (fun q => by cases q)) (k p e s m args below meth c Z C E H locs cells slots lr hR hS hc hs hl)
theorem p_iload {i : Nat} {x : Int32} (hd : decode M.1 pc = .ok (.iload i, 2)) (h : ls[i]? = some (.int x)) (k : WP Γ M B S I J (pc + 2) ls (.int x :: st) Q) : WP Γ M B S I J pc ls st Q :=
  fun p e s m args below meth c Z C E H locs cells slots lr hR hS hc hs hl => lv_iload C.1 C.2.1 hd (hl.get h (fun q => by cases q)) (k p e s m args below meth c Z C E H locs cells slots lr hR hS hc hs hl)
theorem p_lload_n {i : Fin 4} {x : Int64} (hd : decode M.1 pc = .ok (.lload_n i, 1)) (h : ls[(i : Nat)]? = some (.long x)) (k : WP Γ M B S I J (pc + 1) ls (.long x :: st) Q) : WP Γ M B S I J pc ls st Q :=
  fun p e s m args below meth c Z C E H locs cells slots lr hR hS hc hs hl => lv_lload_n C.1 C.2.1 hd rfl (hl.get h (fun q => by cases q)) (k p e s m args below meth c Z C E H locs cells slots lr hR hS hc hs hl)
theorem p_lload {i : Nat} {x : Int64} (hd : decode M.1 pc = .ok (.lload i, 2)) (h : ls[i]? = some (.long x)) (k : WP Γ M B S I J (pc + 2) ls (.long x :: st) Q) : WP Γ M B S I J pc ls st Q :=
  fun p e s m args below meth c Z C E H locs cells slots lr hR hS hc hs hl => lv_lload C.1 C.2.1 hd (hl.get h (fun q => by cases q)) (k p e s m args below meth c Z C E H locs cells slots lr hR hS hc hs hl)
theorem p_aload_n {i : Fin 4} {x : Nat} (hd : decode M.1 pc = .ok (.aload_n i, 1)) (h : ls[(i : Nat)]? = some (.ref x)) (k : WP Γ M B S I J (pc + 1) ls (.ref x :: st) Q) : WP Γ M B S I J pc ls st Q :=
  fun p e s m args below meth c Z C E H locs cells slots lr hR hS hc hs hl => lv_aload_n C.1 C.2.1 hd rfl (hl.get h (fun q => by cases q)) (k p e s m args below meth c Z C E H locs cells slots lr hR hS hc hs hl)
theorem p_aload {i : Nat} {x : Nat} (hd : decode M.1 pc = .ok (.aload i, 2)) (h : ls[i]? = some (.ref x)) (k : WP Γ M B S I J (pc + 2) ls (.ref x :: st) Q) : WP Γ M B S I J pc ls st Q :=
  fun p e s m args below meth c Z C E H locs cells slots lr hR hS hc hs hl => lv_aload C.1 C.2.1 hd (hl.get h (fun q => by cases q)) (k p e s m args below meth c Z C E H locs cells slots lr hR hS hc hs hl)
/-- stores: the slot ahead holds no long -/
def clr (ls : List Value) (i : Nat) : Prop := ∀ v, ls[i - 1]? = some v → 0 < i → v.category = 1
theorem LR.set1 {Γ : Cx} {lr lr' : Array Slot} {n i : Nat} {ls : List Value} {v : Value} {l : List (Nat × Value)} (hc : clr ls i) (h2 : ∀ (j : Nat) (w : Value), ls[j]? = some w → w ≠ .null → (j, cv Γ w) ∈ l)
    (h : lv_has lr' n ((i, cv Γ v) :: l.filter (fun q => !(q.1 == i) && !(q.1 + 1 == i && q.2.category == 2)))) : LR Γ lr' n (ls.set i v) := by
  refine ⟨_, h, fun j w hj hw => ?_⟩
  by_cases e : i = j
  · subst e
    have hl : i < ls.length := by
      have := (List.getElem?_eq_some_iff.mp hj).1
      rwa [List.length_set] at this
    rw [List.getElem?_set_self hl] at hj
    cases hj
    exact List.mem_cons_self
  · rw [List.getElem?_set_ne e] at hj
    refine List.mem_cons_of_mem _ (List.mem_filter.mpr ⟨h2 j w hj hw, ?_⟩)
    have e1 : (j == i) = false := by simp; omega
    by_cases e2 : j + 1 = i
    · have := hc w (by rw [show i - 1 = j by omega]; exact hj) (by omega)
      simp [e1, cv_cat, this]
    · have e3 : (j + 1 == i) = false := by simp; omega
      simp [e1, e3]
theorem LR.set2 {Γ : Cx} {lr lr' : Array Slot} {n i : Nat} {ls : List Value} {v : Value} {l : List (Nat × Value)} (hc : clr ls i) (h2 : ∀ (j : Nat) (w : Value), ls[j]? = some w → w ≠ .null → (j, cv Γ w) ∈ l)
    (h : lv_has lr' n ((i, cv Γ v) :: l.filter (fun q => !(q.1 == i) && (!(q.1 == i + 1) && !(q.1 + 1 == i && q.2.category == 2))))) : LR Γ lr' n ((ls.set i v).set (i + 1) .null) := by
  refine ⟨_, h, fun j w hj hw => ?_⟩
  by_cases e0 : i + 1 = j
  · subst e0
    have hl : i + 1 < (ls.set i v).length := by
      have := (List.getElem?_eq_some_iff.mp hj).1
      rwa [List.length_set] at this
    rw [List.getElem?_set_self hl] at hj
    cases hj
    exact absurd rfl hw
  rw [List.getElem?_set_ne e0] at hj
  by_cases e : i = j
  · subst e
    have hl : i < ls.length := by
      have := (List.getElem?_eq_some_iff.mp hj).1
      rwa [List.length_set] at this
    rw [List.getElem?_set_self hl] at hj
    cases hj
    exact List.mem_cons_self
  · rw [List.getElem?_set_ne e] at hj
    refine List.mem_cons_of_mem _ (List.mem_filter.mpr ⟨h2 j w hj hw, ?_⟩)
    have e1 : (j == i) = false := by simp; omega
    have e4 : (j == i + 1) = false := by simp; omega
    by_cases e2 : j + 1 = i
    · have := hc w (by rw [show i - 1 = j by omega]; exact hj) (by omega)
      simp [e1, e4, cv_cat, this]
    · have e3 : (j + 1 == i) = false := by simp; omega
      simp [e1, e4, e3]
theorem p_istore_n {i : Fin 4} {x : Int32} (hd : decode M.1 pc = .ok (.istore_n i, 1)) (hn : (i : Nat) < M.2.2.1) (hc : clr ls i) (k : WP Γ M B S I J (pc + 1) (ls.set i (.int x)) st Q) : WP Γ M B S I J pc ls (.int x :: st) Q :=
  fun p e s m args below meth c Z C E H locs cells slots lr hR hS hc1 hs hl => by
    obtain ⟨l, h1, h2⟩ := hl
    exact lv_istore_n C.1 C.2.1 hd rfl h1 hn rfl (fun lr' hl' => k p e s m args below meth c Z C E H locs cells slots lr' hR hS hc1 hs (LR.set1 (lr := lr) (v := .int x) hc h2 hl'))
theorem p_istore {i : Nat} {x : Int32} (hd : decode M.1 pc = .ok (.istore i, 2)) (hn : i < M.2.2.1) (hc : clr ls i) (k : WP Γ M B S I J (pc + 2) (ls.set i (.int x)) st Q) : WP Γ M B S I J pc ls (.int x :: st) Q :=
  fun p e s m args below meth c Z C E H locs cells slots lr hR hS hc1 hs hl => by
    obtain ⟨l, h1, h2⟩ := hl
    exact lv_istore C.1 C.2.1 hd h1 hn rfl (fun lr' hl' => k p e s m args below meth c Z C E H locs cells slots lr' hR hS hc1 hs (LR.set1 (lr := lr) (v := .int x) hc h2 hl'))
theorem p_astore_n {i : Fin 4} {x : Nat} (hd : decode M.1 pc = .ok (.astore_n i, 1)) (hn : (i : Nat) < M.2.2.1) (hc : clr ls i) (k : WP Γ M B S I J (pc + 1) (ls.set i (.ref x)) st Q) : WP Γ M B S I J pc ls (.ref x :: st) Q :=
  fun p e s m args below meth c Z C E H locs cells slots lr hR hS hc1 hs hl => by
    obtain ⟨l, h1, h2⟩ := hl
    exact lv_astore_n C.1 C.2.1 hd rfl h1 hn rfl (fun lr' hl' => k p e s m args below meth c Z C E H locs cells slots lr' hR hS hc1 hs (LR.set1 (lr := lr) (v := .ref x) hc h2 hl'))
theorem p_lstore_n {i : Fin 4} {x : Int64} (hd : decode M.1 pc = .ok (.lstore_n i, 1)) (hn : (i : Nat) + 1 < M.2.2.1) (hc : clr ls i) (k : WP Γ M B S I J (pc + 1) ((ls.set i (.long x)).set (i + 1) .null) st Q) : WP Γ M B S I J pc ls (.long x :: st) Q :=
  fun p e s m args below meth c Z C E H locs cells slots lr hR hS hc1 hs hl => by
    obtain ⟨l, h1, h2⟩ := hl
    exact lv_lstore_n C.1 C.2.1 hd rfl h1 hn rfl (fun lr' hl' => k p e s m args below meth c Z C E H locs cells slots lr' hR hS hc1 hs (LR.set2 (lr := lr) (v := .long x) hc h2 hl'))
theorem p_lstore {i : Nat} {x : Int64} (hd : decode M.1 pc = .ok (.lstore i, 2)) (hn : i + 1 < M.2.2.1) (hc : clr ls i) (k : WP Γ M B S I J (pc + 2) ((ls.set i (.long x)).set (i + 1) .null) st Q) : WP Γ M B S I J pc ls (.long x :: st) Q :=
  fun p e s m args below meth c Z C E H locs cells slots lr hR hS hc1 hs hl => by
    obtain ⟨l, h1, h2⟩ := hl
    exact lv_lstore C.1 C.2.1 hd h1 hn rfl (fun lr' hl' => k p e s m args below meth c Z C E H locs cells slots lr' hR hS hc1 hs (LR.set2 (lr := lr) (v := .long x) hc h2 hl'))
theorem p_iinc {i : Nat} {n : Int} {x v : Int32} (hd : decode M.1 pc = .ok (.iinc i n, 3)) (hx : ls[i]? = some (.int x)) (hv : x + Int32.ofInt n = v) (hn : i < M.2.2.1) (hc : clr ls i) (k : WP Γ M B S I J (pc + 3) (ls.set i (.int v)) st Q) : WP Γ M B S I J pc ls st Q :=
  fun p e s m args below meth c Z C E H locs cells slots lr hR hS hc1 hs hl => by
    obtain ⟨l, h1, h2⟩ := hl
    obtain ⟨j, hj⟩ := List.getElem?_of_mem (h2 i _ hx (fun q => by cases q))
    exact lv_iinc C.1 C.2.1 hd h1 hj hv hn rfl (fun lr' hl' => k p e s m args below meth c Z C E H locs cells slots lr' hR hS hc1 hs (LR.set1 (lr := lr) (v := .int v) hc h2 hl'))
/-- arithmetic -/
theorem p_iadd {x y : Int32} (hd : decode M.1 pc = .ok (.iadd, 1)) (k : WP Γ M B S I J (pc + 1) ls (.int (x + y) :: st) Q) : WP Γ M B S I J pc ls (.int y :: .int x :: st) Q :=
  fun p e s m args below meth c Z C E H locs cells slots lr hR hS hc hs hl => lv_iadd C.1 C.2.1 hd (k p e s m args below meth c Z C E H locs cells slots lr hR hS hc hs hl)
theorem p_isub {x y : Int32} (hd : decode M.1 pc = .ok (.isub, 1)) (k : WP Γ M B S I J (pc + 1) ls (.int (x - y) :: st) Q) : WP Γ M B S I J pc ls (.int y :: .int x :: st) Q :=
  fun p e s m args below meth c Z C E H locs cells slots lr hR hS hc hs hl => lv_isub C.1 C.2.1 hd (k p e s m args below meth c Z C E H locs cells slots lr hR hS hc hs hl)
theorem p_imul {x y : Int32} (hd : decode M.1 pc = .ok (.imul, 1)) (k : WP Γ M B S I J (pc + 1) ls (.int (x * y) :: st) Q) : WP Γ M B S I J pc ls (.int y :: .int x :: st) Q :=
  fun p e s m args below meth c Z C E H locs cells slots lr hR hS hc hs hl => lv_imul C.1 C.2.1 hd (k p e s m args below meth c Z C E H locs cells slots lr hR hS hc hs hl)
theorem p_iand {x y : Int32} (hd : decode M.1 pc = .ok (.iand, 1)) (k : WP Γ M B S I J (pc + 1) ls (.int (x &&& y) :: st) Q) : WP Γ M B S I J pc ls (.int y :: .int x :: st) Q :=
  fun p e s m args below meth c Z C E H locs cells slots lr hR hS hc hs hl => lv_iand C.1 C.2.1 hd (k p e s m args below meth c Z C E H locs cells slots lr hR hS hc hs hl)
theorem p_ior {x y : Int32} (hd : decode M.1 pc = .ok (.ior, 1)) (k : WP Γ M B S I J (pc + 1) ls (.int (x ||| y) :: st) Q) : WP Γ M B S I J pc ls (.int y :: .int x :: st) Q :=
  fun p e s m args below meth c Z C E H locs cells slots lr hR hS hc hs hl => lv_ior C.1 C.2.1 hd (k p e s m args below meth c Z C E H locs cells slots lr hR hS hc hs hl)
theorem p_ixor {x y : Int32} (hd : decode M.1 pc = .ok (.ixor, 1)) (k : WP Γ M B S I J (pc + 1) ls (.int (x ^^^ y) :: st) Q) : WP Γ M B S I J pc ls (.int y :: .int x :: st) Q :=
  fun p e s m args below meth c Z C E H locs cells slots lr hR hS hc hs hl => lv_ixor C.1 C.2.1 hd (k p e s m args below meth c Z C E H locs cells slots lr hR hS hc hs hl)
theorem p_idiv {x y : Int32} (hd : decode M.1 pc = .ok (.idiv, 1)) (hy : ¬ y = 0) (k : WP Γ M B S I J (pc + 1) ls (.int (x / y) :: st) Q) : WP Γ M B S I J pc ls (.int y :: .int x :: st) Q :=
  fun p e s m args below meth c Z C E H locs cells slots lr hR hS hc hs hl => lv_idiv C.1 C.2.1 hd hy (k p e s m args below meth c Z C E H locs cells slots lr hR hS hc hs hl)
theorem p_irem {x y : Int32} (hd : decode M.1 pc = .ok (.irem, 1)) (hy : ¬ y = 0) (k : WP Γ M B S I J (pc + 1) ls (.int (x - x / y * y) :: st) Q) : WP Γ M B S I J pc ls (.int y :: .int x :: st) Q :=
  fun p e s m args below meth c Z C E H locs cells slots lr hR hS hc hs hl => lv_irem C.1 C.2.1 hd hy (k p e s m args below meth c Z C E H locs cells slots lr hR hS hc hs hl)
theorem p_ineg {x : Int32} (hd : decode M.1 pc = .ok (.ineg, 1)) (k : WP Γ M B S I J (pc + 1) ls (.int (-x) :: st) Q) : WP Γ M B S I J pc ls (.int x :: st) Q :=
  fun p e s m args below meth c Z C E H locs cells slots lr hR hS hc hs hl => lv_ineg C.1 C.2.1 hd (k p e s m args below meth c Z C E H locs cells slots lr hR hS hc hs hl)
theorem p_ishl {x y : Int32} (hd : decode M.1 pc = .ok (.ishl, 1)) (k : WP Γ M B S I J (pc + 1) ls (.int (x <<< (y &&& 31)) :: st) Q) : WP Γ M B S I J pc ls (.int y :: .int x :: st) Q :=
  fun p e s m args below meth c Z C E H locs cells slots lr hR hS hc hs hl => lv_ishl C.1 C.2.1 hd (k p e s m args below meth c Z C E H locs cells slots lr hR hS hc hs hl)
theorem p_ishr {x y : Int32} (hd : decode M.1 pc = .ok (.ishr, 1)) (k : WP Γ M B S I J (pc + 1) ls (.int (x >>> (y &&& 31)) :: st) Q) : WP Γ M B S I J pc ls (.int y :: .int x :: st) Q :=
  fun p e s m args below meth c Z C E H locs cells slots lr hR hS hc hs hl => lv_ishr C.1 C.2.1 hd (k p e s m args below meth c Z C E H locs cells slots lr hR hS hc hs hl)
theorem p_iushr {x y : Int32} (hd : decode M.1 pc = .ok (.iushr, 1)) (k : WP Γ M B S I J (pc + 1) ls (.int ((x.toUInt32 >>> (y.toUInt32 &&& Int32.toUInt32 31)).toInt32) :: st) Q) : WP Γ M B S I J pc ls (.int y :: .int x :: st) Q :=
  fun p e s m args below meth c Z C E H locs cells slots lr hR hS hc hs hl => lv_iushr C.1 C.2.1 hd rfl (k p e s m args below meth c Z C E H locs cells slots lr hR hS hc hs hl)
theorem p_i2l {x : Int32} (hd : decode M.1 pc = .ok (.i2l, 1)) (k : WP Γ M B S I J (pc + 1) ls (.long x.toInt64 :: st) Q) : WP Γ M B S I J pc ls (.int x :: st) Q :=
  fun p e s m args below meth c Z C E H locs cells slots lr hR hS hc hs hl => lv_i2l C.1 C.2.1 hd rfl (k p e s m args below meth c Z C E H locs cells slots lr hR hS hc hs hl)
theorem p_ladd {x y : Int64} (hd : decode M.1 pc = .ok (.ladd, 1)) (k : WP Γ M B S I J (pc + 1) ls (.long (x + y) :: st) Q) : WP Γ M B S I J pc ls (.long y :: .long x :: st) Q :=
  fun p e s m args below meth c Z C E H locs cells slots lr hR hS hc hs hl => lv_ladd C.1 C.2.1 hd (k p e s m args below meth c Z C E H locs cells slots lr hR hS hc hs hl)
theorem p_lmul {x y : Int64} (hd : decode M.1 pc = .ok (.lmul, 1)) (k : WP Γ M B S I J (pc + 1) ls (.long (x * y) :: st) Q) : WP Γ M B S I J pc ls (.long y :: .long x :: st) Q :=
  fun p e s m args below meth c Z C E H locs cells slots lr hR hS hc hs hl => lv_lmul C.1 C.2.1 hd (k p e s m args below meth c Z C E H locs cells slots lr hR hS hc hs hl)
theorem p_ldiv {x y : Int64} (hd : decode M.1 pc = .ok (.ldiv, 1)) (hy : ¬ y = 0) (k : WP Γ M B S I J (pc + 1) ls (.long (x / y) :: st) Q) : WP Γ M B S I J pc ls (.long y :: .long x :: st) Q :=
  fun p e s m args below meth c Z C E H locs cells slots lr hR hS hc hs hl => lv_ldiv C.1 C.2.1 hd hy (k p e s m args below meth c Z C E H locs cells slots lr hR hS hc hs hl)
theorem p_lrem {x y : Int64} (hd : decode M.1 pc = .ok (.lrem, 1)) (hy : ¬ y = 0) (k : WP Γ M B S I J (pc + 1) ls (.long (x - x / y * y) :: st) Q) : WP Γ M B S I J pc ls (.long y :: .long x :: st) Q :=
  fun p e s m args below meth c Z C E H locs cells slots lr hR hS hc hs hl => lv_lrem C.1 C.2.1 hd hy (k p e s m args below meth c Z C E H locs cells slots lr hR hS hc hs hl)
theorem p_lcmp {x y : Int64} (hd : decode M.1 pc = .ok (.lcmp, 1)) (k : WP Γ M B S I J (pc + 1) ls (.int (lg_cmp x y) :: st) Q) : WP Γ M B S I J pc ls (.long y :: .long x :: st) Q :=
  fun p e s m args below meth c Z C E H locs cells slots lr hR hS hc hs hl => W.lcmp C.1 C.2.1 hd (k p e s m args below meth c Z C E H locs cells slots lr hR hS hc hs hl)
/-- the stack -/
theorem p_dup {v : Value} (hd : decode M.1 pc = .ok (.dup, 1)) (hv : v.category = 1) (k : WP Γ M B S I J (pc + 1) ls (v :: v :: st) Q) : WP Γ M B S I J pc ls (v :: st) Q :=
  fun p e s m args below meth c Z C E H locs cells slots lr hR hS hc hs hl => lv_dup C.1 C.2.1 hd (by rw [cv_cat]; exact hv) (k p e s m args below meth c Z C E H locs cells slots lr hR hS hc hs hl)
theorem p_pop {v : Value} (hd : decode M.1 pc = .ok (.pop, 1)) (hv : v.category = 1) (k : WP Γ M B S I J (pc + 1) ls st Q) : WP Γ M B S I J pc ls (v :: st) Q :=
  fun p e s m args below meth c Z C E H locs cells slots lr hR hS hc hs hl => lv_pop C.1 C.2.1 hd (va := cv Γ v) (by rw [cv_cat]; exact hv) (k p e s m args below meth c Z C E H locs cells slots lr hR hS hc hs hl)
theorem p_dup2 {v w : Value} (hd : decode M.1 pc = .ok (.dup2, 1)) (hv : v.category = 1) (hw : w.category = 1) (k : WP Γ M B S I J (pc + 1) ls (v :: w :: v :: w :: st) Q) : WP Γ M B S I J pc ls (v :: w :: st) Q :=
  fun p e s m args below meth c Z C E H locs cells slots lr hR hS hc hs hl => lv_dup2_11 C.1 C.2.1 hd (by rw [cv_cat]; exact hv) (by rw [cv_cat]; exact hw) (k p e s m args below meth c Z C E H locs cells slots lr hR hS hc hs hl)
theorem p_goto {off : Int} {tgt : Nat} (hd : decode M.1 pc = .ok (.goto off, 3)) (ht : (pc : Int) + off = (tgt : Int)) (k : WP Γ M B S I J tgt ls st Q) : WP Γ M B S I J pc ls st Q :=
  fun p e s m args below meth c Z C E H locs cells slots lr hR hS hc hs hl => lv_goto C.1 C.2.1 hd ht (k p e s m args below meth c Z C E H locs cells slots lr hR hS hc hs hl)
theorem p_ifeq {x : Int32} {off : Int} {tgt : Nat} (hd : decode M.1 pc = .ok (.ifCond .eq off, 3)) (ht : (pc : Int) + off = (tgt : Int)) (kt : x = 0 → WP Γ M B S I J tgt ls st Q) (kf : ¬ x = 0 → WP Γ M B S I J (pc + 3) ls st Q) : WP Γ M B S I J pc ls (.int x :: st) Q :=
  fun p e s m args below meth c Z C E H locs cells slots lr hR hS hc hs hl => lv_if_eq C.1 C.2.1 hd ht (fun q => kt q p e s m args below meth c Z C E H locs cells slots lr hR hS hc hs hl) (fun q => kf q p e s m args below meth c Z C E H locs cells slots lr hR hS hc hs hl)
theorem p_icmpeq {x y : Int32} {off : Int} {tgt : Nat} (hd : decode M.1 pc = .ok (.if_icmp .eq off, 3)) (ht : (pc : Int) + off = (tgt : Int)) (kt : x = y → WP Γ M B S I J tgt ls st Q) (kf : ¬ x = y → WP Γ M B S I J (pc + 3) ls st Q) : WP Γ M B S I J pc ls (.int y :: .int x :: st) Q :=
  fun p e s m args below meth c Z C E H locs cells slots lr hR hS hc hs hl => lv_icmp_eq C.1 C.2.1 hd ht (fun q => kt q p e s m args below meth c Z C E H locs cells slots lr hR hS hc hs hl) (fun q => kf q p e s m args below meth c Z C E H locs cells slots lr hR hS hc hs hl)
theorem p_ifne {x : Int32} {off : Int} {tgt : Nat} (hd : decode M.1 pc = .ok (.ifCond .ne off, 3)) (ht : (pc : Int) + off = (tgt : Int)) (kt : ¬ x = 0 → WP Γ M B S I J tgt ls st Q) (kf : x = 0 → WP Γ M B S I J (pc + 3) ls st Q) : WP Γ M B S I J pc ls (.int x :: st) Q :=
  fun p e s m args below meth c Z C E H locs cells slots lr hR hS hc hs hl => lv_if_ne C.1 C.2.1 hd ht (fun q => kt q p e s m args below meth c Z C E H locs cells slots lr hR hS hc hs hl) (fun q => kf q p e s m args below meth c Z C E H locs cells slots lr hR hS hc hs hl)
theorem p_icmpne {x y : Int32} {off : Int} {tgt : Nat} (hd : decode M.1 pc = .ok (.if_icmp .ne off, 3)) (ht : (pc : Int) + off = (tgt : Int)) (kt : ¬ x = y → WP Γ M B S I J tgt ls st Q) (kf : x = y → WP Γ M B S I J (pc + 3) ls st Q) : WP Γ M B S I J pc ls (.int y :: .int x :: st) Q :=
  fun p e s m args below meth c Z C E H locs cells slots lr hR hS hc hs hl => lv_icmp_ne C.1 C.2.1 hd ht (fun q => kt q p e s m args below meth c Z C E H locs cells slots lr hR hS hc hs hl) (fun q => kf q p e s m args below meth c Z C E H locs cells slots lr hR hS hc hs hl)
theorem p_iflt {x : Int32} {off : Int} {tgt : Nat} (hd : decode M.1 pc = .ok (.ifCond .lt off, 3)) (ht : (pc : Int) + off = (tgt : Int)) (kt : x < 0 → WP Γ M B S I J tgt ls st Q) (kf : ¬ x < 0 → WP Γ M B S I J (pc + 3) ls st Q) : WP Γ M B S I J pc ls (.int x :: st) Q :=
  fun p e s m args below meth c Z C E H locs cells slots lr hR hS hc hs hl => lv_if_lt C.1 C.2.1 hd ht (fun q => kt q p e s m args below meth c Z C E H locs cells slots lr hR hS hc hs hl) (fun q => kf q p e s m args below meth c Z C E H locs cells slots lr hR hS hc hs hl)
theorem p_icmplt {x y : Int32} {off : Int} {tgt : Nat} (hd : decode M.1 pc = .ok (.if_icmp .lt off, 3)) (ht : (pc : Int) + off = (tgt : Int)) (kt : x < y → WP Γ M B S I J tgt ls st Q) (kf : ¬ x < y → WP Γ M B S I J (pc + 3) ls st Q) : WP Γ M B S I J pc ls (.int y :: .int x :: st) Q :=
  fun p e s m args below meth c Z C E H locs cells slots lr hR hS hc hs hl => lv_icmp_lt C.1 C.2.1 hd ht (fun q => kt q p e s m args below meth c Z C E H locs cells slots lr hR hS hc hs hl) (fun q => kf q p e s m args below meth c Z C E H locs cells slots lr hR hS hc hs hl)
theorem p_ifge {x : Int32} {off : Int} {tgt : Nat} (hd : decode M.1 pc = .ok (.ifCond .ge off, 3)) (ht : (pc : Int) + off = (tgt : Int)) (kt : 0 ≤ x → WP Γ M B S I J tgt ls st Q) (kf : ¬ 0 ≤ x → WP Γ M B S I J (pc + 3) ls st Q) : WP Γ M B S I J pc ls (.int x :: st) Q :=
  fun p e s m args below meth c Z C E H locs cells slots lr hR hS hc hs hl => lv_if_ge C.1 C.2.1 hd ht (fun q => kt q p e s m args below meth c Z C E H locs cells slots lr hR hS hc hs hl) (fun q => kf q p e s m args below meth c Z C E H locs cells slots lr hR hS hc hs hl)
theorem p_icmpge {x y : Int32} {off : Int} {tgt : Nat} (hd : decode M.1 pc = .ok (.if_icmp .ge off, 3)) (ht : (pc : Int) + off = (tgt : Int)) (kt : y ≤ x → WP Γ M B S I J tgt ls st Q) (kf : ¬ y ≤ x → WP Γ M B S I J (pc + 3) ls st Q) : WP Γ M B S I J pc ls (.int y :: .int x :: st) Q :=
  fun p e s m args below meth c Z C E H locs cells slots lr hR hS hc hs hl => lv_icmp_ge C.1 C.2.1 hd ht (fun q => kt q p e s m args below meth c Z C E H locs cells slots lr hR hS hc hs hl) (fun q => kf q p e s m args below meth c Z C E H locs cells slots lr hR hS hc hs hl)
theorem p_ifgt {x : Int32} {off : Int} {tgt : Nat} (hd : decode M.1 pc = .ok (.ifCond .gt off, 3)) (ht : (pc : Int) + off = (tgt : Int)) (kt : 0 < x → WP Γ M B S I J tgt ls st Q) (kf : ¬ 0 < x → WP Γ M B S I J (pc + 3) ls st Q) : WP Γ M B S I J pc ls (.int x :: st) Q :=
  fun p e s m args below meth c Z C E H locs cells slots lr hR hS hc hs hl => lv_if_gt C.1 C.2.1 hd ht (fun q => kt q p e s m args below meth c Z C E H locs cells slots lr hR hS hc hs hl) (fun q => kf q p e s m args below meth c Z C E H locs cells slots lr hR hS hc hs hl)
theorem p_icmpgt {x y : Int32} {off : Int} {tgt : Nat} (hd : decode M.1 pc = .ok (.if_icmp .gt off, 3)) (ht : (pc : Int) + off = (tgt : Int)) (kt : y < x → WP Γ M B S I J tgt ls st Q) (kf : ¬ y < x → WP Γ M B S I J (pc + 3) ls st Q) : WP Γ M B S I J pc ls (.int y :: .int x :: st) Q :=
  fun p e s m args below meth c Z C E H locs cells slots lr hR hS hc hs hl => lv_icmp_gt C.1 C.2.1 hd ht (fun q => kt q p e s m args below meth c Z C E H locs cells slots lr hR hS hc hs hl) (fun q => kf q p e s m args below meth c Z C E H locs cells slots lr hR hS hc hs hl)
theorem p_ifle {x : Int32} {off : Int} {tgt : Nat} (hd : decode M.1 pc = .ok (.ifCond .le off, 3)) (ht : (pc : Int) + off = (tgt : Int)) (kt : x ≤ 0 → WP Γ M B S I J tgt ls st Q) (kf : ¬ x ≤ 0 → WP Γ M B S I J (pc + 3) ls st Q) : WP Γ M B S I J pc ls (.int x :: st) Q :=
  fun p e s m args below meth c Z C E H locs cells slots lr hR hS hc hs hl => lv_if_le C.1 C.2.1 hd ht (fun q => kt q p e s m args below meth c Z C E H locs cells slots lr hR hS hc hs hl) (fun q => kf q p e s m args below meth c Z C E H locs cells slots lr hR hS hc hs hl)
theorem p_icmple {x y : Int32} {off : Int} {tgt : Nat} (hd : decode M.1 pc = .ok (.if_icmp .le off, 3)) (ht : (pc : Int) + off = (tgt : Int)) (kt : x ≤ y → WP Γ M B S I J tgt ls st Q) (kf : ¬ x ≤ y → WP Γ M B S I J (pc + 3) ls st Q) : WP Γ M B S I J pc ls (.int y :: .int x :: st) Q :=
  fun p e s m args below meth c Z C E H locs cells slots lr hR hS hc hs hl => lv_icmp_le C.1 C.2.1 hd ht (fun q => kt q p e s m args below meth c Z C E H locs cells slots lr hR hS hc hs hl) (fun q => kf q p e s m args below meth c Z C E H locs cells slots lr hR hS hc hs hl)
theorem p_lookup {dflt : Int} {ps : Array (Int × Int)} {len : Nat} {x : Int32} {off : Int} {tgt : Nat} (hd : decode M.1 pc = .ok (.lookupswitch dflt ps, len)) (hp : (ps.toList.zip (ps.toList.drop 1)).all (fun (a, next) => a.1 < next.1) = true) (ho : Op.lookupswitch.offset ps.toList dflt x.toInt = off) (ht : (pc : Int) + off = (tgt : Int)) (k : WP Γ M B S I J tgt ls st Q) : WP Γ M B S I J pc ls (.int x :: st) Q :=
  fun p e s m args below meth c Z C E H locs cells slots lr hR hS hc hs hl => lv_lookup C.1 C.2.1 hd hp ho ht (k p e s m args below meth c Z C E H locs cells slots lr hR hS hc hs hl)
theorem p_tabOut {dflt lo hi : Int} {offs : Array Int} {len : Nat} {x : Int32} {tgt : Nat} (hd : decode M.1 pc = .ok (.tableswitch dflt lo hi offs, len)) (h : x.toInt < lo ∨ hi < x.toInt) (ht : (pc : Int) + dflt = (tgt : Int)) (k : WP Γ M B S I J tgt ls st Q) : WP Γ M B S I J pc ls (.int x :: st) Q :=
  fun p e s m args below meth c Z C E H locs cells slots lr hR hS hc hs hl => lv_tableOut C.1 C.2.1 hd h ht (k p e s m args below meth c Z C E H locs cells slots lr hR hS hc hs hl)
theorem p_tabIn {dflt lo hi : Int} {offs : Array Int} {len : Nat} {x : Int32} {off : Int} {tgt : Nat} (hd : decode M.1 pc = .ok (.tableswitch dflt lo hi offs, len)) (h1 : ¬ x.toInt < lo) (h2 : ¬ hi < x.toInt) (ho : offs[(x.toInt - lo).toNat]? = some off) (ht : (pc : Int) + off = (tgt : Int)) (k : WP Γ M B S I J tgt ls st Q) : WP Γ M B S I J pc ls (.int x :: st) Q :=
  fun p e s m args below meth c Z C E H locs cells slots lr hR hS hc hs hl => lv_tableIn C.1 C.2.1 hd h1 h2 ho ht (k p e s m args below meth c Z C E H locs cells slots lr hR hS hc hs hl)
/-- Math -/
theorem p_max {i : Nat} {x y : Int32} (hd : decode M.1 pc = .ok (.invokestatic i, 3)) (hl0 : Cond.methodLink M.2.1 i M_Ma_max.2.2.2.2.2 ∈ WS) (hf : 1 ≤ M.2.2.2.2.1.frames) (hw : (st.map fun v => v.category).sum + 13 ≤ M.2.2.2.2.1.locals) (k : WP Γ M B S I J (pc + 3) ls (.int (if x < y then y else x) :: st) Q) : WP Γ M B S I J pc ls (.int y :: .int x :: st) Q :=
  fun p e s m args below meth c Z C E H locs cells slots lr hR hS hc hs hl => va_mmax C.1 C.2.1 (by rw [C.2.2.1, hl.size]) C.2.2.2.1 (C.2.2.2.2.1 _ hl0) (C.2.2.2.2.1 _ st_Ma_max) (C.2.2.2.2.1 _ ii_Ma) (C.2.2.2.2.1 _ ok_Ma_max.1) hf (by rw [List.map_map]; simpa [Function.comp_def, cv_cat] using hw) (by omega) (by omega) hd (k p e s m args below meth c Z C E H locs cells slots lr hR hS hc hs hl)
theorem p_min {i : Nat} {x y : Int32} (hd : decode M.1 pc = .ok (.invokestatic i, 3)) (hl0 : Cond.methodLink M.2.1 i M_Ma_min.2.2.2.2.2 ∈ WS) (hf : 1 ≤ M.2.2.2.2.1.frames) (hw : (st.map fun v => v.category).sum + 13 ≤ M.2.2.2.2.1.locals) (k : WP Γ M B S I J (pc + 3) ls (.int (if y < x then y else x) :: st) Q) : WP Γ M B S I J pc ls (.int y :: .int x :: st) Q :=
  fun p e s m args below meth c Z C E H locs cells slots lr hR hS hc hs hl => va_mmin C.1 C.2.1 (by rw [C.2.2.1, hl.size]) C.2.2.2.1 (C.2.2.2.2.1 _ hl0) (C.2.2.2.2.1 _ st_Ma_min) (C.2.2.2.2.1 _ ii_Ma) (C.2.2.2.2.1 _ ok_Ma_min.1) hf (by rw [List.map_map]; simpa [Function.comp_def, cv_cat] using hw) (by omega) (by omega) hd (k p e s m args below meth c Z C E H locs cells slots lr hR hS hc hs hl)
theorem p_abs {i : Nat} {x : Int32} (hd : decode M.1 pc = .ok (.invokestatic i, 3)) (hl0 : Cond.methodLink M.2.1 i M_Ma_abs.2.2.2.2.2 ∈ WS) (hf : 1 ≤ M.2.2.2.2.1.frames) (hw : (st.map fun v => v.category).sum + 13 ≤ M.2.2.2.2.1.locals) (k : WP Γ M B S I J (pc + 3) ls (.int (if 0 ≤ x then x else 0 - x) :: st) Q) : WP Γ M B S I J pc ls (.int x :: st) Q :=
  fun p e s m args below meth c Z C E H locs cells slots lr hR hS hc hs hl => va_mabs C.1 C.2.1 (by rw [C.2.2.1, hl.size]) C.2.2.2.1 (C.2.2.2.2.1 _ hl0) (C.2.2.2.2.1 _ st_Ma_abs) (C.2.2.2.2.1 _ ii_Ma) (C.2.2.2.2.1 _ ok_Ma_abs.1) hf (by rw [List.map_map]; simpa [Function.comp_def, cv_cat] using hw) (by omega) (by omega) hd (k p e s m args below meth c Z C E H locs cells slots lr hR hS hc hs hl)
end RU
