/-! ===== rules in the form in which a program lays them ===== -/
theorem leb {a b : Nat} (h : Nat.ble a b = true) : a ≤ b := Nat.le_of_ble_eq_true h
section R2
variable {Γ : Cx} {M N : MI} {B : Nat × Nat} {S : Sh} {I : MemI} {J : MemJ} {pc : Nat} {ls st rest r : List Value} {Q Q1 : PQ}
theorem p_ic_m1 (hd : decode M.1 pc = .ok (.iconst (-1), 1)) (k : WP Γ M B S I J (pc + 1) ls (.int (-1) :: st) Q) : WP Γ M B S I J pc ls st Q := p_iconst hd (by decide) k
theorem p_ic_0 (hd : decode M.1 pc = .ok (.iconst 0, 1)) (k : WP Γ M B S I J (pc + 1) ls (.int 0 :: st) Q) : WP Γ M B S I J pc ls st Q := p_iconst hd (by decide) k
theorem p_ic_1 (hd : decode M.1 pc = .ok (.iconst 1, 1)) (k : WP Γ M B S I J (pc + 1) ls (.int 1 :: st) Q) : WP Γ M B S I J pc ls st Q := p_iconst hd (by decide) k
theorem p_ic_2 (hd : decode M.1 pc = .ok (.iconst 2, 1)) (k : WP Γ M B S I J (pc + 1) ls (.int 2 :: st) Q) : WP Γ M B S I J pc ls st Q := p_iconst hd (by decide) k
theorem p_ic_3 (hd : decode M.1 pc = .ok (.iconst 3, 1)) (k : WP Γ M B S I J (pc + 1) ls (.int 3 :: st) Q) : WP Γ M B S I J pc ls st Q := p_iconst hd (by decide) k
theorem p_ic_4 (hd : decode M.1 pc = .ok (.iconst 4, 1)) (k : WP Γ M B S I J (pc + 1) ls (.int 4 :: st) Q) : WP Γ M B S I J pc ls st Q := p_iconst hd (by decide) k
theorem p_ic_5 (hd : decode M.1 pc = .ok (.iconst 5, 1)) (k : WP Γ M B S I J (pc + 1) ls (.int 5 :: st) Q) : WP Γ M B S I J pc ls st Q := p_iconst hd (by decide) k
theorem p_bi_m99 (hd : decode M.1 pc = .ok (.bipush (-99), 2)) (k : WP Γ M B S I J (pc + 2) ls (.int (-99) :: st) Q) : WP Γ M B S I J pc ls st Q := p_bipush hd (by decide) k
theorem p_bi_m10 (hd : decode M.1 pc = .ok (.bipush (-10), 2)) (k : WP Γ M B S I J (pc + 2) ls (.int (-10) :: st) Q) : WP Γ M B S I J pc ls st Q := p_bipush hd (by decide) k
theorem p_bi_m3 (hd : decode M.1 pc = .ok (.bipush (-3), 2)) (k : WP Γ M B S I J (pc + 2) ls (.int (-3) :: st) Q) : WP Γ M B S I J pc ls st Q := p_bipush hd (by decide) k
theorem p_bi_m2 (hd : decode M.1 pc = .ok (.bipush (-2), 2)) (k : WP Γ M B S I J (pc + 2) ls (.int (-2) :: st) Q) : WP Γ M B S I J pc ls st Q := p_bipush hd (by decide) k
theorem p_bi_6 (hd : decode M.1 pc = .ok (.bipush 6, 2)) (k : WP Γ M B S I J (pc + 2) ls (.int 6 :: st) Q) : WP Γ M B S I J pc ls st Q := p_bipush hd (by decide) k
theorem p_bi_8 (hd : decode M.1 pc = .ok (.bipush 8, 2)) (k : WP Γ M B S I J (pc + 2) ls (.int 8 :: st) Q) : WP Γ M B S I J pc ls st Q := p_bipush hd (by decide) k
theorem p_bi_9 (hd : decode M.1 pc = .ok (.bipush 9, 2)) (k : WP Γ M B S I J (pc + 2) ls (.int 9 :: st) Q) : WP Γ M B S I J pc ls st Q := p_bipush hd (by decide) k
theorem p_bi_10 (hd : decode M.1 pc = .ok (.bipush 10, 2)) (k : WP Γ M B S I J (pc + 2) ls (.int 10 :: st) Q) : WP Γ M B S I J pc ls st Q := p_bipush hd (by decide) k
theorem p_bi_16 (hd : decode M.1 pc = .ok (.bipush 16, 2)) (k : WP Γ M B S I J (pc + 2) ls (.int 16 :: st) Q) : WP Γ M B S I J pc ls st Q := p_bipush hd (by decide) k
theorem p_bi_18 (hd : decode M.1 pc = .ok (.bipush 18, 2)) (k : WP Γ M B S I J (pc + 2) ls (.int 18 :: st) Q) : WP Γ M B S I J pc ls st Q := p_bipush hd (by decide) k
theorem p_bi_20 (hd : decode M.1 pc = .ok (.bipush 20, 2)) (k : WP Γ M B S I J (pc + 2) ls (.int 20 :: st) Q) : WP Γ M B S I J pc ls st Q := p_bipush hd (by decide) k
theorem p_bi_22 (hd : decode M.1 pc = .ok (.bipush 22, 2)) (k : WP Γ M B S I J (pc + 2) ls (.int 22 :: st) Q) : WP Γ M B S I J pc ls st Q := p_bipush hd (by decide) k
theorem p_bi_28 (hd : decode M.1 pc = .ok (.bipush 28, 2)) (k : WP Γ M B S I J (pc + 2) ls (.int 28 :: st) Q) : WP Γ M B S I J pc ls st Q := p_bipush hd (by decide) k
theorem p_bi_30 (hd : decode M.1 pc = .ok (.bipush 30, 2)) (k : WP Γ M B S I J (pc + 2) ls (.int 30 :: st) Q) : WP Γ M B S I J pc ls st Q := p_bipush hd (by decide) k
theorem p_bi_31 (hd : decode M.1 pc = .ok (.bipush 31, 2)) (k : WP Γ M B S I J (pc + 2) ls (.int 31 :: st) Q) : WP Γ M B S I J pc ls st Q := p_bipush hd (by decide) k
theorem p_bi_32 (hd : decode M.1 pc = .ok (.bipush 32, 2)) (k : WP Γ M B S I J (pc + 2) ls (.int 32 :: st) Q) : WP Γ M B S I J pc ls st Q := p_bipush hd (by decide) k
theorem p_bi_34 (hd : decode M.1 pc = .ok (.bipush 34, 2)) (k : WP Γ M B S I J (pc + 2) ls (.int 34 :: st) Q) : WP Γ M B S I J pc ls st Q := p_bipush hd (by decide) k
theorem p_bi_35 (hd : decode M.1 pc = .ok (.bipush 35, 2)) (k : WP Γ M B S I J (pc + 2) ls (.int 35 :: st) Q) : WP Γ M B S I J pc ls st Q := p_bipush hd (by decide) k
theorem p_bi_36 (hd : decode M.1 pc = .ok (.bipush 36, 2)) (k : WP Γ M B S I J (pc + 2) ls (.int 36 :: st) Q) : WP Γ M B S I J pc ls st Q := p_bipush hd (by decide) k
theorem p_bi_37 (hd : decode M.1 pc = .ok (.bipush 37, 2)) (k : WP Γ M B S I J (pc + 2) ls (.int 37 :: st) Q) : WP Γ M B S I J pc ls st Q := p_bipush hd (by decide) k
theorem p_bi_38 (hd : decode M.1 pc = .ok (.bipush 38, 2)) (k : WP Γ M B S I J (pc + 2) ls (.int 38 :: st) Q) : WP Γ M B S I J pc ls st Q := p_bipush hd (by decide) k
theorem p_bi_39 (hd : decode M.1 pc = .ok (.bipush 39, 2)) (k : WP Γ M B S I J (pc + 2) ls (.int 39 :: st) Q) : WP Γ M B S I J pc ls st Q := p_bipush hd (by decide) k
theorem p_bi_48 (hd : decode M.1 pc = .ok (.bipush 48, 2)) (k : WP Γ M B S I J (pc + 2) ls (.int 48 :: st) Q) : WP Γ M B S I J pc ls st Q := p_bipush hd (by decide) k
theorem p_bi_57 (hd : decode M.1 pc = .ok (.bipush 57, 2)) (k : WP Γ M B S I J (pc + 2) ls (.int 57 :: st) Q) : WP Γ M B S I J pc ls st Q := p_bipush hd (by decide) k
theorem p_bi_59 (hd : decode M.1 pc = .ok (.bipush 59, 2)) (k : WP Γ M B S I J (pc + 2) ls (.int 59 :: st) Q) : WP Γ M B S I J pc ls st Q := p_bipush hd (by decide) k
theorem p_bi_60 (hd : decode M.1 pc = .ok (.bipush 60, 2)) (k : WP Γ M B S I J (pc + 2) ls (.int 60 :: st) Q) : WP Γ M B S I J pc ls st Q := p_bipush hd (by decide) k
theorem p_bi_63 (hd : decode M.1 pc = .ok (.bipush 63, 2)) (k : WP Γ M B S I J (pc + 2) ls (.int 63 :: st) Q) : WP Γ M B S I J pc ls st Q := p_bipush hd (by decide) k
theorem p_bi_64 (hd : decode M.1 pc = .ok (.bipush 64, 2)) (k : WP Γ M B S I J (pc + 2) ls (.int 64 :: st) Q) : WP Γ M B S I J pc ls st Q := p_bipush hd (by decide) k
theorem p_bi_78 (hd : decode M.1 pc = .ok (.bipush 78, 2)) (k : WP Γ M B S I J (pc + 2) ls (.int 78 :: st) Q) : WP Γ M B S I J pc ls st Q := p_bipush hd (by decide) k
theorem p_bi_99 (hd : decode M.1 pc = .ok (.bipush 99, 2)) (k : WP Γ M B S I J (pc + 2) ls (.int 99 :: st) Q) : WP Γ M B S I J pc ls st Q := p_bipush hd (by decide) k
theorem p_si_200 (hd : decode M.1 pc = .ok (.sipush 200, 3)) (k : WP Γ M B S I J (pc + 3) ls (.int 200 :: st) Q) : WP Γ M B S I J pc ls st Q := p_sipush hd (by decide) k
theorem p_si_255 (hd : decode M.1 pc = .ok (.sipush 255, 3)) (k : WP Γ M B S I J (pc + 3) ls (.int 255 :: st) Q) : WP Γ M B S I J pc ls st Q := p_sipush hd (by decide) k
theorem p_si_351 (hd : decode M.1 pc = .ok (.sipush 351, 3)) (k : WP Γ M B S I J (pc + 3) ls (.int 351 :: st) Q) : WP Γ M B S I J pc ls st Q := p_sipush hd (by decide) k
theorem p_si_390 (hd : decode M.1 pc = .ok (.sipush 390, 3)) (k : WP Γ M B S I J (pc + 3) ls (.int 390 :: st) Q) : WP Γ M B S I J pc ls st Q := p_sipush hd (by decide) k
theorem p_si_999 (hd : decode M.1 pc = .ok (.sipush 999, 3)) (k : WP Γ M B S I J (pc + 3) ls (.int 999 :: st) Q) : WP Γ M B S I J pc ls st Q := p_sipush hd (by decide) k
theorem p_si_9999 (hd : decode M.1 pc = .ok (.sipush 9999, 3)) (k : WP Γ M B S I J (pc + 3) ls (.int 9999 :: st) Q) : WP Γ M B S I J pc ls st Q := p_sipush hd (by decide) k
theorem p_lc_0 (hd : decode M.1 pc = .ok (.lconst 0, 1)) (k : WP Γ M B S I J (pc + 1) ls (.long 0 :: st) Q) : WP Γ M B S I J pc ls st Q := p_lconst hd (by decide) k
theorem p_lc_1 (hd : decode M.1 pc = .ok (.lconst 1, 1)) (k : WP Γ M B S I J (pc + 1) ls (.long 1 :: st) Q) : WP Γ M B S I J pc ls st Q := p_lconst hd (by decide) k
theorem clr0 {ls : List Value} : clr ls 0 := fun v _ h => absurd h (by omega)
theorem clrS {ls : List Value} {i : Nat} {w : Value} (h : ls[i]? = some w) (hw : w.category = 1) : clr ls (i + 1) := fun v hv _ => by
  rw [show i + 1 - 1 = i by omega, h] at hv
  cases hv
  exact hw
theorem p_is_0 {x0 : Value} {x : Int32} (hd : decode M.1 pc = .ok (.istore_n 0, 1)) (hn : 0 < M.2.2.1) (k : WP Γ M B S I J (pc + 1) (.int x :: r) st Q) : WP Γ M B S I J pc (x0 :: r) (.int x :: st) Q := p_istore_n hd hn clr0 k
theorem p_is_1 {x0 x1 : Value} {x : Int32} (hd : decode M.1 pc = .ok (.istore_n 1, 1)) (hn : 1 < M.2.2.1) (hx : x0.category = 1) (k : WP Γ M B S I J (pc + 1) (x0 :: .int x :: r) st Q) : WP Γ M B S I J pc (x0 :: x1 :: r) (.int x :: st) Q := p_istore_n hd hn (clrS (i := 0) rfl hx) k
theorem p_is_2 {x0 x1 x2 : Value} {x : Int32} (hd : decode M.1 pc = .ok (.istore_n 2, 1)) (hn : 2 < M.2.2.1) (hx : x1.category = 1) (k : WP Γ M B S I J (pc + 1) (x0 :: x1 :: .int x :: r) st Q) : WP Γ M B S I J pc (x0 :: x1 :: x2 :: r) (.int x :: st) Q := p_istore_n hd hn (clrS (i := 1) rfl hx) k
theorem p_is_3 {x0 x1 x2 x3 : Value} {x : Int32} (hd : decode M.1 pc = .ok (.istore_n 3, 1)) (hn : 3 < M.2.2.1) (hx : x2.category = 1) (k : WP Γ M B S I J (pc + 1) (x0 :: x1 :: x2 :: .int x :: r) st Q) : WP Γ M B S I J pc (x0 :: x1 :: x2 :: x3 :: r) (.int x :: st) Q := p_istore_n hd hn (clrS (i := 2) rfl hx) k
theorem p_is_4 {x0 x1 x2 x3 x4 : Value} {x : Int32} (hd : decode M.1 pc = .ok (.istore 4, 2)) (hn : 4 < M.2.2.1) (hx : x3.category = 1) (k : WP Γ M B S I J (pc + 2) (x0 :: x1 :: x2 :: x3 :: .int x :: r) st Q) : WP Γ M B S I J pc (x0 :: x1 :: x2 :: x3 :: x4 :: r) (.int x :: st) Q := p_istore hd hn (clrS (i := 3) rfl hx) k
theorem p_is_5 {x0 x1 x2 x3 x4 x5 : Value} {x : Int32} (hd : decode M.1 pc = .ok (.istore 5, 2)) (hn : 5 < M.2.2.1) (hx : x4.category = 1) (k : WP Γ M B S I J (pc + 2) (x0 :: x1 :: x2 :: x3 :: x4 :: .int x :: r) st Q) : WP Γ M B S I J pc (x0 :: x1 :: x2 :: x3 :: x4 :: x5 :: r) (.int x :: st) Q := p_istore hd hn (clrS (i := 4) rfl hx) k
theorem p_is_6 {x0 x1 x2 x3 x4 x5 x6 : Value} {x : Int32} (hd : decode M.1 pc = .ok (.istore 6, 2)) (hn : 6 < M.2.2.1) (hx : x5.category = 1) (k : WP Γ M B S I J (pc + 2) (x0 :: x1 :: x2 :: x3 :: x4 :: x5 :: .int x :: r) st Q) : WP Γ M B S I J pc (x0 :: x1 :: x2 :: x3 :: x4 :: x5 :: x6 :: r) (.int x :: st) Q := p_istore hd hn (clrS (i := 5) rfl hx) k
theorem p_is_7 {x0 x1 x2 x3 x4 x5 x6 x7 : Value} {x : Int32} (hd : decode M.1 pc = .ok (.istore 7, 2)) (hn : 7 < M.2.2.1) (hx : x6.category = 1) (k : WP Γ M B S I J (pc + 2) (x0 :: x1 :: x2 :: x3 :: x4 :: x5 :: x6 :: .int x :: r) st Q) : WP Γ M B S I J pc (x0 :: x1 :: x2 :: x3 :: x4 :: x5 :: x6 :: x7 :: r) (.int x :: st) Q := p_istore hd hn (clrS (i := 6) rfl hx) k
theorem p_is_9 {x0 x1 x2 x3 x4 x5 x6 x7 x8 x9 : Value} {x : Int32} (hd : decode M.1 pc = .ok (.istore 9, 2)) (hn : 9 < M.2.2.1) (hx : x8.category = 1) (k : WP Γ M B S I J (pc + 2) (x0 :: x1 :: x2 :: x3 :: x4 :: x5 :: x6 :: x7 :: x8 :: .int x :: r) st Q) : WP Γ M B S I J pc (x0 :: x1 :: x2 :: x3 :: x4 :: x5 :: x6 :: x7 :: x8 :: x9 :: r) (.int x :: st) Q := p_istore hd hn (clrS (i := 8) rfl hx) k
theorem p_is_10 {x0 x1 x2 x3 x4 x5 x6 x7 x8 x9 x10 : Value} {x : Int32} (hd : decode M.1 pc = .ok (.istore 10, 2)) (hn : 10 < M.2.2.1) (hx : x9.category = 1) (k : WP Γ M B S I J (pc + 2) (x0 :: x1 :: x2 :: x3 :: x4 :: x5 :: x6 :: x7 :: x8 :: x9 :: .int x :: r) st Q) : WP Γ M B S I J pc (x0 :: x1 :: x2 :: x3 :: x4 :: x5 :: x6 :: x7 :: x8 :: x9 :: x10 :: r) (.int x :: st) Q := p_istore hd hn (clrS (i := 9) rfl hx) k
theorem p_is_13 {x0 x1 x2 x3 x4 x5 x6 x7 x8 x9 x10 x11 x12 x13 : Value} {x : Int32} (hd : decode M.1 pc = .ok (.istore 13, 2)) (hn : 13 < M.2.2.1) (hx : x12.category = 1) (k : WP Γ M B S I J (pc + 2) (x0 :: x1 :: x2 :: x3 :: x4 :: x5 :: x6 :: x7 :: x8 :: x9 :: x10 :: x11 :: x12 :: .int x :: r) st Q) : WP Γ M B S I J pc (x0 :: x1 :: x2 :: x3 :: x4 :: x5 :: x6 :: x7 :: x8 :: x9 :: x10 :: x11 :: x12 :: x13 :: r) (.int x :: st) Q := p_istore hd hn (clrS (i := 12) rfl hx) k
theorem p_is_14 {x0 x1 x2 x3 x4 x5 x6 x7 x8 x9 x10 x11 x12 x13 x14 : Value} {x : Int32} (hd : decode M.1 pc = .ok (.istore 14, 2)) (hn : 14 < M.2.2.1) (hx : x13.category = 1) (k : WP Γ M B S I J (pc + 2) (x0 :: x1 :: x2 :: x3 :: x4 :: x5 :: x6 :: x7 :: x8 :: x9 :: x10 :: x11 :: x12 :: x13 :: .int x :: r) st Q) : WP Γ M B S I J pc (x0 :: x1 :: x2 :: x3 :: x4 :: x5 :: x6 :: x7 :: x8 :: x9 :: x10 :: x11 :: x12 :: x13 :: x14 :: r) (.int x :: st) Q := p_istore hd hn (clrS (i := 13) rfl hx) k
theorem p_as_1 {x0 x1 : Value} {x : Nat} (hd : decode M.1 pc = .ok (.astore_n 1, 1)) (hn : 1 < M.2.2.1) (hx : x0.category = 1) (k : WP Γ M B S I J (pc + 1) (x0 :: .ref x :: r) st Q) : WP Γ M B S I J pc (x0 :: x1 :: r) (.ref x :: st) Q := p_astore_n hd hn (clrS (i := 0) rfl hx) k
theorem p_as_2 {x0 x1 x2 : Value} {x : Nat} (hd : decode M.1 pc = .ok (.astore_n 2, 1)) (hn : 2 < M.2.2.1) (hx : x1.category = 1) (k : WP Γ M B S I J (pc + 1) (x0 :: x1 :: .ref x :: r) st Q) : WP Γ M B S I J pc (x0 :: x1 :: x2 :: r) (.ref x :: st) Q := p_astore_n hd hn (clrS (i := 1) rfl hx) k
theorem p_ls_0 {x0 y : Value} {x : Int64} (hd : decode M.1 pc = .ok (.lstore_n 0, 1)) (hn : 0 + 1 < M.2.2.1) (k : WP Γ M B S I J (pc + 1) (.long x :: .null :: r) st Q) : WP Γ M B S I J pc (x0 :: y :: r) (.long x :: st) Q := p_lstore_n hd hn clr0 k
theorem p_ls_2 {x0 x1 x2 y : Value} {x : Int64} (hd : decode M.1 pc = .ok (.lstore_n 2, 1)) (hn : 2 + 1 < M.2.2.1) (hx : x1.category = 1) (k : WP Γ M B S I J (pc + 1) (x0 :: x1 :: .long x :: .null :: r) st Q) : WP Γ M B S I J pc (x0 :: x1 :: x2 :: y :: r) (.long x :: st) Q := p_lstore_n hd hn (clrS (i := 1) rfl hx) k
theorem p_ls_5 {x0 x1 x2 x3 x4 x5 y : Value} {x : Int64} (hd : decode M.1 pc = .ok (.lstore 5, 2)) (hn : 5 + 1 < M.2.2.1) (hx : x4.category = 1) (k : WP Γ M B S I J (pc + 2) (x0 :: x1 :: x2 :: x3 :: x4 :: .long x :: .null :: r) st Q) : WP Γ M B S I J pc (x0 :: x1 :: x2 :: x3 :: x4 :: x5 :: y :: r) (.long x :: st) Q := p_lstore hd hn (clrS (i := 4) rfl hx) k
theorem p_ls_6 {x0 x1 x2 x3 x4 x5 x6 y : Value} {x : Int64} (hd : decode M.1 pc = .ok (.lstore 6, 2)) (hn : 6 + 1 < M.2.2.1) (hx : x5.category = 1) (k : WP Γ M B S I J (pc + 2) (x0 :: x1 :: x2 :: x3 :: x4 :: x5 :: .long x :: .null :: r) st Q) : WP Γ M B S I J pc (x0 :: x1 :: x2 :: x3 :: x4 :: x5 :: x6 :: y :: r) (.long x :: st) Q := p_lstore hd hn (clrS (i := 5) rfl hx) k
theorem p_ls_7 {x0 x1 x2 x3 x4 x5 x6 x7 y : Value} {x : Int64} (hd : decode M.1 pc = .ok (.lstore 7, 2)) (hn : 7 + 1 < M.2.2.1) (hx : x6.category = 1) (k : WP Γ M B S I J (pc + 2) (x0 :: x1 :: x2 :: x3 :: x4 :: x5 :: x6 :: .long x :: .null :: r) st Q) : WP Γ M B S I J pc (x0 :: x1 :: x2 :: x3 :: x4 :: x5 :: x6 :: x7 :: y :: r) (.long x :: st) Q := p_lstore hd hn (clrS (i := 6) rfl hx) k
theorem p_ls_8 {x0 x1 x2 x3 x4 x5 x6 x7 x8 y : Value} {x : Int64} (hd : decode M.1 pc = .ok (.lstore 8, 2)) (hn : 8 + 1 < M.2.2.1) (hx : x7.category = 1) (k : WP Γ M B S I J (pc + 2) (x0 :: x1 :: x2 :: x3 :: x4 :: x5 :: x6 :: x7 :: .long x :: .null :: r) st Q) : WP Γ M B S I J pc (x0 :: x1 :: x2 :: x3 :: x4 :: x5 :: x6 :: x7 :: x8 :: y :: r) (.long x :: st) Q := p_lstore hd hn (clrS (i := 7) rfl hx) k
theorem p_ls_9 {x0 x1 x2 x3 x4 x5 x6 x7 x8 x9 y : Value} {x : Int64} (hd : decode M.1 pc = .ok (.lstore 9, 2)) (hn : 9 + 1 < M.2.2.1) (hx : x8.category = 1) (k : WP Γ M B S I J (pc + 2) (x0 :: x1 :: x2 :: x3 :: x4 :: x5 :: x6 :: x7 :: x8 :: .long x :: .null :: r) st Q) : WP Γ M B S I J pc (x0 :: x1 :: x2 :: x3 :: x4 :: x5 :: x6 :: x7 :: x8 :: x9 :: y :: r) (.long x :: st) Q := p_lstore hd hn (clrS (i := 8) rfl hx) k
theorem p_ls_10 {x0 x1 x2 x3 x4 x5 x6 x7 x8 x9 x10 y : Value} {x : Int64} (hd : decode M.1 pc = .ok (.lstore 10, 2)) (hn : 10 + 1 < M.2.2.1) (hx : x9.category = 1) (k : WP Γ M B S I J (pc + 2) (x0 :: x1 :: x2 :: x3 :: x4 :: x5 :: x6 :: x7 :: x8 :: x9 :: .long x :: .null :: r) st Q) : WP Γ M B S I J pc (x0 :: x1 :: x2 :: x3 :: x4 :: x5 :: x6 :: x7 :: x8 :: x9 :: x10 :: y :: r) (.long x :: st) Q := p_lstore hd hn (clrS (i := 9) rfl hx) k
theorem p_ls_11 {x0 x1 x2 x3 x4 x5 x6 x7 x8 x9 x10 x11 y : Value} {x : Int64} (hd : decode M.1 pc = .ok (.lstore 11, 2)) (hn : 11 + 1 < M.2.2.1) (hx : x10.category = 1) (k : WP Γ M B S I J (pc + 2) (x0 :: x1 :: x2 :: x3 :: x4 :: x5 :: x6 :: x7 :: x8 :: x9 :: x10 :: .long x :: .null :: r) st Q) : WP Γ M B S I J pc (x0 :: x1 :: x2 :: x3 :: x4 :: x5 :: x6 :: x7 :: x8 :: x9 :: x10 :: x11 :: y :: r) (.long x :: st) Q := p_lstore hd hn (clrS (i := 10) rfl hx) k
theorem p_ls_12 {x0 x1 x2 x3 x4 x5 x6 x7 x8 x9 x10 x11 x12 y : Value} {x : Int64} (hd : decode M.1 pc = .ok (.lstore 12, 2)) (hn : 12 + 1 < M.2.2.1) (hx : x11.category = 1) (k : WP Γ M B S I J (pc + 2) (x0 :: x1 :: x2 :: x3 :: x4 :: x5 :: x6 :: x7 :: x8 :: x9 :: x10 :: x11 :: .long x :: .null :: r) st Q) : WP Γ M B S I J pc (x0 :: x1 :: x2 :: x3 :: x4 :: x5 :: x6 :: x7 :: x8 :: x9 :: x10 :: x11 :: x12 :: y :: r) (.long x :: st) Q := p_lstore hd hn (clrS (i := 11) rfl hx) k
theorem p_ls_14 {x0 x1 x2 x3 x4 x5 x6 x7 x8 x9 x10 x11 x12 x13 x14 y : Value} {x : Int64} (hd : decode M.1 pc = .ok (.lstore 14, 2)) (hn : 14 + 1 < M.2.2.1) (hx : x13.category = 1) (k : WP Γ M B S I J (pc + 2) (x0 :: x1 :: x2 :: x3 :: x4 :: x5 :: x6 :: x7 :: x8 :: x9 :: x10 :: x11 :: x12 :: x13 :: .long x :: .null :: r) st Q) : WP Γ M B S I J pc (x0 :: x1 :: x2 :: x3 :: x4 :: x5 :: x6 :: x7 :: x8 :: x9 :: x10 :: x11 :: x12 :: x13 :: x14 :: y :: r) (.long x :: st) Q := p_lstore hd hn (clrS (i := 13) rfl hx) k
theorem p_inc_1_1 {x0 : Value} {x : Int32} (hd : decode M.1 pc = .ok (.iinc 1 1, 3)) (hn : 1 < M.2.2.1) (hx : x0.category = 1) (k : WP Γ M B S I J (pc + 3) (x0 :: .int (x + 1) :: r) st Q) : WP Γ M B S I J pc (x0 :: .int x :: r) st Q := p_iinc (x := x) (v := x + 1) hd rfl (by rw [show Int32.ofInt 1 = 1 by decide]) hn (clrS (i := 0) rfl hx) k
theorem p_incN_1_1 {x0 : Value} {a : Nat} (hd : decode M.1 pc = .ok (.iinc 1 1, 3)) (hn : 1 < M.2.2.1) (hx : x0.category = 1) (k : WP Γ M B S I J (pc + 3) (x0 :: .int (nI (a + 1)) :: r) st Q) : WP Γ M B S I J pc (x0 :: .int (nI a) :: r) st Q := p_iinc (x := nI a) (v := nI (a + 1)) hd rfl (by rw [show Int32.ofInt 1 = nI 1 by decide, nI_add]) hn (clrS (i := 0) rfl hx) k
theorem p_inc_2_1 {x0 x1 : Value} {x : Int32} (hd : decode M.1 pc = .ok (.iinc 2 1, 3)) (hn : 2 < M.2.2.1) (hx : x1.category = 1) (k : WP Γ M B S I J (pc + 3) (x0 :: x1 :: .int (x + 1) :: r) st Q) : WP Γ M B S I J pc (x0 :: x1 :: .int x :: r) st Q := p_iinc (x := x) (v := x + 1) hd rfl (by rw [show Int32.ofInt 1 = 1 by decide]) hn (clrS (i := 1) rfl hx) k
theorem p_incN_2_1 {x0 x1 : Value} {a : Nat} (hd : decode M.1 pc = .ok (.iinc 2 1, 3)) (hn : 2 < M.2.2.1) (hx : x1.category = 1) (k : WP Γ M B S I J (pc + 3) (x0 :: x1 :: .int (nI (a + 1)) :: r) st Q) : WP Γ M B S I J pc (x0 :: x1 :: .int (nI a) :: r) st Q := p_iinc (x := nI a) (v := nI (a + 1)) hd rfl (by rw [show Int32.ofInt 1 = nI 1 by decide, nI_add]) hn (clrS (i := 1) rfl hx) k
theorem p_inc_3_1 {x0 x1 x2 : Value} {x : Int32} (hd : decode M.1 pc = .ok (.iinc 3 1, 3)) (hn : 3 < M.2.2.1) (hx : x2.category = 1) (k : WP Γ M B S I J (pc + 3) (x0 :: x1 :: x2 :: .int (x + 1) :: r) st Q) : WP Γ M B S I J pc (x0 :: x1 :: x2 :: .int x :: r) st Q := p_iinc (x := x) (v := x + 1) hd rfl (by rw [show Int32.ofInt 1 = 1 by decide]) hn (clrS (i := 2) rfl hx) k
theorem p_incN_3_1 {x0 x1 x2 : Value} {a : Nat} (hd : decode M.1 pc = .ok (.iinc 3 1, 3)) (hn : 3 < M.2.2.1) (hx : x2.category = 1) (k : WP Γ M B S I J (pc + 3) (x0 :: x1 :: x2 :: .int (nI (a + 1)) :: r) st Q) : WP Γ M B S I J pc (x0 :: x1 :: x2 :: .int (nI a) :: r) st Q := p_iinc (x := nI a) (v := nI (a + 1)) hd rfl (by rw [show Int32.ofInt 1 = nI 1 by decide, nI_add]) hn (clrS (i := 2) rfl hx) k
theorem p_inc_3_6 {x0 x1 x2 : Value} {x : Int32} (hd : decode M.1 pc = .ok (.iinc 3 6, 3)) (hn : 3 < M.2.2.1) (hx : x2.category = 1) (k : WP Γ M B S I J (pc + 3) (x0 :: x1 :: x2 :: .int (x + 6) :: r) st Q) : WP Γ M B S I J pc (x0 :: x1 :: x2 :: .int x :: r) st Q := p_iinc (x := x) (v := x + 6) hd rfl (by rw [show Int32.ofInt 6 = 6 by decide]) hn (clrS (i := 2) rfl hx) k
theorem p_incN_3_6 {x0 x1 x2 : Value} {a : Nat} (hd : decode M.1 pc = .ok (.iinc 3 6, 3)) (hn : 3 < M.2.2.1) (hx : x2.category = 1) (k : WP Γ M B S I J (pc + 3) (x0 :: x1 :: x2 :: .int (nI (a + 6)) :: r) st Q) : WP Γ M B S I J pc (x0 :: x1 :: x2 :: .int (nI a) :: r) st Q := p_iinc (x := nI a) (v := nI (a + 6)) hd rfl (by rw [show Int32.ofInt 6 = nI 6 by decide, nI_add]) hn (clrS (i := 2) rfl hx) k
theorem p_inc_4_1 {x0 x1 x2 x3 : Value} {x : Int32} (hd : decode M.1 pc = .ok (.iinc 4 1, 3)) (hn : 4 < M.2.2.1) (hx : x3.category = 1) (k : WP Γ M B S I J (pc + 3) (x0 :: x1 :: x2 :: x3 :: .int (x + 1) :: r) st Q) : WP Γ M B S I J pc (x0 :: x1 :: x2 :: x3 :: .int x :: r) st Q := p_iinc (x := x) (v := x + 1) hd rfl (by rw [show Int32.ofInt 1 = 1 by decide]) hn (clrS (i := 3) rfl hx) k
theorem p_incN_4_1 {x0 x1 x2 x3 : Value} {a : Nat} (hd : decode M.1 pc = .ok (.iinc 4 1, 3)) (hn : 4 < M.2.2.1) (hx : x3.category = 1) (k : WP Γ M B S I J (pc + 3) (x0 :: x1 :: x2 :: x3 :: .int (nI (a + 1)) :: r) st Q) : WP Γ M B S I J pc (x0 :: x1 :: x2 :: x3 :: .int (nI a) :: r) st Q := p_iinc (x := nI a) (v := nI (a + 1)) hd rfl (by rw [show Int32.ofInt 1 = nI 1 by decide, nI_add]) hn (clrS (i := 3) rfl hx) k
theorem p_inc_4_2 {x0 x1 x2 x3 : Value} {x : Int32} (hd : decode M.1 pc = .ok (.iinc 4 2, 3)) (hn : 4 < M.2.2.1) (hx : x3.category = 1) (k : WP Γ M B S I J (pc + 3) (x0 :: x1 :: x2 :: x3 :: .int (x + 2) :: r) st Q) : WP Γ M B S I J pc (x0 :: x1 :: x2 :: x3 :: .int x :: r) st Q := p_iinc (x := x) (v := x + 2) hd rfl (by rw [show Int32.ofInt 2 = 2 by decide]) hn (clrS (i := 3) rfl hx) k
theorem p_incN_4_2 {x0 x1 x2 x3 : Value} {a : Nat} (hd : decode M.1 pc = .ok (.iinc 4 2, 3)) (hn : 4 < M.2.2.1) (hx : x3.category = 1) (k : WP Γ M B S I J (pc + 3) (x0 :: x1 :: x2 :: x3 :: .int (nI (a + 2)) :: r) st Q) : WP Γ M B S I J pc (x0 :: x1 :: x2 :: x3 :: .int (nI a) :: r) st Q := p_iinc (x := nI a) (v := nI (a + 2)) hd rfl (by rw [show Int32.ofInt 2 = nI 2 by decide, nI_add]) hn (clrS (i := 3) rfl hx) k
theorem p_inc_5_1 {x0 x1 x2 x3 x4 : Value} {x : Int32} (hd : decode M.1 pc = .ok (.iinc 5 1, 3)) (hn : 5 < M.2.2.1) (hx : x4.category = 1) (k : WP Γ M B S I J (pc + 3) (x0 :: x1 :: x2 :: x3 :: x4 :: .int (x + 1) :: r) st Q) : WP Γ M B S I J pc (x0 :: x1 :: x2 :: x3 :: x4 :: .int x :: r) st Q := p_iinc (x := x) (v := x + 1) hd rfl (by rw [show Int32.ofInt 1 = 1 by decide]) hn (clrS (i := 4) rfl hx) k
theorem p_incN_5_1 {x0 x1 x2 x3 x4 : Value} {a : Nat} (hd : decode M.1 pc = .ok (.iinc 5 1, 3)) (hn : 5 < M.2.2.1) (hx : x4.category = 1) (k : WP Γ M B S I J (pc + 3) (x0 :: x1 :: x2 :: x3 :: x4 :: .int (nI (a + 1)) :: r) st Q) : WP Γ M B S I J pc (x0 :: x1 :: x2 :: x3 :: x4 :: .int (nI a) :: r) st Q := p_iinc (x := nI a) (v := nI (a + 1)) hd rfl (by rw [show Int32.ofInt 1 = nI 1 by decide, nI_add]) hn (clrS (i := 4) rfl hx) k
theorem p_inc_9_1 {x0 x1 x2 x3 x4 x5 x6 x7 x8 : Value} {x : Int32} (hd : decode M.1 pc = .ok (.iinc 9 1, 3)) (hn : 9 < M.2.2.1) (hx : x8.category = 1) (k : WP Γ M B S I J (pc + 3) (x0 :: x1 :: x2 :: x3 :: x4 :: x5 :: x6 :: x7 :: x8 :: .int (x + 1) :: r) st Q) : WP Γ M B S I J pc (x0 :: x1 :: x2 :: x3 :: x4 :: x5 :: x6 :: x7 :: x8 :: .int x :: r) st Q := p_iinc (x := x) (v := x + 1) hd rfl (by rw [show Int32.ofInt 1 = 1 by decide]) hn (clrS (i := 8) rfl hx) k
theorem p_incN_9_1 {x0 x1 x2 x3 x4 x5 x6 x7 x8 : Value} {a : Nat} (hd : decode M.1 pc = .ok (.iinc 9 1, 3)) (hn : 9 < M.2.2.1) (hx : x8.category = 1) (k : WP Γ M B S I J (pc + 3) (x0 :: x1 :: x2 :: x3 :: x4 :: x5 :: x6 :: x7 :: x8 :: .int (nI (a + 1)) :: r) st Q) : WP Γ M B S I J pc (x0 :: x1 :: x2 :: x3 :: x4 :: x5 :: x6 :: x7 :: x8 :: .int (nI a) :: r) st Q := p_iinc (x := nI a) (v := nI (a + 1)) hd rfl (by rw [show Int32.ofInt 1 = nI 1 by decide, nI_add]) hn (clrS (i := 8) rfl hx) k
theorem p_inc_10_1 {x0 x1 x2 x3 x4 x5 x6 x7 x8 x9 : Value} {x : Int32} (hd : decode M.1 pc = .ok (.iinc 10 1, 3)) (hn : 10 < M.2.2.1) (hx : x9.category = 1) (k : WP Γ M B S I J (pc + 3) (x0 :: x1 :: x2 :: x3 :: x4 :: x5 :: x6 :: x7 :: x8 :: x9 :: .int (x + 1) :: r) st Q) : WP Γ M B S I J pc (x0 :: x1 :: x2 :: x3 :: x4 :: x5 :: x6 :: x7 :: x8 :: x9 :: .int x :: r) st Q := p_iinc (x := x) (v := x + 1) hd rfl (by rw [show Int32.ofInt 1 = 1 by decide]) hn (clrS (i := 9) rfl hx) k
theorem p_incN_10_1 {x0 x1 x2 x3 x4 x5 x6 x7 x8 x9 : Value} {a : Nat} (hd : decode M.1 pc = .ok (.iinc 10 1, 3)) (hn : 10 < M.2.2.1) (hx : x9.category = 1) (k : WP Γ M B S I J (pc + 3) (x0 :: x1 :: x2 :: x3 :: x4 :: x5 :: x6 :: x7 :: x8 :: x9 :: .int (nI (a + 1)) :: r) st Q) : WP Γ M B S I J pc (x0 :: x1 :: x2 :: x3 :: x4 :: x5 :: x6 :: x7 :: x8 :: x9 :: .int (nI a) :: r) st Q := p_iinc (x := nI a) (v := nI (a + 1)) hd rfl (by rw [show Int32.ofInt 1 = nI 1 by decide, nI_add]) hn (clrS (i := 9) rfl hx) k
theorem p_inc_13_1 {x0 x1 x2 x3 x4 x5 x6 x7 x8 x9 x10 x11 x12 : Value} {x : Int32} (hd : decode M.1 pc = .ok (.iinc 13 1, 3)) (hn : 13 < M.2.2.1) (hx : x12.category = 1) (k : WP Γ M B S I J (pc + 3) (x0 :: x1 :: x2 :: x3 :: x4 :: x5 :: x6 :: x7 :: x8 :: x9 :: x10 :: x11 :: x12 :: .int (x + 1) :: r) st Q) : WP Γ M B S I J pc (x0 :: x1 :: x2 :: x3 :: x4 :: x5 :: x6 :: x7 :: x8 :: x9 :: x10 :: x11 :: x12 :: .int x :: r) st Q := p_iinc (x := x) (v := x + 1) hd rfl (by rw [show Int32.ofInt 1 = 1 by decide]) hn (clrS (i := 12) rfl hx) k
theorem p_incN_13_1 {x0 x1 x2 x3 x4 x5 x6 x7 x8 x9 x10 x11 x12 : Value} {a : Nat} (hd : decode M.1 pc = .ok (.iinc 13 1, 3)) (hn : 13 < M.2.2.1) (hx : x12.category = 1) (k : WP Γ M B S I J (pc + 3) (x0 :: x1 :: x2 :: x3 :: x4 :: x5 :: x6 :: x7 :: x8 :: x9 :: x10 :: x11 :: x12 :: .int (nI (a + 1)) :: r) st Q) : WP Γ M B S I J pc (x0 :: x1 :: x2 :: x3 :: x4 :: x5 :: x6 :: x7 :: x8 :: x9 :: x10 :: x11 :: x12 :: .int (nI a) :: r) st Q := p_iinc (x := nI a) (v := nI (a + 1)) hd rfl (by rw [show Int32.ofInt 1 = nI 1 by decide, nI_add]) hn (clrS (i := 12) rfl hx) k
/-- a number by another name -/
theorem p_eqI {x y : Int32} (h : x = y) (k : WP Γ M B S I J pc ls (.int y :: st) Q) : WP Γ M B S I J pc ls (.int x :: st) Q := h ▸ k
theorem p_eqL {x y : Int64} (h : x = y) (k : WP Γ M B S I J pc ls (.long y :: st) Q) : WP Γ M B S I J pc ls (.long x :: st) Q := h ▸ k
theorem p_nmI {x : Int32} (k : ∀ y : Int32, y = x → WP Γ M B S I J pc ls (.int y :: st) Q) : WP Γ M B S I J pc ls (.int x :: st) Q := k x rfl
theorem p_nmM (k : ∀ I' : MemI, I' = I → WP Γ M B S I' J pc ls st Q) : WP Γ M B S I J pc ls st Q := k I rfl
theorem p_iaddN {x y : Int32} (a b : Nat) (hd : decode M.1 pc = .ok (.iadd, 1)) (hx : x = nI a) (hy : y = nI b) (k : WP Γ M B S I J (pc + 1) ls (.int (nI (a + b)) :: st) Q) : WP Γ M B S I J pc ls (.int y :: .int x :: st) Q := p_iadd hd (by rw [hx, hy, nI_add]; exact k)
theorem p_isubN {x y : Int32} (a b : Nat) (hd : decode M.1 pc = .ok (.isub, 1)) (hx : x = nI a) (hy : y = nI b) (h : b ≤ a) (k : WP Γ M B S I J (pc + 1) ls (.int (nI (a - b)) :: st) Q) : WP Γ M B S I J pc ls (.int y :: .int x :: st) Q := p_isub hd (by rw [hx, hy, pk_sub h]; exact k)
theorem p_imulN {x y : Int32} (a b : Nat) (hd : decode M.1 pc = .ok (.imul, 1)) (hx : x = nI a) (hy : y = nI b) (k : WP Γ M B S I J (pc + 1) ls (.int (nI (a * b)) :: st) Q) : WP Γ M B S I J pc ls (.int y :: .int x :: st) Q := p_imul hd (by rw [hx, hy, pk_mul]; exact k)
theorem p_ialdN {a n : Nat} {x : Int32} (i : Nat) (hd : decode M.1 pc = .ok (.iaload, 1)) (ha : ar S a 10 n) (hx : x = nI i) (hi : i < n) (hn : Nat.ble n 1000 = true) (kk : WP Γ M B S I J (pc + 1) ls (.int (I a i) :: st) Q) : WP Γ M B S I J pc ls (.int x :: .ref a :: st) Q := by
  subst hx
  have h1 := leb hn
  refine p_iald hd ha (vp_in_nI hi (by omega)) ?_
  rw [nI_clamp (by omega)]
  exact kk
theorem p_zaldN {a n : Nat} {x : Int32} (i : Nat) (hd : decode M.1 pc = .ok (.baload, 1)) (ha : ar S a 11 n) (hx : x = nI i) (hi : i < n) (hn : Nat.ble n 1000 = true) (kk : WP Γ M B S I J (pc + 1) ls (.int (I a i) :: st) Q) : WP Γ M B S I J pc ls (.int x :: .ref a :: st) Q := by
  subst hx
  have h1 := leb hn
  refine p_zald hd ha (vp_in_nI hi (by omega)) ?_
  rw [nI_clamp (by omega)]
  exact kk
theorem p_aaldN {a n b : Nat} {x : Int32} (i : Nat) (hd : decode M.1 pc = .ok (.aaload, 1)) (ha : ar S a 12 n) (hx : x = nI i) (hi : i < n) (hn : Nat.ble n 1000 = true) (hb : S.2.2 a i = some b) (kk : WP Γ M B S I J (pc + 1) ls (.ref b :: st) Q) : WP Γ M B S I J pc ls (.int x :: .ref a :: st) Q := by
  subst hx
  have h1 := leb hn
  exact p_aald hd ha (vp_in_nI hi (by omega)) (by rw [nI_clamp (by omega)]; exact hb) kk
theorem p_iastN {a n : Nat} {x v : Int32} (i : Nat) (hd : decode M.1 pc = .ok (.iastore, 1)) (ha : ar S a 10 n) (hx : x = nI i) (hi : i < n) (hn : Nat.ble n 1000 = true) (kk : WP Γ M B S (up2 I a i v) J (pc + 1) ls st Q) : WP Γ M B S I J pc ls (.int v :: .int x :: .ref a :: st) Q := by
  subst hx
  have h1 := leb hn
  refine p_iast hd ha (vp_in_nI hi (by omega)) ?_
  rw [nI_clamp (by omega)]
  exact kk
theorem p_zastN {a n : Nat} {x v : Int32} (i : Nat) (hd : decode M.1 pc = .ok (.bastore, 1)) (ha : ar S a 11 n) (hx : x = nI i) (hi : i < n) (hn : Nat.ble n 1000 = true) (hv : v = 0 ∨ v = 1) (kk : WP Γ M B S (up2 I a i v) J (pc + 1) ls st Q) : WP Γ M B S I J pc ls (.int v :: .int x :: .ref a :: st) Q := by
  subst hx
  have h1 := leb hn
  refine p_zast hd ha (vp_in_nI hi (by omega)) hv ?_
  rw [nI_clamp (by omega)]
  exact kk
theorem p_sldN {x : Int32} (i : Nat) (hd : decode M.1 pc = .ok (.iaload, 1)) (hx : x = nI i) (hi : i < Γ.2.1.1) (hn : Γ.2.1.1 ≤ 1000) (kk : WP Γ M B S I J (pc + 1) ls (.int (Γ.2.1.2 i) :: st) Q) : WP Γ M B S I J pc ls (.int x :: .ref 0 :: st) Q := by
  subst hx
  refine p_sld hd (vp_in_nI hi (by omega)) ?_
  rw [nI_clamp (by omega)]
  exact kk
theorem p_icmpeqN {x y : Int32} {off : Int} {tgt : Nat} (a b : Nat) (hd : decode M.1 pc = .ok (.if_icmp .eq off, 3)) (ht : (pc : Int) + off = (tgt : Int)) (hx : x = nI a) (hy : y = nI b) (ha : a < 2 ^ 31) (hb : b < 2 ^ 31) (kt : a = b → WP Γ M B S I J tgt ls st Q) (kf : ¬ a = b → WP Γ M B S I J (pc + 3) ls st Q) : WP Γ M B S I J pc ls (.int y :: .int x :: st) Q := by
  subst hx
  subst hy
  exact p_icmpeq hd ht (fun h => kt ((nI_eq ha hb).mp h)) (fun h => kf (fun q => h ((nI_eq ha hb).mpr q)))
theorem p_icmpltN {x y : Int32} {off : Int} {tgt : Nat} (a b : Nat) (hd : decode M.1 pc = .ok (.if_icmp .lt off, 3)) (ht : (pc : Int) + off = (tgt : Int)) (hx : x = nI a) (hy : y = nI b) (ha : a < 2 ^ 31) (hb : b < 2 ^ 31) (kt : a < b → WP Γ M B S I J tgt ls st Q) (kf : ¬ a < b → WP Γ M B S I J (pc + 3) ls st Q) : WP Γ M B S I J pc ls (.int y :: .int x :: st) Q := by
  subst hx
  subst hy
  exact p_icmplt hd ht (fun h => kt ((nI_ltI ha hb).mp h)) (fun h => kf (fun q => h ((nI_ltI ha hb).mpr q)))
theorem p_icmpgeN {x y : Int32} {off : Int} {tgt : Nat} (a b : Nat) (hd : decode M.1 pc = .ok (.if_icmp .ge off, 3)) (ht : (pc : Int) + off = (tgt : Int)) (hx : x = nI a) (hy : y = nI b) (ha : a < 2 ^ 31) (hb : b < 2 ^ 31) (kt : b ≤ a → WP Γ M B S I J tgt ls st Q) (kf : ¬ b ≤ a → WP Γ M B S I J (pc + 3) ls st Q) : WP Γ M B S I J pc ls (.int y :: .int x :: st) Q := by
  subst hx
  subst hy
  exact p_icmpge hd ht (fun h => kt ((nI_leI hb ha).mp h)) (fun h => kf (fun q => h ((nI_leI hb ha).mpr q)))
theorem p_icmpgtN {x y : Int32} {off : Int} {tgt : Nat} (a b : Nat) (hd : decode M.1 pc = .ok (.if_icmp .gt off, 3)) (ht : (pc : Int) + off = (tgt : Int)) (hx : x = nI a) (hy : y = nI b) (ha : a < 2 ^ 31) (hb : b < 2 ^ 31) (kt : b < a → WP Γ M B S I J tgt ls st Q) (kf : ¬ b < a → WP Γ M B S I J (pc + 3) ls st Q) : WP Γ M B S I J pc ls (.int y :: .int x :: st) Q := by
  subst hx
  subst hy
  exact p_icmpgt hd ht (fun h => kt ((nI_ltI hb ha).mp h)) (fun h => kf (fun q => h ((nI_ltI hb ha).mpr q)))
theorem p_icmpleN {x y : Int32} {off : Int} {tgt : Nat} (a b : Nat) (hd : decode M.1 pc = .ok (.if_icmp .le off, 3)) (ht : (pc : Int) + off = (tgt : Int)) (hx : x = nI a) (hy : y = nI b) (ha : a < 2 ^ 31) (hb : b < 2 ^ 31) (kt : a ≤ b → WP Γ M B S I J tgt ls st Q) (kf : ¬ a ≤ b → WP Γ M B S I J (pc + 3) ls st Q) : WP Γ M B S I J pc ls (.int y :: .int x :: st) Q := by
  subst hx
  subst hy
  exact p_icmple hd ht (fun h => kt ((nI_leI ha hb).mp h)) (fun h => kf (fun q => h ((nI_leI ha hb).mpr q)))
theorem p_icmpneN {x y : Int32} {off : Int} {tgt : Nat} (a b : Nat) (hd : decode M.1 pc = .ok (.if_icmp .ne off, 3)) (ht : (pc : Int) + off = (tgt : Int)) (hx : x = nI a) (hy : y = nI b) (ha : a < 2 ^ 31) (hb : b < 2 ^ 31) (kt : ¬ a = b → WP Γ M B S I J tgt ls st Q) (kf : a = b → WP Γ M B S I J (pc + 3) ls st Q) : WP Γ M B S I J pc ls (.int y :: .int x :: st) Q := by
  subst hx
  subst hy
  exact p_icmpne hd ht (fun h => kt (fun q => h ((nI_eq ha hb).mpr q))) (fun h => kf ((nI_eq ha hb).mp h))
/-- yes and no as numbers -/
def bI (P : Prop) [Decidable P] : Int32 := if P then 1 else 0
theorem bI_t {P : Prop} [Decidable P] (h : P) : bI P = 1 := by simp [bI, h]
theorem bI_f {P : Prop} [Decidable P] (h : ¬ P) : bI P = 0 := by simp [bI, h]
theorem bI_nar {P : Prop} [Decidable P] : narrow .boolean (.int (bI P)) = .int (bI P) := by
  by_cases h : P
  · rw [bI_t h]; rfl
  · rw [bI_f h]; rfl
theorem bI_01 {P : Prop} [Decidable P] : bI P = 0 ∨ bI P = 1 := by
  by_cases h : P
  · exact Or.inr (bI_t h)
  · exact Or.inl (bI_f h)
theorem p_ifeqB {P : Prop} [Decidable P] {off : Int} {tgt : Nat} (hd : decode M.1 pc = .ok (.ifCond .eq off, 3)) (ht : (pc : Int) + off = (tgt : Int)) (kt : ¬ P → WP Γ M B S I J tgt ls st Q) (kf : P → WP Γ M B S I J (pc + 3) ls st Q) : WP Γ M B S I J pc ls (.int (bI P) :: st) Q := by
  refine p_ifeq hd ht (fun h => kt (fun q => ?_)) (fun h => kf ?_)
  · rw [bI_t q] at h
    exact absurd h (by decide)
  · by_cases q : P
    · exact q
    · exact absurd (bI_f q) h
theorem p_ifneB {P : Prop} [Decidable P] {off : Int} {tgt : Nat} (hd : decode M.1 pc = .ok (.ifCond .ne off, 3)) (ht : (pc : Int) + off = (tgt : Int)) (kt : P → WP Γ M B S I J tgt ls st Q) (kf : ¬ P → WP Γ M B S I J (pc + 3) ls st Q) : WP Γ M B S I J pc ls (.int (bI P) :: st) Q := by
  refine p_ifne hd ht (fun h => kt ?_) (fun h => kf (fun q => ?_))
  · by_cases q : P
    · exact q
    · exact absurd (bI_f q) h
  · rw [bI_t q] at h
    exact absurd h (by decide)
/-- calls of methods that make nothing -/
def VB (N : MI) (n ci : Nat) : Prop := MOK n N ∧ MV N ∧ (N.2.2.2.2.1.cells = 0 ∧ N.2.2.2.2.1.slots = 0) ∧ ∃ q : vw_C, vwCl[ci]? = some q ∧ q.1 = N.2.2.2.2.2.cls
def SB (N : MI) (n : Nat) : Prop := MOK n N ∧ Cond.static N.2.2.2.2.2 ∈ WS ∧ (N.2.2.2.2.1.cells = 0 ∧ N.2.2.2.2.1.slots = 0)
theorem q_V {idx n ci a : Nat} {av : List Value} (hd : decode M.1 pc = .ok (.invokevirtual idx, 3)) (hl0 : Cond.methodLink M.2.1 idx N.2.2.2.2.2 ∈ WS) (vb : VB N n ci) (hk : kd S a ci) (hrm : RmOK M N) (hc : Ct Γ N (.ref a :: av) S I J Q1) (hst0 : st = (.ref a :: av).reverse ++ rest) (hn : av.length = n) (hst : Nat.ble ((rest.map fun v => v.category).sum) 8 = true)
    (kk : ∀ r S' I' J', Q1 r S' I' J' → WP Γ M B S' I' J' (pc + 3) ls (r.toList ++ rest) Q) : WP Γ M B S I J pc ls st Q := by
  subst hst0
  obtain ⟨hok, hv, ⟨z1, z2⟩, q, hq, hC⟩ := vb
  exact p_invV hd hl0 hok hv hn hk hq hC hrm (leb hst) ⟨by omega, by omega⟩ hc kk
theorem q_V1 {idx n ci a : Nat} {av : List Value} {I' : MemI} {J' : MemJ} {v : Value} (hd : decode M.1 pc = .ok (.invokevirtual idx, 3)) (hl0 : Cond.methodLink M.2.1 idx N.2.2.2.2.2 ∈ WS) (vb : VB N n ci) (hk : kd S a ci) (hrm : RmOK M N) (hc : Ct Γ N (.ref a :: av) S I J (eqQ (some v) S I' J')) (hst0 : st = (.ref a :: av).reverse ++ rest) (hn : av.length = n) (hst : Nat.ble ((rest.map fun v => v.category).sum) 8 = true)
    (kk : WP Γ M B S I' J' (pc + 3) ls (v :: rest) Q) : WP Γ M B S I J pc ls st Q :=
  q_V hd hl0 vb hk hrm hc hst0 hn hst (fun r S' I' J' h => by obtain ⟨rfl, rfl, rfl, rfl⟩ := h; exact kk)
theorem q_V0 {idx n ci a : Nat} {av : List Value} {I' : MemI} {J' : MemJ} (hd : decode M.1 pc = .ok (.invokevirtual idx, 3)) (hl0 : Cond.methodLink M.2.1 idx N.2.2.2.2.2 ∈ WS) (vb : VB N n ci) (hk : kd S a ci) (hrm : RmOK M N) (hc : Ct Γ N (.ref a :: av) S I J (eqQ none S I' J')) (hst0 : st = (.ref a :: av).reverse ++ rest) (hn : av.length = n) (hst : Nat.ble ((rest.map fun v => v.category).sum) 8 = true)
    (kk : WP Γ M B S I' J' (pc + 3) ls rest Q) : WP Γ M B S I J pc ls st Q :=
  q_V hd hl0 vb hk hrm hc hst0 hn hst (fun r S' I' J' h => by obtain ⟨rfl, rfl, rfl, rfl⟩ := h; exact kk)
theorem q_S {idx n : Nat} {av : List Value} (hd : decode M.1 pc = .ok (.invokestatic idx, 3)) (hl0 : Cond.methodLink M.2.1 idx N.2.2.2.2.2 ∈ WS) (sb : SB N n) (hrm : RmOK M N) (hc : Ct Γ N av S I J Q1) (hst0 : st = av.reverse ++ rest) (hn : av.length = n) (hst : Nat.ble ((rest.map fun v => v.category).sum) 8 = true)
    (kk : ∀ r S' I' J', Q1 r S' I' J' → WP Γ M B S' I' J' (pc + 3) ls (r.toList ++ rest) Q) : WP Γ M B S I J pc ls st Q := by
  subst hst0
  obtain ⟨hok, hv, ⟨z1, z2⟩⟩ := sb
  exact p_invS hd hl0 hok hv hn hrm (leb hst) ⟨by omega, by omega⟩ hc kk
theorem q_SN {idx n : Nat} {av : List Value} {host : String} (hd : decode M.1 pc = .ok (.invokestatic idx, 3)) (hl0 : Cond.methodLinkNest M.2.1 idx N.2.2.2.2.2 host ∈ tables_1) (sb : SB N n) (hrm : RmOK M N) (hc : Ct Γ N av S I J Q1) (hst0 : st = av.reverse ++ rest) (hn : av.length = n) (hst : Nat.ble ((rest.map fun v => v.category).sum) 8 = true)
    (kk : ∀ r S' I' J', Q1 r S' I' J' → WP Γ M B S' I' J' (pc + 3) ls (r.toList ++ rest) Q) : WP Γ M B S I J pc ls st Q := by
  subst hst0
  obtain ⟨hok, hv, ⟨z1, z2⟩⟩ := sb
  exact p_invSN hd hl0 hok hv hn hrm (leb hst) ⟨by omega, by omega⟩ hc kk
theorem q_S1 {idx n : Nat} {av : List Value} {I' : MemI} {J' : MemJ} {v : Value} (hd : decode M.1 pc = .ok (.invokestatic idx, 3)) (hl0 : Cond.methodLink M.2.1 idx N.2.2.2.2.2 ∈ WS) (sb : SB N n) (hrm : RmOK M N) (hc : Ct Γ N av S I J (eqQ (some v) S I' J')) (hst0 : st = av.reverse ++ rest) (hn : av.length = n) (hst : Nat.ble ((rest.map fun v => v.category).sum) 8 = true)
    (kk : WP Γ M B S I' J' (pc + 3) ls (v :: rest) Q) : WP Γ M B S I J pc ls st Q :=
  q_S hd hl0 sb hrm hc hst0 hn hst (fun r S' I' J' h => by obtain ⟨rfl, rfl, rfl, rfl⟩ := h; exact kk)
theorem q_S0 {idx n : Nat} {av : List Value} {I' : MemI} {J' : MemJ} (hd : decode M.1 pc = .ok (.invokestatic idx, 3)) (hl0 : Cond.methodLink M.2.1 idx N.2.2.2.2.2 ∈ WS) (sb : SB N n) (hrm : RmOK M N) (hc : Ct Γ N av S I J (eqQ none S I' J')) (hst0 : st = av.reverse ++ rest) (hn : av.length = n) (hst : Nat.ble ((rest.map fun v => v.category).sum) 8 = true)
    (kk : WP Γ M B S I' J' (pc + 3) ls rest Q) : WP Γ M B S I J pc ls st Q :=
  q_S hd hl0 sb hrm hc hst0 hn hst (fun r S' I' J' h => by obtain ⟨rfl, rfl, rfl, rfl⟩ := h; exact kk)
theorem q_SN1 {idx n : Nat} {av : List Value} {host : String} {I' : MemI} {J' : MemJ} {v : Value} (hd : decode M.1 pc = .ok (.invokestatic idx, 3)) (hl0 : Cond.methodLinkNest M.2.1 idx N.2.2.2.2.2 host ∈ tables_1) (sb : SB N n) (hrm : RmOK M N) (hc : Ct Γ N av S I J (eqQ (some v) S I' J')) (hst0 : st = av.reverse ++ rest) (hn : av.length = n) (hst : Nat.ble ((rest.map fun v => v.category).sum) 8 = true)
    (kk : WP Γ M B S I' J' (pc + 3) ls (v :: rest) Q) : WP Γ M B S I J pc ls st Q :=
  q_SN hd hl0 sb hrm hc hst0 hn hst (fun r S' I' J' h => by obtain ⟨rfl, rfl, rfl, rfl⟩ := h; exact kk)
end R2
theorem vb_Ch_empty : VB M_Ch_empty 0 0 := ⟨ok_Ch_empty, mv_Ch_empty, ⟨rfl, rfl⟩, (RX0, TX0, 9), rfl, rfl⟩
theorem vb_Bo_type : VB M_Bo_type 1 4 := ⟨ok_Bo_type, mv_Bo_type, ⟨rfl, rfl⟩, (RX4, TX4, 14), rfl, rfl⟩
theorem sb_Bo_within : SB M_Bo_within 3 := ⟨ok_Bo_within, st_Bo_within, rfl, rfl⟩
theorem vb_Re_add : VB M_Re_add 1 2 := ⟨ok_Re_add, mv_Re_add, ⟨rfl, rfl⟩, (RX2, TX2, 9), rfl, rfl⟩
theorem vb_Bo_clear : VB M_Bo_clear 0 4 := ⟨ok_Bo_clear, mv_Bo_clear, ⟨rfl, rfl⟩, (RX4, TX4, 14), rfl, rfl⟩
theorem vb_Re_empty : VB M_Re_empty 0 2 := ⟨ok_Re_empty, mv_Re_empty, ⟨rfl, rfl⟩, (RX2, TX2, 9), rfl, rfl⟩
theorem vb_Bo_church : VB M_Bo_church 0 4 := ⟨ok_Bo_church, mv_Bo_church, ⟨rfl, rfl⟩, (RX4, TX4, 14), rfl, rfl⟩
theorem vb_Re_readInto : VB M_Re_readInto 1 2 := ⟨ok_Re_readInto, mv_Re_readInto, ⟨rfl, rfl⟩, (RX2, TX2, 9), rfl, rfl⟩
theorem vb_Re_readToken : VB M_Re_readToken 0 2 := ⟨ok_Re_readToken, mv_Re_readToken, ⟨rfl, rfl⟩, (RX2, TX2, 9), rfl, rfl⟩
theorem sb_Re_isDigit : SB M_Re_isDigit 1 := ⟨ok_Re_isDigit, st_Re_isDigit, rfl, rfl⟩
theorem vb_Re_readDigits : VB M_Re_readDigits 0 2 := ⟨ok_Re_readDigits, mv_Re_readDigits, ⟨rfl, rfl⟩, (RX2, TX2, 9), rfl, rfl⟩
theorem vb_Re_readItem : VB M_Re_readItem 1 2 := ⟨ok_Re_readItem, mv_Re_readItem, ⟨rfl, rfl⟩, (RX2, TX2, 9), rfl, rfl⟩
theorem vb_Re_readPew : VB M_Re_readPew 1 2 := ⟨ok_Re_readPew, mv_Re_readPew, ⟨rfl, rfl⟩, (RX2, TX2, 9), rfl, rfl⟩
theorem vb_Re_readNumber : VB M_Re_readNumber 2 2 := ⟨ok_Re_readNumber, mv_Re_readNumber, ⟨rfl, rfl⟩, (RX2, TX2, 9), rfl, rfl⟩
theorem vb_Re_readItemEnd : VB M_Re_readItemEnd 0 2 := ⟨ok_Re_readItemEnd, mv_Re_readItemEnd, ⟨rfl, rfl⟩, (RX2, TX2, 9), rfl, rfl⟩
theorem vb_Re_readWait : VB M_Re_readWait 1 2 := ⟨ok_Re_readWait, mv_Re_readWait, ⟨rfl, rfl⟩, (RX2, TX2, 9), rfl, rfl⟩
theorem vb_Re_readLines : VB M_Re_readLines 1 2 := ⟨ok_Re_readLines, mv_Re_readLines, ⟨rfl, rfl⟩, (RX2, TX2, 9), rfl, rfl⟩
theorem vb_Re_readGap : VB M_Re_readGap 1 2 := ⟨ok_Re_readGap, mv_Re_readGap, ⟨rfl, rfl⟩, (RX2, TX2, 9), rfl, rfl⟩
theorem vb_Ch_copyFrom : VB M_Ch_copyFrom 1 0 := ⟨ok_Ch_copyFrom, mv_Ch_copyFrom, ⟨rfl, rfl⟩, (RX0, TX0, 9), rfl, rfl⟩
theorem vb_Ch_copyPew : VB M_Ch_copyPew 3 0 := ⟨ok_Ch_copyPew, mv_Ch_copyPew, ⟨rfl, rfl⟩, (RX0, TX0, 9), rfl, rfl⟩
theorem vb_Bo_beginAnew : VB M_Bo_beginAnew 0 4 := ⟨ok_Bo_beginAnew, mv_Bo_beginAnew, ⟨rfl, rfl⟩, (RX4, TX4, 14), rfl, rfl⟩
theorem vb_Si_begin : VB M_Si_begin 1 3 := ⟨ok_Si_begin, mv_Si_begin, ⟨rfl, rfl⟩, (RX3, TX3, 7), rfl, rfl⟩
theorem vb_Bo_pew : VB M_Bo_pew 2 4 := ⟨ok_Bo_pew, mv_Bo_pew, ⟨rfl, rfl⟩, (RX4, TX4, 14), rfl, rfl⟩
theorem vb_Ch_has : VB M_Ch_has 1 0 := ⟨ok_Ch_has, mv_Ch_has, ⟨rfl, rfl⟩, (RX0, TX0, 9), rfl, rfl⟩
theorem vb_Ch_lag : VB M_Ch_lag 1 0 := ⟨ok_Ch_lag, mv_Ch_lag, ⟨rfl, rfl⟩, (RX0, TX0, 9), rfl, rfl⟩
theorem vb_Si_isKnower : VB M_Si_isKnower 1 3 := ⟨ok_Si_isKnower, mv_Si_isKnower, ⟨rfl, rfl⟩, (RX3, TX3, 7), rfl, rfl⟩
theorem vb_Bo_now : VB M_Bo_now 1 4 := ⟨ok_Bo_now, mv_Bo_now, ⟨rfl, rfl⟩, (RX4, TX4, 14), rfl, rfl⟩
theorem vb_Si_apart : VB M_Si_apart 1 3 := ⟨ok_Si_apart, mv_Si_apart, ⟨rfl, rfl⟩, (RX3, TX3, 7), rfl, rfl⟩
theorem vb_Bo_line : VB M_Bo_line 0 4 := ⟨ok_Bo_line, mv_Bo_line, ⟨rfl, rfl⟩, (RX4, TX4, 14), rfl, rfl⟩
theorem vb_Hi_remember : VB M_Hi_remember 1 1 := ⟨ok_Hi_remember, mv_Hi_remember, ⟨rfl, rfl⟩, (RX1, TX1, 3), rfl, rfl⟩
theorem vb_Si_copyFrom : VB M_Si_copyFrom 1 3 := ⟨ok_Si_copyFrom, mv_Si_copyFrom, ⟨rfl, rfl⟩, (RX3, TX3, 7), rfl, rfl⟩
theorem vb_Ch_singLine : VB M_Ch_singLine 1 0 := ⟨ok_Ch_singLine, mv_Ch_singLine, ⟨rfl, rfl⟩, (RX0, TX0, 9), rfl, rfl⟩
theorem vb_Ch_lateBehindLine : VB M_Ch_lateBehindLine 2 0 := ⟨ok_Ch_lateBehindLine, mv_Ch_lateBehindLine, ⟨rfl, rfl⟩, (RX0, TX0, 9), rfl, rfl⟩
theorem vb_Ch_meanBeside : VB M_Ch_meanBeside 1 0 := ⟨ok_Ch_meanBeside, mv_Ch_meanBeside, ⟨rfl, rfl⟩, (RX0, TX0, 9), rfl, rfl⟩
theorem vb_Ch_between : VB M_Ch_between 2 0 := ⟨ok_Ch_between, mv_Ch_between, ⟨rfl, rfl⟩, (RX0, TX0, 9), rfl, rfl⟩
theorem sb_Bo_divided : SB M_Bo_divided 2 := ⟨ok_Bo_divided, st_Bo_divided, rfl, rfl⟩
theorem vb_Ch_waitFor : VB M_Ch_waitFor 1 0 := ⟨ok_Ch_waitFor, mv_Ch_waitFor, ⟨rfl, rfl⟩, (RX0, TX0, 9), rfl, rfl⟩
theorem vb_Bo_verse : VB M_Bo_verse 0 4 := ⟨ok_Bo_verse, mv_Bo_verse, ⟨rfl, rfl⟩, (RX4, TX4, 14), rfl, rfl⟩
theorem vb_Ch_singLines : VB M_Ch_singLines 2 0 := ⟨ok_Ch_singLines, mv_Ch_singLines, ⟨rfl, rfl⟩, (RX0, TX0, 9), rfl, rfl⟩
theorem vb_Bo_ahead : VB M_Bo_ahead 1 4 := ⟨ok_Bo_ahead, mv_Bo_ahead, ⟨rfl, rfl⟩, (RX4, TX4, 14), rfl, rfl⟩
theorem vb_Bo_choir : VB M_Bo_choir 1 4 := ⟨ok_Bo_choir, mv_Bo_choir, ⟨rfl, rfl⟩, (RX4, TX4, 14), rfl, rfl⟩
theorem vb_Bo_knows : VB M_Bo_knows 2 4 := ⟨ok_Bo_knows, mv_Bo_knows, ⟨rfl, rfl⟩, (RX4, TX4, 14), rfl, rfl⟩
theorem sb_In_bitCount : SB M_In_bitCount 1 := ⟨ok_In_bitCount, st_In_bitCount, rfl, rfl⟩
theorem vb_Bo_waits : VB M_Bo_waits 1 4 := ⟨ok_Bo_waits, mv_Bo_waits, ⟨rfl, rfl⟩, (RX4, TX4, 14), rfl, rfl⟩
theorem vb_Bo_undo : VB M_Bo_undo 0 4 := ⟨ok_Bo_undo, mv_Bo_undo, ⟨rfl, rfl⟩, (RX4, TX4, 14), rfl, rfl⟩
theorem vb_Hi_takeBack : VB M_Hi_takeBack 1 1 := ⟨ok_Hi_takeBack, mv_Hi_takeBack, ⟨rfl, rfl⟩, (RX1, TX1, 3), rfl, rfl⟩
theorem vb_Bo_behind : VB M_Bo_behind 2 4 := ⟨ok_Bo_behind, mv_Bo_behind, ⟨rfl, rfl⟩, (RX4, TX4, 14), rfl, rfl⟩
theorem vb_Bo_asleep : VB M_Bo_asleep 1 4 := ⟨ok_Bo_asleep, mv_Bo_asleep, ⟨rfl, rfl⟩, (RX4, TX4, 14), rfl, rfl⟩
theorem vb_Bo_rest : VB M_Bo_rest 0 4 := ⟨ok_Bo_rest, mv_Bo_rest, ⟨rfl, rfl⟩, (RX4, TX4, 14), rfl, rfl⟩
theorem vb_Si_isAsLateAs : VB M_Si_isAsLateAs 2 3 := ⟨ok_Si_isAsLateAs, mv_Si_isAsLateAs, ⟨rfl, rfl⟩, (RX3, TX3, 7), rfl, rfl⟩
theorem vb_Bo_playAhead : VB M_Bo_playAhead 2 4 := ⟨ok_Bo_playAhead, mv_Bo_playAhead, ⟨rfl, rfl⟩, (RX4, TX4, 14), rfl, rfl⟩
theorem vb_Si_greatest : VB M_Si_greatest 1 3 := ⟨ok_Si_greatest, mv_Si_greatest, ⟨rfl, rfl⟩, (RX3, TX3, 7), rfl, rfl⟩
theorem vb_Bo_seat : VB M_Bo_seat 2 4 := ⟨ok_Bo_seat, mv_Bo_seat, ⟨rfl, rfl⟩, (RX4, TX4, 14), rfl, rfl⟩
theorem vb_Bo_apartBySeat : VB M_Bo_apartBySeat 2 4 := ⟨ok_Bo_apartBySeat, mv_Bo_apartBySeat, ⟨rfl, rfl⟩, (RX4, TX4, 14), rfl, rfl⟩
theorem vb_Bo_knowers : VB M_Bo_knowers 2 4 := ⟨ok_Bo_knowers, mv_Bo_knowers, ⟨rfl, rfl⟩, (RX4, TX4, 14), rfl, rfl⟩
theorem vb_Bo_knowersOfSize : VB M_Bo_knowersOfSize 3 4 := ⟨ok_Bo_knowersOfSize, mv_Bo_knowersOfSize, ⟨rfl, rfl⟩, (RX4, TX4, 14), rfl, rfl⟩
theorem vb_Bo_pulls : VB M_Bo_pulls 1 4 := ⟨ok_Bo_pulls, mv_Bo_pulls, ⟨rfl, rfl⟩, (RX4, TX4, 14), rfl, rfl⟩
theorem vb_Bo_paceWithout : VB M_Bo_paceWithout 2 4 := ⟨ok_Bo_paceWithout, mv_Bo_paceWithout, ⟨rfl, rfl⟩, (RX4, TX4, 14), rfl, rfl⟩
theorem vb_Ch_leaveOut : VB M_Ch_leaveOut 1 0 := ⟨ok_Ch_leaveOut, mv_Ch_leaveOut, ⟨rfl, rfl⟩, (RX0, TX0, 9), rfl, rfl⟩
theorem vb_Si_leaveOut : VB M_Si_leaveOut 1 3 := ⟨ok_Si_leaveOut, mv_Si_leaveOut, ⟨rfl, rfl⟩, (RX3, TX3, 7), rfl, rfl⟩
theorem vb_Bo_change : VB M_Bo_change 1 4 := ⟨ok_Bo_change, mv_Bo_change, ⟨rfl, rfl⟩, (RX4, TX4, 14), rfl, rfl⟩
theorem vb_Bo_apartByChange : VB M_Bo_apartByChange 3 4 := ⟨ok_Bo_apartByChange, mv_Bo_apartByChange, ⟨rfl, rfl⟩, (RX4, TX4, 14), rfl, rfl⟩
theorem vb_Bo_gaps : VB M_Bo_gaps 1 4 := ⟨ok_Bo_gaps, mv_Bo_gaps, ⟨rfl, rfl⟩, (RX4, TX4, 14), rfl, rfl⟩
theorem vb_Bo_hear : VB M_Bo_hear 3 4 := ⟨ok_Bo_hear, mv_Bo_hear, ⟨rfl, rfl⟩, (RX4, TX4, 14), rfl, rfl⟩
theorem vb_Bo_forget : VB M_Bo_forget 0 4 := ⟨ok_Bo_forget, mv_Bo_forget, ⟨rfl, rfl⟩, (RX4, TX4, 14), rfl, rfl⟩
theorem vb_Bo_waited : VB M_Bo_waited 0 4 := ⟨ok_Bo_waited, mv_Bo_waited, ⟨rfl, rfl⟩, (RX4, TX4, 14), rfl, rfl⟩
theorem vb_Bo_isAllHeardSo : VB M_Bo_isAllHeardSo 1 4 := ⟨ok_Bo_isAllHeardSo, mv_Bo_isAllHeardSo, ⟨rfl, rfl⟩, (RX4, TX4, 14), rfl, rfl⟩
theorem vb_Bo_odds : VB M_Bo_odds 5 4 := ⟨ok_Bo_odds, mv_Bo_odds, ⟨rfl, rfl⟩, (RX4, TX4, 14), rfl, rfl⟩
theorem vb_Bo_apartByPlays : VB M_Bo_apartByPlays 3 4 := ⟨ok_Bo_apartByPlays, mv_Bo_apartByPlays, ⟨rfl, rfl⟩, (RX4, TX4, 14), rfl, rfl⟩
theorem sb_Bo_power : SB M_Bo_power 2 := ⟨ok_Bo_power, st_Bo_power, rfl, rfl⟩
theorem sb_Bo_commonDivisor : SB M_Bo_commonDivisor 2 := ⟨ok_Bo_commonDivisor, st_Bo_commonDivisor, rfl, rfl⟩
theorem vb_Bo_rate : VB M_Bo_rate 2 4 := ⟨ok_Bo_rate, mv_Bo_rate, ⟨rfl, rfl⟩, (RX4, TX4, 14), rfl, rfl⟩
theorem vb_Bo_rateFront : VB M_Bo_rateFront 1 4 := ⟨ok_Bo_rateFront, mv_Bo_rateFront, ⟨rfl, rfl⟩, (RX4, TX4, 14), rfl, rfl⟩
theorem vb_Bo_ratePew : VB M_Bo_ratePew 1 4 := ⟨ok_Bo_ratePew, mv_Bo_ratePew, ⟨rfl, rfl⟩, (RX4, TX4, 14), rfl, rfl⟩
theorem vb_Bo_rateBasses : VB M_Bo_rateBasses 1 4 := ⟨ok_Bo_rateBasses, mv_Bo_rateBasses, ⟨rfl, rfl⟩, (RX4, TX4, 14), rfl, rfl⟩
theorem vb_Bo_rateWidows : VB M_Bo_rateWidows 1 4 := ⟨ok_Bo_rateWidows, mv_Bo_rateWidows, ⟨rfl, rfl⟩, (RX4, TX4, 14), rfl, rfl⟩
theorem vb_Bo_rateBoys : VB M_Bo_rateBoys 1 4 := ⟨ok_Bo_rateBoys, mv_Bo_rateBoys, ⟨rfl, rfl⟩, (RX4, TX4, 14), rfl, rfl⟩
theorem vb_Bo_rateStrangers : VB M_Bo_rateStrangers 1 4 := ⟨ok_Bo_rateStrangers, mv_Bo_rateStrangers, ⟨rfl, rfl⟩, (RX4, TX4, 14), rfl, rfl⟩
theorem vb_Bo_keep : VB M_Bo_keep 1 4 := ⟨ok_Bo_keep, mv_Bo_keep, ⟨rfl, rfl⟩, (RX4, TX4, 14), rfl, rfl⟩
theorem vb_Bo_back : VB M_Bo_back 1 4 := ⟨ok_Bo_back, mv_Bo_back, ⟨rfl, rfl⟩, (RX4, TX4, 14), rfl, rfl⟩
theorem vb_Bo_count : VB M_Bo_count 1 4 := ⟨ok_Bo_count, mv_Bo_count, ⟨rfl, rfl⟩, (RX4, TX4, 14), rfl, rfl⟩
theorem vb_Bo_trace : VB M_Bo_trace 0 4 := ⟨ok_Bo_trace, mv_Bo_trace, ⟨rfl, rfl⟩, (RX4, TX4, 14), rfl, rfl⟩
theorem sb_Mo_clean : SB M_Mo_clean 1 := ⟨ok_Mo_clean, st_Mo_clean, rfl, rfl⟩
theorem vb_Mo_type : VB M_Mo_type 1 5 := ⟨ok_Mo_type, mv_Mo_type, ⟨rfl, rfl⟩, (RX5, TX5, 17), rfl, rfl⟩
theorem sb_Mo_in : SB M_Mo_in 3 := ⟨ok_Mo_in, st_Mo_in, rfl, rfl⟩
theorem vb_Mo_clear : VB M_Mo_clear 0 5 := ⟨ok_Mo_clear, mv_Mo_clear, ⟨rfl, rfl⟩, (RX5, TX5, 17), rfl, rfl⟩
theorem vb_Mo_church : VB M_Mo_church 0 5 := ⟨ok_Mo_church, mv_Mo_church, ⟨rfl, rfl⟩, (RX5, TX5, 17), rfl, rfl⟩
theorem vb_Mo_first : VB M_Mo_first 0 5 := ⟨ok_Mo_first, mv_Mo_first, ⟨rfl, rfl⟩, (RX5, TX5, 17), rfl, rfl⟩
theorem vb_Mo_takesItem : VB M_Mo_takesItem 1 5 := ⟨ok_Mo_takesItem, mv_Mo_takesItem, ⟨rfl, rfl⟩, (RX5, TX5, 17), rfl, rfl⟩
theorem vb_Mo_takesPew : VB M_Mo_takesPew 0 5 := ⟨ok_Mo_takesPew, mv_Mo_takesPew, ⟨rfl, rfl⟩, (RX5, TX5, 17), rfl, rfl⟩
theorem vb_Mo_number : VB M_Mo_number 3 5 := ⟨ok_Mo_number, mv_Mo_number, ⟨rfl, rfl⟩, (RX5, TX5, 17), rfl, rfl⟩
theorem vb_Mo_ends : VB M_Mo_ends 0 5 := ⟨ok_Mo_ends, mv_Mo_ends, ⟨rfl, rfl⟩, (RX5, TX5, 17), rfl, rfl⟩
theorem vb_Mo_takesOne : VB M_Mo_takesOne 3 5 := ⟨ok_Mo_takesOne, mv_Mo_takesOne, ⟨rfl, rfl⟩, (RX5, TX5, 17), rfl, rfl⟩
theorem sb_Mo_copies : SB M_Mo_copies 4 := ⟨ok_Mo_copies, st_Mo_copies, rfl, rfl⟩
theorem vb_Mo_pew : VB M_Mo_pew 2 5 := ⟨ok_Mo_pew, mv_Mo_pew, ⟨rfl, rfl⟩, (RX5, TX5, 17), rfl, rfl⟩
theorem vb_Mo_isPew : VB M_Mo_isPew 1 5 := ⟨ok_Mo_isPew, mv_Mo_isPew, ⟨rfl, rfl⟩, (RX5, TX5, 17), rfl, rfl⟩
theorem vb_Mo_now : VB M_Mo_now 1 5 := ⟨ok_Mo_now, mv_Mo_now, ⟨rfl, rfl⟩, (RX5, TX5, 17), rfl, rfl⟩
theorem sb_Mo_apart : SB M_Mo_apart 1 := ⟨ok_Mo_apart, st_Mo_apart, rfl, rfl⟩
theorem vb_Mo_line : VB M_Mo_line 0 5 := ⟨ok_Mo_line, mv_Mo_line, ⟨rfl, rfl⟩, (RX5, TX5, 17), rfl, rfl⟩
theorem vb_Mo_remember : VB M_Mo_remember 0 5 := ⟨ok_Mo_remember, mv_Mo_remember, ⟨rfl, rfl⟩, (RX5, TX5, 17), rfl, rfl⟩
theorem vb_Mo_sings : VB M_Mo_sings 1 5 := ⟨ok_Mo_sings, mv_Mo_sings, ⟨rfl, rfl⟩, (RX5, TX5, 17), rfl, rfl⟩
theorem sb_Mo_lateThen : SB M_Mo_lateThen 2 := ⟨ok_Mo_lateThen, st_Mo_lateThen, rfl, rfl⟩
theorem sb_Mo_from : SB M_Mo_from 3 := ⟨ok_Mo_from, st_Mo_from, rfl, rfl⟩
theorem vb_Mo_verse : VB M_Mo_verse 0 5 := ⟨ok_Mo_verse, mv_Mo_verse, ⟨rfl, rfl⟩, (RX5, TX5, 17), rfl, rfl⟩
theorem sb_Mo_rests : SB M_Mo_rests 2 := ⟨ok_Mo_rests, st_Mo_rests, rfl, rfl⟩
theorem vb_Mo_ahead : VB M_Mo_ahead 1 5 := ⟨ok_Mo_ahead, mv_Mo_ahead, ⟨rfl, rfl⟩, (RX5, TX5, 17), rfl, rfl⟩
theorem vb_Mo_puts : VB M_Mo_puts 2 5 := ⟨ok_Mo_puts, mv_Mo_puts, ⟨rfl, rfl⟩, (RX5, TX5, 17), rfl, rfl⟩
theorem vb_Mo_choir : VB M_Mo_choir 1 5 := ⟨ok_Mo_choir, mv_Mo_choir, ⟨rfl, rfl⟩, (RX5, TX5, 17), rfl, rfl⟩
theorem vb_Mo_knows : VB M_Mo_knows 2 5 := ⟨ok_Mo_knows, mv_Mo_knows, ⟨rfl, rfl⟩, (RX5, TX5, 17), rfl, rfl⟩
theorem sb_Mo_isTwo : SB M_Mo_isTwo 1 := ⟨ok_Mo_isTwo, st_Mo_isTwo, rfl, rfl⟩
theorem sb_Mo_bits : SB M_Mo_bits 1 := ⟨ok_Mo_bits, st_Mo_bits, rfl, rfl⟩
theorem vb_Mo_waits : VB M_Mo_waits 1 5 := ⟨ok_Mo_waits, mv_Mo_waits, ⟨rfl, rfl⟩, (RX5, TX5, 17), rfl, rfl⟩
theorem vb_Mo_undo : VB M_Mo_undo 0 5 := ⟨ok_Mo_undo, mv_Mo_undo, ⟨rfl, rfl⟩, (RX5, TX5, 17), rfl, rfl⟩
theorem vb_Mo_behind : VB M_Mo_behind 2 5 := ⟨ok_Mo_behind, mv_Mo_behind, ⟨rfl, rfl⟩, (RX5, TX5, 17), rfl, rfl⟩
theorem vb_Mo_asNow : VB M_Mo_asNow 0 5 := ⟨ok_Mo_asNow, mv_Mo_asNow, ⟨rfl, rfl⟩, (RX5, TX5, 17), rfl, rfl⟩
theorem vb_Mo_go : VB M_Mo_go 1 5 := ⟨ok_Mo_go, mv_Mo_go, ⟨rfl, rfl⟩, (RX5, TX5, 17), rfl, rfl⟩
theorem vb_Mo_asleep : VB M_Mo_asleep 1 5 := ⟨ok_Mo_asleep, mv_Mo_asleep, ⟨rfl, rfl⟩, (RX5, TX5, 17), rfl, rfl⟩
theorem vb_Mo_rest : VB M_Mo_rest 0 5 := ⟨ok_Mo_rest, mv_Mo_rest, ⟨rfl, rfl⟩, (RX5, TX5, 17), rfl, rfl⟩
theorem vb_Mo_playAhead : VB M_Mo_playAhead 2 5 := ⟨ok_Mo_playAhead, mv_Mo_playAhead, ⟨rfl, rfl⟩, (RX5, TX5, 17), rfl, rfl⟩
theorem sb_Mo_isSpan : SB M_Mo_isSpan 1 := ⟨ok_Mo_isSpan, st_Mo_isSpan, rfl, rfl⟩
theorem sb_Mo_greatest : SB M_Mo_greatest 1 := ⟨ok_Mo_greatest, st_Mo_greatest, rfl, rfl⟩
theorem vb_Mo_seat : VB M_Mo_seat 2 5 := ⟨ok_Mo_seat, mv_Mo_seat, ⟨rfl, rfl⟩, (RX5, TX5, 17), rfl, rfl⟩
theorem vb_Mo_knowers : VB M_Mo_knowers 2 5 := ⟨ok_Mo_knowers, mv_Mo_knowers, ⟨rfl, rfl⟩, (RX5, TX5, 17), rfl, rfl⟩
theorem vb_Mo_pulls : VB M_Mo_pulls 1 5 := ⟨ok_Mo_pulls, mv_Mo_pulls, ⟨rfl, rfl⟩, (RX5, TX5, 17), rfl, rfl⟩
theorem vb_Mo_without : VB M_Mo_without 1 5 := ⟨ok_Mo_without, mv_Mo_without, ⟨rfl, rfl⟩, (RX5, TX5, 17), rfl, rfl⟩
theorem vb_Mo_change : VB M_Mo_change 1 5 := ⟨ok_Mo_change, mv_Mo_change, ⟨rfl, rfl⟩, (RX5, TX5, 17), rfl, rfl⟩
theorem vb_Mo_gaps : VB M_Mo_gaps 1 5 := ⟨ok_Mo_gaps, mv_Mo_gaps, ⟨rfl, rfl⟩, (RX5, TX5, 17), rfl, rfl⟩
theorem vb_Mo_hear : VB M_Mo_hear 3 5 := ⟨ok_Mo_hear, mv_Mo_hear, ⟨rfl, rfl⟩, (RX5, TX5, 17), rfl, rfl⟩
theorem vb_Mo_forget : VB M_Mo_forget 0 5 := ⟨ok_Mo_forget, mv_Mo_forget, ⟨rfl, rfl⟩, (RX5, TX5, 17), rfl, rfl⟩
theorem vb_Mo_waited : VB M_Mo_waited 0 5 := ⟨ok_Mo_waited, mv_Mo_waited, ⟨rfl, rfl⟩, (RX5, TX5, 17), rfl, rfl⟩
theorem vb_Mo_isSo : VB M_Mo_isSo 1 5 := ⟨ok_Mo_isSo, mv_Mo_isSo, ⟨rfl, rfl⟩, (RX5, TX5, 17), rfl, rfl⟩
theorem vb_Mo_odds : VB M_Mo_odds 5 5 := ⟨ok_Mo_odds, mv_Mo_odds, ⟨rfl, rfl⟩, (RX5, TX5, 17), rfl, rfl⟩
theorem vb_Mo_rate : VB M_Mo_rate 2 5 := ⟨ok_Mo_rate, mv_Mo_rate, ⟨rfl, rfl⟩, (RX5, TX5, 17), rfl, rfl⟩
theorem vb_Mo_keep : VB M_Mo_keep 1 5 := ⟨ok_Mo_keep, mv_Mo_keep, ⟨rfl, rfl⟩, (RX5, TX5, 17), rfl, rfl⟩
theorem vb_Mo_back : VB M_Mo_back 1 5 := ⟨ok_Mo_back, mv_Mo_back, ⟨rfl, rfl⟩, (RX5, TX5, 17), rfl, rfl⟩
theorem vb_Mo_count : VB M_Mo_count 1 5 := ⟨ok_Mo_count, mv_Mo_count, ⟨rfl, rfl⟩, (RX5, TX5, 17), rfl, rfl⟩
theorem vb_Mo_trace : VB M_Mo_trace 0 5 := ⟨ok_Mo_trace, mv_Mo_trace, ⟨rfl, rfl⟩, (RX5, TX5, 17), rfl, rfl⟩
theorem ff_0_0 : ∀ q : vw_C, vwCl[0]? = some q → (q.2.1 0).2.2.2 = true ∧ (q.2.1 0).1 = RX0 := fun q h => by cases h; exact ⟨rfl, rfl⟩
theorem ff_0_1 : ∀ q : vw_C, vwCl[0]? = some q → (q.2.1 1).2.2.2 = true ∧ (q.2.1 1).1 = RX0 := fun q h => by cases h; exact ⟨rfl, rfl⟩
theorem ff_0_2 : ∀ q : vw_C, vwCl[0]? = some q → (q.2.1 2).2.2.2 = true ∧ (q.2.1 2).1 = RX0 := fun q h => by cases h; exact ⟨rfl, rfl⟩
theorem ff_0_3 : ∀ q : vw_C, vwCl[0]? = some q → (q.2.1 3).2.2.2 = true ∧ (q.2.1 3).1 = RX0 := fun q h => by cases h; exact ⟨rfl, rfl⟩
theorem nf_0_4 : ∀ q : vw_C, vwCl[0]? = some q → (q.2.1 4).2.2.2 = false := fun q h => by cases h; rfl
theorem nf_0_5 : ∀ q : vw_C, vwCl[0]? = some q → (q.2.1 5).2.2.2 = false := fun q h => by cases h; rfl
theorem nf_0_6 : ∀ q : vw_C, vwCl[0]? = some q → (q.2.1 6).2.2.2 = false := fun q h => by cases h; rfl
theorem nf_0_7 : ∀ q : vw_C, vwCl[0]? = some q → (q.2.1 7).2.2.2 = false := fun q h => by cases h; rfl
theorem ff_0_8 : ∀ q : vw_C, vwCl[0]? = some q → (q.2.1 8).2.2.2 = true ∧ (q.2.1 8).1 = RX0 := fun q h => by cases h; exact ⟨rfl, rfl⟩
theorem ff_1_0 : ∀ q : vw_C, vwCl[1]? = some q → (q.2.1 0).2.2.2 = true ∧ (q.2.1 0).1 = RX1 := fun q h => by cases h; exact ⟨rfl, rfl⟩
theorem nf_1_1 : ∀ q : vw_C, vwCl[1]? = some q → (q.2.1 1).2.2.2 = false := fun q h => by cases h; rfl
theorem nf_1_2 : ∀ q : vw_C, vwCl[1]? = some q → (q.2.1 2).2.2.2 = false := fun q h => by cases h; rfl
theorem ff_2_0 : ∀ q : vw_C, vwCl[2]? = some q → (q.2.1 0).2.2.2 = true ∧ (q.2.1 0).1 = RX2 := fun q h => by cases h; exact ⟨rfl, rfl⟩
theorem nf_2_1 : ∀ q : vw_C, vwCl[2]? = some q → (q.2.1 1).2.2.2 = false := fun q h => by cases h; rfl
theorem nf_2_2 : ∀ q : vw_C, vwCl[2]? = some q → (q.2.1 2).2.2.2 = false := fun q h => by cases h; rfl
theorem nf_2_3 : ∀ q : vw_C, vwCl[2]? = some q → (q.2.1 3).2.2.2 = false := fun q h => by cases h; rfl
theorem nf_2_4 : ∀ q : vw_C, vwCl[2]? = some q → (q.2.1 4).2.2.2 = false := fun q h => by cases h; rfl
theorem nf_2_5 : ∀ q : vw_C, vwCl[2]? = some q → (q.2.1 5).2.2.2 = false := fun q h => by cases h; rfl
theorem nf_2_6 : ∀ q : vw_C, vwCl[2]? = some q → (q.2.1 6).2.2.2 = false := fun q h => by cases h; rfl
theorem nf_2_7 : ∀ q : vw_C, vwCl[2]? = some q → (q.2.1 7).2.2.2 = false := fun q h => by cases h; rfl
theorem nf_2_8 : ∀ q : vw_C, vwCl[2]? = some q → (q.2.1 8).2.2.2 = false := fun q h => by cases h; rfl
theorem ff_3_0 : ∀ q : vw_C, vwCl[3]? = some q → (q.2.1 0).2.2.2 = true ∧ (q.2.1 0).1 = RX3 := fun q h => by cases h; exact ⟨rfl, rfl⟩
theorem nf_3_1 : ∀ q : vw_C, vwCl[3]? = some q → (q.2.1 1).2.2.2 = false := fun q h => by cases h; rfl
theorem nf_3_2 : ∀ q : vw_C, vwCl[3]? = some q → (q.2.1 2).2.2.2 = false := fun q h => by cases h; rfl
theorem nf_3_3 : ∀ q : vw_C, vwCl[3]? = some q → (q.2.1 3).2.2.2 = false := fun q h => by cases h; rfl
theorem nf_3_4 : ∀ q : vw_C, vwCl[3]? = some q → (q.2.1 4).2.2.2 = false := fun q h => by cases h; rfl
theorem nf_3_5 : ∀ q : vw_C, vwCl[3]? = some q → (q.2.1 5).2.2.2 = false := fun q h => by cases h; rfl
theorem nf_3_6 : ∀ q : vw_C, vwCl[3]? = some q → (q.2.1 6).2.2.2 = false := fun q h => by cases h; rfl
theorem ff_4_0 : ∀ q : vw_C, vwCl[4]? = some q → (q.2.1 0).2.2.2 = true ∧ (q.2.1 0).1 = RX4 := fun q h => by cases h; exact ⟨rfl, rfl⟩
theorem ff_4_1 : ∀ q : vw_C, vwCl[4]? = some q → (q.2.1 1).2.2.2 = true ∧ (q.2.1 1).1 = RX4 := fun q h => by cases h; exact ⟨rfl, rfl⟩
theorem ff_4_2 : ∀ q : vw_C, vwCl[4]? = some q → (q.2.1 2).2.2.2 = true ∧ (q.2.1 2).1 = RX4 := fun q h => by cases h; exact ⟨rfl, rfl⟩
theorem ff_4_3 : ∀ q : vw_C, vwCl[4]? = some q → (q.2.1 3).2.2.2 = true ∧ (q.2.1 3).1 = RX4 := fun q h => by cases h; exact ⟨rfl, rfl⟩
theorem ff_4_4 : ∀ q : vw_C, vwCl[4]? = some q → (q.2.1 4).2.2.2 = true ∧ (q.2.1 4).1 = RX4 := fun q h => by cases h; exact ⟨rfl, rfl⟩
theorem ff_4_5 : ∀ q : vw_C, vwCl[4]? = some q → (q.2.1 5).2.2.2 = true ∧ (q.2.1 5).1 = RX4 := fun q h => by cases h; exact ⟨rfl, rfl⟩
theorem ff_4_6 : ∀ q : vw_C, vwCl[4]? = some q → (q.2.1 6).2.2.2 = true ∧ (q.2.1 6).1 = RX4 := fun q h => by cases h; exact ⟨rfl, rfl⟩
theorem ff_4_7 : ∀ q : vw_C, vwCl[4]? = some q → (q.2.1 7).2.2.2 = true ∧ (q.2.1 7).1 = RX4 := fun q h => by cases h; exact ⟨rfl, rfl⟩
theorem ff_4_8 : ∀ q : vw_C, vwCl[4]? = some q → (q.2.1 8).2.2.2 = true ∧ (q.2.1 8).1 = RX4 := fun q h => by cases h; exact ⟨rfl, rfl⟩
theorem ff_4_9 : ∀ q : vw_C, vwCl[4]? = some q → (q.2.1 9).2.2.2 = true ∧ (q.2.1 9).1 = RX4 := fun q h => by cases h; exact ⟨rfl, rfl⟩
theorem ff_4_10 : ∀ q : vw_C, vwCl[4]? = some q → (q.2.1 10).2.2.2 = true ∧ (q.2.1 10).1 = RX4 := fun q h => by cases h; exact ⟨rfl, rfl⟩
theorem ff_4_11 : ∀ q : vw_C, vwCl[4]? = some q → (q.2.1 11).2.2.2 = true ∧ (q.2.1 11).1 = RX4 := fun q h => by cases h; exact ⟨rfl, rfl⟩
theorem nf_4_12 : ∀ q : vw_C, vwCl[4]? = some q → (q.2.1 12).2.2.2 = false := fun q h => by cases h; rfl
theorem nf_4_13 : ∀ q : vw_C, vwCl[4]? = some q → (q.2.1 13).2.2.2 = false := fun q h => by cases h; rfl
theorem ff_5_0 : ∀ q : vw_C, vwCl[5]? = some q → (q.2.1 0).2.2.2 = true ∧ (q.2.1 0).1 = RX5 := fun q h => by cases h; exact ⟨rfl, rfl⟩
theorem ff_5_1 : ∀ q : vw_C, vwCl[5]? = some q → (q.2.1 1).2.2.2 = true ∧ (q.2.1 1).1 = RX5 := fun q h => by cases h; exact ⟨rfl, rfl⟩
theorem nf_5_2 : ∀ q : vw_C, vwCl[5]? = some q → (q.2.1 2).2.2.2 = false := fun q h => by cases h; rfl
theorem ff_5_3 : ∀ q : vw_C, vwCl[5]? = some q → (q.2.1 3).2.2.2 = true ∧ (q.2.1 3).1 = RX5 := fun q h => by cases h; exact ⟨rfl, rfl⟩
theorem ff_5_4 : ∀ q : vw_C, vwCl[5]? = some q → (q.2.1 4).2.2.2 = true ∧ (q.2.1 4).1 = RX5 := fun q h => by cases h; exact ⟨rfl, rfl⟩
theorem ff_5_5 : ∀ q : vw_C, vwCl[5]? = some q → (q.2.1 5).2.2.2 = true ∧ (q.2.1 5).1 = RX5 := fun q h => by cases h; exact ⟨rfl, rfl⟩
theorem nf_5_6 : ∀ q : vw_C, vwCl[5]? = some q → (q.2.1 6).2.2.2 = false := fun q h => by cases h; rfl
theorem ff_5_7 : ∀ q : vw_C, vwCl[5]? = some q → (q.2.1 7).2.2.2 = true ∧ (q.2.1 7).1 = RX5 := fun q h => by cases h; exact ⟨rfl, rfl⟩
theorem nf_5_8 : ∀ q : vw_C, vwCl[5]? = some q → (q.2.1 8).2.2.2 = false := fun q h => by cases h; rfl
theorem nf_5_9 : ∀ q : vw_C, vwCl[5]? = some q → (q.2.1 9).2.2.2 = false := fun q h => by cases h; rfl
theorem ff_5_10 : ∀ q : vw_C, vwCl[5]? = some q → (q.2.1 10).2.2.2 = true ∧ (q.2.1 10).1 = RX5 := fun q h => by cases h; exact ⟨rfl, rfl⟩
theorem nf_5_11 : ∀ q : vw_C, vwCl[5]? = some q → (q.2.1 11).2.2.2 = false := fun q h => by cases h; rfl
theorem nf_5_12 : ∀ q : vw_C, vwCl[5]? = some q → (q.2.1 12).2.2.2 = false := fun q h => by cases h; rfl
theorem nf_5_13 : ∀ q : vw_C, vwCl[5]? = some q → (q.2.1 13).2.2.2 = false := fun q h => by cases h; rfl
theorem ff_5_14 : ∀ q : vw_C, vwCl[5]? = some q → (q.2.1 14).2.2.2 = true ∧ (q.2.1 14).1 = RX5 := fun q h => by cases h; exact ⟨rfl, rfl⟩
theorem ff_5_15 : ∀ q : vw_C, vwCl[5]? = some q → (q.2.1 15).2.2.2 = true ∧ (q.2.1 15).1 = RX5 := fun q h => by cases h; exact ⟨rfl, rfl⟩
theorem ff_5_16 : ∀ q : vw_C, vwCl[5]? = some q → (q.2.1 16).2.2.2 = true ∧ (q.2.1 16).1 = RX5 := fun q h => by cases h; exact ⟨rfl, rfl⟩
def K0L : List (Nat × Nat) := [(0, 0), (4, 0), (2, 0), (10, 200), (0, 0), (10, 6), (10, 6), (10, 6), (10, 6), (10, 6), (0, 0), (10, 6), (10, 6), (10, 6), (10, 6), (10, 6), (3, 0), (10, 6), (3, 0), (10, 6), (3, 0), (10, 6), (1, 0), (12, 10), (3, 0), (10, 6), (3, 0), (10, 6), (3, 0), (10, 6), (3, 0), (10, 6), (3, 0), (10, 6), (3, 0), (10, 6), (3, 0), (10, 6), (3, 0), (10, 6), (3, 0), (10, 6), (3, 0), (10, 6), (12, 2), (3, 0), (10, 6), (3, 0), (10, 6), (11, 2), (10, 6), (10, 6), (10, 6), (5, 0), (10, 39), (10, 390), (10, 78), (11, 2), (10, 200), (10, 18), (10, 39), (10, 6), (10, 39), (10, 6)]
def P0L : List (List (Option Nat)) := [[], [some 2, some 4, some 10, some 16, some 18, some 20, some 22, some 44, some 49, some 50, some 51, some 52], [some 3], [], [some 5, some 6, some 7, some 8, none, none, none, none, some 9], [], [], [], [], [], [some 11, some 12, some 13, some 14, none, none, none, none, some 15], [], [], [], [], [], [some 17], [], [some 19], [], [some 21], [], [some 23], [some 24, some 26, some 28, some 30, some 32, some 34, some 36, some 38, some 40, some 42], [some 25], [], [some 27], [], [some 29], [], [some 31], [], [some 33], [], [some 35], [], [some 37], [], [some 39], [], [some 41], [], [some 43], [], [some 45, some 47], [some 46], [], [some 48], [], [], [], [], [], [some 54, some 55, none, some 56, some 57, some 58, none, some 59, none, none, some 60, none, none, none, some 61, some 62, some 63], [], [], [], [], [], [], [], [], [], []]
/-- the cells behind the two constructors -/
def S0 : Sh := (63, fun a => K0L.getD a (0, 0), fun a k => (P0L.getD a []).getD k none)
theorem kd_1 : kd S0 1 4 := ⟨by decide, leb rfl, rfl⟩
theorem kd_2 : kd S0 2 2 := ⟨by decide, leb rfl, rfl⟩
theorem ar_3 : ar S0 3 10 200 := ⟨by decide, leb rfl, rfl⟩
theorem kd_4 : kd S0 4 0 := ⟨by decide, leb rfl, rfl⟩
theorem ar_5 : ar S0 5 10 6 := ⟨by decide, leb rfl, rfl⟩
theorem ar_6 : ar S0 6 10 6 := ⟨by decide, leb rfl, rfl⟩
theorem ar_7 : ar S0 7 10 6 := ⟨by decide, leb rfl, rfl⟩
theorem ar_8 : ar S0 8 10 6 := ⟨by decide, leb rfl, rfl⟩
theorem ar_9 : ar S0 9 10 6 := ⟨by decide, leb rfl, rfl⟩
theorem kd_10 : kd S0 10 0 := ⟨by decide, leb rfl, rfl⟩
theorem ar_11 : ar S0 11 10 6 := ⟨by decide, leb rfl, rfl⟩
theorem ar_12 : ar S0 12 10 6 := ⟨by decide, leb rfl, rfl⟩
theorem ar_13 : ar S0 13 10 6 := ⟨by decide, leb rfl, rfl⟩
theorem ar_14 : ar S0 14 10 6 := ⟨by decide, leb rfl, rfl⟩
theorem ar_15 : ar S0 15 10 6 := ⟨by decide, leb rfl, rfl⟩
theorem kd_16 : kd S0 16 3 := ⟨by decide, leb rfl, rfl⟩
theorem ar_17 : ar S0 17 10 6 := ⟨by decide, leb rfl, rfl⟩
theorem kd_18 : kd S0 18 3 := ⟨by decide, leb rfl, rfl⟩
theorem ar_19 : ar S0 19 10 6 := ⟨by decide, leb rfl, rfl⟩
theorem kd_20 : kd S0 20 3 := ⟨by decide, leb rfl, rfl⟩
theorem ar_21 : ar S0 21 10 6 := ⟨by decide, leb rfl, rfl⟩
theorem kd_22 : kd S0 22 1 := ⟨by decide, leb rfl, rfl⟩
theorem ar_23 : ar S0 23 12 10 := ⟨by decide, leb rfl, rfl⟩
theorem kd_24 : kd S0 24 3 := ⟨by decide, leb rfl, rfl⟩
theorem ar_25 : ar S0 25 10 6 := ⟨by decide, leb rfl, rfl⟩
theorem kd_26 : kd S0 26 3 := ⟨by decide, leb rfl, rfl⟩
theorem ar_27 : ar S0 27 10 6 := ⟨by decide, leb rfl, rfl⟩
theorem kd_28 : kd S0 28 3 := ⟨by decide, leb rfl, rfl⟩
theorem ar_29 : ar S0 29 10 6 := ⟨by decide, leb rfl, rfl⟩
theorem kd_30 : kd S0 30 3 := ⟨by decide, leb rfl, rfl⟩
theorem ar_31 : ar S0 31 10 6 := ⟨by decide, leb rfl, rfl⟩
theorem kd_32 : kd S0 32 3 := ⟨by decide, leb rfl, rfl⟩
theorem ar_33 : ar S0 33 10 6 := ⟨by decide, leb rfl, rfl⟩
theorem kd_34 : kd S0 34 3 := ⟨by decide, leb rfl, rfl⟩
theorem ar_35 : ar S0 35 10 6 := ⟨by decide, leb rfl, rfl⟩
theorem kd_36 : kd S0 36 3 := ⟨by decide, leb rfl, rfl⟩
theorem ar_37 : ar S0 37 10 6 := ⟨by decide, leb rfl, rfl⟩
theorem kd_38 : kd S0 38 3 := ⟨by decide, leb rfl, rfl⟩
theorem ar_39 : ar S0 39 10 6 := ⟨by decide, leb rfl, rfl⟩
theorem kd_40 : kd S0 40 3 := ⟨by decide, leb rfl, rfl⟩
theorem ar_41 : ar S0 41 10 6 := ⟨by decide, leb rfl, rfl⟩
theorem kd_42 : kd S0 42 3 := ⟨by decide, leb rfl, rfl⟩
theorem ar_43 : ar S0 43 10 6 := ⟨by decide, leb rfl, rfl⟩
theorem ar_44 : ar S0 44 12 2 := ⟨by decide, leb rfl, rfl⟩
theorem kd_45 : kd S0 45 3 := ⟨by decide, leb rfl, rfl⟩
theorem ar_46 : ar S0 46 10 6 := ⟨by decide, leb rfl, rfl⟩
theorem kd_47 : kd S0 47 3 := ⟨by decide, leb rfl, rfl⟩
theorem ar_48 : ar S0 48 10 6 := ⟨by decide, leb rfl, rfl⟩
theorem ar_49 : ar S0 49 11 2 := ⟨by decide, leb rfl, rfl⟩
theorem ar_50 : ar S0 50 10 6 := ⟨by decide, leb rfl, rfl⟩
theorem ar_51 : ar S0 51 10 6 := ⟨by decide, leb rfl, rfl⟩
theorem ar_52 : ar S0 52 10 6 := ⟨by decide, leb rfl, rfl⟩
theorem kd_53 : kd S0 53 5 := ⟨by decide, leb rfl, rfl⟩
theorem ar_54 : ar S0 54 10 39 := ⟨by decide, leb rfl, rfl⟩
theorem ar_55 : ar S0 55 10 390 := ⟨by decide, leb rfl, rfl⟩
theorem ar_56 : ar S0 56 10 78 := ⟨by decide, leb rfl, rfl⟩
theorem ar_57 : ar S0 57 11 2 := ⟨by decide, leb rfl, rfl⟩
theorem ar_58 : ar S0 58 10 200 := ⟨by decide, leb rfl, rfl⟩
theorem ar_59 : ar S0 59 10 18 := ⟨by decide, leb rfl, rfl⟩
theorem ar_60 : ar S0 60 10 39 := ⟨by decide, leb rfl, rfl⟩
theorem ar_61 : ar S0 61 10 6 := ⟨by decide, leb rfl, rfl⟩
theorem ar_62 : ar S0 62 10 39 := ⟨by decide, leb rfl, rfl⟩
theorem ar_63 : ar S0 63 10 6 := ⟨by decide, leb rfl, rfl⟩
theorem rf_1_0 : S0.2.2 1 0 = some 2 := rfl
theorem rf_1_1 : S0.2.2 1 1 = some 4 := rfl
theorem rf_1_2 : S0.2.2 1 2 = some 10 := rfl
theorem rf_1_3 : S0.2.2 1 3 = some 16 := rfl
theorem rf_1_4 : S0.2.2 1 4 = some 18 := rfl
theorem rf_1_5 : S0.2.2 1 5 = some 20 := rfl
theorem rf_1_6 : S0.2.2 1 6 = some 22 := rfl
theorem rf_1_7 : S0.2.2 1 7 = some 44 := rfl
theorem rf_1_8 : S0.2.2 1 8 = some 49 := rfl
theorem rf_1_9 : S0.2.2 1 9 = some 50 := rfl
theorem rf_1_10 : S0.2.2 1 10 = some 51 := rfl
theorem rf_1_11 : S0.2.2 1 11 = some 52 := rfl
theorem rf_2_0 : S0.2.2 2 0 = some 3 := rfl
theorem rf_4_0 : S0.2.2 4 0 = some 5 := rfl
theorem rf_4_1 : S0.2.2 4 1 = some 6 := rfl
theorem rf_4_2 : S0.2.2 4 2 = some 7 := rfl
theorem rf_4_3 : S0.2.2 4 3 = some 8 := rfl
theorem rf_4_8 : S0.2.2 4 8 = some 9 := rfl
theorem rf_10_0 : S0.2.2 10 0 = some 11 := rfl
theorem rf_10_1 : S0.2.2 10 1 = some 12 := rfl
theorem rf_10_2 : S0.2.2 10 2 = some 13 := rfl
theorem rf_10_3 : S0.2.2 10 3 = some 14 := rfl
theorem rf_10_8 : S0.2.2 10 8 = some 15 := rfl
theorem rf_16_0 : S0.2.2 16 0 = some 17 := rfl
theorem rf_18_0 : S0.2.2 18 0 = some 19 := rfl
theorem rf_20_0 : S0.2.2 20 0 = some 21 := rfl
theorem rf_22_0 : S0.2.2 22 0 = some 23 := rfl
theorem rf_23_0 : S0.2.2 23 0 = some 24 := rfl
theorem rf_23_1 : S0.2.2 23 1 = some 26 := rfl
theorem rf_23_2 : S0.2.2 23 2 = some 28 := rfl
theorem rf_23_3 : S0.2.2 23 3 = some 30 := rfl
theorem rf_23_4 : S0.2.2 23 4 = some 32 := rfl
theorem rf_23_5 : S0.2.2 23 5 = some 34 := rfl
theorem rf_23_6 : S0.2.2 23 6 = some 36 := rfl
theorem rf_23_7 : S0.2.2 23 7 = some 38 := rfl
theorem rf_23_8 : S0.2.2 23 8 = some 40 := rfl
theorem rf_23_9 : S0.2.2 23 9 = some 42 := rfl
theorem rf_24_0 : S0.2.2 24 0 = some 25 := rfl
theorem rf_26_0 : S0.2.2 26 0 = some 27 := rfl
theorem rf_28_0 : S0.2.2 28 0 = some 29 := rfl
theorem rf_30_0 : S0.2.2 30 0 = some 31 := rfl
theorem rf_32_0 : S0.2.2 32 0 = some 33 := rfl
theorem rf_34_0 : S0.2.2 34 0 = some 35 := rfl
theorem rf_36_0 : S0.2.2 36 0 = some 37 := rfl
theorem rf_38_0 : S0.2.2 38 0 = some 39 := rfl
theorem rf_40_0 : S0.2.2 40 0 = some 41 := rfl
theorem rf_42_0 : S0.2.2 42 0 = some 43 := rfl
theorem rf_44_0 : S0.2.2 44 0 = some 45 := rfl
theorem rf_44_1 : S0.2.2 44 1 = some 47 := rfl
theorem rf_45_0 : S0.2.2 45 0 = some 46 := rfl
theorem rf_47_0 : S0.2.2 47 0 = some 48 := rfl
theorem rf_53_0 : S0.2.2 53 0 = some 54 := rfl
theorem rf_53_1 : S0.2.2 53 1 = some 55 := rfl
theorem rf_53_3 : S0.2.2 53 3 = some 56 := rfl
theorem rf_53_4 : S0.2.2 53 4 = some 57 := rfl
theorem rf_53_5 : S0.2.2 53 5 = some 58 := rfl
theorem rf_53_7 : S0.2.2 53 7 = some 59 := rfl
theorem rf_53_10 : S0.2.2 53 10 = some 60 := rfl
theorem rf_53_14 : S0.2.2 53 14 = some 61 := rfl
theorem rf_53_15 : S0.2.2 53 15 = some 62 := rfl
theorem rf_53_16 : S0.2.2 53 16 = some 63 := rfl
/-- a Singing, with its late; a Church, with its rows -/
def isSi (a : Nat) : Prop := kd S0 a 3 ∧ S0.2.2 a 0 = some (a + 1) ∧ ar S0 (a + 1) 10 6
def isCh (a : Nat) : Prop := kd S0 a 0 ∧ (S0.2.2 a 0 = some (a + 1) ∧ S0.2.2 a 1 = some (a + 2) ∧ S0.2.2 a 2 = some (a + 3) ∧ S0.2.2 a 3 = some (a + 4) ∧ S0.2.2 a 8 = some (a + 5)) ∧ ar S0 (a + 1) 10 6 ∧ ar S0 (a + 2) 10 6 ∧ ar S0 (a + 3) 10 6 ∧ ar S0 (a + 4) 10 6 ∧ ar S0 (a + 5) 10 6
theorem si_16 : isSi 16 := ⟨kd_16, rfl, ar_17⟩
theorem si_18 : isSi 18 := ⟨kd_18, rfl, ar_19⟩
theorem si_20 : isSi 20 := ⟨kd_20, rfl, ar_21⟩
theorem si_24 : isSi 24 := ⟨kd_24, rfl, ar_25⟩
theorem si_26 : isSi 26 := ⟨kd_26, rfl, ar_27⟩
theorem si_28 : isSi 28 := ⟨kd_28, rfl, ar_29⟩
theorem si_30 : isSi 30 := ⟨kd_30, rfl, ar_31⟩
theorem si_32 : isSi 32 := ⟨kd_32, rfl, ar_33⟩
theorem si_34 : isSi 34 := ⟨kd_34, rfl, ar_35⟩
theorem si_36 : isSi 36 := ⟨kd_36, rfl, ar_37⟩
theorem si_38 : isSi 38 := ⟨kd_38, rfl, ar_39⟩
theorem si_40 : isSi 40 := ⟨kd_40, rfl, ar_41⟩
theorem si_42 : isSi 42 := ⟨kd_42, rfl, ar_43⟩
theorem si_45 : isSi 45 := ⟨kd_45, rfl, ar_46⟩
theorem si_47 : isSi 47 := ⟨kd_47, rfl, ar_48⟩
theorem ch_4 : isCh 4 := ⟨kd_4, ⟨rfl, rfl, rfl, rfl, rfl⟩, ar_5, ar_6, ar_7, ar_8, ar_9⟩
theorem ch_10 : isCh 10 := ⟨kd_10, ⟨rfl, rfl, rfl, rfl, rfl⟩, ar_11, ar_12, ar_13, ar_14, ar_15⟩
