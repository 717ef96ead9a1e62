/-! ===== the class's common divisor ===== -/
def gC (f x y : Nat) : Prop := y = 0 ∨ (y < x ∧ x * y < 2 ^ f) ∨ (f = 64 ∧ x < 2 ^ 26 ∧ y < 2 ^ 26)
theorem gC_0 {x y : Nat} (h : gC 0 x y) : y = 0 := by
  rcases h with h | ⟨h1, h2⟩ | ⟨h1, -⟩
  · exact h
  · rcases Nat.eq_zero_or_pos y with z | z
    · exact z
    · have := Nat.mul_pos (show 0 < x by omega) z
      simp at h2
      omega
  · exact absurd h1 (by omega)
theorem gC_s {f x y : Nat} (hy : 0 < y) (h : gC (f + 1) x y) : gC f y (x % y) := by
  have r := Nat.mod_lt x hy
  rcases h with h | ⟨h1, h2⟩ | ⟨h1, h2, h3⟩
  · omega
  · refine Or.inr (Or.inl ⟨r, ?_⟩)
    have e := Nat.div_add_mod x y
    have d1 : 1 ≤ x / y := (Nat.one_le_div_iff hy).mpr (by omega)
    have d2 : y * 1 ≤ y * (x / y) := Nat.mul_le_mul_left y d1
    have d3 : 2 * (x % y) ≤ x := by omega
    have d4 : y * (2 * (x % y)) ≤ y * x := Nat.mul_le_mul_left y d3
    have d5 : y * (2 * (x % y)) = 2 * (y * (x % y)) := by rw [Nat.mul_left_comm]
    rw [Nat.pow_succ] at h2
    rw [Nat.mul_comm x y] at h2
    omega
  · refine Or.inr (Or.inl ⟨r, ?_⟩)
    have f63 : f = 63 := by omega
    subst f63
    have d : y * (x % y) ≤ 2 ^ 26 * 2 ^ 26 := Nat.mul_le_mul (by omega) (by omega)
    exact Nat.lt_of_le_of_lt d (by decide)
theorem b_gcd (Γ : Cx) (S : Sh) (I : MemI) (J : MemJ) (X Y : Nat) (hX : X < 2 ^ 26) (hY : Y < 2 ^ 26) : Ct Γ M_Bo_commonDivisor [.long (lN X), .long (lN Y)] S I J (eqQ (some (.long (lN (Nat.gcd X Y)))) S I J) := by
  have LP : ∀ (f s x y : Nat) (v w : Value), s + f = 64 → x < 2 ^ 62 → y < 2 ^ 62 → gC f x y → Nat.gcd x y = Nat.gcd X Y → WP Γ M_Bo_commonDivisor (0, 0) S I J 3 [.long (lN x), .null, .long (lN y), .null, .int (nI s), v, w] [] (eqQ (some (.long (lN (Nat.gcd X Y)))) S I J) := by
    intro f
    induction f with
    | zero =>
      intro s x y v w hsf hx hy hc hg
      have y0 := gC_0 hc
      refine p_iload d_Bo_commonDivisor_3 rfl ?_
      refine p_bi_64 d_Bo_commonDivisor_5 ?_
      refine p_icmpgeN (tgt := 32) (s) (64) d_Bo_commonDivisor_7 (by decide) rfl rfl (by omega) (by omega) (fun h7 => ?_) (fun h7 => ?_)
      · refine p_lload_n d_Bo_commonDivisor_32 rfl ?_
        refine p_lret d_Bo_commonDivisor_33 rfl ?_
        rw [y0, Nat.gcd_zero_right] at hg
        exact ⟨by rw [hg], rfl, rfl, rfl⟩
      · exact absurd (by omega) h7
    | succ f ih =>
      intro s x y v w hsf hx hy hc hg
      refine p_iload d_Bo_commonDivisor_3 rfl ?_
      refine p_bi_64 d_Bo_commonDivisor_5 ?_
      refine p_icmpgeN (tgt := 32) (s) (64) d_Bo_commonDivisor_7 (by decide) rfl rfl (by omega) (by omega) (fun h7 => ?_) (fun h7 => ?_)
      · exact absurd h7 (by omega)
      · refine p_lload_n d_Bo_commonDivisor_10 rfl ?_
        refine p_lc_0 d_Bo_commonDivisor_11 ?_
        refine p_lcmp d_Bo_commonDivisor_12 ?_
        refine p_ifeq (tgt := 32) d_Bo_commonDivisor_13 (by decide) (fun h13 => ?_) (fun h13 => ?_)
        · have y0 : y = 0 := (lg_cmp0 (by omega)).mp h13
          refine p_lload_n d_Bo_commonDivisor_32 rfl ?_
          refine p_lret d_Bo_commonDivisor_33 rfl ?_
          rw [y0, Nat.gcd_zero_right] at hg
          exact ⟨by rw [hg], rfl, rfl, rfl⟩
        · have y0 : ¬ y = 0 := fun z => h13 ((lg_cmp0 (by omega)).mpr z)
          have hml : x % y < y := Nat.mod_lt _ (by omega)
          refine p_lload_n d_Bo_commonDivisor_16 rfl ?_
          refine p_lload_n d_Bo_commonDivisor_17 rfl ?_
          refine p_lrem d_Bo_commonDivisor_18 (fun z => y0 ((pk_lEQ (a := y) (b := 0) (by omega) (by omega)).mp z)) ?_
          refine p_eqL (pk_lRem (a := x) (b := y) (by omega) (by omega) (by omega)) ?_
          refine p_ls_5 d_Bo_commonDivisor_19 (by decide) rfl ?_
          refine p_lload_n d_Bo_commonDivisor_21 rfl ?_
          refine p_ls_0 d_Bo_commonDivisor_22 (by decide) ?_
          refine p_lload d_Bo_commonDivisor_23 rfl ?_
          refine p_ls_2 d_Bo_commonDivisor_25 (by decide) rfl ?_
          refine p_incN_4_1 d_Bo_commonDivisor_26 (by decide) rfl ?_
          refine p_goto (tgt := 3) d_Bo_commonDivisor_29 (by decide) ?_
          refine ih (s + 1) y (x % y) _ _ (by omega) hy (by omega) (gC_s (by omega) hc) ?_
          rw [← hg, Nat.gcd_comm x y, Nat.gcd_rec y x, Nat.gcd_comm]
  refine ct_of [.long (lN X), .null, .long (lN Y), .null, .null, .null, .null] (by decide +kernel) rfl (leb rfl) rfl ?_
  refine p_ic_0 d_Bo_commonDivisor_0 ?_
  refine p_is_4 d_Bo_commonDivisor_1 (by decide) rfl ?_
  exact LP 64 0 X Y _ _ (by omega) (by omega) (by omega) (Or.inr (Or.inr ⟨rfl, hX, hY⟩)) rfl
