/-! ===== the class reads tokens ===== -/
def nuF (x : Nat → Int32) (l : Nat) : Nat → Nat → Int32 → Int32
  | 0, _, v => v
  | f + 1, i, v => if i < l ∧ (48 ≤ x i ∧ x i ≤ 57) then nuF x l f (i + 1) (10 * v + x i - 48) else v
def nu (x : Nat → Int32) (l j : Nat) : Int32 := nuF x l (l - j) j 0
theorem dg9 {c : Int32} (h : 48 ≤ c ∧ c ≤ 57) : ∃ d, d ≤ 9 ∧ c = nI (48 + d) := by
  obtain ⟨h1, h2⟩ := h
  have a : ¬ c < 0 := by
    rw [i32_le] at h1
    rw [i32_lt]
    have e : (48 : Int32).toInt = 48 := by decide
    have e0 : (0 : Int32).toInt = 0 := by decide
    omega
  obtain ⟨j, hj, rfl⟩ := nI_of a
  rw [show (48 : Int32) = nI 48 from rfl, nI_leI (by omega) (by omega)] at h1
  rw [show (57 : Int32) = nI 57 from rfl, nI_leI (by omega) (by omega)] at h2
  exact ⟨j - 48, by omega, by rw [show 48 + (j - 48) = j by omega]⟩
theorem stp (a d : Nat) : 10 * nI a + nI (48 + d) - 48 = nI (10 * a + d) := by
  rw [show (10 : Int32) = nI 10 from rfl, show (48 : Int32) = nI 48 from rfl, pk_mul, nI_add, pk_sub (by omega)]
  congr 1
  omega
theorem vlF_big {x : Nat → Int32} {l : Nat} : ∀ (f i : Nat) (v : Int32), 99 < v → vlF x l f i v = v
  | 0, _, _, _ => rfl
  | f + 1, i, v, h => by
    show (if _ then _ else _) = _
    by_cases q : i < l ∧ (48 ≤ x i ∧ x i ≤ 57)
    · rw [if_pos q, if_pos h]
      exact vlF_big f (i + 1) v h
    · rw [if_neg q]
theorem dgF_s {x : Nat → Int32} {l f i : Nat} (h : i < l ∧ (48 ≤ x i ∧ x i ≤ 57)) : dgF x l (f + 1) i = dgF x l f (i + 1) := by
  show (if _ then _ else _) = _
  rw [if_pos h]
theorem dgF_n {x : Nat → Int32} {l f i : Nat} (h : ¬ (i < l ∧ (48 ≤ x i ∧ x i ≤ 57))) : dgF x l (f + 1) i = i := by
  show (if _ then _ else _) = _
  rw [if_neg h]
theorem vlF_s {x : Nat → Int32} {l f i : Nat} {v : Int32} (h : i < l ∧ (48 ≤ x i ∧ x i ≤ 57)) : vlF x l (f + 1) i v = vlF x l f (i + 1) (if 99 < v then v else 10 * v + x i - 48) := by
  show (if _ then _ else _) = _
  rw [if_pos h]
theorem vlF_n {x : Nat → Int32} {l f i : Nat} {v : Int32} (h : ¬ (i < l ∧ (48 ≤ x i ∧ x i ≤ 57))) : vlF x l (f + 1) i v = v := by
  show (if _ then _ else _) = _
  rw [if_neg h]
theorem nuF_s {x : Nat → Int32} {l f i : Nat} {v : Int32} (h : i < l ∧ (48 ≤ x i ∧ x i ≤ 57)) : nuF x l (f + 1) i v = nuF x l f (i + 1) (10 * v + x i - 48) := by
  show (if _ then _ else _) = _
  rw [if_pos h]
theorem nuF_n {x : Nat → Int32} {l f i : Nat} {v : Int32} (h : ¬ (i < l ∧ (48 ≤ x i ∧ x i ≤ 57))) : nuF x l (f + 1) i v = v := by
  show (if _ then _ else _) = _
  rw [if_neg h]
theorem n99 {a : Nat} (h : a ≤ 99) : ¬ (99 : Int32) < nI a := by
  rw [show (99 : Int32) = nI 99 from rfl]
  exact nI_nlt h (by omega)
/-- one or two digits: the value is what it is -/
theorem nu_vl {x : Nat → Int32} {l : Nat} : ∀ (f i a c : Nat), i + f = l → (a ≤ 9 ∧ c = 1 ∨ a = 0 ∧ c = 0 ∨ c = 2 ∧ a ≤ 99) → dgF x l f i + c ≤ i + 2 → nuF x l f i (nI a) = vlF x l f i (nI a)
  | 0, _, _, _, _, _, _ => rfl
  | f + 1, i, a, c, hf, hc, hd => by
    by_cases q : i < l ∧ (48 ≤ x i ∧ x i ≤ 57)
    · rw [dgF_s q] at hd
      have hge := (dgF_le (x := x) (l := l) f (i + 1) (by omega)).1
      obtain ⟨d, d9, ed⟩ := dg9 q.2
      rw [nuF_s q, vlF_s q, if_neg (n99 (by omega)), ed, stp]
      rcases hc with ⟨h1, h2⟩ | ⟨h1, h2⟩ | ⟨h1, h2⟩
      · exact nu_vl f (i + 1) _ 2 (by omega) (Or.inr (Or.inr ⟨rfl, by omega⟩)) (by omega)
      · exact nu_vl f (i + 1) _ 1 (by omega) (Or.inl ⟨by omega, rfl⟩) (by omega)
      · omega
    · rw [nuF_n q, vlF_n q]
/-- three digits or more, no 0 ahead: above 99 -/
theorem vl_big {x : Nat → Int32} {l j : Nat} (hl : l ≤ 200) (hj : j < l ∧ (48 ≤ x j ∧ x j ≤ 57)) (h0 : ¬ x j = 48) (h3 : 2 < dg x l j - j) : 99 < vl x l j := by
  unfold vl dg at *
  obtain ⟨f, hf⟩ : ∃ f, l - j = f + 1 := ⟨l - j - 1, by omega⟩
  rw [hf] at h3 ⊢
  obtain ⟨d1, a1, e1⟩ := dg9 hj.2
  have p1 : 1 ≤ d1 := by
    rcases Nat.eq_zero_or_pos d1 with z | z
    · rw [z] at e1; exact absurd e1 h0
    · exact z
  rw [dgF_s hj] at h3
  rw [vlF_s hj, if_neg (by decide), e1, show (0 : Int32) = nI 0 from rfl, stp]
  cases f with
  | zero => exact absurd h3 (by show ¬ 2 < (j + 1) - j; omega)
  | succ f =>
    by_cases q2 : j + 1 < l ∧ (48 ≤ x (j + 1) ∧ x (j + 1) ≤ 57)
    · rw [dgF_s q2] at h3
      obtain ⟨d2, a2, e2⟩ := dg9 q2.2
      rw [vlF_s q2, if_neg (n99 (by omega)), e2, stp]
      cases f with
      | zero => exact absurd h3 (by show ¬ 2 < (j + 1 + 1) - j; omega)
      | succ f =>
        by_cases q3 : j + 1 + 1 < l ∧ (48 ≤ x (j + 1 + 1) ∧ x (j + 1 + 1) ≤ 57)
        · obtain ⟨d3, a3, e3⟩ := dg9 q3.2
          rw [vlF_s q3, if_neg (n99 (by omega)), e3, stp]
          have hb : (99 : Int32) < nI (10 * (10 * (10 * 0 + d1) + d2) + d3) := by
            rw [show (99 : Int32) = nI 99 from rfl]
            exact nI_lt (by omega) (by omega)
          rw [vlF_big _ _ _ hb]
          exact hb
        · rw [dgF_n q3] at h3
          omega
    · rw [dgF_n q2] at h3
      omega
def wrg (x : Nat → Int32) (l j : Nat) : Prop := 2 < dg x l j - j ∨ (1 < dg x l j - j ∧ x j = 48)
def wrB (x : Nat → Int32) (l j : Nat) : Bool := decide (2 < dg x l j - j) || (decide (1 < dg x l j - j) && decide (x j = 48))
theorem wrB_iff {x : Nat → Int32} {l j : Nat} : wrB x l j = true ↔ wrg x l j := by
  unfold wrB wrg
  simp
def dgB (x : Nat → Int32) (l j : Nat) : Bool := decide (j < l) && (decide (48 ≤ x j) && decide (x j ≤ 57))
theorem dgB_iff {x : Nat → Int32} {l j : Nat} : dgB x l j = true ↔ (j < l ∧ (48 ≤ x j ∧ x j ≤ 57)) := by
  unfold dgB
  simp
def tkT (x : Nat → Int32) (l j : Nat) : Int32 := if dgB x l j = true then (if wrB x l j = true then (-3) else (-2)) else if j < l then x j else (-1)
def nxT (x : Nat → Int32) (l j : Nat) : Nat := if dgB x l j = true then dg x l j else if j < l then j + 1 else j
/-- what a token changes -/
def tkF (I I' : MemI) : Prop := (∀ x, x ≠ 2 → I' x = I x) ∧ ∀ y, (y < 2 ∨ 5 < y) → I' 2 y = I 2 y
theorem tkF.tr {I I1 I2 : MemI} (h : tkF I I1) (h2 : tkF I1 I2) : tkF I I2 := ⟨fun x a => (h2.1 x a).trans (h.1 x a), fun y a => (h2.2 y a).trans (h.2 y a)⟩
theorem tkF.rf {I : MemI} : tkF I I := ⟨fun _ _ => rfl, fun _ _ => rfl⟩
theorem tkF.up {I : MemI} {k : Nat} {v : Int32} (h : 2 ≤ k ∧ k ≤ 5) : tkF I (up2 I 2 k v) := ⟨fun x a => by funext y; simp [up2, a], fun y a => by simp only [up2]; rw [if_neg (by omega)]⟩
theorem c_add (Γ : Cx) (I : MemI) (J : MemJ) (x : Int32) (l : Nat) (hl : I 2 1 = nI l) (h2 : l < 200) : Ct Γ M_Re_add [.ref 2, .int x] S0 I J (eqQ (some (.int 1)) S0 (up2 (up2 I 3 l x) 2 1 (nI (l + 1))) J) := by
  refine ct_of [.ref 2, .int x] (by decide +kernel) rfl (leb rfl) rfl ?_
  refine p_aload_n d_Re_add_0 rfl ?_
  refine p_getI d_Re_add_1 fl_Re_15 kd_2 (Or.inl rfl) ?_
  refine p_eqI (y := nI l) (hl) ?_
  refine p_si_200 d_Re_add_4 ?_
  refine p_icmpltN (tgt := 12) (l) (200) d_Re_add_7 (by decide) rfl rfl (by omega) (by omega) (fun h7 => ?_) (fun h7 => ?_)
  · refine p_aload_n d_Re_add_12 rfl ?_
    refine p_getR d_Re_add_13 fl_Re_9 kd_2 rfl rf_2_0 ?_
    refine p_aload_n d_Re_add_16 rfl ?_
    refine p_getI d_Re_add_17 fl_Re_15 kd_2 (Or.inl rfl) ?_
    refine p_eqI (y := nI l) (hl) ?_
    refine p_iload_n d_Re_add_20 rfl ?_
    refine p_iastN (l) d_Re_add_21 ar_3 rfl (by omega) rfl ?_
    refine p_aload_n d_Re_add_22 rfl ?_
    refine p_dup d_Re_add_23 rfl ?_
    refine p_getI d_Re_add_24 fl_Re_15 kd_2 (Or.inl rfl) ?_
    refine p_eqI (y := nI l) (by simp [up2, hl]) ?_
    refine p_ic_1 d_Re_add_27 ?_
    refine p_iaddN (l) (1) d_Re_add_28 rfl rfl ?_
    refine p_putI d_Re_add_29 fl_Re_15 kd_2 rfl nf_2_1 ?_
    refine p_ic_1 d_Re_add_32 ?_
    refine p_iret d_Re_add_33 rfl rfl ?_
    exact ⟨rfl, rfl, rfl, rfl⟩
  · exact absurd h2 h7
theorem c_add_full (Γ : Cx) (I : MemI) (J : MemJ) (x : Int32) (hl : I 2 1 = nI 200) : Ct Γ M_Re_add [.ref 2, .int x] S0 I J (eqQ (some (.int 0)) S0 I J) := by
  refine ct_of [.ref 2, .int x] (by decide +kernel) rfl (leb rfl) rfl ?_
  refine p_aload_n d_Re_add_0 rfl ?_
  refine p_getI d_Re_add_1 fl_Re_15 kd_2 (Or.inl rfl) ?_
  refine p_eqI (y := nI 200) (hl) ?_
  refine p_si_200 d_Re_add_4 ?_
  refine p_icmpltN (tgt := 12) (200) (200) d_Re_add_7 (by decide) rfl rfl (by omega) (by omega) (fun h7 => ?_) (fun h7 => ?_)
  · exact absurd h7 (by omega)
  · refine p_ic_0 d_Re_add_10 ?_
    refine p_iret d_Re_add_11 rfl rfl ?_
    exact ⟨rfl, rfl, rfl, rfl⟩
theorem c_Reempty (Γ : Cx) (I : MemI) (J : MemJ) : Ct Γ M_Re_empty [.ref 2] S0 I J (eqQ (some (.int (I 2 1))) S0 (up2 I 2 1 0) J) := by
  refine ct_of [.ref 2, .null] (by decide +kernel) rfl (leb rfl) rfl ?_
  refine p_aload_n d_Re_empty_0 rfl ?_
  refine p_getI d_Re_empty_1 fl_Re_15 kd_2 (Or.inl rfl) ?_
  refine p_is_1 d_Re_empty_4 (by decide) rfl ?_
  refine p_aload_n d_Re_empty_5 rfl ?_
  refine p_ic_0 d_Re_empty_6 ?_
  refine p_putI d_Re_empty_7 fl_Re_15 kd_2 rfl nf_2_1 ?_
  refine p_iload_n d_Re_empty_10 rfl ?_
  refine p_iret d_Re_empty_11 rfl rfl ?_
  exact ⟨rfl, rfl, rfl, rfl⟩
def rdQ (x : Nat → Int32) (l j : Nat) (I : MemI) (J : MemJ) : PQ := fun r S' I' J' => r = none ∧ S' = S0 ∧ J' = J ∧ tkF I I' ∧ I' 2 2 = (if wrB x l j = true then (-3) else (-2)) ∧ I' 2 3 = I 2 3 ∧ I' 2 4 = nu x l j ∧ I' 2 5 = nI (dg x l j)
theorem c_digits (Γ : Cx) (I : MemI) (J : MemJ) (l j : Nat) (hl : I 2 1 = nI l) (hl2 : l ≤ 200) (hp : I 2 3 = nI j) (hx5 : I 2 5 = nI j) (hjl : j ≤ l) : Ct Γ M_Re_readDigits [.ref 2] S0 I J (rdQ (I 3) l j I J) := by
  obtain ⟨d1, d2⟩ := dg_le (x := I 3) hjl
  have K68 : ∀ (I1 : MemI), I1 2 4 = nu (I 3) l j → I1 2 3 = nI j → tkF I I1 → I1 2 5 = nI (dg (I 3) l j) → WP Γ M_Re_readDigits (0, 0) S0 I1 J 68 [.ref 2, .null, .null] [] (rdQ (I 3) l j I J) := by
    intro I1 h4 h3 hf h5
    have h31 : I1 3 = I 3 := hf.1 3 (by decide)
    have J107 : ∀ (w : Nat), w = (if wrB (I 3) l j = true then 1 else 0) → WP Γ M_Re_readDigits (0, 0) S0 I1 J 107 [.ref 2, .int (nI (dg (I 3) l j - j)), .null] [.int (nI w)] (rdQ (I 3) l j I J) := by
      intro w ew
      refine p_is_2 d_Re_readDigits_107 (by decide) rfl ?_
      refine p_aload_n d_Re_readDigits_108 rfl ?_
      refine p_iload_n d_Re_readDigits_109 rfl ?_
      refine p_ifeq (tgt := 118) d_Re_readDigits_110 (by decide) (fun h110 => ?_) (fun h110 => ?_)
      · refine p_bi_m2 d_Re_readDigits_118 ?_
        refine p_putI d_Re_readDigits_120 fl_Re_40 kd_2 rfl nf_2_2 ?_
        refine p_ret d_Re_readDigits_123 rfl ?_
        refine ⟨rfl, rfl, rfl, hf.tr (tkF.up (by omega)), ?_, ?_, ?_, ?_⟩
        · by_cases z : wrB (I 3) l j = true
          · rw [if_pos z] at ew ⊢
            subst ew
            first | (exact absurd h110 (by decide)) | (simp [up2]; done)
          · rw [if_neg z] at ew ⊢
            subst ew
            first | (exact absurd rfl h110) | (simp [up2]; done)
        · simp only [up2]; rw [if_neg (by omega), h3, hp]
        · simp only [up2]; rw [if_neg (by omega)]; exact h4
        · simp only [up2]; rw [if_neg (by omega)]; exact h5
      · refine p_bi_m3 d_Re_readDigits_113 ?_
        refine p_goto (tgt := 120) d_Re_readDigits_115 (by decide) ?_
        refine p_putI d_Re_readDigits_120 fl_Re_40 kd_2 rfl nf_2_2 ?_
        refine p_ret d_Re_readDigits_123 rfl ?_
        refine ⟨rfl, rfl, rfl, hf.tr (tkF.up (by omega)), ?_, ?_, ?_, ?_⟩
        · by_cases z : wrB (I 3) l j = true
          · rw [if_pos z] at ew ⊢
            subst ew
            first | (exact absurd h110 (by decide)) | (simp [up2]; done)
          · rw [if_neg z] at ew ⊢
            subst ew
            first | (exact absurd rfl h110) | (simp [up2]; done)
        · simp only [up2]; rw [if_neg (by omega), h3, hp]
        · simp only [up2]; rw [if_neg (by omega)]; exact h4
        · simp only [up2]; rw [if_neg (by omega)]; exact h5
    refine p_aload_n d_Re_readDigits_68 rfl ?_
    refine p_getI d_Re_readDigits_69 fl_Re_24 kd_2 (Or.inl rfl) ?_
    refine p_eqI (y := nI (dg (I 3) l j)) (h5) ?_
    refine p_aload_n d_Re_readDigits_72 rfl ?_
    refine p_getI d_Re_readDigits_73 fl_Re_47 kd_2 (Or.inl rfl) ?_
    refine p_eqI (y := nI j) (h3) ?_
    refine p_isubN ((dg (I 3) l j)) (j) d_Re_readDigits_76 rfl rfl (by omega) ?_
    refine p_is_1 d_Re_readDigits_77 (by decide) rfl ?_
    refine p_iload_n d_Re_readDigits_78 rfl ?_
    refine p_ic_2 d_Re_readDigits_79 ?_
    refine p_icmpgtN (tgt := 102) (((dg (I 3) l j)) - j) (2) d_Re_readDigits_80 (by decide) rfl rfl (by omega) (by omega) (fun h80 => ?_) (fun h80 => ?_)
    · refine p_ic_1 d_Re_readDigits_102 ?_
      refine p_goto (tgt := 107) d_Re_readDigits_103 (by decide) ?_
      refine J107 _ ?_
      unfold wrB
      first | (simp [h80]; done) | (simp [show ¬ 2 < dg (I 3) l j - j by omega, show ¬ 1 < dg (I 3) l j - j by omega]; done) | (simp [h80, h85, h99]; done) | (simp [show 1 < dg (I 3) l j - j by omega, h99]; done) | (simp [show ¬ 2 < dg (I 3) l j - j by omega, h99]; done)
    · refine p_iload_n d_Re_readDigits_83 rfl ?_
      refine p_ic_1 d_Re_readDigits_84 ?_
      refine p_icmpleN (tgt := 106) (((dg (I 3) l j)) - j) (1) d_Re_readDigits_85 (by decide) rfl rfl (by omega) (by omega) (fun h85 => ?_) (fun h85 => ?_)
      · refine p_ic_0 d_Re_readDigits_106 ?_
        refine J107 _ ?_
        unfold wrB
        first | (simp [h80]; done) | (simp [show ¬ 2 < dg (I 3) l j - j by omega, show ¬ 1 < dg (I 3) l j - j by omega]; done) | (simp [h80, h85, h99]; done) | (simp [show 1 < dg (I 3) l j - j by omega, h99]; done) | (simp [show ¬ 2 < dg (I 3) l j - j by omega, h99]; done)
      · refine p_aload_n d_Re_readDigits_88 rfl ?_
        refine p_getR d_Re_readDigits_89 fl_Re_9 kd_2 rfl rf_2_0 ?_
        refine p_aload_n d_Re_readDigits_92 rfl ?_
        refine p_getI d_Re_readDigits_93 fl_Re_47 kd_2 (Or.inl rfl) ?_
        refine p_eqI (y := nI j) (h3) ?_
        refine p_ialdN (j) d_Re_readDigits_96 ar_3 rfl (by omega) rfl ?_
        refine p_bi_48 d_Re_readDigits_97 ?_
        refine p_icmpne (tgt := 106) d_Re_readDigits_99 (by decide) (fun h99 => ?_) (fun h99 => ?_)
        · rw [h31] at h99
          refine p_ic_0 d_Re_readDigits_106 ?_
          refine J107 _ ?_
          unfold wrB
          first | (simp [h80]; done) | (simp [show ¬ 2 < dg (I 3) l j - j by omega, show ¬ 1 < dg (I 3) l j - j by omega]; done) | (simp [h80, h85, h99]; done) | (simp [show 1 < dg (I 3) l j - j by omega, h99]; done) | (simp [show ¬ 2 < dg (I 3) l j - j by omega, h99]; done)
        · rw [h31] at h99
          refine p_ic_1 d_Re_readDigits_102 ?_
          refine p_goto (tgt := 107) d_Re_readDigits_103 (by decide) ?_
          refine J107 _ ?_
          unfold wrB
          first | (simp [h80]; done) | (simp [show ¬ 2 < dg (I 3) l j - j by omega, show ¬ 1 < dg (I 3) l j - j by omega]; done) | (simp [h80, h85, h99]; done) | (simp [show 1 < dg (I 3) l j - j by omega, h99]; done) | (simp [show ¬ 2 < dg (I 3) l j - j by omega, h99]; done)
  have LP : ∀ (f k : Nat) (v : Int32) (I1 : MemI), k + f = l → dg (I 3) l j = dgF (I 3) l f k → nu (I 3) l j = nuF (I 3) l f k v → I1 2 4 = v → I1 2 3 = nI j → tkF I I1 → I1 2 5 = nI k → WP Γ M_Re_readDigits (0, 0) S0 I1 J 5 [.ref 2, .null, .null] [] (rdQ (I 3) l j I J) := by
    intro f
    induction f with
    | zero =>
      intro k v I1 hkf ed ev h4 h3 hf h5
      have h31 : I1 3 = I 3 := hf.1 3 (by decide)
      have h1 : I1 2 1 = nI l := by rw [hf.2 1 (by omega)]; exact hl
      refine p_aload_n d_Re_readDigits_5 rfl ?_
      refine p_getI d_Re_readDigits_6 fl_Re_24 kd_2 (Or.inl rfl) ?_
      refine p_eqI (y := nI k) (h5) ?_
      refine p_aload_n d_Re_readDigits_9 rfl ?_
      refine p_getI d_Re_readDigits_10 fl_Re_15 kd_2 (Or.inl rfl) ?_
      refine p_eqI (y := nI l) (h1) ?_
      refine p_icmpgeN (tgt := 68) (k) (l) d_Re_readDigits_13 (by decide) rfl rfl (by omega) (by omega) (fun h13 => ?_) (fun h13 => ?_)
      · have e1 : dg (I 3) l j = k := ed
        exact K68 I1 (by rw [h4]; exact ev.symm) h3 hf (by rw [e1]; exact h5)
      · exact absurd (by omega) h13
    | succ f ih =>
      intro k v I1 hkf ed ev h4 h3 hf h5
      have h31 : I1 3 = I 3 := hf.1 3 (by decide)
      have h1 : I1 2 1 = nI l := by rw [hf.2 1 (by omega)]; exact hl
      refine p_aload_n d_Re_readDigits_5 rfl ?_
      refine p_getI d_Re_readDigits_6 fl_Re_24 kd_2 (Or.inl rfl) ?_
      refine p_eqI (y := nI k) (h5) ?_
      refine p_aload_n d_Re_readDigits_9 rfl ?_
      refine p_getI d_Re_readDigits_10 fl_Re_15 kd_2 (Or.inl rfl) ?_
      refine p_eqI (y := nI l) (h1) ?_
      refine p_icmpgeN (tgt := 68) (k) (l) d_Re_readDigits_13 (by decide) rfl rfl (by omega) (by omega) (fun h13 => ?_) (fun h13 => ?_)
      · exact absurd h13 (by omega)
      · refine p_aload_n d_Re_readDigits_16 rfl ?_
        refine p_getR d_Re_readDigits_17 fl_Re_9 kd_2 rfl rf_2_0 ?_
        refine p_aload_n d_Re_readDigits_20 rfl ?_
        refine p_getI d_Re_readDigits_21 fl_Re_24 kd_2 (Or.inl rfl) ?_
        refine p_eqI (y := nI k) (h5) ?_
        refine p_ialdN (k) d_Re_readDigits_24 ar_3 rfl (by omega) rfl ?_
        refine q_S1 d_Re_readDigits_25 ml_Re_101 sb_Re_isDigit ⟨leb rfl, leb rfl⟩ (c_isDigit Γ S0 I1 J (I1 3 k)) rfl rfl rfl ?_
        refine p_ifeqB (tgt := 68) d_Re_readDigits_28 (by decide) (fun h28 => ?_) (fun h28 => ?_)
        · rw [h31] at h28
          rw [dgF_n (fun q => h28 q.2)] at ed
          rw [nuF_n (fun q => h28 q.2)] at ev
          exact K68 I1 (by rw [h4]; exact ev.symm) h3 hf (by rw [ed]; exact h5)
        · rw [h31] at h28
          refine p_aload_n d_Re_readDigits_31 rfl ?_
          refine p_bi_10 d_Re_readDigits_32 ?_
          refine p_aload_n d_Re_readDigits_34 rfl ?_
          refine p_getI d_Re_readDigits_35 fl_Re_76 kd_2 (Or.inl rfl) ?_
          refine p_eqI h4 ?_
          refine p_imul d_Re_readDigits_38 ?_
          refine p_aload_n d_Re_readDigits_39 rfl ?_
          refine p_getR d_Re_readDigits_40 fl_Re_9 kd_2 rfl rf_2_0 ?_
          refine p_aload_n d_Re_readDigits_43 rfl ?_
          refine p_getI d_Re_readDigits_44 fl_Re_24 kd_2 (Or.inl rfl) ?_
          refine p_eqI (y := nI k) (h5) ?_
          refine p_ialdN (k) d_Re_readDigits_47 ar_3 rfl (by omega) rfl ?_
          refine p_iadd d_Re_readDigits_48 ?_
          refine p_bi_48 d_Re_readDigits_49 ?_
          refine p_isub d_Re_readDigits_51 ?_
          refine p_putI d_Re_readDigits_52 fl_Re_76 kd_2 rfl nf_2_4 ?_
          refine p_aload_n d_Re_readDigits_55 rfl ?_
          refine p_dup d_Re_readDigits_56 rfl ?_
          refine p_getI d_Re_readDigits_57 fl_Re_24 kd_2 (Or.inl rfl) ?_
          refine p_eqI (y := nI k) (by simp only [up2]; rw [if_neg (by omega)]; exact h5) ?_
          refine p_ic_1 d_Re_readDigits_60 ?_
          refine p_iaddN (k) (1) d_Re_readDigits_61 rfl rfl ?_
          refine p_putI d_Re_readDigits_62 fl_Re_24 kd_2 rfl nf_2_5 ?_
          refine p_goto (tgt := 5) d_Re_readDigits_65 (by decide) ?_
          rw [dgF_s ⟨by omega, h28⟩] at ed
          rw [nuF_s ⟨by omega, h28⟩] at ev
          refine ih (k + 1) _ _ (by omega) ed ev ?_ ?_ ((hf.tr (tkF.up (by omega))).tr (tkF.up (by omega))) (by simp [up2])
          · simp only [up2]; rw [if_neg (by omega)]; simp [h31]
          · simp only [up2]; rw [if_neg (by omega), if_neg (by omega)]; exact h3
  refine ct_of [.ref 2, .null, .null] (by decide +kernel) rfl (leb rfl) rfl ?_
  refine p_aload_n d_Re_readDigits_0 rfl ?_
  refine p_ic_0 d_Re_readDigits_1 ?_
  refine p_putI d_Re_readDigits_2 fl_Re_76 kd_2 rfl nf_2_4 ?_
  refine LP (l - j) j 0 _ (by omega) rfl rfl (by simp [up2]) ?_ (tkF.up (by omega)) ?_
  · simp only [up2]; rw [if_neg (by omega)]; exact hp
  · simp only [up2]; rw [if_neg (by omega)]; exact hx5
def toQ (x : Nat → Int32) (l i : Nat) (I : MemI) (J : MemJ) : PQ := fun r S' I' J' => r = none ∧ S' = S0 ∧ J' = J ∧ tkF I I' ∧ I' 2 2 = tkT x l (sk x l i) ∧ I' 2 3 = nI (sk x l i) ∧ I' 2 5 = nI (nxT x l (sk x l i)) ∧ (dgB x l (sk x l i) = true → I' 2 4 = nu x l (sk x l i))
theorem c_token (Γ : Cx) (I : MemI) (J : MemJ) (l i : Nat) (hl : I 2 1 = nI l) (hl2 : l ≤ 200) (hn5 : I 2 5 = nI i) (hil : i ≤ l) : Ct Γ M_Re_readToken [.ref 2] S0 I J (toQ (I 3) l i I J) := by
  obtain ⟨b1, b2⟩ := sk_le (x := I 3) hil
  have K38 : ∀ (j : Nat) (I1 : MemI), sk (I 3) l i = j → I1 2 5 = nI j → tkF I I1 → WP Γ M_Re_readToken (0, 0) S0 I1 J 38 [.ref 2] [] (toQ (I 3) l i I J) := by
    intro j I1 ej h5 hf
    have hjl : j ≤ l := by omega
    have h31 : I1 3 = I 3 := hf.1 3 (by decide)
    have h1 : I1 2 1 = nI l := by rw [hf.2 1 (by omega)]; exact hl
    have h31a : ∀ v, up2 I1 2 3 v 3 = I 3 := fun v => by funext y; simp only [up2]; rw [if_neg (by omega), h31]
    refine p_aload_n d_Re_readToken_38 rfl ?_
    refine p_aload_n d_Re_readToken_39 rfl ?_
    refine p_getI d_Re_readToken_40 fl_Re_24 kd_2 (Or.inl rfl) ?_
    refine p_eqI (y := nI j) (h5) ?_
    refine p_putI d_Re_readToken_43 fl_Re_47 kd_2 rfl nf_2_3 ?_
    refine p_aload_n d_Re_readToken_46 rfl ?_
    refine p_getI d_Re_readToken_47 fl_Re_24 kd_2 (Or.inl rfl) ?_
    refine p_eqI (y := nI j) (by simp only [up2]; rw [if_neg (by omega)]; exact h5) ?_
    refine p_aload_n d_Re_readToken_50 rfl ?_
    refine p_getI d_Re_readToken_51 fl_Re_15 kd_2 (Or.inl rfl) ?_
    refine p_eqI (y := nI l) (by simp only [up2]; rw [if_neg (by omega)]; exact h1) ?_
    refine p_icmpltN (tgt := 65) (j) (l) d_Re_readToken_54 (by decide) rfl rfl (by omega) (by omega) (fun h54 => ?_) (fun h54 => ?_)
    · refine p_aload_n d_Re_readToken_65 rfl ?_
      refine p_getR d_Re_readToken_66 fl_Re_9 kd_2 rfl rf_2_0 ?_
      refine p_aload_n d_Re_readToken_69 rfl ?_
      refine p_getI d_Re_readToken_70 fl_Re_24 kd_2 (Or.inl rfl) ?_
      refine p_eqI (y := nI j) (by simp only [up2]; rw [if_neg (by omega)]; exact h5) ?_
      refine p_ialdN (j) d_Re_readToken_73 ar_3 rfl (by omega) rfl ?_
      refine p_eqI (y := I 3 j) (by rw [h31a]) ?_
      refine q_S1 d_Re_readToken_74 ml_Re_101 sb_Re_isDigit ⟨leb rfl, leb rfl⟩ (c_isDigit Γ S0 _ J (I 3 j)) rfl rfl rfl ?_
      refine p_ifeqB (tgt := 87) d_Re_readToken_77 (by decide) (fun h77 => ?_) (fun h77 => ?_)
      · refine p_aload_n d_Re_readToken_87 rfl ?_
        refine p_aload_n d_Re_readToken_88 rfl ?_
        refine p_getR d_Re_readToken_89 fl_Re_9 kd_2 rfl rf_2_0 ?_
        refine p_aload_n d_Re_readToken_92 rfl ?_
        refine p_getI d_Re_readToken_93 fl_Re_24 kd_2 (Or.inl rfl) ?_
        refine p_eqI (y := nI j) (by simp only [up2]; rw [if_neg (by omega)]; exact h5) ?_
        refine p_ialdN (j) d_Re_readToken_96 ar_3 rfl (by omega) rfl ?_
        refine p_eqI (y := I 3 j) (by rw [h31a]) ?_
        refine p_putI d_Re_readToken_97 fl_Re_40 kd_2 rfl nf_2_2 ?_
        refine p_aload_n d_Re_readToken_100 rfl ?_
        refine p_dup d_Re_readToken_101 rfl ?_
        refine p_getI d_Re_readToken_102 fl_Re_24 kd_2 (Or.inl rfl) ?_
        refine p_eqI (y := nI j) (by simp only [up2]; rw [if_neg (by omega), if_neg (by omega)]; exact h5) ?_
        refine p_ic_1 d_Re_readToken_105 ?_
        refine p_iaddN (j) (1) d_Re_readToken_106 rfl rfl ?_
        refine p_putI d_Re_readToken_107 fl_Re_24 kd_2 rfl nf_2_5 ?_
        refine p_ret d_Re_readToken_110 rfl ?_
        subst ej
        have hnd : ¬ dgB (I 3) l (sk (I 3) l i) = true := fun z => h77 (dgB_iff.mp z).2
        refine ⟨rfl, rfl, rfl, ((hf.tr (tkF.up (by omega))).tr (tkF.up (by omega))).tr (tkF.up (by omega)), ?_, ?_, ?_, fun z => absurd z hnd⟩
        · unfold tkT; rw [if_neg hnd, if_pos (by omega)]; simp [up2]
        · simp [up2]
        · unfold nxT; rw [if_neg hnd, if_pos (by omega)]; simp [up2]
      · refine p_aload_n d_Re_readToken_80 rfl ?_
        refine q_V d_Re_readToken_81 ml_Re_105 vb_Re_readDigits kd_2 ⟨leb rfl, leb rfl⟩ (c_digits Γ _ J l j (by simp only [up2]; rw [if_neg (by omega)]; exact h1) hl2 (by simp [up2]) (by simp only [up2]; rw [if_neg (by omega)]; exact h5) hjl) rfl rfl rfl (fun r S1 ID J1 hQ => ?_)
        obtain ⟨rfl, rfl, hJ, v1, v2, v3, v4, v5⟩ := hQ
        obtain rfl := hJ.symm
        rw [h31a] at v2 v4 v5
        refine p_goto (tgt := 110) d_Re_readToken_84 (by decide) ?_
        refine p_ret d_Re_readToken_110 rfl ?_
        subst ej
        have hnd : dgB (I 3) l (sk (I 3) l i) = true := dgB_iff.mpr ⟨by omega, h77⟩
        refine ⟨rfl, rfl, rfl, (hf.tr (tkF.up (by omega))).tr v1, ?_, ?_, ?_, fun _ => v4⟩
        · rw [v2]; unfold tkT; rw [if_pos hnd]
        · rw [v3]; simp [up2]
        · rw [v5]; unfold nxT; rw [if_pos hnd]
    · refine p_aload_n d_Re_readToken_57 rfl ?_
      refine p_ic_m1 d_Re_readToken_58 ?_
      refine p_putI d_Re_readToken_59 fl_Re_40 kd_2 rfl nf_2_2 ?_
      refine p_goto (tgt := 110) d_Re_readToken_62 (by decide) ?_
      refine p_ret d_Re_readToken_110 rfl ?_
      subst ej
      have hnd : ¬ dgB (I 3) l (sk (I 3) l i) = true := fun z => absurd (dgB_iff.mp z).1 (by omega)
      refine ⟨rfl, rfl, rfl, (hf.tr (tkF.up (by omega))).tr (tkF.up (by omega)), ?_, ?_, ?_, fun z => absurd z hnd⟩
      · unfold tkT; rw [if_neg hnd, if_neg (by omega)]; simp [up2]
      · simp [up2]
      · unfold nxT; rw [if_neg hnd, if_neg (by omega)]; simp only [up2]; rw [if_neg (by omega), if_neg (by omega)]; exact h5
  have LP : ∀ (f k : Nat) (I1 : MemI), k + f = l → sk (I 3) l i = skF (I 3) l f k → I1 2 5 = nI k → tkF I I1 → WP Γ M_Re_readToken (0, 0) S0 I1 J 0 [.ref 2] [] (toQ (I 3) l i I J) := by
    intro f
    induction f with
    | zero =>
      intro k I1 hkf es h5 hf
      have h31 : I1 3 = I 3 := hf.1 3 (by decide)
      have h1 : I1 2 1 = nI l := by rw [hf.2 1 (by omega)]; exact hl
      refine p_aload_n d_Re_readToken_0 rfl ?_
      refine p_getI d_Re_readToken_1 fl_Re_24 kd_2 (Or.inl rfl) ?_
      refine p_eqI (y := nI k) (h5) ?_
      refine p_aload_n d_Re_readToken_4 rfl ?_
      refine p_getI d_Re_readToken_5 fl_Re_15 kd_2 (Or.inl rfl) ?_
      refine p_eqI (y := nI l) (h1) ?_
      refine p_icmpgeN (tgt := 38) (k) (l) d_Re_readToken_8 (by decide) rfl rfl (by omega) (by omega) (fun h8 => ?_) (fun h8 => ?_)
      · exact K38 k I1 es h5 hf
      · exact absurd (by omega) h8
    | succ f ih =>
      intro k I1 hkf es h5 hf
      have h31 : I1 3 = I 3 := hf.1 3 (by decide)
      have h1 : I1 2 1 = nI l := by rw [hf.2 1 (by omega)]; exact hl
      refine p_aload_n d_Re_readToken_0 rfl ?_
      refine p_getI d_Re_readToken_1 fl_Re_24 kd_2 (Or.inl rfl) ?_
      refine p_eqI (y := nI k) (h5) ?_
      refine p_aload_n d_Re_readToken_4 rfl ?_
      refine p_getI d_Re_readToken_5 fl_Re_15 kd_2 (Or.inl rfl) ?_
      refine p_eqI (y := nI l) (h1) ?_
      refine p_icmpgeN (tgt := 38) (k) (l) d_Re_readToken_8 (by decide) rfl rfl (by omega) (by omega) (fun h8 => ?_) (fun h8 => ?_)
      · exact absurd h8 (by omega)
      · refine p_aload_n d_Re_readToken_11 rfl ?_
        refine p_getR d_Re_readToken_12 fl_Re_9 kd_2 rfl rf_2_0 ?_
        refine p_aload_n d_Re_readToken_15 rfl ?_
        refine p_getI d_Re_readToken_16 fl_Re_24 kd_2 (Or.inl rfl) ?_
        refine p_eqI (y := nI k) (h5) ?_
        refine p_ialdN (k) d_Re_readToken_19 ar_3 rfl (by omega) rfl ?_
        refine p_bi_32 d_Re_readToken_20 ?_
        refine p_icmpne (tgt := 38) d_Re_readToken_22 (by decide) (fun h22 => ?_) (fun h22 => ?_)
        · rw [h31] at h22
          refine K38 k I1 ?_ h5 hf
          rw [es]
          show (if _ then _ else _) = _
          rw [if_neg (fun z => h22 z.2)]
        · rw [h31] at h22
          refine p_aload_n d_Re_readToken_25 rfl ?_
          refine p_dup d_Re_readToken_26 rfl ?_
          refine p_getI d_Re_readToken_27 fl_Re_24 kd_2 (Or.inl rfl) ?_
          refine p_eqI (y := nI k) (h5) ?_
          refine p_ic_1 d_Re_readToken_30 ?_
          refine p_iaddN (k) (1) d_Re_readToken_31 rfl rfl ?_
          refine p_putI d_Re_readToken_32 fl_Re_24 kd_2 rfl nf_2_5 ?_
          refine p_goto (tgt := 0) d_Re_readToken_35 (by decide) ?_
          refine ih (k + 1) _ (by omega) ?_ (by simp [up2]) (hf.tr (tkF.up (by omega)))
          rw [es]
          show (if _ then _ else _) = _
          rw [if_pos ⟨by omega, h22⟩]
  refine ct_of [.ref 2] (by decide +kernel) rfl (leb rfl) rfl ?_
  exact LP (l - i) i I (by omega) rfl hn5 tkF.rf
