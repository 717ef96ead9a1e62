/-! ===== the reference: a pew less, two pews changed ===== -/
def woC (x : Int32) (k : Nat) : Int32 := if x = nI k then (-1) else if nI k < x then x - 1 else x
def woK (x : Int32) (k : Nat) : Int32 := x &&& (((1 : Int32) <<< (nI k &&& 31)) - 1) ||| (x >>> ((1 : Int32) &&& 31) &&& ((((1 : Int32) <<< (nI k &&& 31)) - 1) ^^^ (-1)))
/-- row t without pew k of n -/
def woT (n k : Nat) (t : Nat → Int32) : Nat → Int32 := fun y => if y = 0 then nI (n - 1) else if y = 36 then woC (t 36) k else if y = 37 then woK (t 37) k else if 4 ≤ y ∧ y < 34 ∧ k ≤ (y - 4) % 6 ∧ (y - 4) % 6 < n - 1 then t (y + 1) else t y
/-- the places that are moved: pews below e, and of pew e the kinds below w -/
def mvd (k e w y : Nat) : Prop := 4 ≤ y ∧ y < 34 ∧ k ≤ (y - 4) % 6 ∧ ((y - 4) % 6 < e ∨ ((y - 4) % 6 = e ∧ (y - 4) / 6 < w))
def rg (n : Nat) (t : Nat → Int32) : Prop := ∀ k, k < n → (0 ≤ (t (10 + k)).toInt ∧ (t (10 + k)).toInt ≤ 9) ∧ (0 ≤ (t (16 + k)).toInt ∧ (t (16 + k)).toInt ≤ 9)
theorem dz {a b : Int32} (h1 : 0 ≤ a.toInt ∧ a.toInt ≤ 9) (h2 : 0 ≤ b.toInt ∧ b.toInt ≤ 9) : ¬ (a + b + 5 = 0) := by
  intro h
  have e := congrArg Int32.toInt h
  rw [Int32.toInt_add, Int32.toInt_add] at e
  have e5 : (5 : Int32).toInt = 5 := by decide
  have e0 : (0 : Int32).toInt = 0 := by decide
  rw [e5, e0] at e
  rw [Int.bmod_eq_of_le (n := a.toInt + b.toInt) (by omega) (by omega)] at e
  rw [Int.bmod_eq_of_le (by omega) (by omega)] at e
  omega
theorem rg.okD {n : Nat} {t : Nat → Int32} (h : rg n t) : okD n t := by
  intro k hk
  obtain ⟨h1, h2⟩ := h k hk
  unfold nrT
  split
  · exact dz h1 (by decide)
  · exact dz h1 h2
theorem rg.wo {n k : Nat} {t : Nat → Int32} (h : rg n t) (hk : k < n) (hn : n ≤ 6) : rg (n - 1) (woT n k t) := by
  intro j hj
  have key : ∀ b, (b = 10 ∨ b = 16) → woT n k t (b + j) = t (b + j) ∨ woT n k t (b + j) = t (b + (j + 1)) := by
    intro b hb
    unfold woT
    rw [if_neg (by omega), if_neg (by omega), if_neg (by omega)]
    split
    · right; rw [Nat.add_assoc]
    · left; rfl
  have a := h j (by omega)
  have b := h (j + 1) (by omega)
  refine ⟨?_, ?_⟩
  · rcases key 10 (Or.inl rfl) with q | q <;> rw [q]
    · exact a.1
    · exact b.1
  · rcases key 16 (Or.inr rfl) with q | q <;> rw [q]
    · exact a.2
    · exact b.2
theorem okT.wo {n k : Nat} {t : Nat → Int32} (h : okT n t) (hr : rg n t) (hk : k < n) : okT (n - 1) (woT n k t) := by
  have hn := h.1
  refine ⟨by omega, (hr.wo hk hn).okD, ?_⟩
  have e : woT n k t 34 = t 34 := by
    unfold woT
    rw [if_neg (by omega), if_neg (by omega), if_neg (by omega), if_neg (by omega)]
  rw [e]
  exact h.2.2
theorem m_without (Γ : Cx) (I : MemI) (J : MemJ) (n : Nat) (hn : n ≤ 6) (h0 : I 54 0 = nI n) (k : Nat) (hk : k < n) : Ct Γ M_Mo_without [.ref 53, .int (nI k)] S0 I J (r1Q none 62 (woT n k (I 54)) I J) := by
  have K65 : ∀ (I1 : MemI) (e : Nat) (v : Value), v.category = 1 → (∀ x, x ≠ 62 → I1 x = I x) → (∀ y, (mvd k (n - 1) 0 y → I1 62 y = I 54 (y + 1)) ∧ (¬ mvd k (n - 1) 0 y → I1 62 y = I 54 y)) → WP Γ M_Mo_without (0, 0) S0 I1 J 65 [.ref 53, .int (nI k), .int (nI e), v] [] (r1Q none 62 (woT n k (I 54)) I J) := by
    intro I1 e v hv hx hr
    have r0 : I1 62 0 = nI n := by rw [(hr 0).2 (by unfold mvd; omega)]; exact h0
    have r54 : I1 54 = I 54 := hx 54 (by decide)
    have J152 : ∀ (c : Int32) (I2 : MemI) (lw : Int32), c = woC (I 54 36) k → (∀ x, x ≠ 62 → I2 x = I x) → (∀ y, I2 62 y = if y = 37 then woK (I 54 37) k else I1 62 y) → WP Γ M_Mo_without (0, 0) S0 I2 J 152 [.ref 53, .int (nI k), .int lw, v] [.int c, .int 36, .ref 62] (r1Q none 62 (woT n k (I 54)) I J) := by
      intro c I2 lw ec hx2 hr2
      refine p_iastN (36) d_Mo_without_152 ar_62 rfl (by omega) rfl ?_
      refine p_aload_n d_Mo_without_153 rfl ?_
      refine p_getR d_Mo_without_154 fl_Mo_35 kd_53 rfl rf_53_15 ?_
      refine p_ic_0 d_Mo_without_157 ?_
      refine p_dup2 d_Mo_without_158 rfl rfl ?_
      refine p_ialdN (0) d_Mo_without_159 ar_62 rfl (by omega) rfl ?_
      refine p_eqI (y := nI n) (by simp only [up2]; rw [if_neg (by omega), hr2, if_neg (by omega)]; exact r0) ?_
      refine p_ic_1 d_Mo_without_160 ?_
      refine p_isubN (n) (1) d_Mo_without_161 rfl rfl (by omega) ?_
      refine p_iastN (0) d_Mo_without_162 ar_62 rfl (by omega) rfl ?_
      refine p_ret d_Mo_without_163 rfl ?_
      refine ⟨rfl, rfl, rfl, ?_, fun x q => ?_⟩
      · funext y
        simp only [up2, true_and]
        unfold woT
        by_cases q0 : y = 0
        · rw [if_pos q0, if_pos q0]
        · rw [if_neg q0, if_neg q0]
          by_cases q1 : y = 36
          · rw [if_pos q1, if_pos q1, ec]
          · rw [if_neg q1, if_neg q1, hr2]
            by_cases q2 : y = 37
            · rw [if_pos q2, if_pos q2]
            · rw [if_neg q2, if_neg q2]
              by_cases q3 : mvd k (n - 1) 0 y
              · rw [(hr y).1 q3]
                unfold mvd at q3
                rw [if_pos (by omega)]
              · rw [(hr y).2 q3]
                unfold mvd at q3
                rw [if_neg (by omega)]
      · funext y
        simp only [up2]
        rw [if_neg (fun z => q z.1), if_neg (fun z => q z.1), hx2 x q]
    refine p_ic_1 d_Mo_without_65 ?_
    refine p_iload_n d_Mo_without_66 rfl ?_
    refine p_ishl d_Mo_without_67 ?_
    refine p_ic_1 d_Mo_without_68 ?_
    refine p_isub d_Mo_without_69 ?_
    refine p_is_2 d_Mo_without_70 (by decide) rfl ?_
    refine p_aload_n d_Mo_without_71 rfl ?_
    refine p_getR d_Mo_without_72 fl_Mo_35 kd_53 rfl rf_53_15 ?_
    refine p_bi_37 d_Mo_without_75 ?_
    refine p_aload_n d_Mo_without_77 rfl ?_
    refine p_getR d_Mo_without_78 fl_Mo_7 kd_53 rfl rf_53_0 ?_
    refine p_bi_37 d_Mo_without_81 ?_
    refine p_ialdN (37) d_Mo_without_83 ar_54 rfl (by omega) rfl ?_
    refine p_eqI (y := I 54 37) (by rw [r54]) ?_
    refine p_iload_n d_Mo_without_84 rfl ?_
    refine p_iand d_Mo_without_85 ?_
    refine p_aload_n d_Mo_without_86 rfl ?_
    refine p_getR d_Mo_without_87 fl_Mo_7 kd_53 rfl rf_53_0 ?_
    refine p_bi_37 d_Mo_without_90 ?_
    refine p_ialdN (37) d_Mo_without_92 ar_54 rfl (by omega) rfl ?_
    refine p_eqI (y := I 54 37) (by rw [r54]) ?_
    refine p_ic_1 d_Mo_without_93 ?_
    refine p_ishr d_Mo_without_94 ?_
    refine p_iload_n d_Mo_without_95 rfl ?_
    refine p_ic_m1 d_Mo_without_96 ?_
    refine p_ixor d_Mo_without_97 ?_
    refine p_iand d_Mo_without_98 ?_
    refine p_ior d_Mo_without_99 ?_
    refine p_iastN (37) d_Mo_without_100 ar_62 rfl (by omega) rfl ?_
    refine p_aload_n d_Mo_without_101 rfl ?_
    refine p_getR d_Mo_without_102 fl_Mo_35 kd_53 rfl rf_53_15 ?_
    refine p_bi_36 d_Mo_without_105 ?_
    refine p_aload_n d_Mo_without_107 rfl ?_
    refine p_getR d_Mo_without_108 fl_Mo_7 kd_53 rfl rf_53_0 ?_
    refine p_bi_36 d_Mo_without_111 ?_
    refine p_ialdN (36) d_Mo_without_113 ar_54 rfl (by omega) rfl ?_
    refine p_eqI (y := I 54 36) (by simp only [up2]; rw [if_neg (by omega), r54]) ?_
    refine p_iload_n d_Mo_without_114 rfl ?_
    refine p_icmpne (tgt := 122) d_Mo_without_115 (by decide) (fun h115 => ?_) (fun h115 => ?_)
    · refine p_aload_n d_Mo_without_122 rfl ?_
      refine p_getR d_Mo_without_123 fl_Mo_7 kd_53 rfl rf_53_0 ?_
      refine p_bi_36 d_Mo_without_126 ?_
      refine p_ialdN (36) d_Mo_without_128 ar_54 rfl (by omega) rfl ?_
      refine p_eqI (y := I 54 36) (by simp only [up2]; rw [if_neg (by omega), r54]) ?_
      refine p_iload_n d_Mo_without_129 rfl ?_
      refine p_icmple (tgt := 145) d_Mo_without_130 (by decide) (fun h130 => ?_) (fun h130 => ?_)
      · refine p_aload_n d_Mo_without_145 rfl ?_
        refine p_getR d_Mo_without_146 fl_Mo_7 kd_53 rfl rf_53_0 ?_
        refine p_bi_36 d_Mo_without_149 ?_
        refine p_ialdN (36) d_Mo_without_151 ar_54 rfl (by omega) rfl ?_
        refine p_eqI (y := I 54 36) (by simp only [up2]; rw [if_neg (by omega), r54]) ?_
        refine J152 _ _ _ ?_ (fun x q => ?_) (fun y => ?_)
        · unfold woC
          first | (rw [if_pos h115]; done) | (rw [if_neg h115, if_neg (i32_nlt.mpr h130)]; done) | (rw [if_neg h115, if_pos (i32_nle.mp h130)]; done)
        · funext y
          simp only [up2]
          rw [if_neg (fun z => q z.1), hx x q]
        · simp only [up2, true_and]
          rfl
      · refine p_aload_n d_Mo_without_133 rfl ?_
        refine p_getR d_Mo_without_134 fl_Mo_7 kd_53 rfl rf_53_0 ?_
        refine p_bi_36 d_Mo_without_137 ?_
        refine p_ialdN (36) d_Mo_without_139 ar_54 rfl (by omega) rfl ?_
        refine p_eqI (y := I 54 36) (by simp only [up2]; rw [if_neg (by omega), r54]) ?_
        refine p_ic_1 d_Mo_without_140 ?_
        refine p_isub d_Mo_without_141 ?_
        refine p_goto (tgt := 152) d_Mo_without_142 (by decide) ?_
        refine J152 _ _ _ ?_ (fun x q => ?_) (fun y => ?_)
        · unfold woC
          first | (rw [if_pos h115]; done) | (rw [if_neg h115, if_neg (i32_nlt.mpr h130)]; done) | (rw [if_neg h115, if_pos (i32_nle.mp h130)]; done)
        · funext y
          simp only [up2]
          rw [if_neg (fun z => q z.1), hx x q]
        · simp only [up2, true_and]
          rfl
    · refine p_ic_m1 d_Mo_without_118 ?_
      refine p_goto (tgt := 152) d_Mo_without_119 (by decide) ?_
      refine J152 _ _ _ ?_ (fun x q => ?_) (fun y => ?_)
      · unfold woC
        first | (rw [if_pos h115]; done) | (rw [if_neg h115, if_neg (i32_nlt.mpr h130)]; done) | (rw [if_neg h115, if_pos (i32_nle.mp h130)]; done)
      · funext y
        simp only [up2]
        rw [if_neg (fun z => q z.1), hx x q]
      · simp only [up2, true_and]
        rfl
  have LI : ∀ (g w e : Nat) (I1 : MemI), w + g = 5 → k ≤ e → e + 1 < n → (∀ I2 : MemI, ∀ w2 : Nat, (∀ x, x ≠ 62 → I2 x = I x) → (∀ y, (mvd k (e + 1) 0 y → I2 62 y = I 54 (y + 1)) ∧ (¬ mvd k (e + 1) 0 y → I2 62 y = I 54 y)) → WP Γ M_Mo_without (0, 0) S0 I2 J 59 [.ref 53, .int (nI k), .int (nI e), .int (nI w2)] [] (r1Q none 62 (woT n k (I 54)) I J)) → (∀ x, x ≠ 62 → I1 x = I x) → (∀ y, (mvd k e w y → I1 62 y = I 54 (y + 1)) ∧ (¬ mvd k e w y → I1 62 y = I 54 y)) → WP Γ M_Mo_without (0, 0) S0 I1 J 20 [.ref 53, .int (nI k), .int (nI e), .int (nI w)] [] (r1Q none 62 (woT n k (I 54)) I J) := by
    intro g
    induction g with
    | zero =>
      intro w e I1 hwg hke hen kk hx hr
      obtain rfl : w = 5 := by omega
      refine p_iload_n d_Mo_without_20 rfl ?_
      refine p_ic_5 d_Mo_without_21 ?_
      refine p_icmpgeN (tgt := 59) (5) (5) d_Mo_without_22 (by decide) rfl rfl (by omega) (by omega) (fun h22 => ?_) (fun h22 => ?_)
      · refine kk I1 5 hx (fun y => ⟨fun q => (hr y).1 ?_, fun q => (hr y).2 ?_⟩)
        · unfold mvd at q ⊢; omega
        · unfold mvd at q ⊢; omega
      · exact absurd (Nat.le_refl _) h22
    | succ g ih =>
      intro w e I1 hwg hke hen kk hx hr
      refine p_iload_n d_Mo_without_20 rfl ?_
      refine p_ic_5 d_Mo_without_21 ?_
      refine p_icmpgeN (tgt := 59) (w) (5) d_Mo_without_22 (by decide) rfl rfl (by omega) (by omega) (fun h22 => ?_) (fun h22 => ?_)
      · exact absurd h22 (by omega)
      · refine p_aload_n d_Mo_without_25 rfl ?_
        refine p_getR d_Mo_without_26 fl_Mo_35 kd_53 rfl rf_53_15 ?_
        refine p_ic_4 d_Mo_without_29 ?_
        refine p_bi_6 d_Mo_without_30 ?_
        refine p_iload_n d_Mo_without_32 rfl ?_
        refine p_imulN (6) (w) d_Mo_without_33 rfl rfl ?_
        refine p_iaddN (4) (6 * w) d_Mo_without_34 rfl rfl ?_
        refine p_iload_n d_Mo_without_35 rfl ?_
        refine p_iaddN (4 + (6 * w)) (e) d_Mo_without_36 rfl rfl ?_
        refine p_aload_n d_Mo_without_37 rfl ?_
        refine p_getR d_Mo_without_38 fl_Mo_35 kd_53 rfl rf_53_15 ?_
        refine p_ic_4 d_Mo_without_41 ?_
        refine p_bi_6 d_Mo_without_42 ?_
        refine p_iload_n d_Mo_without_44 rfl ?_
        refine p_imulN (6) (w) d_Mo_without_45 rfl rfl ?_
        refine p_iaddN (4) (6 * w) d_Mo_without_46 rfl rfl ?_
        refine p_iload_n d_Mo_without_47 rfl ?_
        refine p_iaddN (4 + (6 * w)) (e) d_Mo_without_48 rfl rfl ?_
        refine p_ic_1 d_Mo_without_49 ?_
        refine p_iaddN ((4 + (6 * w)) + e) (1) d_Mo_without_50 rfl rfl ?_
        refine p_ialdN (((4 + (6 * w)) + e) + 1) d_Mo_without_51 ar_62 rfl (by omega) rfl ?_
        refine p_iastN ((4 + (6 * w)) + e) d_Mo_without_52 ar_62 rfl (by omega) rfl ?_
        refine p_incN_3_1 d_Mo_without_53 (by decide) rfl ?_
        refine p_goto (tgt := 20) d_Mo_without_56 (by decide) ?_
        refine ih (w + 1) e _ (by omega) hke hen kk (fun x q => ?_) (fun y => ⟨fun q => ?_, fun q => ?_⟩)
        · funext y
          simp only [up2]
          rw [if_neg (fun z => q z.1), hx x q]
        · simp only [up2, true_and]
          by_cases q1 : y = 4 + 6 * w + e
          · rw [if_pos q1, (hr _).2 (by unfold mvd; omega), q1]
          · rw [if_neg q1, (hr y).1 (by unfold mvd at q ⊢; omega)]
        · simp only [up2, true_and]
          have q1 : ¬ y = 4 + 6 * w + e := by unfold mvd at q; omega
          rw [if_neg q1, (hr y).2 (by unfold mvd at q ⊢; omega)]
  have LO : ∀ (f e : Nat) (v : Value) (I1 : MemI), v.category = 1 → e + f = n - 1 → k ≤ e → (∀ x, x ≠ 62 → I1 x = I x) → (∀ y, (mvd k e 0 y → I1 62 y = I 54 (y + 1)) ∧ (¬ mvd k e 0 y → I1 62 y = I 54 y)) → WP Γ M_Mo_without (0, 0) S0 I1 J 6 [.ref 53, .int (nI k), .int (nI e), v] [] (r1Q none 62 (woT n k (I 54)) I J) := by
    intro f
    induction f with
    | zero =>
      intro e v I1 hv hef hke hx hr
      obtain rfl : e = n - 1 := by omega
      refine p_iload_n d_Mo_without_6 rfl ?_
      refine p_aload_n d_Mo_without_7 rfl ?_
      refine p_getR d_Mo_without_8 fl_Mo_7 kd_53 rfl rf_53_0 ?_
      refine p_ic_0 d_Mo_without_11 ?_
      refine p_ialdN (0) d_Mo_without_12 ar_54 rfl (by omega) rfl ?_
      refine p_eqI (y := nI n) (by rw [hx 54 (by decide)]; exact h0) ?_
      refine p_ic_1 d_Mo_without_13 ?_
      refine p_isubN (n) (1) d_Mo_without_14 rfl rfl (by omega) ?_
      refine p_icmpgeN (tgt := 65) (n - 1) (n - 1) d_Mo_without_15 (by decide) rfl rfl (by omega) (by omega) (fun h15 => ?_) (fun h15 => ?_)
      · exact K65 I1 (n - 1) v hv hx hr
      · exact absurd (Nat.le_refl _) h15
    | succ f ih =>
      intro e v I1 hv hef hke hx hr
      have K59 : ∀ (I2 : MemI) (w2 : Nat), (∀ x, x ≠ 62 → I2 x = I x) → (∀ y, (mvd k (e + 1) 0 y → I2 62 y = I 54 (y + 1)) ∧ (¬ mvd k (e + 1) 0 y → I2 62 y = I 54 y)) → WP Γ M_Mo_without (0, 0) S0 I2 J 59 [.ref 53, .int (nI k), .int (nI e), .int (nI w2)] [] (r1Q none 62 (woT n k (I 54)) I J) := by
        intro I2 w2 hx2 hr2
        refine p_incN_2_1 d_Mo_without_59 (by decide) rfl ?_
        refine p_goto (tgt := 6) d_Mo_without_62 (by decide) ?_
        exact ih (e + 1) _ I2 rfl (by omega) (by omega) hx2 hr2
      refine p_iload_n d_Mo_without_6 rfl ?_
      refine p_aload_n d_Mo_without_7 rfl ?_
      refine p_getR d_Mo_without_8 fl_Mo_7 kd_53 rfl rf_53_0 ?_
      refine p_ic_0 d_Mo_without_11 ?_
      refine p_ialdN (0) d_Mo_without_12 ar_54 rfl (by omega) rfl ?_
      refine p_eqI (y := nI n) (by rw [hx 54 (by decide)]; exact h0) ?_
      refine p_ic_1 d_Mo_without_13 ?_
      refine p_isubN (n) (1) d_Mo_without_14 rfl rfl (by omega) ?_
      refine p_icmpgeN (tgt := 65) (e) (n - 1) d_Mo_without_15 (by decide) rfl rfl (by omega) (by omega) (fun h15 => ?_) (fun h15 => ?_)
      · exact absurd h15 (by omega)
      · refine p_ic_0 d_Mo_without_18 ?_
        refine p_is_3 d_Mo_without_19 (by decide) rfl ?_
        exact LI 5 0 e I1 (by omega) hke (by omega) K59 hx hr
  refine ct_of [.ref 53, .int (nI k), .null, .null] (by decide +kernel) rfl (leb rfl) rfl ?_
  refine p_aload_n d_Mo_without_0 rfl ?_
  refine q_V d_Mo_without_1 ml_Mo_148 vb_Mo_asNow kd_53 ⟨leb rfl, leb rfl⟩ (m_asNow' Γ I I J (rfl)) rfl rfl rfl (fun r S1 IA J1 hQ => ?_)
  obtain ⟨rfl, rfl, hJ, a1, a2⟩ := hQ
  obtain rfl := hJ.symm
  refine p_iload_n d_Mo_without_4 rfl ?_
  refine p_is_2 d_Mo_without_5 (by decide) rfl ?_
  refine LO (n - 1 - k) k _ IA rfl (by omega) (Nat.le_refl _) a2 (fun y => ⟨fun q => ?_, fun _ => by rw [a1]⟩)
  unfold mvd at q
  omega
def puA (n q : Nat) (t : Nat → Int32) (k : Nat) : Int32 := itS (n - 1) (woT n k t) q 34
def puF (n q : Nat) (t : Nat → Int32) : Nat → Nat → Int32 → Int32 → Int32
  | 0, _, b, _ => b
  | f + 1, k, b, l => if puA n q t k < l then puF n q t f (k + 1) (nI k) (puA n q t k) else puF n q t f (k + 1) b l
theorem woT_0 {n k : Nat} {t : Nat → Int32} : woT n k t 0 = nI (n - 1) := by simp [woT]
theorem m_pulls (Γ : Cx) (I : MemI) (J : MemJ) (n : Nat) (hn : n ≤ 6) (h0 : I 54 0 = nI n) (hok : okT n (I 54)) (q : Nat) (hq1 : 1 ≤ q) (hq : q ≤ 30) (hrg : rg n (I 54)) : Ct Γ M_Mo_pulls [.ref 53, .int (nI q)] S0 I J (scQ (some (.int (puF n q (I 54) n 0 (-1000009) (itS n (I 54) q 34)))) I J) := by
  have LP : ∀ (f k : Nat) (b l : Int32) (I1 : MemI), k + f = n → (∀ x, x ≠ 61 → x ≠ 62 → x ≠ 63 → I1 x = I x) → puF n q (I 54) n 0 (-1000009) (itS n (I 54) q 34) = puF n q (I 54) f k b l → WP Γ M_Mo_pulls (0, 0) S0 I1 J 33 [.ref 53, .int (nI q), .int l, .int b, .int (nI k)] [] (scQ (some (.int (puF n q (I 54) n 0 (-1000009) (itS n (I 54) q 34)))) I J) := by
    intro f
    induction f with
    | zero =>
      intro k b l I1 hkf hx hF
      obtain rfl : k = n := by omega
      refine p_iload d_Mo_pulls_33 rfl ?_
      refine p_aload_n d_Mo_pulls_35 rfl ?_
      refine p_getR d_Mo_pulls_36 fl_Mo_7 kd_53 rfl rf_53_0 ?_
      refine p_ic_0 d_Mo_pulls_39 ?_
      refine p_ialdN (0) d_Mo_pulls_40 ar_54 rfl (by omega) rfl ?_
      refine p_eqI (y := nI k) (by rw [hx 54 (by decide) (by decide) (by decide)]; exact h0) ?_
      refine p_icmpgeN (tgt := 102) (k) (k) d_Mo_pulls_41 (by decide) rfl rfl (by omega) (by omega) (fun h41 => ?_) (fun h41 => ?_)
      · refine p_iload_n d_Mo_pulls_102 rfl ?_
        refine p_iret d_Mo_pulls_103 rfl rfl ?_
        exact ⟨by rw [hF]; rfl, rfl, rfl, hx⟩
      · exact absurd (Nat.le_refl _) h41
    | succ f ih =>
      intro k b l I1 hkf hx hF
      have h54 : I1 54 = I 54 := hx 54 (by decide) (by decide) (by decide)
      refine p_iload d_Mo_pulls_33 rfl ?_
      refine p_aload_n d_Mo_pulls_35 rfl ?_
      refine p_getR d_Mo_pulls_36 fl_Mo_7 kd_53 rfl rf_53_0 ?_
      refine p_ic_0 d_Mo_pulls_39 ?_
      refine p_ialdN (0) d_Mo_pulls_40 ar_54 rfl (by omega) rfl ?_
      refine p_eqI (y := nI n) (by rw [hx 54 (by decide) (by decide) (by decide)]; exact h0) ?_
      refine p_icmpgeN (tgt := 102) (k) (n) d_Mo_pulls_41 (by decide) rfl rfl (by omega) (by omega) (fun h41 => ?_) (fun h41 => ?_)
      · exact absurd h41 (by omega)
      · refine p_aload_n d_Mo_pulls_44 rfl ?_
        refine p_iload d_Mo_pulls_45 rfl ?_
        refine q_V d_Mo_pulls_47 ml_Mo_168 vb_Mo_without kd_53 ⟨leb rfl, leb rfl⟩ (m_without Γ I1 J n hn (by rw [h54]; exact h0) k (by omega)) rfl rfl rfl (fun r S1 IA J1 hQ => ?_)
        obtain ⟨rfl, rfl, hJ, a1, a2⟩ := hQ
        obtain rfl := hJ.symm
        rw [h54] at a1
        refine p_aload_n d_Mo_pulls_50 rfl ?_
        refine p_iload_n d_Mo_pulls_51 rfl ?_
        refine q_V d_Mo_pulls_52 ml_Mo_151 vb_Mo_go kd_53 ⟨leb rfl, leb rfl⟩ (m_go Γ IA J (n - 1) q (by omega) (by rw [a1]; exact woT_0) (by rw [a1]; exact hok.wo hrg (by omega))) rfl rfl rfl (fun r S1 IG J1 hQ => ?_)
        obtain ⟨rfl, rfl, hJ, g1, g2⟩ := hQ
        obtain rfl := hJ.symm
        have ep : IG 62 34 = puA n q (I 54) k := by rw [g1, a1]; rfl
        have hg : ∀ x, x ≠ 61 → x ≠ 62 → x ≠ 63 → IG x = I x := fun x q1 q2 q3 => by rw [g2 x q1 q2, a2 x q2, hx x q1 q2 q3]
        refine p_aload_n d_Mo_pulls_55 rfl ?_
        refine p_getR d_Mo_pulls_56 fl_Mo_35 kd_53 rfl rf_53_15 ?_
        refine p_bi_34 d_Mo_pulls_59 ?_
        refine p_ialdN (34) d_Mo_pulls_61 ar_62 rfl (by omega) rfl ?_
        refine p_eqI ep ?_
        refine p_iload_n d_Mo_pulls_62 rfl ?_
        refine p_icmpge (tgt := 71) d_Mo_pulls_63 (by decide) (fun h63 => ?_) (fun h63 => ?_)
        · refine p_iload_n d_Mo_pulls_71 rfl ?_
          refine p_is_3 d_Mo_pulls_72 (by decide) rfl ?_
          refine p_aload_n d_Mo_pulls_73 rfl ?_
          refine p_getR d_Mo_pulls_74 fl_Mo_35 kd_53 rfl rf_53_15 ?_
          refine p_bi_34 d_Mo_pulls_77 ?_
          refine p_ialdN (34) d_Mo_pulls_79 ar_62 rfl (by omega) rfl ?_
          refine p_eqI ep ?_
          refine p_iload_n d_Mo_pulls_80 rfl ?_
          refine p_icmpge (tgt := 94) d_Mo_pulls_81 (by decide) (fun h81 => ?_) (fun h81 => ?_)
          · refine p_iload_n d_Mo_pulls_94 rfl ?_
            refine p_is_2 d_Mo_pulls_95 (by decide) rfl ?_
            refine p_incN_4_1 d_Mo_pulls_96 (by decide) rfl ?_
            refine p_goto (tgt := 33) d_Mo_pulls_99 (by decide) ?_
            refine ih (k + 1) _ _ IG (by omega) hg ?_
            rw [hF]
            show (if puA n q (I 54) k < l then _ else _) = _
            rw [if_neg (i32_nlt.mpr h63)]
          · exact absurd h63 h81
        · refine p_iload d_Mo_pulls_66 rfl ?_
          refine p_goto (tgt := 72) d_Mo_pulls_68 (by decide) ?_
          refine p_is_3 d_Mo_pulls_72 (by decide) rfl ?_
          refine p_aload_n d_Mo_pulls_73 rfl ?_
          refine p_getR d_Mo_pulls_74 fl_Mo_35 kd_53 rfl rf_53_15 ?_
          refine p_bi_34 d_Mo_pulls_77 ?_
          refine p_ialdN (34) d_Mo_pulls_79 ar_62 rfl (by omega) rfl ?_
          refine p_eqI ep ?_
          refine p_iload_n d_Mo_pulls_80 rfl ?_
          refine p_icmpge (tgt := 94) d_Mo_pulls_81 (by decide) (fun h81 => ?_) (fun h81 => ?_)
          · exact absurd h81 h63
          · refine p_aload_n d_Mo_pulls_84 rfl ?_
            refine p_getR d_Mo_pulls_85 fl_Mo_35 kd_53 rfl rf_53_15 ?_
            refine p_bi_34 d_Mo_pulls_88 ?_
            refine p_ialdN (34) d_Mo_pulls_90 ar_62 rfl (by omega) rfl ?_
            refine p_eqI ep ?_
            refine p_goto (tgt := 95) d_Mo_pulls_91 (by decide) ?_
            refine p_is_2 d_Mo_pulls_95 (by decide) rfl ?_
            refine p_incN_4_1 d_Mo_pulls_96 (by decide) rfl ?_
            refine p_goto (tgt := 33) d_Mo_pulls_99 (by decide) ?_
            refine ih (k + 1) _ _ IG (by omega) hg ?_
            rw [hF]
            show (if puA n q (I 54) k < l then _ else _) = _
            rw [if_pos (i32_nle.mp h63)]
  refine ct_of [.ref 53, .int (nI q), .null, .null, .null] (by decide +kernel) rfl (leb rfl) rfl ?_
  refine p_iload_n d_Mo_pulls_0 rfl ?_
  refine q_S1 d_Mo_pulls_1 ml_Mo_159 sb_Mo_isSpan ⟨leb rfl, leb rfl⟩ (c_isSpan Γ S0 I J (nI q)) rfl rfl rfl ?_
  refine p_ifneB (tgt := 10) d_Mo_pulls_4 (by decide) (fun h4 => ?_) (fun h4 => ?_)
  · refine p_aload_n d_Mo_pulls_10 rfl ?_
    refine q_V d_Mo_pulls_11 ml_Mo_148 vb_Mo_asNow kd_53 ⟨leb rfl, leb rfl⟩ (m_asNow' Γ I I J (rfl)) rfl rfl rfl (fun r S1 IA J1 hQ => ?_)
    obtain ⟨rfl, rfl, hJ, a1, a2⟩ := hQ
    obtain rfl := hJ.symm
    refine p_aload_n d_Mo_pulls_14 rfl ?_
    refine p_iload_n d_Mo_pulls_15 rfl ?_
    refine q_V d_Mo_pulls_16 ml_Mo_151 vb_Mo_go kd_53 ⟨leb rfl, leb rfl⟩ (m_go Γ _ J n (q) (by omega) (by rw [a1]; exact h0) (by rw [a1]; exact hok)) rfl rfl rfl (fun r S1 IG J1 hQ => ?_)
    obtain ⟨rfl, rfl, hJ, g1, g2⟩ := hQ
    obtain rfl := hJ.symm
    refine p_aload_n d_Mo_pulls_19 rfl ?_
    refine p_getR d_Mo_pulls_20 fl_Mo_35 kd_53 rfl rf_53_15 ?_
    refine p_bi_34 d_Mo_pulls_23 ?_
    refine p_ialdN (34) d_Mo_pulls_25 ar_62 rfl (by omega) rfl ?_
    refine p_is_2 d_Mo_pulls_26 (by decide) rfl ?_
    refine p_ldc d_Mo_pulls_27 kc_Mo_107 ?_
    refine p_is_3 d_Mo_pulls_29 (by decide) rfl ?_
    refine p_ic_0 d_Mo_pulls_30 ?_
    refine p_is_4 d_Mo_pulls_31 (by decide) rfl ?_
    exact LP n 0 _ _ IG (by omega) (fun x q1 q2 q3 => by rw [g2 x q1 q2, a2 x q2]) (by rw [g1, a1])
  · exact absurd (i30 q hq1 hq) h4
theorem m_pulls_bad (Γ : Cx) (I : MemI) (J : MemJ) (x : Int32) (hb : ¬ (1 ≤ x ∧ x ≤ 30)) : Ct Γ M_Mo_pulls [.ref 53, .int x] S0 I J (eqQ (some (.int (-1000001))) S0 I J) := by
  refine ct_of [.ref 53, .int x, .null, .null, .null] (by decide +kernel) rfl (leb rfl) rfl ?_
  refine p_iload_n d_Mo_pulls_0 rfl ?_
  refine q_S1 d_Mo_pulls_1 ml_Mo_159 sb_Mo_isSpan ⟨leb rfl, leb rfl⟩ (c_isSpan Γ S0 I J x) rfl rfl rfl ?_
  refine p_ifneB (tgt := 10) d_Mo_pulls_4 (by decide) (fun h4 => ?_) (fun h4 => ?_)
  · exact absurd h4 hb
  · refine p_ldc d_Mo_pulls_7 kc_Mo_51 ?_
    refine p_iret d_Mo_pulls_9 rfl rfl ?_
    exact ⟨rfl, rfl, rfl, rfl⟩
theorem m_change_bad (Γ : Cx) (I : MemI) (J : MemJ) (x : Int32) (hb : ¬ (1 ≤ x ∧ x ≤ 30)) : Ct Γ M_Mo_change [.ref 53, .int x] S0 I J (eqQ (some (.int (-1000001))) S0 I J) := by
  refine ct_of [.ref 53, .int x, .null, .null, .null, .null, .null] (by decide +kernel) rfl (leb rfl) rfl ?_
  refine p_iload_n d_Mo_change_0 rfl ?_
  refine q_S1 d_Mo_change_1 ml_Mo_159 sb_Mo_isSpan ⟨leb rfl, leb rfl⟩ (c_isSpan Γ S0 I J x) rfl rfl rfl ?_
  refine p_ifneB (tgt := 10) d_Mo_change_4 (by decide) (fun h4 => ?_) (fun h4 => ?_)
  · exact absurd h4 hb
  · refine p_ldc d_Mo_change_7 kc_Mo_51 ?_
    refine p_iret d_Mo_change_9 rfl rfl ?_
    exact ⟨rfl, rfl, rfl, rfl⟩
def swT (a b : Nat) (t : Nat → Int32) : Nat → Int32 := upd (upd t (4 + a) (t (4 + b))) (4 + b) (t (4 + a))
def swA (n q : Nat) (t : Nat → Int32) (a b : Nat) : Int32 := apT n (itS n (swT a b t) q)
def chI (n q : Nat) (t : Nat → Int32) (a : Nat) : Nat → Nat → Int32 × Int32 → Int32 × Int32
  | 0, _, x => x
  | f + 1, b, x => if swA n q t a b < x.2 then chI n q t a f (b + 1) (nI (10 * a + b), swA n q t a b) else chI n q t a f (b + 1) x
def chF (n q : Nat) (t : Nat → Int32) : Nat → Nat → Int32 × Int32 → Int32 × Int32
  | 0, _, x => x
  | f + 1, a, x => chF n q t f (a + 1) (chI n q t a f (a + 1) x)
theorem okT_sw {n a b : Nat} {t : Nat → Int32} (h : okT n t) (ha : a < n) (hb : b < n) : okT n (swT a b t) := by
  have hn := h.1
  exact okT_c h (fun k hk => ⟨by unfold swT; rw [upd_ne (by omega), upd_ne (by omega)], by unfold swT; rw [upd_ne (by omega), upd_ne (by omega)]⟩) (by unfold swT; rw [upd_ne (by omega), upd_ne (by omega)])
theorem swT_0 {a b : Nat} {t : Nat → Int32} : swT a b t 0 = t 0 := by unfold swT; rw [upd_ne (by omega), upd_ne (by omega)]
theorem m_change (Γ : Cx) (I : MemI) (J : MemJ) (n : Nat) (hn : n ≤ 6) (h0 : I 54 0 = nI n) (hok : okT n (I 54)) (q : Nat) (hq1 : 1 ≤ q) (hq : q ≤ 30) : Ct Γ M_Mo_change [.ref 53, .int (nI q)] S0 I J (scQ (some (.int (chF n q (I 54) n 0 (-1000009, apT n (itS n (I 54) q))).1)) I J) := by
  have LI : ∀ (g a b f : Nat) (x : Int32 × Int32) (v : Value) (I1 : MemI), v.category = 1 → b + g = n → a < b → a + f + 1 = n → (∀ (x2 : Int32 × Int32) (v2 w2 : Value) (I2 : MemI), v2.category = 1 → w2.category = 1 → (∀ x, x ≠ 61 → x ≠ 62 → x ≠ 63 → I2 x = I x) → chF n q (I 54) n 0 (-1000009, apT n (itS n (I 54) q)) = chF n q (I 54) f (a + 1) x2 → WP Γ M_Mo_change (0, 0) S0 I2 J 153 [.ref 53, .int (nI q), .int x2.2, .int x2.1, .int (nI a), v2, w2] [] (scQ (some (.int (chF n q (I 54) n 0 (-1000009, apT n (itS n (I 54) q))).1)) I J)) → (∀ x, x ≠ 61 → x ≠ 62 → x ≠ 63 → I1 x = I x) → chF n q (I 54) n 0 (-1000009, apT n (itS n (I 54) q)) = chF n q (I 54) f (a + 1) (chI n q (I 54) a g b x) → WP Γ M_Mo_change (0, 0) S0 I1 J 50 [.ref 53, .int (nI q), .int x.2, .int x.1, .int (nI a), .int (nI b), v] [] (scQ (some (.int (chF n q (I 54) n 0 (-1000009, apT n (itS n (I 54) q))).1)) I J) := by
    intro g
    induction g with
    | zero =>
      intro a b f x v I1 hv hbg hab haf kk hx hF
      obtain rfl : b = n := by omega
      refine p_iload d_Mo_change_50 rfl ?_
      refine p_aload_n d_Mo_change_52 rfl ?_
      refine p_getR d_Mo_change_53 fl_Mo_7 kd_53 rfl rf_53_0 ?_
      refine p_ic_0 d_Mo_change_56 ?_
      refine p_ialdN (0) d_Mo_change_57 ar_54 rfl (by omega) rfl ?_
      refine p_eqI (y := nI b) (by rw [hx 54 (by decide) (by decide) (by decide)]; exact h0) ?_
      refine p_icmpgeN (tgt := 153) (b) (b) d_Mo_change_58 (by decide) rfl rfl (by omega) (by omega) (fun h58 => ?_) (fun h58 => ?_)
      · exact kk x _ v I1 rfl hv hx hF
      · exact absurd (Nat.le_refl _) h58
    | succ g ih =>
      intro a b f x v I1 hv hbg hab haf kk hx hF
      have h54 : I1 54 = I 54 := hx 54 (by decide) (by decide) (by decide)
      have hr : ∀ IA : MemI, IA 62 = I 54 → IA 54 = I 54 → up2 (up2 IA 62 (4 + a) (IA 54 (4 + b))) 62 (4 + b) (up2 IA 62 (4 + a) (IA 54 (4 + b)) 54 (4 + a)) 62 = swT a b (I 54) := by
        intro IA h1 h2
        rw [up2_row, up2_row, h1]
        have e : up2 IA 62 (4 + a) (IA 54 (4 + b)) 54 (4 + a) = I 54 (4 + a) := by simp only [up2]; rw [if_neg (by omega), h2]
        rw [e, h2]
        rfl
      refine p_iload d_Mo_change_50 rfl ?_
      refine p_aload_n d_Mo_change_52 rfl ?_
      refine p_getR d_Mo_change_53 fl_Mo_7 kd_53 rfl rf_53_0 ?_
      refine p_ic_0 d_Mo_change_56 ?_
      refine p_ialdN (0) d_Mo_change_57 ar_54 rfl (by omega) rfl ?_
      refine p_eqI (y := nI n) (by rw [hx 54 (by decide) (by decide) (by decide)]; exact h0) ?_
      refine p_icmpgeN (tgt := 153) (b) (n) d_Mo_change_58 (by decide) rfl rfl (by omega) (by omega) (fun h58 => ?_) (fun h58 => ?_)
      · exact absurd h58 (by omega)
      · refine p_aload_n d_Mo_change_61 rfl ?_
        refine q_V d_Mo_change_62 ml_Mo_148 vb_Mo_asNow kd_53 ⟨leb rfl, leb rfl⟩ (m_asNow' Γ I1 I J h54) rfl rfl rfl (fun r S1 IA J1 hQ => ?_)
        obtain ⟨rfl, rfl, hJ, a1, a2⟩ := hQ
        obtain rfl := hJ.symm
        have b1 : IA 54 = I 54 := by rw [a2 54 (by decide)]; exact h54
        refine p_aload_n d_Mo_change_65 rfl ?_
        refine p_getR d_Mo_change_66 fl_Mo_35 kd_53 rfl rf_53_15 ?_
        refine p_ic_4 d_Mo_change_69 ?_
        refine p_iload d_Mo_change_70 rfl ?_
        refine p_iaddN (4) (a) d_Mo_change_72 rfl rfl ?_
        refine p_aload_n d_Mo_change_73 rfl ?_
        refine p_getR d_Mo_change_74 fl_Mo_7 kd_53 rfl rf_53_0 ?_
        refine p_ic_4 d_Mo_change_77 ?_
        refine p_iload d_Mo_change_78 rfl ?_
        refine p_iaddN (4) (b) d_Mo_change_80 rfl rfl ?_
        refine p_ialdN (4 + b) d_Mo_change_81 ar_54 rfl (by omega) rfl ?_
        refine p_iastN (4 + a) d_Mo_change_82 ar_62 rfl (by omega) rfl ?_
        refine p_aload_n d_Mo_change_83 rfl ?_
        refine p_getR d_Mo_change_84 fl_Mo_35 kd_53 rfl rf_53_15 ?_
        refine p_ic_4 d_Mo_change_87 ?_
        refine p_iload d_Mo_change_88 rfl ?_
        refine p_iaddN (4) (b) d_Mo_change_90 rfl rfl ?_
        refine p_aload_n d_Mo_change_91 rfl ?_
        refine p_getR d_Mo_change_92 fl_Mo_7 kd_53 rfl rf_53_0 ?_
        refine p_ic_4 d_Mo_change_95 ?_
        refine p_iload d_Mo_change_96 rfl ?_
        refine p_iaddN (4) (a) d_Mo_change_98 rfl rfl ?_
        refine p_ialdN (4 + a) d_Mo_change_99 ar_54 rfl (by omega) rfl ?_
        refine p_iastN (4 + b) d_Mo_change_100 ar_62 rfl (by omega) rfl ?_
        refine p_aload_n d_Mo_change_101 rfl ?_
        refine p_iload_n d_Mo_change_102 rfl ?_
        refine q_V d_Mo_change_103 ml_Mo_151 vb_Mo_go kd_53 ⟨leb rfl, leb rfl⟩ (m_go Γ _ J n q (by omega) (by rw [hr IA a1 b1, swT_0]; exact h0) (by rw [hr IA a1 b1]; exact okT_sw hok (by omega) (by omega))) rfl rfl rfl (fun r S1 IG J1 hQ => ?_)
        obtain ⟨rfl, rfl, hJ, g1, g2⟩ := hQ
        obtain rfl := hJ.symm
        rw [hr IA a1 b1] at g1
        have hg : ∀ x, x ≠ 61 → x ≠ 62 → x ≠ 63 → IG x = I x := by
          intro x q1 q2 q3
          rw [g2 x q1 q2]
          funext y
          simp only [up2]
          rw [if_neg (fun z => q2 z.1), if_neg (fun z => q2 z.1), a2 x q2, hx x q1 q2 q3]
        refine p_aload_n d_Mo_change_106 rfl ?_
        refine p_getR d_Mo_change_107 fl_Mo_35 kd_53 rfl rf_53_15 ?_
        refine q_S1 d_Mo_change_110 ml_Mo_108 sb_Mo_apart ⟨leb rfl, leb rfl⟩ (m_apart Γ IG J 62 n ar_62 hn (by rw [g1, it_low 0 (by omega) q hn, swT_0]; exact h0)) rfl rfl rfl ?_
        refine p_eqI (y := swA n q (I 54) a b) (by rw [g1]; rfl) ?_
        refine p_is_6 d_Mo_change_113 (by decide) rfl ?_
        refine p_iload d_Mo_change_115 rfl ?_
        refine p_iload_n d_Mo_change_117 rfl ?_
        refine p_icmpge (tgt := 132) d_Mo_change_118 (by decide) (fun h118 => ?_) (fun h118 => ?_)
        · refine p_iload_n d_Mo_change_132 rfl ?_
          refine p_is_3 d_Mo_change_133 (by decide) rfl ?_
          refine p_iload d_Mo_change_134 rfl ?_
          refine p_iload_n d_Mo_change_136 rfl ?_
          refine p_icmpge (tgt := 145) d_Mo_change_137 (by decide) (fun h137 => ?_) (fun h137 => ?_)
          · refine p_iload_n d_Mo_change_145 rfl ?_
            refine p_is_2 d_Mo_change_146 (by decide) rfl ?_
            refine p_incN_5_1 d_Mo_change_147 (by decide) rfl ?_
            refine p_goto (tgt := 50) d_Mo_change_150 (by decide) ?_
            refine ih a (b + 1) f x _ IG rfl (by omega) (by omega) haf kk hg ?_
            rw [hF]
            congr 1
            show (if swA n q (I 54) a b < x.2 then _ else _) = _
            rw [if_neg (i32_nlt.mpr h118)]
          · exact absurd h118 h137
        · refine p_bi_10 d_Mo_change_121 ?_
          refine p_iload d_Mo_change_123 rfl ?_
          refine p_imulN (10) (a) d_Mo_change_125 rfl rfl ?_
          refine p_iload d_Mo_change_126 rfl ?_
          refine p_iaddN (10 * a) (b) d_Mo_change_128 rfl rfl ?_
          refine p_goto (tgt := 133) d_Mo_change_129 (by decide) ?_
          refine p_is_3 d_Mo_change_133 (by decide) rfl ?_
          refine p_iload d_Mo_change_134 rfl ?_
          refine p_iload_n d_Mo_change_136 rfl ?_
          refine p_icmpge (tgt := 145) d_Mo_change_137 (by decide) (fun h137 => ?_) (fun h137 => ?_)
          · exact absurd h137 h118
          · refine p_iload d_Mo_change_140 rfl ?_
            refine p_goto (tgt := 146) d_Mo_change_142 (by decide) ?_
            refine p_is_2 d_Mo_change_146 (by decide) rfl ?_
            refine p_incN_5_1 d_Mo_change_147 (by decide) rfl ?_
            refine p_goto (tgt := 50) d_Mo_change_150 (by decide) ?_
            refine ih a (b + 1) f (nI (10 * a + b), swA n q (I 54) a b) _ IG rfl (by omega) (by omega) haf kk hg ?_
            rw [hF]
            congr 1
            show (if swA n q (I 54) a b < x.2 then _ else _) = _
            rw [if_pos (i32_nle.mp h118)]
  have LO : ∀ (f a : Nat) (x : Int32 × Int32) (v w : Value) (I1 : MemI), v.category = 1 → w.category = 1 → a + f = n → (∀ x, x ≠ 61 → x ≠ 62 → x ≠ 63 → I1 x = I x) → chF n q (I 54) n 0 (-1000009, apT n (itS n (I 54) q)) = chF n q (I 54) f a x → WP Γ M_Mo_change (0, 0) S0 I1 J 33 [.ref 53, .int (nI q), .int x.2, .int x.1, .int (nI a), v, w] [] (scQ (some (.int (chF n q (I 54) n 0 (-1000009, apT n (itS n (I 54) q))).1)) I J) := by
    intro f
    induction f with
    | zero =>
      intro a x v w I1 hv hw haf hx hF
      obtain rfl : a = n := by omega
      refine p_iload d_Mo_change_33 rfl ?_
      refine p_aload_n d_Mo_change_35 rfl ?_
      refine p_getR d_Mo_change_36 fl_Mo_7 kd_53 rfl rf_53_0 ?_
      refine p_ic_0 d_Mo_change_39 ?_
      refine p_ialdN (0) d_Mo_change_40 ar_54 rfl (by omega) rfl ?_
      refine p_eqI (y := nI a) (by rw [hx 54 (by decide) (by decide) (by decide)]; exact h0) ?_
      refine p_icmpgeN (tgt := 159) (a) (a) d_Mo_change_41 (by decide) rfl rfl (by omega) (by omega) (fun h41 => ?_) (fun h41 => ?_)
      · refine p_iload_n d_Mo_change_159 rfl ?_
        refine p_iret d_Mo_change_160 rfl rfl ?_
        exact ⟨by rw [hF]; rfl, rfl, rfl, hx⟩
      · exact absurd (Nat.le_refl _) h41
    | succ f ih =>
      intro a x v w I1 hv hw haf hx hF
      have K : ∀ (x2 : Int32 × Int32) (v2 w2 : Value) (I2 : MemI), v2.category = 1 → w2.category = 1 → (∀ x, x ≠ 61 → x ≠ 62 → x ≠ 63 → I2 x = I x) → chF n q (I 54) n 0 (-1000009, apT n (itS n (I 54) q)) = chF n q (I 54) f (a + 1) x2 → WP Γ M_Mo_change (0, 0) S0 I2 J 153 [.ref 53, .int (nI q), .int x2.2, .int x2.1, .int (nI a), v2, w2] [] (scQ (some (.int (chF n q (I 54) n 0 (-1000009, apT n (itS n (I 54) q))).1)) I J) := by
        intro x2 v2 w2 I2 hv2 hw2 hx2 hF2
        refine p_incN_4_1 d_Mo_change_153 (by decide) rfl ?_
        refine p_goto (tgt := 33) d_Mo_change_156 (by decide) ?_
        exact ih (a + 1) x2 v2 w2 I2 hv2 hw2 (by omega) hx2 hF2
      refine p_iload d_Mo_change_33 rfl ?_
      refine p_aload_n d_Mo_change_35 rfl ?_
      refine p_getR d_Mo_change_36 fl_Mo_7 kd_53 rfl rf_53_0 ?_
      refine p_ic_0 d_Mo_change_39 ?_
      refine p_ialdN (0) d_Mo_change_40 ar_54 rfl (by omega) rfl ?_
      refine p_eqI (y := nI n) (by rw [hx 54 (by decide) (by decide) (by decide)]; exact h0) ?_
      refine p_icmpgeN (tgt := 159) (a) (n) d_Mo_change_41 (by decide) rfl rfl (by omega) (by omega) (fun h41 => ?_) (fun h41 => ?_)
      · exact absurd h41 (by omega)
      · refine p_iload d_Mo_change_44 rfl ?_
        refine p_ic_1 d_Mo_change_46 ?_
        refine p_iaddN (a) (1) d_Mo_change_47 rfl rfl ?_
        refine p_is_5 d_Mo_change_48 (by decide) rfl ?_
        exact LI f a (a + 1) f x w I1 hw (by omega) (by omega) (by omega) K hx hF
  refine ct_of [.ref 53, .int (nI q), .null, .null, .null, .null, .null] (by decide +kernel) rfl (leb rfl) rfl ?_
  refine p_iload_n d_Mo_change_0 rfl ?_
  refine q_S1 d_Mo_change_1 ml_Mo_159 sb_Mo_isSpan ⟨leb rfl, leb rfl⟩ (c_isSpan Γ S0 I J (nI q)) rfl rfl rfl ?_
  refine p_ifneB (tgt := 10) d_Mo_change_4 (by decide) (fun h4 => ?_) (fun h4 => ?_)
  · refine p_aload_n d_Mo_change_10 rfl ?_
    refine q_V d_Mo_change_11 ml_Mo_148 vb_Mo_asNow kd_53 ⟨leb rfl, leb rfl⟩ (m_asNow' Γ I I J (rfl)) rfl rfl rfl (fun r S1 IA J1 hQ => ?_)
    obtain ⟨rfl, rfl, hJ, a1, a2⟩ := hQ
    obtain rfl := hJ.symm
    refine p_aload_n d_Mo_change_14 rfl ?_
    refine p_iload_n d_Mo_change_15 rfl ?_
    refine q_V d_Mo_change_16 ml_Mo_151 vb_Mo_go kd_53 ⟨leb rfl, leb rfl⟩ (m_go Γ _ J n (q) (by omega) (by rw [a1]; exact h0) (by rw [a1]; exact hok)) rfl rfl rfl (fun r S1 IG J1 hQ => ?_)
    obtain ⟨rfl, rfl, hJ, g1, g2⟩ := hQ
    obtain rfl := hJ.symm
    refine p_aload_n d_Mo_change_19 rfl ?_
    refine p_getR d_Mo_change_20 fl_Mo_35 kd_53 rfl rf_53_15 ?_
    refine q_S1 d_Mo_change_23 ml_Mo_108 sb_Mo_apart ⟨leb rfl, leb rfl⟩ (m_apart Γ IG J 62 n ar_62 hn (by rw [g1, a1, it_low 0 (by omega) q hn]; exact h0)) rfl rfl rfl ?_
    refine p_eqI (y := apT n (itS n (I 54) q)) (by rw [g1, a1]) ?_
    refine p_is_2 d_Mo_change_26 (by decide) rfl ?_
    refine p_ldc d_Mo_change_27 kc_Mo_107 ?_
    refine p_is_3 d_Mo_change_29 (by decide) rfl ?_
    refine p_ic_0 d_Mo_change_30 ?_
    refine p_is_4 d_Mo_change_31 (by decide) rfl ?_
    exact LO n 0 (-1000009, apT n (itS n (I 54) q)) _ _ IG rfl rfl (by omega) (fun x q1 q2 q3 => by rw [g2 x q1 q2, a2 x q2]) rfl
  · exact absurd (i30 q hq1 hq) h4
