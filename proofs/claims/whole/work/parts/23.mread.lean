/-! ===== reading the text: what is read, and the reference's reading ===== -/
def isDg (c : Int32) : Prop := 48 ≤ c ∧ c ≤ 57
def skF (x : Nat → Int32) (l : Nat) : Nat → Nat → Nat
  | 0, i => i
  | f + 1, i => if i < l ∧ x i = 32 then skF x l f (i + 1) else i
/-- behind the blanks -/
def sk (x : Nat → Int32) (l i : Nat) : Nat := skF x l (l - i) i
def dgF (x : Nat → Int32) (l : Nat) : Nat → Nat → Nat
  | 0, i => i
  | f + 1, i => if i < l ∧ (48 ≤ x i ∧ x i ≤ 57) then dgF x l f (i + 1) else i
/-- behind the digits -/
def dg (x : Nat → Int32) (l i : Nat) : Nat := dgF x l (l - i) i
def vlF (x : Nat → Int32) (l : Nat) : Nat → Nat → Int32 → Int32
  | 0, _, v => v
  | f + 1, i, v => if i < l ∧ (48 ≤ x i ∧ x i ≤ 57) then vlF x l f (i + 1) (if 99 < v then v else 10 * v + x i - 48) else v
def vl (x : Nat → Int32) (l i : Nat) : Int32 := vlF x l (l - i) i 0
def nmOK (x : Nat → Int32) (l j : Nat) (lo hi : Int32) : Prop := (j < l ∧ (48 ≤ x j ∧ x j ≤ 57)) ∧ ¬ (x j = 48 ∧ 1 < dg x l j - j) ∧ (lo ≤ vl x l j ∧ vl x l j ≤ hi)
def nmD (x : Nat → Int32) (l j : Nat) (lo hi : Int32) : Bool := decide (j < l) && (decide (48 ≤ x j) && decide (x j ≤ 57)) && !(decide (x j = 48) && decide (1 < dg x l j - j)) && (decide (lo ≤ vl x l j) && decide (vl x l j ≤ hi))
theorem nmD_iff {x : Nat → Int32} {l j : Nat} {lo hi : Int32} : nmD x l j lo hi = true ↔ nmOK x l j lo hi := by
  unfold nmD nmOK
  simp only [Bool.and_eq_true, decide_eq_true_eq, Bool.not_eq_true', Bool.and_eq_false_iff, decide_eq_false_iff_not]
  constructor
  · rintro ⟨⟨⟨h1, h2⟩, h3⟩, h4⟩
    exact ⟨⟨h1, h2⟩, fun q => h3.elim (fun z => z q.1) (fun z => z q.2), h4⟩
  · rintro ⟨⟨h1, h2⟩, h3, h4⟩
    refine ⟨⟨⟨h1, h2⟩, ?_⟩, h4⟩
    by_cases q : x j = 48
    · exact Or.inr (fun z => h3 ⟨q, z⟩)
    · exact Or.inl q
/-- a number: where it can't stand, or what it is and where it ends -/
def nm (x : Nat → Int32) (l i : Nat) (lo hi : Int32) : Nat ⊕ (Int32 × Nat) := if nmD x l (sk x l i) lo hi = true then .inr (vl x l (sk x l i), dg x l (sk x l i)) else .inl (sk x l i)
def enP (x : Nat → Int32) (l i : Nat) : Nat ⊕ Nat := if sk x l i < l ∧ x (sk x l i) = 59 then .inr (sk x l i + 1) else .inl (sk x l i)
abbrev PR : Type := Nat ⊕ (Nat × (Nat → Int32) × Nat)
def oneP (x : Nat → Int32) (l i pl : Nat) (lo hi : Int32) (r : Nat → Int32) (m : Nat) : PR := match nm x l i lo hi with
  | .inl j => .inl j
  | .inr (v, e) => match enP x l e with
    | .inl j => .inl j
    | .inr e2 => .inr (e2, upd r pl v, m ||| 2 ^ pl)
def pewP (x : Nat → Int32) (l i k : Nat) (r : Nat → Int32) (m : Nat) : PR := match nm x l i 0 60 with
  | .inl j => .inl j
  | .inr (v1, e1) => match nm x l e1 0 9 with
    | .inl j => .inl j
    | .inr (v2, e2) => match nm x l e2 0 9 with
      | .inl j => .inl j
      | .inr (v3, e3) => match nm x l e3 0 9 with
        | .inl j => .inl j
        | .inr (v4, e4) => match enP x l e4 with
          | .inl j => .inl j
          | .inr e5 => .inr (e5, upd (upd (upd (upd (upd r (4 + k) v1) (10 + k) v2) (16 + k) v3) (22 + k) v4) 0 (nI (k + 1)), m)
def itP (x : Nat → Int32) (l j k : Nat) (r : Nat → Int32) (m : Nat) (c : Int32) : PR :=
  if c = 112 then (if k = 6 then .inl j else pewP x l (j + 1) k r m)
  else if c = 119 then (if bt1 m 1 = 1 then .inl j else oneP x l (j + 1) 1 0 10 r m)
  else if c = 108 then (if bt1 m 2 = 1 then .inl j else oneP x l (j + 1) 2 1 9 r m)
  else if c = 103 then (if bt1 m 3 = 1 then .inl j else oneP x l (j + 1) 3 0 9 r m)
  else .inl j
theorem skF_le {x : Nat → Int32} {l : Nat} : ∀ (f i : Nat), i + f = l → i ≤ skF x l f i ∧ skF x l f i ≤ l
  | 0, i, h => ⟨Nat.le_refl _, by show i ≤ l; omega⟩
  | f + 1, i, h => by
    unfold skF
    split
    · have := skF_le (x := x) (l := l) f (i + 1) (by omega)
      omega
    · omega
theorem sk_le {x : Nat → Int32} {l i : Nat} (h : i ≤ l) : i ≤ sk x l i ∧ sk x l i ≤ l := skF_le _ _ (by omega)
theorem dgF_le {x : Nat → Int32} {l : Nat} : ∀ (f i : Nat), i + f = l → i ≤ dgF x l f i ∧ dgF x l f i ≤ l
  | 0, i, h => ⟨Nat.le_refl _, by show i ≤ l; omega⟩
  | f + 1, i, h => by
    unfold dgF
    split
    · have := dgF_le (x := x) (l := l) f (i + 1) (by omega)
      omega
    · omega
theorem dg_le {x : Nat → Int32} {l i : Nat} (h : i ≤ l) : i ≤ dg x l i ∧ dg x l i ≤ l := dgF_le _ _ (by omega)
theorem nm_le {x : Nat → Int32} {l i : Nat} {lo hi v : Int32} {e : Nat} (h : i ≤ l) (hn : nm x l i lo hi = .inr (v, e)) : i ≤ e ∧ e ≤ l := by
  unfold nm at hn
  split at hn
  · cases hn
    have a := sk_le (x := x) h
    have b := dg_le (x := x) a.2
    omega
  · cases hn
theorem enP_le {x : Nat → Int32} {l i e : Nat} (h : i ≤ l) (hn : enP x l i = .inr e) : i < e ∧ e ≤ l := by
  unfold enP at hn
  split at hn
  · cases hn
    have a := sk_le (x := x) h
    omega
  · cases hn
theorem isR_ex {α β : Type} {s : α ⊕ β} (h : s.isRight = true) : ∃ b, s = .inr b := by
  cases s with
  | inl a => cases h
  | inr b => exact ⟨b, rfl⟩
theorem isL_ex {α β : Type} {s : α ⊕ β} (h : ¬ s.isRight = true) : ∃ a, s = .inl a := by
  cases s with
  | inl a => exact ⟨a, rfl⟩
  | inr b => exact absurd rfl h
/-- how the reference's reader stands behind a step: its two places, nothing else but its read row and what it met -/
def rdF (I I' : MemI) : Prop := (∀ x, x ≠ 53 → x ≠ 60 → I' x = I x) ∧ ∀ y, y ≠ 11 → y ≠ 12 → y ≠ 13 → I' 53 y = I 53 y
theorem rdF.rf {I : MemI} : rdF I I := ⟨fun _ _ _ => rfl, fun _ _ _ _ => rfl⟩
theorem rdF.tr {I I1 I2 : MemI} (h : rdF I I1) (h2 : rdF I1 I2) : rdF I I2 := ⟨fun x a b => (h2.1 x a b).trans (h.1 x a b), fun y a b c => (h2.2 y a b c).trans (h.2 y a b c)⟩
def fsQ (c : Int32) (j : Nat) (I : MemI) (J : MemJ) : PQ := fun r S' I' J' => r = some (.int c) ∧ S' = S0 ∧ J' = J ∧ I' 53 11 = nI j ∧ I' 53 12 = nI j ∧ I' 53 13 = I 53 13 ∧ I' 60 = I 60 ∧ rdF I I'
def ltr (x : Nat → Int32) (l j : Nat) : Int32 := if j < l then x j else (-1)
theorem m_first (Γ : Cx) (I : MemI) (J : MemJ) (l i : Nat) (hl : I 53 6 = nI l) (hl2 : l ≤ 200) (hat : I 53 11 = nI i) (hil : i ≤ l) : Ct Γ M_Mo_first [.ref 53] S0 I J (fsQ (ltr (I 58) l (sk (I 58) l i)) (sk (I 58) l i) I J) := by
  have LP : ∀ (f k : Nat) (I1 : MemI), k + f = l → I1 53 11 = nI k → (∀ y, y ≠ 11 → I1 53 y = I 53 y) → (∀ x, x ≠ 53 → I1 x = I x) → sk (I 58) l i = skF (I 58) l f k → WP Γ M_Mo_first (0, 0) S0 I1 J 0 [.ref 53] [] (fsQ (ltr (I 58) l (sk (I 58) l i)) (sk (I 58) l i) I J) := by
    have K38 : ∀ (j : Nat) (I1 : MemI), j ≤ l → I1 53 11 = nI j → (∀ y, y ≠ 11 → I1 53 y = I 53 y) → (∀ x, x ≠ 53 → I1 x = I x) → sk (I 58) l i = j → WP Γ M_Mo_first (0, 0) S0 I1 J 38 [.ref 53] [] (fsQ (ltr (I 58) l (sk (I 58) l i)) (sk (I 58) l i) I J) := by
      intro j I1 hjl h11 hy hx hs
      have h6 : I1 53 6 = nI l := by rw [hy 6 (by omega)]; exact hl
      have h58 : I1 58 = I 58 := hx 58 (by decide)
      refine p_aload_n d_Mo_first_38 rfl ?_
      refine p_aload_n d_Mo_first_39 rfl ?_
      refine p_getI d_Mo_first_40 fl_Mo_57 kd_53 (Or.inl rfl) ?_
      refine p_eqI (y := nI j) (h11) ?_
      refine p_putI d_Mo_first_43 fl_Mo_60 kd_53 rfl nf_5_12 ?_
      refine p_aload_n d_Mo_first_46 rfl ?_
      refine p_getI d_Mo_first_47 fl_Mo_57 kd_53 (Or.inl rfl) ?_
      refine p_eqI (y := nI j) (by simp only [up2]; rw [if_neg (by omega)]; exact h11) ?_
      refine p_aload_n d_Mo_first_50 rfl ?_
      refine p_getI d_Mo_first_51 fl_Mo_52 kd_53 (Or.inl rfl) ?_
      refine p_eqI (y := nI l) (by simp only [up2]; rw [if_neg (by omega)]; exact h6) ?_
      refine p_icmpgeN (tgt := 69) (j) (l) d_Mo_first_54 (by decide) rfl rfl (by omega) (by omega) (fun h54 => ?_) (fun h54 => ?_)
      · refine p_ic_m1 d_Mo_first_69 ?_
        refine p_iret d_Mo_first_70 rfl rfl ?_
        refine ⟨?_, rfl, rfl, ?_, ?_, ?_, ?_, ?_, ?_⟩
        · rw [hs]
          unfold ltr
          first | (rw [if_neg (show ¬ j < l by omega)]; done) | (rw [if_pos (show j < l by omega)]; simp only [up2]; rw [if_neg (by omega), h58])
        · rw [hs]; simp only [up2]; rw [if_neg (by omega)]; exact h11
        · rw [hs]; simp [up2]
        · simp only [up2]; rw [if_neg (by omega)]; exact hy 13 (by omega)
        · funext y; simp only [up2]; rw [if_neg (by omega), hx 60 (by decide)]
        · intro x a b; funext y; simp only [up2]; rw [if_neg (fun z => a z.1), hx x a]
        · intro y a b c; simp only [up2]; rw [if_neg (fun z => b z.2)]; exact hy y a
      · refine p_aload_n d_Mo_first_57 rfl ?_
        refine p_getR d_Mo_first_58 fl_Mo_23 kd_53 rfl rf_53_5 ?_
        refine p_aload_n d_Mo_first_61 rfl ?_
        refine p_getI d_Mo_first_62 fl_Mo_57 kd_53 (Or.inl rfl) ?_
        refine p_eqI (y := nI j) (by simp only [up2]; rw [if_neg (by omega)]; exact h11) ?_
        refine p_ialdN (j) d_Mo_first_65 ar_58 rfl (by omega) rfl ?_
        refine p_goto (tgt := 70) d_Mo_first_66 (by decide) ?_
        refine p_iret d_Mo_first_70 rfl rfl ?_
        refine ⟨?_, rfl, rfl, ?_, ?_, ?_, ?_, ?_, ?_⟩
        · rw [hs]
          unfold ltr
          first | (rw [if_neg (show ¬ j < l by omega)]; done) | (rw [if_pos (show j < l by omega)]; simp only [up2]; rw [if_neg (by omega), h58])
        · rw [hs]; simp only [up2]; rw [if_neg (by omega)]; exact h11
        · rw [hs]; simp [up2]
        · simp only [up2]; rw [if_neg (by omega)]; exact hy 13 (by omega)
        · funext y; simp only [up2]; rw [if_neg (by omega), hx 60 (by decide)]
        · intro x a b; funext y; simp only [up2]; rw [if_neg (fun z => a z.1), hx x a]
        · intro y a b c; simp only [up2]; rw [if_neg (fun z => b z.2)]; exact hy y a
    intro f
    induction f with
    | zero =>
      intro k I1 hkf h11 hy hx hs
      have h6 : I1 53 6 = nI l := by rw [hy 6 (by omega)]; exact hl
      have h58 : I1 58 = I 58 := hx 58 (by decide)
      refine p_aload_n d_Mo_first_0 rfl ?_
      refine p_getI d_Mo_first_1 fl_Mo_57 kd_53 (Or.inl rfl) ?_
      refine p_eqI (y := nI k) (h11) ?_
      refine p_aload_n d_Mo_first_4 rfl ?_
      refine p_getI d_Mo_first_5 fl_Mo_52 kd_53 (Or.inl rfl) ?_
      refine p_eqI (y := nI l) (h6) ?_
      refine p_icmpgeN (tgt := 38) (k) (l) d_Mo_first_8 (by decide) rfl rfl (by omega) (by omega) (fun h8 => ?_) (fun h8 => ?_)
      · exact K38 k I1 (by omega) h11 hy hx hs
      · exact absurd (by omega) h8
    | succ f ih =>
      intro k I1 hkf h11 hy hx hs
      have h6 : I1 53 6 = nI l := by rw [hy 6 (by omega)]; exact hl
      have h58 : I1 58 = I 58 := hx 58 (by decide)
      refine p_aload_n d_Mo_first_0 rfl ?_
      refine p_getI d_Mo_first_1 fl_Mo_57 kd_53 (Or.inl rfl) ?_
      refine p_eqI (y := nI k) (h11) ?_
      refine p_aload_n d_Mo_first_4 rfl ?_
      refine p_getI d_Mo_first_5 fl_Mo_52 kd_53 (Or.inl rfl) ?_
      refine p_eqI (y := nI l) (h6) ?_
      refine p_icmpgeN (tgt := 38) (k) (l) d_Mo_first_8 (by decide) rfl rfl (by omega) (by omega) (fun h8 => ?_) (fun h8 => ?_)
      · exact absurd h8 (by omega)
      · refine p_aload_n d_Mo_first_11 rfl ?_
        refine p_getR d_Mo_first_12 fl_Mo_23 kd_53 rfl rf_53_5 ?_
        refine p_aload_n d_Mo_first_15 rfl ?_
        refine p_getI d_Mo_first_16 fl_Mo_57 kd_53 (Or.inl rfl) ?_
        refine p_eqI (y := nI k) (h11) ?_
        refine p_ialdN (k) d_Mo_first_19 ar_58 rfl (by omega) rfl ?_
        refine p_bi_32 d_Mo_first_20 ?_
        refine p_icmpne (tgt := 38) d_Mo_first_22 (by decide) (fun h22 => ?_) (fun h22 => ?_)
        · rw [h58] at h22
          refine K38 k I1 (by omega) h11 hy hx ?_
          rw [hs]
          unfold skF
          rw [if_neg (fun z => h22 z.2)]
        · rw [h58] at h22
          refine p_aload_n d_Mo_first_25 rfl ?_
          refine p_dup d_Mo_first_26 rfl ?_
          refine p_getI d_Mo_first_27 fl_Mo_57 kd_53 (Or.inl rfl) ?_
          refine p_eqI (y := nI k) (h11) ?_
          refine p_ic_1 d_Mo_first_30 ?_
          refine p_iaddN (k) (1) d_Mo_first_31 rfl rfl ?_
          refine p_putI d_Mo_first_32 fl_Mo_57 kd_53 rfl nf_5_11 ?_
          refine p_goto (tgt := 0) d_Mo_first_35 (by decide) ?_
          refine ih (k + 1) _ (by omega) (by simp [up2]) (fun y q => by simp only [up2]; rw [if_neg (fun z => q z.2)]; exact hy y q) (fun x q => by funext y; simp only [up2]; rw [if_neg (fun z => q z.1), hx x q]) ?_
          rw [hs]
          show (if _ then _ else _) = _
          rw [if_pos ⟨by omega, h22⟩]
  refine ct_of [.ref 53] (by decide +kernel) rfl (leb rfl) rfl ?_
  exact LP (l - i) i I (by omega) hat (fun y _ => rfl) (fun x _ => rfl) rfl
def nmQ (x : Nat → Int32) (l i pl : Nat) (lo hi : Int32) (I : MemI) (J : MemJ) : PQ := fun r S' I' J' => r = some (.int (bI ((nm x l i lo hi).isRight = true))) ∧ S' = S0 ∧ J' = J ∧ rdF I I' ∧ I' 53 13 = I 53 13 ∧ (∀ p, nm x l i lo hi = .inl p → I' 53 12 = nI p) ∧ ∀ v e, nm x l i lo hi = .inr (v, e) → I' 53 11 = nI e ∧ I' 60 = upd (I 60) pl v
theorem nmQ_bad {x : Nat → Int32} {l i : Nat} {lo hi : Int32} (h : ¬ nmOK x l (sk x l i) lo hi) : nm x l i lo hi = .inl (sk x l i) := by
  unfold nm
  rw [if_neg (fun z => h (nmD_iff.mp z))]
theorem nmQ_ok {x : Nat → Int32} {l i : Nat} {lo hi : Int32} (h : nmOK x l (sk x l i) lo hi) : nm x l i lo hi = .inr (vl x l (sk x l i), dg x l (sk x l i)) := by
  unfold nm
  rw [if_pos (nmD_iff.mpr h)]
theorem m_number (Γ : Cx) (I : MemI) (J : MemJ) (l i : Nat) (hl : I 53 6 = nI l) (hl2 : l ≤ 200) (hat : I 53 11 = nI i) (hil : i ≤ l) (pl : Nat) (hpl : pl < 39) (lo hi : Int32) : Ct Γ M_Mo_number [.ref 53, .int (nI pl), .int lo, .int hi] S0 I J (nmQ (I 58) l i pl lo hi I J) := by
  obtain ⟨b1, b2⟩ := sk_le (x := I 58) hil
  have cj : (48 ≤ (ltr (I 58) l (sk (I 58) l i)) ∧ (ltr (I 58) l (sk (I 58) l i)) ≤ 57) → (sk (I 58) l i) < l ∧ ltr (I 58) l (sk (I 58) l i) = I 58 (sk (I 58) l i) := by
    intro q
    by_cases z : (sk (I 58) l i) < l
    · exact ⟨z, by unfold ltr; rw [if_pos z]⟩
    · unfold ltr at q
      rw [if_neg z] at q
      exact absurd q (by decide)
  have K104 : ∀ (e : Nat) (v : Int32) (I1 : MemI), (48 ≤ (ltr (I 58) l (sk (I 58) l i)) ∧ (ltr (I 58) l (sk (I 58) l i)) ≤ 57) → e = dg (I 58) l (sk (I 58) l i) → v = vl (I 58) l (sk (I 58) l i) → I1 53 11 = nI e → I1 53 12 = nI (sk (I 58) l i) → rdF I I1 → I1 53 13 = I 53 13 → I1 60 = I 60 → WP Γ M_Mo_number (0, 0) S0 I1 J 104 [.ref 53, .int (nI pl), .int lo, .int hi, .int (ltr (I 58) l (sk (I 58) l i)), .int v] [] (nmQ (I 58) l i pl lo hi I J) := by
    intro e v I1 hc ee ev h11 h12 hrd h13 h60
    obtain ⟨c1, c2⟩ := cj hc
    have hc' : 48 ≤ I 58 (sk (I 58) l i) ∧ I 58 (sk (I 58) l i) ≤ 57 := by rw [← c2]; exact hc
    obtain ⟨d1, d2⟩ := dg_le (x := I 58) b2
    rw [← ee] at d1 d2
    refine p_iload d_Mo_number_104 rfl ?_
    refine p_bi_48 d_Mo_number_106 ?_
    refine p_icmpne (tgt := 124) d_Mo_number_108 (by decide) (fun h108 => ?_) (fun h108 => ?_)
    · refine p_iload d_Mo_number_124 rfl ?_
      refine p_i2l d_Mo_number_126 ?_
      refine p_iload_n d_Mo_number_127 rfl ?_
      refine p_i2l d_Mo_number_128 ?_
      refine p_iload_n d_Mo_number_129 rfl ?_
      refine p_i2l d_Mo_number_130 ?_
      refine q_S1 d_Mo_number_131 ml_Mo_45 sb_Mo_in ⟨leb rfl, leb rfl⟩ (c_in Γ S0 I1 J v lo hi rfl rfl) rfl rfl rfl ?_
      refine p_ifneB (tgt := 139) d_Mo_number_134 (by decide) (fun h134 => ?_) (fun h134 => ?_)
      · refine p_aload_n d_Mo_number_139 rfl ?_
        refine p_getR d_Mo_number_140 fl_Mo_29 kd_53 rfl rf_53_10 ?_
        refine p_iload_n d_Mo_number_143 rfl ?_
        refine p_iload d_Mo_number_144 rfl ?_
        refine p_iastN (pl) d_Mo_number_146 ar_60 rfl (by omega) rfl ?_
        refine p_ic_1 d_Mo_number_147 ?_
        refine p_iret d_Mo_number_148 rfl rfl ?_
        have hOK : nmOK (I 58) l (sk (I 58) l i) lo hi := by
          refine ⟨⟨c1, hc'⟩, fun q => ?_, by rw [← ev]; exact h134⟩
          rw [← c2, ← ee] at q
          first | exact h108 q.1 | exact h121 q.2
        refine ⟨?_, rfl, rfl, ?_, ?_, ?_, ?_⟩
        · rw [nmQ_ok hOK]; rfl
        · refine ⟨fun x a b => ?_, fun y a b c => ?_⟩
          · funext y; simp only [up2]; rw [if_neg (fun z => b z.1)]; exact congrFun (hrd.1 x a b) y
          · simp only [up2]; rw [if_neg (by omega)]; exact hrd.2 y a b c
        · simp only [up2]; rw [if_neg (by omega)]; exact h13
        · intro p hp; rw [nmQ_ok hOK] at hp; cases hp
        · intro v2 e2 hp; rw [nmQ_ok hOK] at hp; cases hp
          refine ⟨?_, ?_⟩
          · simp only [up2]; rw [if_neg (by omega), h11, ee]
          · rw [up2_row, h60, ev]
      · refine p_ic_0 d_Mo_number_137 ?_
        refine p_iret d_Mo_number_138 rfl rfl ?_
        have hN : ¬ nmOK (I 58) l (sk (I 58) l i) lo hi := by
          intro q
          first | exact q.2.1 ⟨by rw [← c2]; exact h108, by rw [← ee]; exact h121⟩ | exact h134 (by rw [ev]; exact q.2.2)
        refine ⟨?_, rfl, rfl, hrd, h13, ?_, ?_⟩
        · rw [nmQ_bad hN]; rfl
        · intro p hp; rw [nmQ_bad hN] at hp; cases hp; exact h12
        · intro v e hp; rw [nmQ_bad hN] at hp; cases hp
    · refine p_aload_n d_Mo_number_111 rfl ?_
      refine p_getI d_Mo_number_112 fl_Mo_57 kd_53 (Or.inl rfl) ?_
      refine p_eqI (y := nI e) (h11) ?_
      refine p_aload_n d_Mo_number_115 rfl ?_
      refine p_getI d_Mo_number_116 fl_Mo_60 kd_53 (Or.inl rfl) ?_
      refine p_eqI (y := nI (sk (I 58) l i)) (h12) ?_
      refine p_isubN (e) ((sk (I 58) l i)) d_Mo_number_119 rfl rfl (by omega) ?_
      refine p_ic_1 d_Mo_number_120 ?_
      refine p_icmpgtN (tgt := 137) (e - ((sk (I 58) l i))) (1) d_Mo_number_121 (by decide) rfl rfl (by omega) (by omega) (fun h121 => ?_) (fun h121 => ?_)
      · refine p_ic_0 d_Mo_number_137 ?_
        refine p_iret d_Mo_number_138 rfl rfl ?_
        have hN : ¬ nmOK (I 58) l (sk (I 58) l i) lo hi := by
          intro q
          first | exact q.2.1 ⟨by rw [← c2]; exact h108, by rw [← ee]; exact h121⟩ | exact h134 (by rw [ev]; exact q.2.2)
        refine ⟨?_, rfl, rfl, hrd, h13, ?_, ?_⟩
        · rw [nmQ_bad hN]; rfl
        · intro p hp; rw [nmQ_bad hN] at hp; cases hp; exact h12
        · intro v e hp; rw [nmQ_bad hN] at hp; cases hp
      · refine p_iload d_Mo_number_124 rfl ?_
        refine p_i2l d_Mo_number_126 ?_
        refine p_iload_n d_Mo_number_127 rfl ?_
        refine p_i2l d_Mo_number_128 ?_
        refine p_iload_n d_Mo_number_129 rfl ?_
        refine p_i2l d_Mo_number_130 ?_
        refine q_S1 d_Mo_number_131 ml_Mo_45 sb_Mo_in ⟨leb rfl, leb rfl⟩ (c_in Γ S0 I1 J v lo hi rfl rfl) rfl rfl rfl ?_
        refine p_ifneB (tgt := 139) d_Mo_number_134 (by decide) (fun h134 => ?_) (fun h134 => ?_)
        · refine p_aload_n d_Mo_number_139 rfl ?_
          refine p_getR d_Mo_number_140 fl_Mo_29 kd_53 rfl rf_53_10 ?_
          refine p_iload_n d_Mo_number_143 rfl ?_
          refine p_iload d_Mo_number_144 rfl ?_
          refine p_iastN (pl) d_Mo_number_146 ar_60 rfl (by omega) rfl ?_
          refine p_ic_1 d_Mo_number_147 ?_
          refine p_iret d_Mo_number_148 rfl rfl ?_
          have hOK : nmOK (I 58) l (sk (I 58) l i) lo hi := by
            refine ⟨⟨c1, hc'⟩, fun q => ?_, by rw [← ev]; exact h134⟩
            rw [← c2, ← ee] at q
            first | exact h108 q.1 | exact h121 q.2
          refine ⟨?_, rfl, rfl, ?_, ?_, ?_, ?_⟩
          · rw [nmQ_ok hOK]; rfl
          · refine ⟨fun x a b => ?_, fun y a b c => ?_⟩
            · funext y; simp only [up2]; rw [if_neg (fun z => b z.1)]; exact congrFun (hrd.1 x a b) y
            · simp only [up2]; rw [if_neg (by omega)]; exact hrd.2 y a b c
          · simp only [up2]; rw [if_neg (by omega)]; exact h13
          · intro p hp; rw [nmQ_ok hOK] at hp; cases hp
          · intro v2 e2 hp; rw [nmQ_ok hOK] at hp; cases hp
            refine ⟨?_, ?_⟩
            · simp only [up2]; rw [if_neg (by omega), h11, ee]
            · rw [up2_row, h60, ev]
        · refine p_ic_0 d_Mo_number_137 ?_
          refine p_iret d_Mo_number_138 rfl rfl ?_
          have hN : ¬ nmOK (I 58) l (sk (I 58) l i) lo hi := by
            intro q
            first | exact q.2.1 ⟨by rw [← c2]; exact h108, by rw [← ee]; exact h121⟩ | exact h134 (by rw [ev]; exact q.2.2)
          refine ⟨?_, rfl, rfl, hrd, h13, ?_, ?_⟩
          · rw [nmQ_bad hN]; rfl
          · intro p hp; rw [nmQ_bad hN] at hp; cases hp; exact h12
          · intro v e hp; rw [nmQ_bad hN] at hp; cases hp
  have LP : ∀ (f k : Nat) (v : Int32) (I1 : MemI), (48 ≤ (ltr (I 58) l (sk (I 58) l i)) ∧ (ltr (I 58) l (sk (I 58) l i)) ≤ 57) → k + f = l → dg (I 58) l (sk (I 58) l i) = dgF (I 58) l f k → vl (I 58) l (sk (I 58) l i) = vlF (I 58) l f k v → I1 53 11 = nI k → I1 53 12 = nI (sk (I 58) l i) → rdF I I1 → I1 53 13 = I 53 13 → I1 60 = I 60 → WP Γ M_Mo_number (0, 0) S0 I1 J 26 [.ref 53, .int (nI pl), .int lo, .int hi, .int (ltr (I 58) l (sk (I 58) l i)), .int v] [] (nmQ (I 58) l i pl lo hi I J) := by
    intro f
    induction f with
    | zero =>
      intro k v I1 hc hkf ed ev h11 h12 hrd h13 h60
      have h6 : I1 53 6 = nI l := by rw [hrd.2 6 (by omega) (by omega) (by omega)]; exact hl
      have h58 : I1 58 = I 58 := hrd.1 58 (by decide) (by decide)
      refine p_aload_n d_Mo_number_26 rfl ?_
      refine p_getI d_Mo_number_27 fl_Mo_57 kd_53 (Or.inl rfl) ?_
      refine p_eqI (y := nI k) (h11) ?_
      refine p_aload_n d_Mo_number_30 rfl ?_
      refine p_getI d_Mo_number_31 fl_Mo_52 kd_53 (Or.inl rfl) ?_
      refine p_eqI (y := nI l) (h6) ?_
      refine p_icmpgeN (tgt := 104) (k) (l) d_Mo_number_34 (by decide) rfl rfl (by omega) (by omega) (fun h34 => ?_) (fun h34 => ?_)
      · exact K104 k v I1 hc ed.symm ev.symm h11 h12 hrd h13 h60
      · exact absurd (by omega) h34
    | succ f ih =>
      intro k v I1 hc hkf ed ev h11 h12 hrd h13 h60
      have h6 : I1 53 6 = nI l := by rw [hrd.2 6 (by omega) (by omega) (by omega)]; exact hl
      have h58 : I1 58 = I 58 := hrd.1 58 (by decide) (by decide)
      have J89 : ∀ z : Int32, (48 ≤ I 58 k ∧ I 58 k ≤ 57) → z = (if 99 < v then v else 10 * v + I 58 k - 48) → WP Γ M_Mo_number (0, 0) S0 I1 J 89 [.ref 53, .int (nI pl), .int lo, .int hi, .int (ltr (I 58) l (sk (I 58) l i)), .int v] [.int z] (nmQ (I 58) l i pl lo hi I J) := by
        intro z hz ez
        refine p_is_5 d_Mo_number_89 (by decide) rfl ?_
        refine p_aload_n d_Mo_number_91 rfl ?_
        refine p_dup d_Mo_number_92 rfl ?_
        refine p_getI d_Mo_number_93 fl_Mo_57 kd_53 (Or.inl rfl) ?_
        refine p_eqI (y := nI k) (h11) ?_
        refine p_ic_1 d_Mo_number_96 ?_
        refine p_iaddN (k) (1) d_Mo_number_97 rfl rfl ?_
        refine p_putI d_Mo_number_98 fl_Mo_57 kd_53 rfl nf_5_11 ?_
        refine p_goto (tgt := 26) d_Mo_number_101 (by decide) ?_
        refine ih (k + 1) z _ hc (by omega) ?_ ?_ (by simp [up2]) (by simp only [up2]; rw [if_neg (by omega)]; exact h12) (hrd.tr ⟨fun x a b => by funext y; simp only [up2]; rw [if_neg (fun q => a q.1)], fun y a b c => by simp only [up2]; rw [if_neg (fun q => a q.2)]⟩) (by simp only [up2]; rw [if_neg (by omega)]; exact h13) (by funext y; simp only [up2]; rw [if_neg (by omega)]; exact congrFun h60 y)
        · rw [ed]
          show (if _ then _ else _) = _
          rw [if_pos ⟨by omega, hz⟩]
        · rw [ev, ez]
          show (if _ then _ else _) = _
          rw [if_pos ⟨by omega, hz⟩]
      refine p_aload_n d_Mo_number_26 rfl ?_
      refine p_getI d_Mo_number_27 fl_Mo_57 kd_53 (Or.inl rfl) ?_
      refine p_eqI (y := nI k) (h11) ?_
      refine p_aload_n d_Mo_number_30 rfl ?_
      refine p_getI d_Mo_number_31 fl_Mo_52 kd_53 (Or.inl rfl) ?_
      refine p_eqI (y := nI l) (h6) ?_
      refine p_icmpgeN (tgt := 104) (k) (l) d_Mo_number_34 (by decide) rfl rfl (by omega) (by omega) (fun h34 => ?_) (fun h34 => ?_)
      · exact absurd h34 (by omega)
      · refine p_aload_n d_Mo_number_37 rfl ?_
        refine p_getR d_Mo_number_38 fl_Mo_23 kd_53 rfl rf_53_5 ?_
        refine p_aload_n d_Mo_number_41 rfl ?_
        refine p_getI d_Mo_number_42 fl_Mo_57 kd_53 (Or.inl rfl) ?_
        refine p_eqI (y := nI k) (h11) ?_
        refine p_ialdN (k) d_Mo_number_45 ar_58 rfl (by omega) rfl ?_
        refine p_i2l d_Mo_number_46 ?_
        refine p_ldc2 d_Mo_number_47 kl_Mo_67 ?_
        refine p_ldc2 d_Mo_number_50 kl_Mo_69 ?_
        refine q_S1 d_Mo_number_53 ml_Mo_45 sb_Mo_in ⟨leb rfl, leb rfl⟩ (c_in Γ S0 I1 J (I1 58 k) 48 57 (by decide) (by decide)) rfl rfl rfl ?_
        refine p_ifeqB (tgt := 104) d_Mo_number_56 (by decide) (fun h56 => ?_) (fun h56 => ?_)
        · rw [h58] at h56
          refine K104 k v I1 hc ?_ ?_ h11 h12 hrd h13 h60
          · rw [ed]; show _ = (if _ then _ else _); rw [if_neg (fun q => h56 q.2)]
          · rw [ev]; show _ = (if _ then _ else _); rw [if_neg (fun q => h56 q.2)]
        · rw [h58] at h56
          refine p_iload d_Mo_number_59 rfl ?_
          refine p_bi_99 d_Mo_number_61 ?_
          refine p_icmple (tgt := 71) d_Mo_number_63 (by decide) (fun h63 => ?_) (fun h63 => ?_)
          · refine p_bi_10 d_Mo_number_71 ?_
            refine p_iload d_Mo_number_73 rfl ?_
            refine p_imul d_Mo_number_75 ?_
            refine p_aload_n d_Mo_number_76 rfl ?_
            refine p_getR d_Mo_number_77 fl_Mo_23 kd_53 rfl rf_53_5 ?_
            refine p_aload_n d_Mo_number_80 rfl ?_
            refine p_getI d_Mo_number_81 fl_Mo_57 kd_53 (Or.inl rfl) ?_
            refine p_eqI (y := nI k) (h11) ?_
            refine p_ialdN (k) d_Mo_number_84 ar_58 rfl (by omega) rfl ?_
            refine p_iadd d_Mo_number_85 ?_
            refine p_bi_48 d_Mo_number_86 ?_
            refine p_isub d_Mo_number_88 ?_
            refine J89 _ h56 ?_
            first | (rw [if_neg (i32_nlt.mpr h63), h58]; done) | (rw [if_pos (i32_nle.mp h63)]; done)
          · refine p_iload d_Mo_number_66 rfl ?_
            refine p_goto (tgt := 89) d_Mo_number_68 (by decide) ?_
            refine J89 _ h56 ?_
            first | (rw [if_neg (i32_nlt.mpr h63), h58]; done) | (rw [if_pos (i32_nle.mp h63)]; done)
  refine ct_of [.ref 53, .int (nI pl), .int lo, .int hi, .null, .null] (by decide +kernel) rfl (leb rfl) rfl ?_
  refine p_aload_n d_Mo_number_0 rfl ?_
  refine q_V d_Mo_number_1 ml_Mo_63 vb_Mo_first kd_53 ⟨leb rfl, leb rfl⟩ (m_first Γ I J l i hl hl2 hat hil) rfl rfl rfl (fun r S1 IF J1 hQ => ?_)
  obtain ⟨rfl, rfl, hJ, f11, f12, f13, f60, frd⟩ := hQ
  obtain rfl := hJ.symm
  refine p_is_4 d_Mo_number_4 (by decide) rfl ?_
  refine p_iload d_Mo_number_6 rfl ?_
  refine p_i2l d_Mo_number_8 ?_
  refine p_ldc2 d_Mo_number_9 kl_Mo_67 ?_
  refine p_ldc2 d_Mo_number_12 kl_Mo_69 ?_
  refine q_S1 d_Mo_number_15 ml_Mo_45 sb_Mo_in ⟨leb rfl, leb rfl⟩ (c_in Γ S0 IF J (ltr (I 58) l (sk (I 58) l i)) 48 57 (by decide) (by decide)) rfl rfl rfl ?_
  refine p_ifneB (tgt := 23) d_Mo_number_18 (by decide) (fun h18 => ?_) (fun h18 => ?_)
  · refine p_ic_0 d_Mo_number_23 ?_
    refine p_is_5 d_Mo_number_24 (by decide) rfl ?_
    exact LP (l - (sk (I 58) l i)) (sk (I 58) l i) 0 IF h18 (by omega) rfl rfl f11 f12 frd f13 f60
  · refine p_ic_0 d_Mo_number_21 ?_
    refine p_iret d_Mo_number_22 rfl rfl ?_
    have hN : ¬ nmOK (I 58) l (sk (I 58) l i) lo hi := by
      intro q
      refine h18 ?_
      unfold ltr
      rw [if_pos q.1.1]
      exact q.1.2
    refine ⟨?_, rfl, rfl, frd, f13, ?_, ?_⟩
    · rw [nmQ_bad hN]; rfl
    · intro p hp; rw [nmQ_bad hN] at hp; cases hp; exact f12
    · intro v e hp; rw [nmQ_bad hN] at hp; cases hp
def enQ (x : Nat → Int32) (l i : Nat) (I : MemI) (J : MemJ) : PQ := fun r S' I' J' => r = some (.int (bI ((enP x l i).isRight = true))) ∧ S' = S0 ∧ J' = J ∧ rdF I I' ∧ I' 53 13 = I 53 13 ∧ I' 60 = I 60 ∧ (∀ p, enP x l i = .inl p → I' 53 12 = nI p) ∧ ∀ e, enP x l i = .inr e → I' 53 11 = nI e
theorem m_ends (Γ : Cx) (I : MemI) (J : MemJ) (l i : Nat) (hl : I 53 6 = nI l) (hl2 : l ≤ 200) (hat : I 53 11 = nI i) (hil : i ≤ l) : Ct Γ M_Mo_ends [.ref 53] S0 I J (enQ (I 58) l i I J) := by
  obtain ⟨b1, b2⟩ := sk_le (x := I 58) hil
  refine ct_of [.ref 53] (by decide +kernel) rfl (leb rfl) rfl ?_
  refine p_aload_n d_Mo_ends_0 rfl ?_
  refine q_V d_Mo_ends_1 ml_Mo_63 vb_Mo_first kd_53 ⟨leb rfl, leb rfl⟩ (m_first Γ I J l i hl hl2 hat hil) rfl rfl rfl (fun r S1 IF J1 hQ => ?_)
  obtain ⟨rfl, rfl, hJ, f11, f12, f13, f60, frd⟩ := hQ
  obtain rfl := hJ.symm
  refine p_bi_59 d_Mo_ends_4 ?_
  refine p_icmpeq (tgt := 11) d_Mo_ends_6 (by decide) (fun h6 => ?_) (fun h6 => ?_)
  · refine p_aload_n d_Mo_ends_11 rfl ?_
    refine p_dup d_Mo_ends_12 rfl ?_
    refine p_getI d_Mo_ends_13 fl_Mo_57 kd_53 (Or.inl rfl) ?_
    refine p_eqI (y := nI (sk (I 58) l i)) (f11) ?_
    refine p_ic_1 d_Mo_ends_16 ?_
    refine p_iaddN ((sk (I 58) l i)) (1) d_Mo_ends_17 rfl rfl ?_
    refine p_putI d_Mo_ends_18 fl_Mo_57 kd_53 rfl nf_5_11 ?_
    refine p_ic_1 d_Mo_ends_21 ?_
    refine p_iret d_Mo_ends_22 rfl rfl ?_
    have hN : enP (I 58) l i = .inr ((sk (I 58) l i) + 1) := by
      unfold enP
      have z : (sk (I 58) l i) < l := by
        rcases Nat.lt_or_ge (sk (I 58) l i) l with q | q
        · exact q
        · unfold ltr at h6
          rw [if_neg (by omega)] at h6
          exact absurd h6 (by decide)
      unfold ltr at h6
      rw [if_pos z] at h6
      rw [if_pos ⟨z, h6⟩]
    refine ⟨by rw [hN]; rfl, rfl, rfl, ?_, ?_, ?_, ?_, ?_⟩
    · exact frd.tr ⟨fun x a b => by funext y; simp only [up2]; rw [if_neg (fun q => a q.1)], fun y a b c => by simp only [up2]; rw [if_neg (fun q => a q.2)]⟩
    · simp only [up2]; rw [if_neg (by omega)]; exact f13
    · funext y; simp only [up2]; rw [if_neg (by omega)]; exact congrFun f60 y
    · intro p hp; rw [hN] at hp; cases hp
    · intro e hp; rw [hN] at hp; cases hp; simp [up2]
  · refine p_ic_0 d_Mo_ends_9 ?_
    refine p_iret d_Mo_ends_10 rfl rfl ?_
    have hN : enP (I 58) l i = .inl (sk (I 58) l i) := by
      unfold enP
      rw [if_neg (fun q => h6 ?_)]
      unfold ltr
      rw [if_pos q.1]
      exact q.2
    refine ⟨by rw [hN]; rfl, rfl, rfl, frd, f13, f60, ?_, ?_⟩
    · intro p hp; rw [hN] at hp; cases hp; exact f12
    · intro e hp; rw [hN] at hp; cases hp
