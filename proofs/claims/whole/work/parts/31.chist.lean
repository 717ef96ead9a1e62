/-! ===== the class's Church copied, History, text ===== -/
def cpw (c k d j : Nat) (I : MemI) : MemI := up2 (up2 (up2 (up2 I (c + 1) k (I (d + 1) j)) (c + 2) k (I (d + 2) j)) (c + 3) k (I (d + 3) j)) (c + 4) k (I (d + 4) j)
theorem cpw_r {c k d j : Nat} {I : MemI} (i : Nat) (h1 : 1 ≤ i) (h4 : i ≤ 4) (y : Nat) : cpw c k d j I (c + i) y = if y = k then I (d + i) j else I (c + i) y := by
  unfold cpw
  simp only [up2]
  rcases (show i = 1 ∨ i = 2 ∨ i = 3 ∨ i = 4 by omega) with rfl | rfl | rfl | rfl <;> by_cases q : y = k <;> simp [q]
theorem cpw_o {c k d j : Nat} {I : MemI} {x : Nat} (h : x ≠ c + 1) (h2 : x ≠ c + 2) (h3 : x ≠ c + 3) (h4 : x ≠ c + 4) : cpw c k d j I x = I x := by
  funext y
  unfold cpw
  simp [up2, h, h2, h3, h4]
theorem c_copyPew (Γ : Cx) (I : MemI) (J : MemJ) (c k d j : Nat) (hc : isCh c) (hd : isCh d) (hcd : c = d ∨ c + 5 < d ∨ d + 5 < c) (hk : k < 6) (hj : j < 6) : Ct Γ M_Ch_copyPew [.ref c, .int (nI k), .ref d, .int (nI j)] S0 I J (eqQ none S0 (cpw c k d j I) J) := by
  refine ct_of [.ref c, .int (nI k), .ref d, .int (nI j)] (by decide +kernel) rfl (leb rfl) rfl ?_
  refine p_aload_n d_Ch_copyPew_0 rfl ?_
  refine p_getR d_Ch_copyPew_1 fl_Ch_9 hc.1 rfl hc.2.1.1 ?_
  refine p_iload_n d_Ch_copyPew_4 rfl ?_
  refine p_aload_n d_Ch_copyPew_5 rfl ?_
  refine p_getR d_Ch_copyPew_6 fl_Ch_9 hd.1 rfl hd.2.1.1 ?_
  refine p_iload_n d_Ch_copyPew_9 rfl ?_
  refine p_ialdN (j) d_Ch_copyPew_10 hd.2.2.1 rfl (by omega) rfl ?_
  refine p_iastN (k) d_Ch_copyPew_11 hc.2.2.1 rfl (by omega) rfl ?_
  refine p_aload_n d_Ch_copyPew_12 rfl ?_
  refine p_getR d_Ch_copyPew_13 fl_Ch_15 hc.1 rfl hc.2.1.2.1 ?_
  refine p_iload_n d_Ch_copyPew_16 rfl ?_
  refine p_aload_n d_Ch_copyPew_17 rfl ?_
  refine p_getR d_Ch_copyPew_18 fl_Ch_15 hd.1 rfl hd.2.1.2.1 ?_
  refine p_iload_n d_Ch_copyPew_21 rfl ?_
  refine p_ialdN (j) d_Ch_copyPew_22 hd.2.2.2.1 rfl (by omega) rfl ?_
  refine p_eqI (y := I (d + 2) j) (by simp only [up2]; rw [if_neg (by omega)]) ?_
  refine p_iastN (k) d_Ch_copyPew_23 hc.2.2.2.1 rfl (by omega) rfl ?_
  refine p_aload_n d_Ch_copyPew_24 rfl ?_
  refine p_getR d_Ch_copyPew_25 fl_Ch_18 hc.1 rfl hc.2.1.2.2.1 ?_
  refine p_iload_n d_Ch_copyPew_28 rfl ?_
  refine p_aload_n d_Ch_copyPew_29 rfl ?_
  refine p_getR d_Ch_copyPew_30 fl_Ch_18 hd.1 rfl hd.2.1.2.2.1 ?_
  refine p_iload_n d_Ch_copyPew_33 rfl ?_
  refine p_ialdN (j) d_Ch_copyPew_34 hd.2.2.2.2.1 rfl (by omega) rfl ?_
  refine p_eqI (y := I (d + 3) j) (by simp only [up2]; rw [if_neg (by omega)]; rw [if_neg (by omega)]) ?_
  refine p_iastN (k) d_Ch_copyPew_35 hc.2.2.2.2.1 rfl (by omega) rfl ?_
  refine p_aload_n d_Ch_copyPew_36 rfl ?_
  refine p_getR d_Ch_copyPew_37 fl_Ch_21 hc.1 rfl hc.2.1.2.2.2.1 ?_
  refine p_iload_n d_Ch_copyPew_40 rfl ?_
  refine p_aload_n d_Ch_copyPew_41 rfl ?_
  refine p_getR d_Ch_copyPew_42 fl_Ch_21 hd.1 rfl hd.2.1.2.2.2.1 ?_
  refine p_iload_n d_Ch_copyPew_45 rfl ?_
  refine p_ialdN (j) d_Ch_copyPew_46 hd.2.2.2.2.2.1 rfl (by omega) rfl ?_
  refine p_eqI (y := I (d + 4) j) (by simp only [up2]; rw [if_neg (by omega)]; rw [if_neg (by omega)]; rw [if_neg (by omega)]) ?_
  refine p_iastN (k) d_Ch_copyPew_47 hc.2.2.2.2.2.1 rfl (by omega) rfl ?_
  refine p_ret d_Ch_copyPew_48 rfl ?_
  exact ⟨rfl, rfl, rfl, rfl⟩
def ccQ (c d : Nat) (I : MemI) (J : MemJ) : PQ := fun r S' I' J' => r = none ∧ S' = S0 ∧ J' = J ∧ (∀ y, 4 ≤ y → y ≤ 7 → I' c y = I d y) ∧ (∀ i k, 1 ≤ i → i ≤ 4 → k < 6 → I' (c + i) k = I (d + i) k) ∧ ∀ x, (x < c ∨ c + 4 < x) → I' x = I x
theorem four {P : Nat → Prop} (h4 : P 4) (h5 : P 5) (h6 : P 6) (h7 : P 7) : ∀ y, 4 ≤ y → y ≤ 7 → P y := by
  intro y a b
  rcases (show y = 4 ∨ y = 5 ∨ y = 6 ∨ y = 7 by omega) with rfl | rfl | rfl | rfl
  · exact h4
  · exact h5
  · exact h6
  · exact h7
theorem c_chCopy (Γ : Cx) (I : MemI) (J : MemJ) (c d : Nat) (hc : isCh c) (hd : isCh d) (hcd : c + 5 < d ∨ d + 5 < c) : Ct Γ M_Ch_copyFrom [.ref c, .ref d] S0 I J (ccQ c d I J) := by
  have LP : ∀ (f k : Nat) (I1 : MemI), k + f = 6 → (∀ y, 4 ≤ y → y ≤ 7 → I1 c y = I d y) → (∀ i j, 1 ≤ i → i ≤ 4 → j < k → I1 (c + i) j = I (d + i) j) → (∀ x, (x < c ∨ c + 4 < x) → I1 x = I x) → WP Γ M_Ch_copyFrom (0, 0) S0 I1 J 34 [.ref c, .ref d, .int (nI k)] [] (ccQ c d I J) := by
    intro f
    induction f with
    | zero =>
      intro k I1 hkf hy hr hx
      obtain rfl : k = 6 := by omega
      refine p_iload_n d_Ch_copyFrom_34 rfl ?_
      refine p_bi_6 d_Ch_copyFrom_35 ?_
      refine p_icmpgeN (tgt := 53) (6) (6) d_Ch_copyFrom_37 (by decide) rfl rfl (by omega) (by omega) (fun h37 => ?_) (fun h37 => ?_)
      · refine p_ret d_Ch_copyFrom_53 rfl ?_
        exact ⟨rfl, rfl, rfl, hy, hr, hx⟩
      · exact absurd (Nat.le_refl _) h37
    | succ f ih =>
      intro k I1 hkf hy hr hx
      refine p_iload_n d_Ch_copyFrom_34 rfl ?_
      refine p_bi_6 d_Ch_copyFrom_35 ?_
      refine p_icmpgeN (tgt := 53) (k) (6) d_Ch_copyFrom_37 (by decide) rfl rfl (by omega) (by omega) (fun h37 => ?_) (fun h37 => ?_)
      · exact absurd h37 (by omega)
      · refine p_aload_n d_Ch_copyFrom_40 rfl ?_
        refine p_iload_n d_Ch_copyFrom_41 rfl ?_
        refine p_aload_n d_Ch_copyFrom_42 rfl ?_
        refine p_iload_n d_Ch_copyFrom_43 rfl ?_
        refine q_V0 d_Ch_copyFrom_44 ml_Ch_49 vb_Ch_copyPew hc.1 ⟨leb rfl, leb rfl⟩ (c_copyPew Γ I1 J c k d k hc hd (by omega) (by omega) (by omega)) rfl rfl rfl ?_
        refine p_incN_2_1 d_Ch_copyFrom_47 (by decide) rfl ?_
        refine p_goto (tgt := 34) d_Ch_copyFrom_50 (by decide) ?_
        refine ih (k + 1) _ (by omega) (fun y a b => ?_) (fun i j a b hj => ?_) (fun x q => ?_)
        · rw [cpw_o (by omega) (by omega) (by omega) (by omega)]; exact hy y a b
        · rw [cpw_r i a b]
          by_cases q : j = k
          · subst q
            rw [if_pos rfl, hx (d + i) (by omega)]
          · rw [if_neg q, hr i j a b (by omega)]
        · rw [cpw_o (by omega) (by omega) (by omega) (by omega), hx x q]
  refine ct_of [.ref c, .ref d, .null] (by decide +kernel) rfl (leb rfl) rfl ?_
  refine p_aload_n d_Ch_copyFrom_0 rfl ?_
  refine p_aload_n d_Ch_copyFrom_1 rfl ?_
  refine p_getI d_Ch_copyFrom_2 fl_Ch_30 hd.1 (Or.inl rfl) ?_
  refine p_putI d_Ch_copyFrom_5 fl_Ch_30 hc.1 rfl nf_0_4 ?_
  refine p_aload_n d_Ch_copyFrom_8 rfl ?_
  refine p_aload_n d_Ch_copyFrom_9 rfl ?_
  refine p_getI d_Ch_copyFrom_10 fl_Ch_34 hd.1 (Or.inl rfl) ?_
  refine p_putI d_Ch_copyFrom_13 fl_Ch_34 hc.1 rfl nf_0_5 ?_
  refine p_aload_n d_Ch_copyFrom_16 rfl ?_
  refine p_aload_n d_Ch_copyFrom_17 rfl ?_
  refine p_getI d_Ch_copyFrom_18 fl_Ch_37 hd.1 (Or.inl rfl) ?_
  refine p_putI d_Ch_copyFrom_21 fl_Ch_37 hc.1 rfl nf_0_6 ?_
  refine p_aload_n d_Ch_copyFrom_24 rfl ?_
  refine p_aload_n d_Ch_copyFrom_25 rfl ?_
  refine p_getI d_Ch_copyFrom_26 fl_Ch_40 hd.1 (Or.inl rfl) ?_
  refine p_putI d_Ch_copyFrom_29 fl_Ch_40 hc.1 rfl nf_0_7 ?_
  refine p_ic_0 d_Ch_copyFrom_32 ?_
  refine p_is_2 d_Ch_copyFrom_33 (by decide) rfl ?_
  have hdc : ¬ d = c := by omega
  refine LP 6 0 _ (by omega) (four ?_ ?_ ?_ ?_) (fun i j a b hj => absurd hj (by omega)) (fun x q => ?_)
  · simp [up2, hdc]
  · simp [up2, hdc]
  · simp [up2, hdc]
  · simp [up2, hdc]
  · funext y
    have q2 : ¬ x = c := by omega
    simp [up2, q2]
def clQ (c k n : Nat) (I : MemI) (J : MemJ) : PQ := fun r S' I' J' => r = none ∧ S' = S0 ∧ J' = J ∧ I' c 4 = nI (n - 1) ∧ (∀ i j, 1 ≤ i → i ≤ 4 → j < 6 → I' (c + i) j = if k ≤ j ∧ j + 1 < n then I (c + i) (j + 1) else I (c + i) j) ∧ (∀ y, y ≠ 4 → I' c y = I c y) ∧ ∀ x, (x < c ∨ c + 4 < x) → I' x = I x
theorem c_chLeave (Γ : Cx) (I : MemI) (J : MemJ) (c k n : Nat) (hc : isCh c) (hn : n ≤ 6) (h0 : I c 4 = nI n) (hk : k < n) : Ct Γ M_Ch_leaveOut [.ref c, .int (nI k)] S0 I J (clQ c k n I J) := by
  have LP : ∀ (f i : Nat) (I1 : MemI), i + f + 1 = n → k ≤ i → (∀ r j, 1 ≤ r → r ≤ 4 → I1 (c + r) j = if k ≤ j ∧ j < i then I (c + r) (j + 1) else I (c + r) j) → (∀ x, (x ≤ c ∨ c + 4 < x) → I1 x = I x) → WP Γ M_Ch_leaveOut (0, 0) S0 I1 J 11 [.ref c, .int (nI k), .int (nI i)] [] (clQ c k n I J) := by
    intro f
    induction f with
    | zero =>
      intro i I1 hif hki hr hx
      refine p_iload_n d_Ch_leaveOut_11 rfl ?_
      refine p_ic_1 d_Ch_leaveOut_12 ?_
      refine p_iaddN (i) (1) d_Ch_leaveOut_13 rfl rfl ?_
      refine p_aload_n d_Ch_leaveOut_14 rfl ?_
      refine p_getI d_Ch_leaveOut_15 fl_Ch_30 hc.1 (Or.inl rfl) ?_
      refine p_eqI (y := nI n) (by rw [hx c (by omega)]; exact h0) ?_
      refine p_icmpgeN (tgt := 36) (i + 1) (n) d_Ch_leaveOut_18 (by decide) rfl rfl (by omega) (by omega) (fun h18 => ?_) (fun h18 => ?_)
      · refine p_aload_n d_Ch_leaveOut_36 rfl ?_
        refine p_dup d_Ch_leaveOut_37 rfl ?_
        refine p_getI d_Ch_leaveOut_38 fl_Ch_30 hc.1 (Or.inl rfl) ?_
        refine p_eqI (y := nI n) (by rw [hx c (by omega)]; exact h0) ?_
        refine p_ic_1 d_Ch_leaveOut_41 ?_
        refine p_isubN (n) (1) d_Ch_leaveOut_42 rfl rfl (by omega) ?_
        refine p_putI d_Ch_leaveOut_43 fl_Ch_30 hc.1 rfl nf_0_4 ?_
        refine p_ret d_Ch_leaveOut_46 rfl ?_
        refine ⟨rfl, rfl, rfl, by simp [up2], fun r j a b hj => ?_, fun y q => ?_, fun x q => ?_⟩
        · simp only [up2]
          rw [if_neg (by omega), hr r j a b]
          by_cases q : k ≤ j ∧ j < i
          · rw [if_pos q, if_pos (by omega)]
          · rw [if_neg q, if_neg (by omega)]
        · simp [up2, q, hx c (by omega)]
        · funext y
          simp only [up2]
          rw [if_neg (by omega), hx x (by omega)]
      · exact absurd (by omega) h18
    | succ f ih =>
      intro i I1 hif hki hr hx
      refine p_iload_n d_Ch_leaveOut_11 rfl ?_
      refine p_ic_1 d_Ch_leaveOut_12 ?_
      refine p_iaddN (i) (1) d_Ch_leaveOut_13 rfl rfl ?_
      refine p_aload_n d_Ch_leaveOut_14 rfl ?_
      refine p_getI d_Ch_leaveOut_15 fl_Ch_30 hc.1 (Or.inl rfl) ?_
      refine p_eqI (y := nI n) (by rw [hx c (by omega)]; exact h0) ?_
      refine p_icmpgeN (tgt := 36) (i + 1) (n) d_Ch_leaveOut_18 (by decide) rfl rfl (by omega) (by omega) (fun h18 => ?_) (fun h18 => ?_)
      · exact absurd h18 (by omega)
      · refine p_aload_n d_Ch_leaveOut_21 rfl ?_
        refine p_iload_n d_Ch_leaveOut_22 rfl ?_
        refine p_aload_n d_Ch_leaveOut_23 rfl ?_
        refine p_iload_n d_Ch_leaveOut_24 rfl ?_
        refine p_ic_1 d_Ch_leaveOut_25 ?_
        refine p_iaddN (i) (1) d_Ch_leaveOut_26 rfl rfl ?_
        refine q_V0 d_Ch_leaveOut_27 ml_Ch_49 vb_Ch_copyPew hc.1 ⟨leb rfl, leb rfl⟩ (c_copyPew Γ I1 J c i c (i + 1) hc hc (Or.inl rfl) (by omega) (by omega)) rfl rfl rfl ?_
        refine p_incN_2_1 d_Ch_leaveOut_30 (by decide) rfl ?_
        refine p_goto (tgt := 11) d_Ch_leaveOut_33 (by decide) ?_
        refine ih (i + 1) _ (by omega) (by omega) (fun r j a b => ?_) (fun x q => ?_)
        · rw [cpw_r r a b]
          by_cases q : j = i
          · subst q
            rw [if_pos rfl, if_pos (by omega), hr r _ a b, if_neg (by omega)]
          · rw [if_neg q, hr r j a b]
            by_cases q2 : k ≤ j ∧ j < i
            · rw [if_pos q2, if_pos (by omega)]
            · rw [if_neg q2, if_neg (by omega)]
        · rw [cpw_o (by omega) (by omega) (by omega) (by omega), hx x q]
  refine ct_of [.ref c, .int (nI k), .null] (by decide +kernel) rfl (leb rfl) rfl ?_
  refine p_aload_n d_Ch_leaveOut_0 rfl ?_
  refine p_iload_n d_Ch_leaveOut_1 rfl ?_
  refine q_V1 d_Ch_leaveOut_2 ml_Ch_53 vb_Ch_has hc.1 ⟨leb rfl, leb rfl⟩ (c_has Γ I J c hc (nI k)) rfl rfl rfl ?_
  refine p_ifneB (tgt := 9) d_Ch_leaveOut_5 (by decide) (fun h5 => ?_) (fun h5 => ?_)
  · refine p_iload_n d_Ch_leaveOut_9 rfl ?_
    refine p_is_2 d_Ch_leaveOut_10 (by decide) rfl ?_
    exact LP (n - 1 - k) k I (by omega) (Nat.le_refl _) (fun r j a b => by rw [if_neg (by omega)]) (fun x _ => rfl)
  · rw [h0] at h5
    exact absurd (isP_nI hn hk) h5
theorem st_ref : ∀ x, x < 10 → S0.2.2 23 x = some (24 + 2 * x) := by decide +kernel
theorem im_ref : ∀ x, x < 2 → S0.2.2 44 x = some (45 + 2 * x) := by decide +kernel
theorem si_st {x : Nat} (h : x < 10) : isSi (24 + 2 * x) := by
  rcases (show x = 0 ∨ x = 1 ∨ x = 2 ∨ x = 3 ∨ x = 4 ∨ x = 5 ∨ x = 6 ∨ x = 7 ∨ x = 8 ∨ x = 9 by omega) with rfl | rfl | rfl | rfl | rfl | rfl | rfl | rfl | rfl | rfl
  · exact si_24
  · exact si_26
  · exact si_28
  · exact si_30
  · exact si_32
  · exact si_34
  · exact si_36
  · exact si_38
  · exact si_40
  · exact si_42
theorem si_im {x : Nat} (h : x < 2) : isSi (45 + 2 * x) := by
  rcases (show x = 0 ∨ x = 1 by omega) with rfl | rfl
  · exact si_45
  · exact si_47
/-- 16 is written into state x (or out of it), and the ring goes on -/
def hrQ (x u : Nat) (I : MemI) (J : MemJ) : PQ := fun r S' I' J' => r = none ∧ S' = S0 ∧ J' = J ∧ (∀ k, k < 6 → I' (24 + 2 * x + 1) k = I 17 k) ∧ (∀ y, 1 ≤ y → y ≤ 6 → I' (24 + 2 * x) y = I 16 y) ∧ I' 22 1 = nI ((x + 1) % 10) ∧ I' 22 2 = nI (rmU u) ∧ ∀ z, z ≠ 22 → z ≠ 24 + 2 * x → z ≠ 24 + 2 * x + 1 → I' z = I z
def htQ (x u : Nat) (I : MemI) (J : MemJ) : PQ := fun r S' I' J' => r = none ∧ S' = S0 ∧ J' = J ∧ (∀ k, k < 6 → I' 17 k = I (24 + 2 * x + 1) k) ∧ (∀ y, 1 ≤ y → y ≤ 6 → I' 16 y = I (24 + 2 * x) y) ∧ I' 22 1 = nI x ∧ I' 22 2 = nI u ∧ ∀ z, z ≠ 22 → z ≠ 16 → z ≠ 17 → I' z = I z
theorem mn10 {u : Nat} (h : u ≤ 10) : (if nI (u + 1) < 10 then nI (u + 1) else 10) = nI (rmU u) := by
  unfold rmU
  rw [show (10 : Int32) = nI 10 from rfl]
  by_cases q : u = 10
  · rw [if_pos q, if_neg (nI_nlt (by omega) (by omega))]
  · rw [if_neg q]
    by_cases q2 : u + 1 < 10
    · rw [if_pos (nI_lt q2 (by omega))]
    · rw [if_neg (nI_nlt (by omega) (by omega)), show u + 1 = 10 by omega]
theorem c_hiRem (Γ : Cx) (I : MemI) (J : MemJ) (x u : Nat) (hx : x < 10) (h1 : I 22 1 = nI x) (h2 : I 22 2 = nI u) (hu : u ≤ 10) : Ct Γ M_Hi_remember [.ref 22, .ref 16] S0 I J (hrQ x u I J) := by
  refine ct_of [.ref 22, .ref 16] (by decide +kernel) rfl (leb rfl) rfl ?_
  refine p_aload_n d_Hi_remember_0 rfl ?_
  refine p_getR d_Hi_remember_1 fl_Hi_11 kd_22 rfl rf_22_0 ?_
  refine p_aload_n d_Hi_remember_4 rfl ?_
  refine p_getI d_Hi_remember_5 fl_Hi_18 kd_22 (Or.inl rfl) ?_
  refine p_eqI h1 ?_
  refine p_aaldN (x) d_Hi_remember_8 ar_23 rfl (by omega) rfl (st_ref x hx) ?_
  refine p_aload_n d_Hi_remember_9 rfl ?_
  refine q_V d_Hi_remember_10 ml_Hi_22 vb_Si_copyFrom (si_st hx).1 ⟨leb rfl, leb rfl⟩ (c_copy Γ I J (24 + 2 * x) 16 (si_st hx) si_16 (by omega)) rfl rfl rfl (fun r S1 I1 J1 hQ => ?_)
  obtain ⟨rfl, rfl, hJ, v1, v2, v3⟩ := hQ
  obtain rfl := hJ.symm
  refine p_aload_n d_Hi_remember_13 rfl ?_
  refine p_aload_n d_Hi_remember_14 rfl ?_
  refine p_getI d_Hi_remember_15 fl_Hi_18 kd_22 (Or.inl rfl) ?_
  refine p_eqI (y := nI x) (by rw [v3 22 (by omega) (by omega)]; exact h1) ?_
  refine p_ic_1 d_Hi_remember_18 ?_
  refine p_iaddN (x) (1) d_Hi_remember_19 rfl rfl ?_
  refine p_bi_10 d_Hi_remember_20 ?_
  refine p_irem d_Hi_remember_22 (by decide) ?_
  refine p_eqI (pk_rem (a := x + 1) (d := 10) (by omega) (by omega) (by omega)) ?_
  refine p_putI d_Hi_remember_23 fl_Hi_18 kd_22 rfl nf_1_1 ?_
  refine p_aload_n d_Hi_remember_26 rfl ?_
  refine p_bi_10 d_Hi_remember_27 ?_
  refine p_aload_n d_Hi_remember_29 rfl ?_
  refine p_getI d_Hi_remember_30 fl_Hi_26 kd_22 (Or.inl rfl) ?_
  refine p_eqI (y := nI u) (by simp only [up2]; rw [if_neg (by omega), v3 22 (by omega) (by omega)]; exact h2) ?_
  refine p_ic_1 d_Hi_remember_33 ?_
  refine p_iaddN (u) (1) d_Hi_remember_34 rfl rfl ?_
  refine p_min d_Hi_remember_35 ml_Hi_29 (leb rfl) (leb rfl) ?_
  refine p_eqI (mn10 hu) ?_
  refine p_putI d_Hi_remember_38 fl_Hi_26 kd_22 rfl nf_1_2 ?_
  refine p_ret d_Hi_remember_41 rfl ?_
  refine ⟨rfl, rfl, rfl, fun k hk => ?_, fun y a b => ?_, ?_, ?_, fun z q1 q2 q3 => ?_⟩
  · simp only [up2]; rw [if_neg (by omega), if_neg (by omega)]; exact v1 k hk
  · simp only [up2]; rw [if_neg (by omega), if_neg (by omega)]; exact v2 y a b
  · simp [up2]
  · simp [up2]
  · funext y
    simp [up2, q1, v3 z q2 q3]
theorem c_hiBack (Γ : Cx) (I : MemI) (J : MemJ) (x0 x u : Nat) (hx : x < 10) (hx0 : x0 < 10) (ex : x = (x0 + 9) % 10) (h1 : I 22 1 = nI x0) (h2 : I 22 2 = nI (u + 1)) (hu : u + 1 ≤ 10) : Ct Γ M_Hi_takeBack [.ref 22, .ref 16] S0 I J (htQ x u I J) := by
  refine ct_of [.ref 22, .ref 16] (by decide +kernel) rfl (leb rfl) rfl ?_
  refine p_aload_n d_Hi_takeBack_0 rfl ?_
  refine p_aload_n d_Hi_takeBack_1 rfl ?_
  refine p_getI d_Hi_takeBack_2 fl_Hi_18 kd_22 (Or.inl rfl) ?_
  refine p_eqI h1 ?_
  refine p_bi_10 d_Hi_takeBack_5 ?_
  refine p_iaddN (x0) (10) d_Hi_takeBack_7 rfl rfl ?_
  refine p_ic_1 d_Hi_takeBack_8 ?_
  refine p_isubN (x0 + 10) (1) d_Hi_takeBack_9 rfl rfl (by omega) ?_
  refine p_bi_10 d_Hi_takeBack_10 ?_
  refine p_irem d_Hi_takeBack_12 (by decide) ?_
  refine p_eqI (y := nI x) (by rw [show (10 : Int32) = nI 10 from rfl, pk_rem (a := x0 + 10 - 1) (d := 10) (by omega) (by omega) (by omega), ex]; congr 1) ?_
  refine p_putI d_Hi_takeBack_13 fl_Hi_18 kd_22 rfl nf_1_1 ?_
  refine p_aload_n d_Hi_takeBack_16 rfl ?_
  refine p_aload_n d_Hi_takeBack_17 rfl ?_
  refine p_getR d_Hi_takeBack_18 fl_Hi_11 kd_22 rfl rf_22_0 ?_
  refine p_aload_n d_Hi_takeBack_21 rfl ?_
  refine p_getI d_Hi_takeBack_22 fl_Hi_18 kd_22 (Or.inl rfl) ?_
  refine p_eqI (y := nI x) (by simp [up2]) ?_
  refine p_aaldN (x) d_Hi_takeBack_25 ar_23 rfl (by omega) rfl (st_ref x hx) ?_
  refine q_V d_Hi_takeBack_26 ml_Hi_22 vb_Si_copyFrom kd_16 ⟨leb rfl, leb rfl⟩ (c_copy Γ _ J 16 (24 + 2 * x) si_16 (si_st hx) (by omega)) rfl rfl rfl (fun r S1 I1 J1 hQ => ?_)
  obtain ⟨rfl, rfl, hJ, v1, v2, v3⟩ := hQ
  obtain rfl := hJ.symm
  refine p_aload_n d_Hi_takeBack_29 rfl ?_
  refine p_dup d_Hi_takeBack_30 rfl ?_
  refine p_getI d_Hi_takeBack_31 fl_Hi_26 kd_22 (Or.inl rfl) ?_
  refine p_eqI (y := nI (u + 1)) (by rw [v3 22 (by omega) (by omega)]; simp [up2, h2]) ?_
  refine p_ic_1 d_Hi_takeBack_34 ?_
  refine p_isubN (u + 1) (1) d_Hi_takeBack_35 rfl rfl (by omega) ?_
  refine p_eqI (y := nI u) (by rw [Nat.add_sub_cancel]) ?_
  refine p_putI d_Hi_takeBack_36 fl_Hi_26 kd_22 rfl nf_1_2 ?_
  refine p_ret d_Hi_takeBack_39 rfl ?_
  refine ⟨rfl, rfl, rfl, fun k hk => ?_, fun y a b => ?_, ?_, ?_, fun z q1 q2 q3 => ?_⟩
  · simp only [up2]; rw [if_neg (by omega), v1 k hk]; simp only [up2]; rw [if_neg (by omega)]
  · simp only [up2]; rw [if_neg (by omega), v2 y a b]; simp only [up2]; rw [if_neg (by omega)]
  · simp [up2, v3]
  · simp [up2]
  · funext y
    simp [up2, q1, v3 z q2 q3]
