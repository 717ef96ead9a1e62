/-! ===== the reference's smaller methods ===== -/
theorem arrV_c {c : ClassId} {n : Nat} {f g : Nat → Value} (h : ∀ j, j < n → f j = g j) : arrV c n f = arrV c n g := by
  have e : (fun j : Fin n => f j.val) = (fun j : Fin n => g j.val) := funext fun j => h j.val j.isLt
  unfold arrV
  rw [e]
/-- beyond its end a row may hold anything -/
theorem p_row {Γ : Cx} {M : MI} {B : Nat × Nat} {S : Sh} {I : MemI} {J : MemJ} {pc : Nat} {ls st : List Value} {Q : PQ} {a n : Nat} (g : Nat → Int32) (ha : ar S a 10 n) (hg : ∀ y, y < n → g y = I a y) (k : WP Γ M B S (fun x => if x = a then g else I x) J pc ls st Q) : WP Γ M B S I J pc ls st Q := by
  intro p e s m args below meth c Z C E H locs cells slots lr hR
  refine k p e s m args below meth c Z C E H locs cells slots lr ?_
  obtain ⟨h0, h1, h2⟩ := ha
  refine ⟨hR.1, fun i q hq => ?_⟩
  obtain ⟨hl, rfl⟩ := wsOf_some hq
  have hat := hR.at hl
  by_cases e1 : i + 1 = a
  · subst e1
    rw [cE_int h2] at hat ⊢
    have hat' : H[ad Γ (i + 1)]? = some (vp_cell Γ.2.2.2.1 (n, .inl (I (i + 1)))) := hat
    show H[ad Γ (i + 1)]? = some (vp_cell _ _)
    rw [hat', vp_cell_i, vp_cell_i]
    congr 1
    refine arrV_c (fun j hj => ?_)
    simp only [if_true, hg j hj]
  · rw [cE_congr (S := S) (I := I) (J := J) rfl (fun y => ⟨by simp [e1], rfl, rfl⟩)]
    exact hat
def cpR (g f : Nat → Int32) (i j : Nat) : Nat → Int32 := fun y => if j ≤ y ∧ y < j + 39 then f (i + (y - j)) else g y
/-- one row is another one -/
def r1Q (r0 : Option Value) (d : Nat) (row : Nat → Int32) (I : MemI) (J : MemJ) : PQ := fun r S' I' J' => r = r0 ∧ S' = S0 ∧ J' = J ∧ I' d = row ∧ ∀ x, x ≠ d → I' x = I x
theorem m_copies (Γ : Cx) (I : MemI) (J : MemJ) (s d i j nf nd : Nat) (hs : ar S0 s 10 nf) (hd : ar S0 d 10 nd) (hsd : s ≠ d) (hi : i + 39 ≤ nf) (hj : j + 39 ≤ nd) (bf : Nat.ble nf 1000 = true) (bd : Nat.ble nd 1000 = true) : Ct Γ M_Mo_copies [.ref s, .int (nI i), .ref d, .int (nI j)] S0 I J (r1Q none d (cpR (I d) (I s) i j) I J) := by
  have b1 := leb bf
  have b2 := leb bd
  have LP : ∀ (f k : Nat) (I1 : MemI), k + f = 39 → (∀ y, I1 d y = if j ≤ y ∧ y < j + k then I s (i + (y - j)) else I d y) → (∀ x, x ≠ d → I1 x = I x) → WP Γ M_Mo_copies (0, 0) S0 I1 J 3 [.ref s, .int (nI i), .ref d, .int (nI j), .int (nI k)] [] (r1Q none d (cpR (I d) (I s) i j) I J) := by
    intro f
    induction f with
    | zero =>
      intro k I1 hkf hd1 hx
      obtain rfl : k = 39 := by omega
      refine p_iload d_Mo_copies_3 rfl ?_
      refine p_bi_39 d_Mo_copies_5 ?_
      refine p_icmpgeN (tgt := 28) (39) (39) d_Mo_copies_7 (by decide) rfl rfl (by omega) (by omega) (fun h7 => ?_) (fun h7 => ?_)
      · refine p_ret d_Mo_copies_28 rfl ?_
        exact ⟨rfl, rfl, rfl, funext hd1, hx⟩
      · exact absurd (Nat.le_refl _) h7
    | succ f ih =>
      intro k I1 hkf hd1 hx
      refine p_iload d_Mo_copies_3 rfl ?_
      refine p_bi_39 d_Mo_copies_5 ?_
      refine p_icmpgeN (tgt := 28) (k) (39) d_Mo_copies_7 (by decide) rfl rfl (by omega) (by omega) (fun h7 => ?_) (fun h7 => ?_)
      · exact absurd h7 (by omega)
      · refine p_aload_n d_Mo_copies_10 rfl ?_
        refine p_iload_n d_Mo_copies_11 rfl ?_
        refine p_iload d_Mo_copies_12 rfl ?_
        refine p_iaddN (j) (k) d_Mo_copies_14 rfl rfl ?_
        refine p_aload_n d_Mo_copies_15 rfl ?_
        refine p_iload_n d_Mo_copies_16 rfl ?_
        refine p_iload d_Mo_copies_17 rfl ?_
        refine p_iaddN (i) (k) d_Mo_copies_19 rfl rfl ?_
        refine p_ialdN (i + k) d_Mo_copies_20 hs rfl (by omega) bf ?_
        refine p_iastN (j + k) d_Mo_copies_21 hd rfl (by omega) bd ?_
        refine p_incN_4_1 d_Mo_copies_22 (by decide) rfl ?_
        refine p_goto (tgt := 3) d_Mo_copies_25 (by decide) ?_
        refine ih (k + 1) _ (by omega) (fun y => ?_) (fun x q => ?_)
        · simp only [up2, true_and]
          by_cases q : y = j + k
          · subst q
            rw [if_pos rfl, if_pos (by omega), hx s hsd, show j + k - j = k by omega]
          · rw [if_neg q, hd1 y]
            by_cases q2 : j ≤ y ∧ y < j + k
            · rw [if_pos q2, if_pos (by omega)]
            · rw [if_neg q2, if_neg (by omega)]
        · funext y
          simp only [up2]
          rw [if_neg (fun z => q z.1), hx x q]
  refine ct_of [.ref s, .int (nI i), .ref d, .int (nI j), .null] (by decide +kernel) rfl (leb rfl) rfl ?_
  refine p_ic_0 d_Mo_copies_0 ?_
  refine p_is_4 d_Mo_copies_1 (by decide) rfl ?_
  exact LP 39 0 I (by omega) (fun y => by rw [if_neg (by omega)]) (fun x _ => rfl)
theorem m_asNow (Γ : Cx) (I : MemI) (J : MemJ) : Ct Γ M_Mo_asNow [.ref 53] S0 I J (r1Q none 62 (I 54) I J) := by
  refine ct_of [.ref 53] (by decide +kernel) rfl (leb rfl) rfl ?_
  refine p_aload_n d_Mo_asNow_0 rfl ?_
  refine p_getR d_Mo_asNow_1 fl_Mo_7 kd_53 rfl rf_53_0 ?_
  refine p_ic_0 d_Mo_asNow_4 ?_
  refine p_aload_n d_Mo_asNow_5 rfl ?_
  refine p_getR d_Mo_asNow_6 fl_Mo_35 kd_53 rfl rf_53_15 ?_
  refine p_ic_0 d_Mo_asNow_9 ?_
  refine q_S d_Mo_asNow_10 ml_Mo_92 sb_Mo_copies ⟨leb rfl, leb rfl⟩ (m_copies Γ I J 54 62 0 0 39 39 ar_54 ar_62 (by decide) (by omega) (by omega) rfl rfl) rfl rfl rfl (fun r S1 I1 J1 hQ => ?_)
  obtain ⟨rfl, rfl, rfl, w1, w2⟩ := hQ
  refine p_row (I 54) ar_62 (fun y hy => by rw [w1]; simp [cpR, hy]) ?_
  refine p_ret d_Mo_asNow_13 rfl ?_
  exact ⟨rfl, rfl, rfl, by simp, fun x q => by simp [q, w2 x q]⟩
theorem m_go (Γ : Cx) (I : MemI) (J : MemJ) (n q : Nat) (hq : q < 1000) (h0 : I 62 0 = nI n) (hok : okT n (I 62)) : Ct Γ M_Mo_go [.ref 53, .int (nI q)] S0 I J (rwQ 62 I J (itS n (I 62) q)) := by
  have hn := hok.1
  have z0 : ∀ k, itS n (I 62) k 0 = nI n := by
    intro k
    induction k with
    | zero => exact h0
    | succ k ih => show singT n _ 0 = _; rw [singT_off (by omega) (by omega) (by omega)]; exact ih
  have LP : ∀ (f k : Nat) (I1 : MemI), k + f = q → I1 62 = itS n (I 62) k → (∀ x, x ≠ 61 → x ≠ 62 → I1 x = I x) → WP Γ M_Mo_go (0, 0) S0 I1 J 2 [.ref 53, .int (nI q), .int (nI k)] [] (rwQ 62 I J (itS n (I 62) q)) := by
    intro f
    induction f with
    | zero =>
      intro k I1 hkf h62 hx
      obtain rfl : k = q := by omega
      refine p_iload_n d_Mo_go_2 rfl ?_
      refine p_iload_n d_Mo_go_3 rfl ?_
      refine p_icmpgeN (tgt := 21) (k) (k) d_Mo_go_4 (by decide) rfl rfl (by omega) (by omega) (fun h4 => ?_) (fun h4 => ?_)
      · refine p_ret d_Mo_go_21 rfl ?_
        exact ⟨rfl, rfl, rfl, h62, hx⟩
      · exact absurd (Nat.le_refl _) h4
    | succ f ih =>
      intro k I1 hkf h62 hx
      refine p_iload_n d_Mo_go_2 rfl ?_
      refine p_iload_n d_Mo_go_3 rfl ?_
      refine p_icmpgeN (tgt := 21) (k) (q) d_Mo_go_4 (by decide) rfl rfl (by omega) (by omega) (fun h4 => ?_) (fun h4 => ?_)
      · exact absurd h4 (by omega)
      · refine p_aload_n d_Mo_go_7 rfl ?_
        refine p_aload_n d_Mo_go_8 rfl ?_
        refine p_getR d_Mo_go_9 fl_Mo_35 kd_53 rfl rf_53_15 ?_
        refine q_V d_Mo_go_12 ml_Mo_124 vb_Mo_sings kd_53 ⟨leb rfl, leb rfl⟩ (m_sings Γ I1 J 62 n ar_62 (by decide) hn (by rw [h62]; exact z0 k) (by rw [h62]; exact (hok.it k).2.1)) rfl rfl rfl (fun r S1 I1 J1 hQ => ?_)
        obtain ⟨rfl, rfl, rfl, w1, w2⟩ := hQ
        refine p_incN_2_1 d_Mo_go_15 (by decide) rfl ?_
        refine p_goto (tgt := 2) d_Mo_go_18 (by decide) ?_
        refine ih (k + 1) _ (by omega) (by rw [w1, h62]; rfl) (fun x q1 q2 => ?_)
        rw [w2 x q1 q2, hx x q1 q2]
  refine ct_of [.ref 53, .int (nI q), .null] (by decide +kernel) rfl (leb rfl) rfl ?_
  refine p_ic_0 d_Mo_go_0 ?_
  refine p_is_2 d_Mo_go_1 (by decide) rfl ?_
  exact LP q 0 I (by omega) rfl (fun x _ _ => rfl)
def mxA (f : Nat → Int32) : Nat → Int32
  | 0 => 0
  | k + 1 => if k = 0 ∨ mxA f k < f k then f k else mxA f k
def mnA (f : Nat → Int32) : Nat → Int32
  | 0 => 0
  | k + 1 => if k = 0 ∨ f k < mnA f k then f k else mnA f k
def apT (n : Nat) (t : Nat → Int32) : Int32 := mxA (fun k => t (28 + k)) n - mnA (fun k => t (28 + k)) n
def grA (f : Nat → Int32) : Nat → Int32
  | 0 => 0
  | k + 1 => if grA f k < ab (f k) then ab (f k) else grA f k
def grT (n : Nat) (t : Nat → Int32) : Int32 := grA (fun k => t (28 + k)) n
theorem m_apart (Γ : Cx) (I : MemI) (J : MemJ) (tc n : Nat) (ht : ar S0 tc 10 39) (hn : n ≤ 6) (h0 : I tc 0 = nI n) : Ct Γ M_Mo_apart [.ref tc] S0 I J (eqQ (some (.int (apT n (I tc)))) S0 I J) := by
  have LP : ∀ (f k : Nat) (v : Value), v.category = 1 → k + f = n → WP Γ M_Mo_apart (0, 0) S0 I J 6 [.ref tc, .int (mxA (fun k => I tc (28 + k)) k), .int (mnA (fun k => I tc (28 + k)) k), .int (nI k), v] [] (eqQ (some (.int (apT n (I tc)))) S0 I J) := by
    intro f
    induction f with
    | zero =>
      intro k v hv hkf
      obtain rfl : k = n := by omega
      refine p_iload_n d_Mo_apart_6 rfl ?_
      refine p_aload_n d_Mo_apart_7 rfl ?_
      refine p_ic_0 d_Mo_apart_8 ?_
      refine p_ialdN (0) d_Mo_apart_9 ht rfl (by omega) rfl ?_
      refine p_eqI h0 ?_
      refine p_icmpgeN (tgt := 61) (k) (k) d_Mo_apart_10 (by decide) rfl rfl (by omega) (by omega) (fun h10 => ?_) (fun h10 => ?_)
      · refine p_iload_n d_Mo_apart_61 rfl ?_
        refine p_iload_n d_Mo_apart_62 rfl ?_
        refine p_isub d_Mo_apart_63 ?_
        refine p_iret d_Mo_apart_64 rfl rfl ?_
        exact ⟨rfl, rfl, rfl, rfl⟩
      · exact absurd (Nat.le_refl _) h10
    | succ f ih =>
      intro k v hv hkf
      have J54 : ∀ (a b : Int32), a = mxA (fun k => I tc (28 + k)) (k + 1) → b = mnA (fun k => I tc (28 + k)) (k + 1) → WP Γ M_Mo_apart (0, 0) S0 I J 54 [.ref tc, .int a, .int (mnA (fun k => I tc (28 + k)) k), .int (nI k), .int (I tc (28 + k))] [.int b] (eqQ (some (.int (apT n (I tc)))) S0 I J) := by
        intro a b e1 e2
        refine p_is_2 d_Mo_apart_54 (by decide) rfl ?_
        refine p_incN_3_1 d_Mo_apart_55 (by decide) rfl ?_
        refine p_goto (tgt := 6) d_Mo_apart_58 (by decide) ?_
        rw [e1, e2]
        exact ih (k + 1) _ rfl (by omega)
      have J37 : ∀ (a : Int32), a = mxA (fun k => I tc (28 + k)) (k + 1) → WP Γ M_Mo_apart (0, 0) S0 I J 37 [.ref tc, .int (mxA (fun k => I tc (28 + k)) k), .int (mnA (fun k => I tc (28 + k)) k), .int (nI k), .int (I tc (28 + k))] [.int a] (eqQ (some (.int (apT n (I tc)))) S0 I J) := by
        intro a e1
        refine p_is_1 d_Mo_apart_37 (by decide) rfl ?_
        refine p_iload_n d_Mo_apart_38 rfl ?_
        refine p_ifeq (tgt := 48) d_Mo_apart_39 (by decide) (fun h39 => ?_) (fun h39 => ?_)
        · have g0 : k = 0 := by
            rcases Nat.eq_zero_or_pos k with q | q
            · exact q
            · exact absurd h39 (nI_ne0 q (by omega))
          refine p_iload d_Mo_apart_48 rfl ?_
          refine p_goto (tgt := 54) d_Mo_apart_50 (by decide) ?_
          exact J54 _ _ e1 (by first | (simp [mnA, g0]; done) | (simp [mnA, g0, i32_nlt.mpr h45]; done) | (simp [mnA, g0, i32_nle.mp h45]; done))
        · have g0 : ¬ k = 0 := fun q => h39 (by rw [q]; rfl)
          refine p_iload d_Mo_apart_42 rfl ?_
          refine p_iload_n d_Mo_apart_44 rfl ?_
          refine p_icmpge (tgt := 53) d_Mo_apart_45 (by decide) (fun h45 => ?_) (fun h45 => ?_)
          · refine p_iload_n d_Mo_apart_53 rfl ?_
            exact J54 _ _ e1 (by first | (simp [mnA, g0]; done) | (simp [mnA, g0, i32_nlt.mpr h45]; done) | (simp [mnA, g0, i32_nle.mp h45]; done))
          · refine p_iload d_Mo_apart_48 rfl ?_
            refine p_goto (tgt := 54) d_Mo_apart_50 (by decide) ?_
            exact J54 _ _ e1 (by first | (simp [mnA, g0]; done) | (simp [mnA, g0, i32_nlt.mpr h45]; done) | (simp [mnA, g0, i32_nle.mp h45]; done))
      refine p_iload_n d_Mo_apart_6 rfl ?_
      refine p_aload_n d_Mo_apart_7 rfl ?_
      refine p_ic_0 d_Mo_apart_8 ?_
      refine p_ialdN (0) d_Mo_apart_9 ht rfl (by omega) rfl ?_
      refine p_eqI h0 ?_
      refine p_icmpgeN (tgt := 61) (k) (n) d_Mo_apart_10 (by decide) rfl rfl (by omega) (by omega) (fun h10 => ?_) (fun h10 => ?_)
      · exact absurd h10 (by omega)
      · refine p_aload_n d_Mo_apart_13 rfl ?_
        refine p_bi_28 d_Mo_apart_14 ?_
        refine p_iload_n d_Mo_apart_16 rfl ?_
        refine p_iaddN (28) (k) d_Mo_apart_17 rfl rfl ?_
        refine p_ialdN (28 + k) d_Mo_apart_18 ht rfl (by omega) rfl ?_
        refine p_is_4 d_Mo_apart_19 (by decide) rfl ?_
        refine p_iload_n d_Mo_apart_21 rfl ?_
        refine p_ifeq (tgt := 31) d_Mo_apart_22 (by decide) (fun h22 => ?_) (fun h22 => ?_)
        · have g0 : k = 0 := by
            rcases Nat.eq_zero_or_pos k with q | q
            · exact q
            · exact absurd h22 (nI_ne0 q (by omega))
          refine p_iload d_Mo_apart_31 rfl ?_
          refine p_goto (tgt := 37) d_Mo_apart_33 (by decide) ?_
          exact J37 _ (by first | (simp [mxA, g0]; done) | (simp [mxA, g0, i32_nlt.mpr h28]; done) | (simp [mxA, g0, i32_nle.mp h28]; done))
        · have g0 : ¬ k = 0 := fun q => h22 (by rw [q]; rfl)
          refine p_iload d_Mo_apart_25 rfl ?_
          refine p_iload_n d_Mo_apart_27 rfl ?_
          refine p_icmple (tgt := 36) d_Mo_apart_28 (by decide) (fun h28 => ?_) (fun h28 => ?_)
          · refine p_iload_n d_Mo_apart_36 rfl ?_
            exact J37 _ (by first | (simp [mxA, g0]; done) | (simp [mxA, g0, i32_nlt.mpr h28]; done) | (simp [mxA, g0, i32_nle.mp h28]; done))
          · refine p_iload d_Mo_apart_31 rfl ?_
            refine p_goto (tgt := 37) d_Mo_apart_33 (by decide) ?_
            exact J37 _ (by first | (simp [mxA, g0]; done) | (simp [mxA, g0, i32_nlt.mpr h28]; done) | (simp [mxA, g0, i32_nle.mp h28]; done))
  refine ct_of [.ref tc, .null, .null, .null, .null] (by decide +kernel) rfl (leb rfl) rfl ?_
  refine p_ic_0 d_Mo_apart_0 ?_
  refine p_is_1 d_Mo_apart_1 (by decide) rfl ?_
  refine p_ic_0 d_Mo_apart_2 ?_
  refine p_is_2 d_Mo_apart_3 (by decide) rfl ?_
  refine p_ic_0 d_Mo_apart_4 ?_
  refine p_is_3 d_Mo_apart_5 (by decide) rfl ?_
  exact LP n 0 .null rfl (by omega)
theorem m_greatest (Γ : Cx) (I : MemI) (J : MemJ) (tc n : Nat) (ht : ar S0 tc 10 39) (hn : n ≤ 6) (h0 : I tc 0 = nI n) : Ct Γ M_Mo_greatest [.ref tc] S0 I J (eqQ (some (.int (grT n (I tc)))) S0 I J) := by
  have LP : ∀ (f k : Nat) (v : Value), v.category = 1 → k + f = n → WP Γ M_Mo_greatest (0, 0) S0 I J 4 [.ref tc, .int (grA (fun k => I tc (28 + k)) k), .int (nI k), v] [] (eqQ (some (.int (grT n (I tc)))) S0 I J) := by
    intro f
    induction f with
    | zero =>
      intro k v hv hkf
      obtain rfl : k = n := by omega
      refine p_iload_n d_Mo_greatest_4 rfl ?_
      refine p_aload_n d_Mo_greatest_5 rfl ?_
      refine p_ic_0 d_Mo_greatest_6 ?_
      refine p_ialdN (0) d_Mo_greatest_7 ht rfl (by omega) rfl ?_
      refine p_eqI h0 ?_
      refine p_icmpgeN (tgt := 54) (k) (k) d_Mo_greatest_8 (by decide) rfl rfl (by omega) (by omega) (fun h8 => ?_) (fun h8 => ?_)
      · refine p_iload_n d_Mo_greatest_54 rfl ?_
        refine p_iret d_Mo_greatest_55 rfl rfl ?_
        exact ⟨rfl, rfl, rfl, rfl⟩
      · exact absurd (Nat.le_refl _) h8
    | succ f ih =>
      intro k v hv hkf
      have J36 : ∀ (a : Int32), a = ab (I tc (28 + k)) → WP Γ M_Mo_greatest (0, 0) S0 I J 36 [.ref tc, .int (grA (fun k => I tc (28 + k)) k), .int (nI k), v] [.int a] (eqQ (some (.int (grT n (I tc)))) S0 I J) := by
        intro a e1
        refine p_is_3 d_Mo_greatest_36 (by decide) rfl ?_
        refine p_iload_n d_Mo_greatest_37 rfl ?_
        refine p_iload_n d_Mo_greatest_38 rfl ?_
        refine p_icmple (tgt := 46) d_Mo_greatest_39 (by decide) (fun h39 => ?_) (fun h39 => ?_)
        · refine p_iload_n d_Mo_greatest_46 rfl ?_
          refine p_is_1 d_Mo_greatest_47 (by decide) rfl ?_
          refine p_incN_2_1 d_Mo_greatest_48 (by decide) rfl ?_
          refine p_goto (tgt := 4) d_Mo_greatest_51 (by decide) ?_
          have e2 : ∀ z : Int32, z = grA (fun k => I tc (28 + k)) (k + 1) → WP Γ M_Mo_greatest (0, 0) S0 I J 4 [.ref tc, .int z, .int (nI (k + 1)), .int a] [] (eqQ (some (.int (grT n (I tc)))) S0 I J) := by
            intro z ez
            rw [ez]
            exact ih (k + 1) _ rfl (by omega)
          exact e2 _ (by subst e1; first | (simp [grA, i32_nlt.mpr h39]; done) | (simp [grA, i32_nle.mp h39]; done))
        · refine p_iload_n d_Mo_greatest_42 rfl ?_
          refine p_goto (tgt := 47) d_Mo_greatest_43 (by decide) ?_
          refine p_is_1 d_Mo_greatest_47 (by decide) rfl ?_
          refine p_incN_2_1 d_Mo_greatest_48 (by decide) rfl ?_
          refine p_goto (tgt := 4) d_Mo_greatest_51 (by decide) ?_
          have e2 : ∀ z : Int32, z = grA (fun k => I tc (28 + k)) (k + 1) → WP Γ M_Mo_greatest (0, 0) S0 I J 4 [.ref tc, .int z, .int (nI (k + 1)), .int a] [] (eqQ (some (.int (grT n (I tc)))) S0 I J) := by
            intro z ez
            rw [ez]
            exact ih (k + 1) _ rfl (by omega)
          exact e2 _ (by subst e1; first | (simp [grA, i32_nlt.mpr h39]; done) | (simp [grA, i32_nle.mp h39]; done))
      refine p_iload_n d_Mo_greatest_4 rfl ?_
      refine p_aload_n d_Mo_greatest_5 rfl ?_
      refine p_ic_0 d_Mo_greatest_6 ?_
      refine p_ialdN (0) d_Mo_greatest_7 ht rfl (by omega) rfl ?_
      refine p_eqI h0 ?_
      refine p_icmpgeN (tgt := 54) (k) (n) d_Mo_greatest_8 (by decide) rfl rfl (by omega) (by omega) (fun h8 => ?_) (fun h8 => ?_)
      · exact absurd h8 (by omega)
      · refine p_aload_n d_Mo_greatest_11 rfl ?_
        refine p_bi_28 d_Mo_greatest_12 ?_
        refine p_iload_n d_Mo_greatest_14 rfl ?_
        refine p_iaddN (28) (k) d_Mo_greatest_15 rfl rfl ?_
        refine p_ialdN (28 + k) d_Mo_greatest_16 ht rfl (by omega) rfl ?_
        refine p_ifge (tgt := 30) d_Mo_greatest_17 (by decide) (fun h17 => ?_) (fun h17 => ?_)
        · refine p_aload_n d_Mo_greatest_30 rfl ?_
          refine p_bi_28 d_Mo_greatest_31 ?_
          refine p_iload_n d_Mo_greatest_33 rfl ?_
          refine p_iaddN (28) (k) d_Mo_greatest_34 rfl rfl ?_
          refine p_ialdN (28 + k) d_Mo_greatest_35 ht rfl (by omega) rfl ?_
          exact J36 _ (by first | (simp [ab, h17]; done) | (simp [ab, i32_nle.mp h17]; done))
        · refine p_aload_n d_Mo_greatest_20 rfl ?_
          refine p_bi_28 d_Mo_greatest_21 ?_
          refine p_iload_n d_Mo_greatest_23 rfl ?_
          refine p_iaddN (28) (k) d_Mo_greatest_24 rfl rfl ?_
          refine p_ialdN (28 + k) d_Mo_greatest_25 ht rfl (by omega) rfl ?_
          refine p_ineg d_Mo_greatest_26 ?_
          refine p_goto (tgt := 36) d_Mo_greatest_27 (by decide) ?_
          exact J36 _ (by first | (simp [ab, h17]; done) | (simp [ab, i32_nle.mp h17]; done))
  refine ct_of [.ref tc, .null, .null, .null] (by decide +kernel) rfl (leb rfl) rfl ?_
  refine p_ic_0 d_Mo_greatest_0 ?_
  refine p_is_1 d_Mo_greatest_1 (by decide) rfl ?_
  refine p_ic_0 d_Mo_greatest_2 ?_
  refine p_is_2 d_Mo_greatest_3 (by decide) rfl ?_
  exact LP n 0 .null rfl (by omega)
