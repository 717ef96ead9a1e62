/-! ===== the class sings ===== -/
def chR (x y : Int32) : Prop := (x = NONE ∧ y = -1) ∨ ∃ k, k < 6 ∧ x = nI k ∧ y = nI k
theorem chR_eq {x y : Int32} (h : chR x y) {k : Nat} (hk : k < 6) : x = nI k ↔ nI k = y := by
  rcases h with ⟨rfl, rfl⟩ | ⟨j, hj, rfl, rfl⟩
  · match k, hk with
    | 0, _ => decide
    | 1, _ => decide
    | 2, _ => decide
    | 3, _ => decide
    | 4, _ => decide
    | 5, _ => decide
  · exact eq_comm
/-- church c and singing a hold what row t says -/
def ChR (I : MemI) (c n : Nat) (t : Nat → Int32) : Prop := I c 4 = nI n ∧ ∀ k, k < n → I (c + 1) k = t (4 + k) ∧ I (c + 2) k = t (10 + k) ∧ I (c + 3) k = t (16 + k) ∧ I (c + 4) k = t (22 + k)
def SgR (I : MemI) (a n : Nat) (t : Nat → Int32) : Prop := (∀ k, k < n → I (a + 1) k = t (28 + k)) ∧ I a 1 = t 35 ∧ chR (I a 2) (t 36) ∧ I a 3 = t 37 ∧ I a 4 = t 1 ∧ I a 5 = t 34
theorem ix_of {x : Int32} {n : Nat} (hn : n ≤ 6) (h : 0 ≤ x ∧ x < nI n) : ∃ j, j < n ∧ x = nI j := by
  obtain ⟨j, hj, rfl⟩ := nI_of (i32_nlt.mpr h.1)
  exact ⟨j, (nI_ltI hj (by omega)).mp h.2, rfl⟩
theorem clT_mm (v : Int32) : (if -99 < (if v < 999 then v else 999) then (if v < 999 then v else 999) else -99) = clT v := by
  unfold clT
  have e1 : (-99 : Int32).toInt = -99 := by decide
  have e2 : (999 : Int32).toInt = 999 := by decide
  by_cases h1 : v < -99
  · rw [if_pos h1]
    have h2 : v < 999 := by rw [i32_lt] at h1 ⊢; omega
    rw [if_pos h2, if_neg (by rw [i32_lt] at h1 ⊢; omega)]
  · rw [if_neg h1]
    by_cases h2 : 999 < v
    · have h3 : ¬ v < 999 := by rw [i32_lt] at h2 ⊢; omega
      rw [if_pos h2, if_neg h3, if_pos (by decide)]
    · rw [if_neg h2]
      by_cases h3 : v < 999
      · rw [if_pos h3]
        by_cases h4 : -99 < v
        · rw [if_pos h4]
        · rw [if_neg h4]
          rw [i32_eq]
          rw [i32_lt] at h1 h4
          omega
      · rw [if_neg h3, if_pos (by decide)]
        rw [i32_eq]
        rw [i32_lt] at h2 h3
        omega
theorem c_mean (Γ : Cx) (I : MemI) (J : MemJ) (c n k : Nat) (t : Nat → Int32) (hc : isCh c) (hn : n ≤ 6) (h0 : I c 4 = nI n) (hk : k < n) (hy : ∀ k, k < n → I (c + 1) k = t (4 + k)) (hw : ∀ k, k < n → I (c + 5) k = t (28 + k)) : Ct Γ M_Ch_meanBeside [.ref c, .int (nI k)] S0 I J (eqQ (some (.int (mnT n t k))) S0 I J) := by
  have X : ∀ (s b x : Int32), nI (k + 1) < x → s = smT n t k → b = nI (myT n k) → WP Γ M_Ch_meanBeside (0, 0) S0 I J 9 [.ref c, .int (nI k), .int s, .int b, .int x] [] (eqQ (some (.int (mnT n t k))) S0 I J) := by
    intro s b x hx es eb
    refine p_iload d_Ch_meanBeside_9 rfl ?_
    refine p_iload_n d_Ch_meanBeside_11 rfl ?_
    refine p_ic_1 d_Ch_meanBeside_12 ?_
    refine p_iaddN (k) (1) d_Ch_meanBeside_13 rfl rfl ?_
    refine p_icmpgt (tgt := 53) d_Ch_meanBeside_14 (by decide) (fun h14 => ?_) (fun h14 => ?_)
    · refine p_iload_n d_Ch_meanBeside_53 rfl ?_
      refine p_iload_n d_Ch_meanBeside_54 rfl ?_
      refine q_SN1 d_Ch_meanBeside_55 nl_Ch_92 sb_Bo_divided ⟨leb rfl, leb rfl⟩ (c_divided Γ S0 I J s b) rfl rfl rfl ?_
      refine p_iret d_Ch_meanBeside_58 rfl rfl ?_
      refine ⟨?_, rfl, rfl, rfl⟩
      have hb : b = 0 ↔ myT n k = 0 := by
        rw [eb]
        exact nI_eq (b := 0) (by unfold myT; split <;> split <;> omega) (by omega)
      unfold dv mnT
      rw [← es, ← eb]
      by_cases q : b = 0
      · rw [if_pos q, if_pos (hb.mp q)]
      · rw [if_neg q, if_neg (fun z => q (hb.mpr z))]
    · exact absurd hx h14
  have Y : ∀ (s b x : Int32), ¬ nI (k + 1) < x → (∀ j, j < n → x = nI j → WP Γ M_Ch_meanBeside (0, 0) S0 I J 9 [.ref c, .int (nI k), .int (s + (t (28 + j) + ab (t (4 + j) - t (4 + k)) / 6)), .int (b + 1), .int (x + 2)] [] (eqQ (some (.int (mnT n t k))) S0 I J)) → (¬ (0 ≤ x ∧ x < nI n) → WP Γ M_Ch_meanBeside (0, 0) S0 I J 9 [.ref c, .int (nI k), .int s, .int b, .int (x + 2)] [] (eqQ (some (.int (mnT n t k))) S0 I J)) → WP Γ M_Ch_meanBeside (0, 0) S0 I J 9 [.ref c, .int (nI k), .int s, .int b, .int x] [] (eqQ (some (.int (mnT n t k))) S0 I J) := by
    intro s b x hx k1 k2
    refine p_iload d_Ch_meanBeside_9 rfl ?_
    refine p_iload_n d_Ch_meanBeside_11 rfl ?_
    refine p_ic_1 d_Ch_meanBeside_12 ?_
    refine p_iaddN (k) (1) d_Ch_meanBeside_13 rfl rfl ?_
    refine p_icmpgt (tgt := 53) d_Ch_meanBeside_14 (by decide) (fun h14 => ?_) (fun h14 => ?_)
    · exact absurd h14 hx
    · refine p_aload_n d_Ch_meanBeside_17 rfl ?_
      refine p_iload d_Ch_meanBeside_18 rfl ?_
      refine q_V1 d_Ch_meanBeside_20 ml_Ch_53 vb_Ch_has hc.1 ⟨leb rfl, leb rfl⟩ (c_has Γ I J c hc x) rfl rfl rfl ?_
      refine p_ifeqB (tgt := 47) d_Ch_meanBeside_23 (by decide) (fun h23 => ?_) (fun h23 => ?_)
      · rw [h0] at h23
        refine p_inc_4_2 d_Ch_meanBeside_47 (by decide) rfl ?_
        refine p_goto (tgt := 9) d_Ch_meanBeside_50 (by decide) ?_
        exact k2 h23
      · rw [h0] at h23
        obtain ⟨j, hj, rfl⟩ := ix_of hn h23
        refine p_iload_n d_Ch_meanBeside_26 rfl ?_
        refine p_aload_n d_Ch_meanBeside_27 rfl ?_
        refine p_getR d_Ch_meanBeside_28 fl_Ch_24 hc.1 rfl hc.2.1.2.2.2.2 ?_
        refine p_iload d_Ch_meanBeside_31 rfl ?_
        refine p_ialdN (j) d_Ch_meanBeside_33 hc.2.2.2.2.2.2 rfl (by omega) rfl ?_
        refine p_aload_n d_Ch_meanBeside_34 rfl ?_
        refine p_iload d_Ch_meanBeside_35 rfl ?_
        refine p_iload_n d_Ch_meanBeside_37 rfl ?_
        refine q_V1 d_Ch_meanBeside_38 ml_Ch_101 vb_Ch_between hc.1 ⟨leb rfl, leb rfl⟩ (c_between Γ I J c j k hc (by omega) (by omega)) rfl rfl rfl ?_
        rw [hy j hj, hy k hk, hw j hj]
        refine p_iadd d_Ch_meanBeside_41 ?_
        refine p_iadd d_Ch_meanBeside_42 ?_
        refine p_is_2 d_Ch_meanBeside_43 (by decide) rfl ?_
        refine p_inc_3_1 d_Ch_meanBeside_44 (by decide) rfl ?_
        refine p_incN_4_2 d_Ch_meanBeside_47 (by decide) rfl ?_
        refine p_goto (tgt := 9) d_Ch_meanBeside_50 (by decide) ?_
        have z := k1 j hj rfl
        rw [show nI j + 2 = nI (j + 2) from nI_add j 2] at z
        exact z
  have e2 : ∀ (a : Nat), nI a + 2 = nI (a + 2) := fun a => nI_add a 2
  have Z : ∀ (s b x : Int32), x = nI (k + 1) → s = s1T t k → b = nI (if 0 < k then 1 else 0) → WP Γ M_Ch_meanBeside (0, 0) S0 I J 9 [.ref c, .int (nI k), .int s, .int b, .int x] [] (eqQ (some (.int (mnT n t k))) S0 I J) := by
    intro s b x ex es eb
    refine Y s b x (by rw [ex, nI_ltI (by omega) (by omega)]; omega) (fun j hj exj => ?_) (fun h => ?_)
    · have ej : j = k + 1 := (nI_eq (by omega) (by omega)).mp (exj.symm.trans ex)
      subst ej
      refine X _ _ _ (by rw [ex, e2, nI_ltI (by omega) (by omega)]; omega) ?_ ?_
      · simp only [smT, hj, if_true, es, frT]
        rw [ab_neg]
      · simp only [myT, hj, if_true, eb]
        exact nI_1 _
    · have hq : ¬ k + 1 < n := fun q => h ⟨by rw [ex]; exact nI_pos' (by omega), by rw [ex, nI_ltI (by omega) (by omega)]; exact q⟩
      refine X _ _ _ (by rw [ex, e2, nI_ltI (by omega) (by omega)]; omega) ?_ ?_
      · simp only [smT, hq, if_false, es]
      · simp only [myT, hq, if_false, eb]
        rfl
  refine ct_of [.ref c, .int (nI k), .null, .null, .null] (by decide +kernel) rfl (leb rfl) rfl ?_
  refine p_ic_0 d_Ch_meanBeside_0 ?_
  refine p_is_2 d_Ch_meanBeside_1 (by decide) rfl ?_
  refine p_ic_0 d_Ch_meanBeside_2 ?_
  refine p_is_3 d_Ch_meanBeside_3 (by decide) rfl ?_
  refine p_iload_n d_Ch_meanBeside_4 rfl ?_
  refine p_ic_1 d_Ch_meanBeside_5 ?_
  refine p_isub d_Ch_meanBeside_6 ?_
  refine p_is_4 d_Ch_meanBeside_7 (by decide) rfl ?_
  rcases Nat.eq_zero_or_pos k with q | q
  · refine Y _ _ _ ?_ (fun j hj exj => ?_) (fun _ => ?_)
    · rw [q]; decide
    · exfalso
      rw [q] at exj
      have := congrArg Int32.toInt exj
      rw [nI_toInt (by omega)] at this
      have z : (nI 0 - 1).toInt = -1 := by decide
      omega
    · refine Z _ _ _ (by rw [q]; decide) (by simp [s1T, q]) (by simp [q, nI_0])
  · have ek : nI k - 1 = nI (k - 1) := by rw [show (1 : Int32) = nI 1 from rfl, pk_sub (by omega)]
    rw [ek]
    refine Y _ _ _ (by rw [nI_ltI (by omega) (by omega)]; omega) (fun j hj exj => ?_) (fun h => absurd ⟨nI_pos' (by omega), (nI_ltI (by omega) (by omega)).mpr (by omega)⟩ h)
    have ej : j = k - 1 := (nI_eq (by omega) (by omega)).mp exj.symm
    subst ej
    refine Z _ _ _ (by rw [e2]; congr 1; omega) ?_ ?_
    · simp only [s1T, q, if_true, frT]
      rw [ab_neg]
    · simp only [q, if_true]
      rfl
theorem c_late (Γ : Cx) (I : MemI) (J : MemJ) (c a n k : Nat) (t : Nat → Int32) (hc : isCh c) (ha : isSi a) (hn : n ≤ 6) (hk : k < n) (hC : ChR I c n t) (hw : ∀ k, k < n → I (c + 5) k = t (28 + k)) (h1 : I a 1 = t 35) (h3 : I a 3 = t 37) (hz : ¬ (t (10 + k) + nrT n t k + 5 = 0)) : Ct Γ M_Ch_lateBehindLine [.ref c, .int (nI k), .ref a] S0 I J (eqQ (some (.int (ltT n t k))) S0 I J) := by
  obtain ⟨h0, hr⟩ := hC
  obtain ⟨r1, r2, r3, r4⟩ := hr k hk
  have J18 : ∀ (v : Int32), v = nrT n t k → WP Γ M_Ch_lateBehindLine (0, 0) S0 I J 18 [.ref c, .int (nI k), .ref a, .null, .null, .null] [.int v] (eqQ (some (.int (ltT n t k))) S0 I J) := by
    intro v ev
    refine p_is_3 d_Ch_lateBehindLine_18 (by decide) rfl ?_
    refine p_aload_n d_Ch_lateBehindLine_19 rfl ?_
    refine p_getR d_Ch_lateBehindLine_20 fl_Ch_15 hc.1 rfl hc.2.1.2.1 ?_
    refine p_iload_n d_Ch_lateBehindLine_23 rfl ?_
    refine p_ialdN (k) d_Ch_lateBehindLine_24 hc.2.2.2.1 rfl (by omega) rfl ?_
    refine p_aload_n d_Ch_lateBehindLine_25 rfl ?_
    refine p_iload_n d_Ch_lateBehindLine_26 rfl ?_
    refine q_V1 d_Ch_lateBehindLine_27 ml_Ch_83 vb_Ch_lag hc.1 ⟨leb rfl, leb rfl⟩ (c_lag Γ I J c k hc (by omega)) rfl rfl rfl ?_
    refine p_aload_n d_Ch_lateBehindLine_30 rfl ?_
    refine p_getI d_Ch_lateBehindLine_31 fl_Ch_86 ha.1 (Or.inl rfl) ?_
    refine p_isub d_Ch_lateBehindLine_34 ?_
    refine p_imul d_Ch_lateBehindLine_35 ?_
    refine p_iload_n d_Ch_lateBehindLine_36 rfl ?_
    refine p_aload_n d_Ch_lateBehindLine_37 rfl ?_
    refine p_iload_n d_Ch_lateBehindLine_38 rfl ?_
    refine q_V1 d_Ch_lateBehindLine_39 ml_Ch_89 vb_Ch_meanBeside hc.1 ⟨leb rfl, leb rfl⟩ (c_mean Γ I J c n k t hc hn h0 hk (fun k hk => (hr k hk).1) hw) rfl rfl rfl ?_
    refine p_imul d_Ch_lateBehindLine_42 ?_
    refine p_iadd d_Ch_lateBehindLine_43 ?_
    refine p_ic_5 d_Ch_lateBehindLine_44 ?_
    refine p_aload_n d_Ch_lateBehindLine_45 rfl ?_
    refine p_getR d_Ch_lateBehindLine_46 fl_Ch_24 hc.1 rfl hc.2.1.2.2.2.2 ?_
    refine p_iload_n d_Ch_lateBehindLine_49 rfl ?_
    refine p_ialdN (k) d_Ch_lateBehindLine_50 hc.2.2.2.2.2.2 rfl (by omega) rfl ?_
    refine p_imul d_Ch_lateBehindLine_51 ?_
    refine p_iadd d_Ch_lateBehindLine_52 ?_
    refine p_is_4 d_Ch_lateBehindLine_53 (by decide) rfl ?_
    refine p_iload d_Ch_lateBehindLine_55 rfl ?_
    refine p_aload_n d_Ch_lateBehindLine_57 rfl ?_
    refine p_getR d_Ch_lateBehindLine_58 fl_Ch_15 hc.1 rfl hc.2.1.2.1 ?_
    refine p_iload_n d_Ch_lateBehindLine_61 rfl ?_
    refine p_ialdN (k) d_Ch_lateBehindLine_62 hc.2.2.2.1 rfl (by omega) rfl ?_
    refine p_iload_n d_Ch_lateBehindLine_63 rfl ?_
    refine p_iadd d_Ch_lateBehindLine_64 ?_
    refine p_ic_5 d_Ch_lateBehindLine_65 ?_
    refine p_iadd d_Ch_lateBehindLine_66 ?_
    refine q_SN1 d_Ch_lateBehindLine_67 nl_Ch_92 sb_Bo_divided ⟨leb rfl, leb rfl⟩ (c_divided Γ S0 I J _ _) rfl rfl rfl ?_
    refine p_aload_n d_Ch_lateBehindLine_70 rfl ?_
    refine p_iload_n d_Ch_lateBehindLine_71 rfl ?_
    refine q_V1 d_Ch_lateBehindLine_72 ml_Ch_95 vb_Si_isKnower ha.1 ⟨leb rfl, leb rfl⟩ (c_isKnower Γ I J a ha (nI k)) rfl rfl rfl ?_
    refine p_ifeqB (tgt := 82) d_Ch_lateBehindLine_75 (by decide) (fun h75 => ?_) (fun h75 => ?_)
    · refine p_aload_n d_Ch_lateBehindLine_82 rfl ?_
      refine p_getR d_Ch_lateBehindLine_83 fl_Ch_21 hc.1 rfl hc.2.1.2.2.2.1 ?_
      refine p_iload_n d_Ch_lateBehindLine_86 rfl ?_
      refine p_ialdN (k) d_Ch_lateBehindLine_87 hc.2.2.2.2.2.1 rfl (by omega) rfl ?_
      refine p_iadd d_Ch_lateBehindLine_88 ?_
      refine p_is_5 d_Ch_lateBehindLine_89 (by decide) rfl ?_
      refine p_bi_m99 d_Ch_lateBehindLine_91 ?_
      refine p_si_999 d_Ch_lateBehindLine_93 ?_
      refine p_iload d_Ch_lateBehindLine_96 rfl ?_
      refine p_min d_Ch_lateBehindLine_98 ml_Ch_79 (leb rfl) (leb rfl) ?_
      refine p_max d_Ch_lateBehindLine_101 ml_Ch_98 (leb rfl) (leb rfl) ?_
      refine p_iret d_Ch_lateBehindLine_104 rfl rfl ?_
      refine ⟨?_, rfl, rfl, rfl⟩
      rw [r2, r1, h1, hw k hk, ev, dv, if_neg hz, clT_mm]
      first | rw [r4] | skip
      rw [h3] at h75
      simp only [ltT, vT, h75, if_true, if_false]
    · refine p_ic_0 d_Ch_lateBehindLine_78 ?_
      refine p_goto (tgt := 88) d_Ch_lateBehindLine_79 (by decide) ?_
      refine p_iadd d_Ch_lateBehindLine_88 ?_
      refine p_is_5 d_Ch_lateBehindLine_89 (by decide) rfl ?_
      refine p_bi_m99 d_Ch_lateBehindLine_91 ?_
      refine p_si_999 d_Ch_lateBehindLine_93 ?_
      refine p_iload d_Ch_lateBehindLine_96 rfl ?_
      refine p_min d_Ch_lateBehindLine_98 ml_Ch_79 (leb rfl) (leb rfl) ?_
      refine p_max d_Ch_lateBehindLine_101 ml_Ch_98 (leb rfl) (leb rfl) ?_
      refine p_iret d_Ch_lateBehindLine_104 rfl rfl ?_
      refine ⟨?_, rfl, rfl, rfl⟩
      rw [r2, r1, h1, hw k hk, ev, dv, if_neg hz, clT_mm]
      first | rw [r4] | skip
      rw [h3] at h75
      simp only [ltT, vT, h75, if_true, if_false]
  refine ct_of [.ref c, .int (nI k), .ref a, .null, .null, .null] (by decide +kernel) rfl (leb rfl) rfl ?_
  refine p_aload_n d_Ch_lateBehindLine_0 rfl ?_
  refine p_getI d_Ch_lateBehindLine_1 fl_Ch_30 hc.1 (Or.inl rfl) ?_
  refine p_eqI h0 ?_
  refine p_ic_1 d_Ch_lateBehindLine_4 ?_
  refine p_icmpneN (tgt := 12) (n) (1) d_Ch_lateBehindLine_5 (by decide) rfl rfl (by omega) (by omega) (fun h5 => ?_) (fun h5 => ?_)
  · refine p_aload_n d_Ch_lateBehindLine_12 rfl ?_
    refine p_getR d_Ch_lateBehindLine_13 fl_Ch_18 hc.1 rfl hc.2.1.2.2.1 ?_
    refine p_iload_n d_Ch_lateBehindLine_16 rfl ?_
    refine p_ialdN (k) d_Ch_lateBehindLine_17 hc.2.2.2.2.1 rfl (by omega) rfl ?_
    exact J18 _ (by first | (rw [r3]; simp [nrT, myT, show k + 1 < n ∨ 0 < k by omega]; intro q1 q2; omega) | (simp [nrT, myT, show ¬ 0 < k by omega, show ¬ k + 1 < n by omega]; done))
  · refine p_ic_0 d_Ch_lateBehindLine_8 ?_
    refine p_goto (tgt := 18) d_Ch_lateBehindLine_9 (by decide) ?_
    exact J18 _ (by first | (rw [r3]; simp [nrT, myT, show k + 1 < n ∨ 0 < k by omega]; intro q1 q2; omega) | (simp [nrT, myT, show ¬ 0 < k by omega, show ¬ k + 1 < n by omega]; done))
def mnC (p : Int32) : Int32 := if p < 999 then p else 999
theorem cap_mn (p : Int32) : (if p < 9999 then p else 9999) = capT p := by
  unfold capT
  have e2 : (9999 : Int32).toInt = 9999 := by decide
  by_cases h1 : p < 9999
  · rw [if_pos h1, if_neg (by rw [i32_lt] at h1 ⊢; omega)]
  · rw [if_neg h1]
    by_cases h2 : 9999 < p
    · rw [if_pos h2]
    · rw [if_neg h2]
      rw [i32_eq]
      rw [i32_lt] at h1 h2
      omega
theorem sumN_c {f g : Nat → Int32} : ∀ {n : Nat}, (∀ k, k < n → f k = g k) → sumN f n = sumN g n
  | 0, _ => rfl
  | n + 1, h => by
    show sumN f n + f n = sumN g n + g n
    rw [sumN_c (fun k hk => h k (by omega)), h n (by omega)]
theorem w0_dv {n : Nat} {t : Nat → Int32} (hn : n ≤ 6) : w0T n t = t 1 * dv (sumN (thT n t) n) (nI n) / 10 := by
  unfold w0T dv
  by_cases q : n = 0
  · subst q
    rw [if_pos rfl, if_pos (show nI 0 = 0 from rfl)]
    simp
  · rw [if_neg q, if_neg (nI_ne0 (by omega) (by omega))]
/-- the organist waits by w -/
def wfQ (a n : Nat) (w : Int32) (I : MemI) (J : MemJ) : PQ := fun r S' I' J' => r = none ∧ S' = S0 ∧ J' = J ∧ (∀ k, k < n → I' (a + 1) k = I (a + 1) k - w) ∧ I' a 5 = capT (I a 5 + w) ∧ (∀ y, y ≠ 5 → I' a y = I a y) ∧ ∀ x, x ≠ a → x ≠ a + 1 → I' x = I x
theorem c_waitFor (Γ : Cx) (I : MemI) (J : MemJ) (c a n : Nat) (w0 w : Int32) (hc : isCh c) (ha : isSi a) (hca : c + 5 < a) (hn : n ≤ 6) (h0 : I c 4 = nI n) (hp : ¬ 9999 < I a 5) (ew0 : w0 = I a 4 * dv (sumN (fun k => I (a + 1) k) n) (nI n) / 10) (ew : w = if 0 < w0 then w0 else 0) : Ct Γ M_Ch_waitFor [.ref c, .ref a] S0 I J (wfQ a n w I J) := by
  have L68 : ∀ (f k : Nat) (s : Int32) (I1 : MemI), 0 < w0 → k + f = n → (∀ j, I1 (a + 1) j = if j < k then I (a + 1) j - w0 else I (a + 1) j) → I1 a 5 = capT (I a 5 + w0) → (∀ y, y ≠ 5 → I1 a y = I a y) → (∀ x, x ≠ a → x ≠ a + 1 → I1 x = I x) → WP Γ M_Ch_waitFor (0, 0) S0 I1 J 68 [.ref c, .ref a, .int s, .int w0, .int (nI k)] [] (wfQ a n w I J) := by
    intro f
    induction f with
    | zero =>
      intro k s I1 hw0 hkf hl h5 hy hx
      refine p_iload d_Ch_waitFor_68 rfl ?_
      refine p_aload_n d_Ch_waitFor_70 rfl ?_
      refine p_getI d_Ch_waitFor_71 fl_Ch_30 hc.1 (Or.inl rfl) ?_
      refine p_eqI (y := nI n) (by rw [hx c (by omega) (by omega)]; exact h0) ?_
      refine p_icmpgeN (tgt := 94) (k) (n) d_Ch_waitFor_74 (by decide) rfl rfl (by omega) (by omega) (fun h74 => ?_) (fun h74 => ?_)
      · refine p_ret d_Ch_waitFor_94 rfl ?_
        refine ⟨rfl, rfl, rfl, fun j hj => ?_, ?_, hy, hx⟩
        · rw [hl j, if_pos (by omega), ew, if_pos hw0]
        · rw [h5, ew, if_pos hw0]
      · exact absurd h74 (by omega)
    | succ f ih =>
      intro k s I1 hw0 hkf hl h5 hy hx
      refine p_iload d_Ch_waitFor_68 rfl ?_
      refine p_aload_n d_Ch_waitFor_70 rfl ?_
      refine p_getI d_Ch_waitFor_71 fl_Ch_30 hc.1 (Or.inl rfl) ?_
      refine p_eqI (y := nI n) (by rw [hx c (by omega) (by omega)]; exact h0) ?_
      refine p_icmpgeN (tgt := 94) (k) (n) d_Ch_waitFor_74 (by decide) rfl rfl (by omega) (by omega) (fun h74 => ?_) (fun h74 => ?_)
      · exact absurd h74 (by omega)
      · refine p_aload_n d_Ch_waitFor_77 rfl ?_
        refine p_getR d_Ch_waitFor_78 fl_Ch_61 ha.1 rfl ha.2.1 ?_
        refine p_iload d_Ch_waitFor_81 rfl ?_
        refine p_dup2 d_Ch_waitFor_83 rfl rfl ?_
        refine p_ialdN (k) d_Ch_waitFor_84 ha.2.2 rfl (by omega) rfl ?_
        refine p_iload_n d_Ch_waitFor_85 rfl ?_
        refine p_isub d_Ch_waitFor_86 ?_
        refine p_iastN (k) d_Ch_waitFor_87 ha.2.2 rfl (by omega) rfl ?_
        refine p_incN_4_1 d_Ch_waitFor_88 (by decide) rfl ?_
        refine p_goto (tgt := 68) d_Ch_waitFor_91 (by decide) ?_
        refine ih (k + 1) s _ hw0 (by omega) (fun j => ?_) ?_ (fun y q => ?_) (fun x q1 q2 => ?_)
        · simp only [up2, true_and]
          by_cases q : j = k
          · subst q
            rw [if_pos rfl, if_pos (by omega), hl j, if_neg (by omega)]
          · rw [if_neg q, hl j]
            by_cases q2 : j < k
            · rw [if_pos q2, if_pos (by omega)]
            · rw [if_neg q2, if_neg (by omega)]
        · simp only [up2]
          rw [if_neg (by omega), h5]
        · simp only [up2]
          rw [if_neg (by omega), hy y q]
        · funext y
          simp only [up2]
          rw [if_neg (fun z => q2 z.1), hx x q1 q2]
  have L4 : ∀ (f k : Nat), k + f = n → WP Γ M_Ch_waitFor (0, 0) S0 I J 4 [.ref c, .ref a, .int (sumN (fun k => I (a + 1) k) k), .int (nI k), .null] [] (wfQ a n w I J) := by
    intro f
    induction f with
    | zero =>
      intro k hkf
      obtain rfl : k = n := by omega
      refine p_iload_n d_Ch_waitFor_4 rfl ?_
      refine p_aload_n d_Ch_waitFor_5 rfl ?_
      refine p_getI d_Ch_waitFor_6 fl_Ch_30 hc.1 (Or.inl rfl) ?_
      refine p_eqI h0 ?_
      refine p_icmpgeN (tgt := 27) (k) (k) d_Ch_waitFor_9 (by decide) rfl rfl (by omega) (by omega) (fun h9 => ?_) (fun h9 => ?_)
      · refine p_aload_n d_Ch_waitFor_27 rfl ?_
        refine p_getI d_Ch_waitFor_28 fl_Ch_104 ha.1 (Or.inl rfl) ?_
        refine p_iload_n d_Ch_waitFor_31 rfl ?_
        refine p_aload_n d_Ch_waitFor_32 rfl ?_
        refine p_getI d_Ch_waitFor_33 fl_Ch_30 hc.1 (Or.inl rfl) ?_
        refine p_eqI h0 ?_
        refine q_SN1 d_Ch_waitFor_36 nl_Ch_92 sb_Bo_divided ⟨leb rfl, leb rfl⟩ (c_divided Γ S0 I J _ _) rfl rfl rfl ?_
        refine p_imul d_Ch_waitFor_39 ?_
        refine p_bi_10 d_Ch_waitFor_40 ?_
        refine p_idiv d_Ch_waitFor_42 (by decide) ?_
        refine p_eqI ew0.symm ?_
        refine p_is_3 d_Ch_waitFor_43 (by decide) rfl ?_
        refine p_iload_n d_Ch_waitFor_44 rfl ?_
        refine p_ifgt (tgt := 49) d_Ch_waitFor_45 (by decide) (fun h45 => ?_) (fun h45 => ?_)
        · refine p_aload_n d_Ch_waitFor_49 rfl ?_
          refine p_si_9999 d_Ch_waitFor_50 ?_
          refine p_aload_n d_Ch_waitFor_53 rfl ?_
          refine p_getI d_Ch_waitFor_54 fl_Ch_107 ha.1 (Or.inl rfl) ?_
          refine p_iload_n d_Ch_waitFor_57 rfl ?_
          refine p_iadd d_Ch_waitFor_58 ?_
          refine p_min d_Ch_waitFor_59 ml_Ch_79 (leb rfl) (leb rfl) ?_
          refine p_putI d_Ch_waitFor_62 fl_Ch_107 ha.1 rfl nf_3_5 ?_
          rw [cap_mn]
          refine p_ic_0 d_Ch_waitFor_65 ?_
          refine p_is_4 d_Ch_waitFor_66 (by decide) rfl ?_
          refine L68 k 0 _ _ h45 (by omega) (fun j => ?_) ?_ (fun y q => ?_) (fun x q1 q2 => ?_)
          · simp [up2]
          · simp [up2]
          · simp [up2, q]
          · funext y
            simp [up2, q1]
        · refine p_ret d_Ch_waitFor_48 rfl ?_
          refine ⟨rfl, rfl, rfl, fun j hj => ?_, ?_, fun y _ => rfl, fun x _ _ => rfl⟩
          · rw [ew, if_neg h45]
            simp
          · rw [ew, if_neg h45]
            simp [capT, hp]
      · exact absurd (Nat.le_refl _) h9
    | succ f ih =>
      intro k hkf
      refine p_iload_n d_Ch_waitFor_4 rfl ?_
      refine p_aload_n d_Ch_waitFor_5 rfl ?_
      refine p_getI d_Ch_waitFor_6 fl_Ch_30 hc.1 (Or.inl rfl) ?_
      refine p_eqI h0 ?_
      refine p_icmpgeN (tgt := 27) (k) (n) d_Ch_waitFor_9 (by decide) rfl rfl (by omega) (by omega) (fun h9 => ?_) (fun h9 => ?_)
      · exact absurd h9 (by omega)
      · refine p_iload_n d_Ch_waitFor_12 rfl ?_
        refine p_aload_n d_Ch_waitFor_13 rfl ?_
        refine p_getR d_Ch_waitFor_14 fl_Ch_61 ha.1 rfl ha.2.1 ?_
        refine p_iload_n d_Ch_waitFor_17 rfl ?_
        refine p_ialdN (k) d_Ch_waitFor_18 ha.2.2 rfl (by omega) rfl ?_
        refine p_iadd d_Ch_waitFor_19 ?_
        refine p_is_2 d_Ch_waitFor_20 (by decide) rfl ?_
        refine p_incN_3_1 d_Ch_waitFor_21 (by decide) rfl ?_
        refine p_goto (tgt := 4) d_Ch_waitFor_24 (by decide) ?_
        exact ih (k + 1) (by omega)
  refine ct_of [.ref c, .ref a, .null, .null, .null] (by decide +kernel) rfl (leb rfl) rfl ?_
  refine p_ic_0 d_Ch_waitFor_0 ?_
  refine p_is_2 d_Ch_waitFor_1 (by decide) rfl ?_
  refine p_ic_0 d_Ch_waitFor_2 ?_
  refine p_is_3 d_Ch_waitFor_3 (by decide) rfl ?_
  exact L4 n 0 (by omega)
def okT (n : Nat) (t : Nat → Int32) : Prop := n ≤ 6 ∧ okD n t ∧ ¬ 9999 < t 34
theorem capT_le (p : Int32) : ¬ 9999 < capT p := by
  unfold capT
  by_cases h : 9999 < p
  · rw [if_pos h]; decide
  · rw [if_neg h]; exact h
theorem okT.sing {n : Nat} {t : Nat → Int32} (h : okT n t) : okT n (singT n t) := by
  obtain ⟨h1, h2, h3⟩ := h
  refine ⟨h1, fun k hk => ?_, ?_⟩
  · have e : nrT n (singT n t) k = nrT n t k := by
      unfold nrT
      rw [singT_off (by omega) (by omega) (by omega)]
    rw [e, singT_off (by omega) (by omega) (by omega)]
    exact h2 k hk
  · have e : singT n t 34 = capT (t 34 + wT n t) := by
      unfold singT
      rw [if_neg (by omega), if_pos rfl]
    rw [e]
    exact capT_le _
/-- a line is sung -/
def slQ (c a n : Nat) (t : Nat → Int32) (x6 : Int32) (I : MemI) (J : MemJ) : PQ := fun r S' I' J' => r = none ∧ S' = S0 ∧ J' = J ∧ (∀ k, k < n → I' (a + 1) k = t (28 + k)) ∧ I' a 5 = t 34 ∧ I' a 6 = x6 ∧ (∀ y, y ≠ 5 → y ≠ 6 → I' a y = I a y) ∧ ∀ x, x ≠ a → x ≠ a + 1 → x ≠ c + 5 → I' x = I x
theorem ChR.mv {I I' : MemI} {c n : Nat} {t : Nat → Int32} (h : ChR I c n t) (h0 : I' c = I c) (h1 : I' (c + 1) = I (c + 1)) (h2 : I' (c + 2) = I (c + 2)) (h3 : I' (c + 3) = I (c + 3)) (h4 : I' (c + 4) = I (c + 4)) : ChR I' c n t := by
  unfold ChR
  rw [h0, h1, h2, h3, h4]
  exact h
theorem c_singLine (Γ : Cx) (I : MemI) (J : MemJ) (c a n : Nat) (t : Nat → Int32) (hc : isCh c) (ha : isSi a) (hca : c + 5 < a) (hC : ChR I c n t) (hG : SgR I a n t) (hok : okT n t) : Ct Γ M_Ch_singLine [.ref c, .ref a] S0 I J (slQ c a n (singT n t) (mnC (I a 6 + 1)) I J) := by
  obtain ⟨hn, hz, hp⟩ := hok
  obtain ⟨g0, g1, g2, g3, g4, g5⟩ := hG
  have h0 := hC.1
  have L30 : ∀ (f k : Nat) (I1 : MemI), k + f = n → (∀ j, j < n → I1 (c + 5) j = t (28 + j)) → (∀ j, j < k → I1 (a + 1) j = thT n t j) → (∀ x, x ≠ a + 1 → x ≠ c + 5 → I1 x = I x) → WP Γ M_Ch_singLine (0, 0) S0 I1 J 30 [.ref c, .ref a, .int (nI k)] [] (slQ c a n (singT n t) (mnC (I a 6 + 1)) I J) := by
    intro f
    induction f with
    | zero =>
      intro k I1 hkf hw hl hx
      obtain rfl : k = n := by omega
      have ea : I1 a = I a := hx a (by omega) (by omega)
      have ec : I1 c = I c := hx c (by omega) (by omega)
      have es : sumN (fun j => I1 (a + 1) j) k = sumN (thT k t) k := sumN_c hl
      refine p_iload_n d_Ch_singLine_30 rfl ?_
      refine p_aload_n d_Ch_singLine_31 rfl ?_
      refine p_getI d_Ch_singLine_32 fl_Ch_30 hc.1 (Or.inl rfl) ?_
      refine p_eqI (y := nI k) (by rw [ec]; exact h0) ?_
      refine p_icmpgeN (tgt := 68) (k) (k) d_Ch_singLine_35 (by decide) rfl rfl (by omega) (by omega) (fun h35 => ?_) (fun h35 => ?_)
      · refine p_aload_n d_Ch_singLine_68 rfl ?_
        refine p_aload_n d_Ch_singLine_69 rfl ?_
        refine q_V d_Ch_singLine_70 ml_Ch_73 vb_Ch_waitFor hc.1 ⟨leb rfl, leb rfl⟩ (c_waitFor Γ I1 J c a k (w0T k t) (wT k t) hc ha hca hn (by rw [ec]; exact h0) (by rw [ea, g5]; exact hp) (by rw [es, ea, g4]; exact w0_dv hn) rfl) rfl rfl rfl (fun r S1 I1 J1 hQ => ?_)
        obtain ⟨rfl, rfl, rfl, w1, w2, w3, w4⟩ := hQ
        refine p_aload_n d_Ch_singLine_73 rfl ?_
        refine p_si_999 d_Ch_singLine_74 ?_
        refine p_aload_n d_Ch_singLine_77 rfl ?_
        refine p_getI d_Ch_singLine_78 fl_Ch_76 ha.1 (Or.inl rfl) ?_
        refine p_ic_1 d_Ch_singLine_81 ?_
        refine p_iadd d_Ch_singLine_82 ?_
        refine p_min d_Ch_singLine_83 ml_Ch_79 (leb rfl) (leb rfl) ?_
        refine p_putI d_Ch_singLine_86 fl_Ch_76 ha.1 rfl nf_3_6 ?_
        refine p_ret d_Ch_singLine_89 rfl ?_
        refine ⟨rfl, rfl, rfl, fun j hj => ?_, ?_, ?_, fun y q1 q2 => ?_, fun x q1 q2 q3 => ?_⟩
        · simp only [up2]
          rw [if_neg (by omega), w1 j hj, hl j hj]
          unfold singT
          rw [if_pos (by omega), show 28 + j - 28 = j by omega]
        · simp only [up2]
          rw [if_neg (by omega), w2, ea, g5]
          unfold singT
          rw [if_neg (by omega), if_pos rfl]
        · simp only [up2, true_and, if_true]
          rw [w3 6 (by omega), ea]
          rfl
        · simp only [up2]
          rw [if_neg (by omega), w3 y q1, ea]
        · funext y
          simp only [up2]
          rw [if_neg (fun z => q1 z.1), w4 x q1 q2, hx x q2 q3]
      · exact absurd (Nat.le_refl _) h35
    | succ f ih =>
      intro k I1 hkf hw hl hx
      have ea : I1 a = I a := hx a (by omega) (by omega)
      have ec : I1 c = I c := hx c (by omega) (by omega)
      have J61 : ∀ v : Int32, v = thT n t k → WP Γ M_Ch_singLine (0, 0) S0 I1 J 61 [.ref c, .ref a, .int (nI k)] [.int v, .int (nI k), .ref (a + 1)] (slQ c a n (singT n t) (mnC (I a 6 + 1)) I J) := by
        intro v ev
        refine p_iastN (k) d_Ch_singLine_61 ha.2.2 rfl (by omega) rfl ?_
        refine p_incN_2_1 d_Ch_singLine_62 (by decide) rfl ?_
        refine p_goto (tgt := 30) d_Ch_singLine_65 (by decide) ?_
        refine ih (k + 1) _ (by omega) (fun j hj => ?_) (fun j hj => ?_) (fun x q1 q2 => ?_)
        · simp only [up2]
          rw [if_neg (by omega), hw j hj]
        · simp only [up2, true_and]
          by_cases q : j = k
          · subst q
            rw [if_pos rfl, ev]
          · rw [if_neg q, hl j (by omega)]
        · funext y
          simp only [up2]
          rw [if_neg (fun z => q1 z.1), hx x q1 q2]
      refine p_iload_n d_Ch_singLine_30 rfl ?_
      refine p_aload_n d_Ch_singLine_31 rfl ?_
      refine p_getI d_Ch_singLine_32 fl_Ch_30 hc.1 (Or.inl rfl) ?_
      refine p_eqI (y := nI n) (by rw [ec]; exact h0) ?_
      refine p_icmpgeN (tgt := 68) (k) (n) d_Ch_singLine_35 (by decide) rfl rfl (by omega) (by omega) (fun h35 => ?_) (fun h35 => ?_)
      · exact absurd h35 (by omega)
      · refine p_aload_n d_Ch_singLine_38 rfl ?_
        refine p_getR d_Ch_singLine_39 fl_Ch_61 ha.1 rfl ha.2.1 ?_
        refine p_iload_n d_Ch_singLine_42 rfl ?_
        refine p_aload_n d_Ch_singLine_43 rfl ?_
        refine p_getI d_Ch_singLine_44 fl_Ch_66 ha.1 (Or.inl rfl) ?_
        refine p_iload_n d_Ch_singLine_47 rfl ?_
        refine p_icmpne (tgt := 55) d_Ch_singLine_48 (by decide) (fun h48 => ?_) (fun h48 => ?_)
        · refine p_aload_n d_Ch_singLine_55 rfl ?_
          refine p_iload_n d_Ch_singLine_56 rfl ?_
          refine p_aload_n d_Ch_singLine_57 rfl ?_
          refine q_V1 d_Ch_singLine_58 ml_Ch_69 vb_Ch_lateBehindLine hc.1 ⟨leb rfl, leb rfl⟩ (c_late Γ I1 J c a n k t hc ha hn (by omega) (hC.mv ec (hx _ (by omega) (by omega)) (hx _ (by omega) (by omega)) (hx _ (by omega) (by omega)) (hx _ (by omega) (by omega))) hw (by rw [ea]; exact g1) (by rw [ea]; exact g3) (hz k (by omega))) rfl rfl rfl ?_
          rw [ea, chR_eq g2 (by omega)] at h48
          exact J61 _ (by simp [thT, h48])
        · refine p_ic_0 d_Ch_singLine_51 ?_
          refine p_goto (tgt := 61) d_Ch_singLine_52 (by decide) ?_
          rw [ea, chR_eq g2 (by omega)] at h48
          exact J61 _ (by simp [thT, h48])
  have L2 : ∀ (f k : Nat) (I1 : MemI), k + f = n → (∀ j, j < k → I1 (c + 5) j = t (28 + j)) → (∀ x, x ≠ c + 5 → I1 x = I x) → WP Γ M_Ch_singLine (0, 0) S0 I1 J 2 [.ref c, .ref a, .int (nI k)] [] (slQ c a n (singT n t) (mnC (I a 6 + 1)) I J) := by
    intro f
    induction f with
    | zero =>
      intro k I1 hkf hw hx
      obtain rfl : k = n := by omega
      refine p_iload_n d_Ch_singLine_2 rfl ?_
      refine p_aload_n d_Ch_singLine_3 rfl ?_
      refine p_getI d_Ch_singLine_4 fl_Ch_30 hc.1 (Or.inl rfl) ?_
      refine p_eqI (y := nI k) (by rw [hx c (by omega)]; exact h0) ?_
      refine p_icmpgeN (tgt := 28) (k) (k) d_Ch_singLine_7 (by decide) rfl rfl (by omega) (by omega) (fun h7 => ?_) (fun h7 => ?_)
      · refine p_ic_0 d_Ch_singLine_28 ?_
        refine p_is_2 d_Ch_singLine_29 (by decide) rfl ?_
        exact L30 k 0 I1 (by omega) hw (fun j hj => absurd hj (by omega)) (fun x _ q => hx x q)
      · exact absurd (Nat.le_refl _) h7
    | succ f ih =>
      intro k I1 hkf hw hx
      refine p_iload_n d_Ch_singLine_2 rfl ?_
      refine p_aload_n d_Ch_singLine_3 rfl ?_
      refine p_getI d_Ch_singLine_4 fl_Ch_30 hc.1 (Or.inl rfl) ?_
      refine p_eqI (y := nI n) (by rw [hx c (by omega)]; exact h0) ?_
      refine p_icmpgeN (tgt := 28) (k) (n) d_Ch_singLine_7 (by decide) rfl rfl (by omega) (by omega) (fun h7 => ?_) (fun h7 => ?_)
      · exact absurd h7 (by omega)
      · refine p_aload_n d_Ch_singLine_10 rfl ?_
        refine p_getR d_Ch_singLine_11 fl_Ch_24 hc.1 rfl hc.2.1.2.2.2.2 ?_
        refine p_iload_n d_Ch_singLine_14 rfl ?_
        refine p_aload_n d_Ch_singLine_15 rfl ?_
        refine p_getR d_Ch_singLine_16 fl_Ch_61 ha.1 rfl ha.2.1 ?_
        refine p_iload_n d_Ch_singLine_19 rfl ?_
        refine p_ialdN (k) d_Ch_singLine_20 ha.2.2 rfl (by omega) rfl ?_
        refine p_iastN (k) d_Ch_singLine_21 hc.2.2.2.2.2.2 rfl (by omega) rfl ?_
        refine p_incN_2_1 d_Ch_singLine_22 (by decide) rfl ?_
        refine p_goto (tgt := 2) d_Ch_singLine_25 (by decide) ?_
        refine ih (k + 1) _ (by omega) (fun j hj => ?_) (fun x q => ?_)
        · simp only [up2, true_and]
          by_cases q : j = k
          · subst q
            rw [if_pos rfl, hx (a + 1) (by omega), g0 j (by omega)]
          · rw [if_neg q, hw j (by omega)]
        · funext y
          simp only [up2]
          rw [if_neg (fun z => q z.1), hx x q]
  refine ct_of [.ref c, .ref a, .null] (by decide +kernel) rfl (leb rfl) rfl ?_
  refine p_ic_0 d_Ch_singLine_0 ?_
  refine p_is_2 d_Ch_singLine_1 (by decide) rfl ?_
  exact L2 n 0 I (by omega) (fun j hj => absurd hj (by omega)) (fun x _ => rfl)
def it6 (x : Int32) : Nat → Int32
  | 0 => x
  | j + 1 => mnC (it6 x j + 1)
theorem SgR.sing {I I' : MemI} {a n : Nat} {t : Nat → Int32} (h : SgR I a n t) (hk : ∀ k, k < n → I' (a + 1) k = singT n t (28 + k)) (h5 : I' a 5 = singT n t 34) (hy : ∀ y, y ≠ 5 → y ≠ 6 → I' a y = I a y) (hn : n ≤ 6) : SgR I' a n (singT n t) := by
  obtain ⟨g0, g1, g2, g3, g4, g5⟩ := h
  refine ⟨hk, ?_, ?_, ?_, ?_, h5⟩
  · rw [hy 1 (by omega) (by omega), singT_off (by omega) (by omega) (by omega)]; exact g1
  · rw [hy 2 (by omega) (by omega), singT_off (by omega) (by omega) (by omega)]; exact g2
  · rw [hy 3 (by omega) (by omega), singT_off (by omega) (by omega) (by omega)]; exact g3
  · rw [hy 4 (by omega) (by omega), singT_off (by omega) (by omega) (by omega)]; exact g4
theorem ChR.sing {I : MemI} {c n : Nat} {t : Nat → Int32} (h : ChR I c n t) (hn : n ≤ 6) : ChR I c n (singT n t) := by
  obtain ⟨h0, h1⟩ := h
  refine ⟨h0, fun k hk => ?_⟩
  rw [singT_off (by omega) (by omega) (by omega), singT_off (by omega) (by omega) (by omega), singT_off (by omega) (by omega) (by omega), singT_off (by omega) (by omega) (by omega)]
  exact h1 k hk
theorem okT.it {n : Nat} {t : Nat → Int32} (h : okT n t) : ∀ j, okT n (itS n t j)
  | 0 => h
  | j + 1 => (okT.it h j).sing
theorem c_singLines (Γ : Cx) (I : MemI) (J : MemJ) (c a n q : Nat) (t : Nat → Int32) (hc : isCh c) (ha : isSi a) (hca : c + 5 < a) (hq : q < 1000) (hC : ChR I c n t) (hG : SgR I a n t) (hok : okT n t) : Ct Γ M_Ch_singLines [.ref c, .ref a, .int (nI q)] S0 I J (slQ c a n (itS n t q) (it6 (I a 6) q) I J) := by
  have hn := hok.1
  have LP : ∀ (f k : Nat) (I1 : MemI), k + f = q → ChR I1 c n (itS n t k) → SgR I1 a n (itS n t k) → I1 a 6 = it6 (I a 6) k → (∀ y, y ≠ 5 → y ≠ 6 → I1 a y = I a y) → (∀ x, x ≠ a → x ≠ a + 1 → x ≠ c + 5 → I1 x = I x) → WP Γ M_Ch_singLines (0, 0) S0 I1 J 2 [.ref c, .ref a, .int (nI q), .int (nI k)] [] (slQ c a n (itS n t q) (it6 (I a 6) q) I J) := by
    intro f
    induction f with
    | zero =>
      intro k I1 hkf hC1 hG1 h6 hy hx
      obtain rfl : k = q := by omega
      refine p_iload_n d_Ch_singLines_2 rfl ?_
      refine p_iload_n d_Ch_singLines_3 rfl ?_
      refine p_icmpgeN (tgt := 18) (k) (k) d_Ch_singLines_4 (by decide) rfl rfl (by omega) (by omega) (fun h4 => ?_) (fun h4 => ?_)
      · refine p_ret d_Ch_singLines_18 rfl ?_
        exact ⟨rfl, rfl, rfl, hG1.1, hG1.2.2.2.2.2, h6, hy, hx⟩
      · exact absurd (Nat.le_refl _) h4
    | succ f ih =>
      intro k I1 hkf hC1 hG1 h6 hy hx
      refine p_iload_n d_Ch_singLines_2 rfl ?_
      refine p_iload_n d_Ch_singLines_3 rfl ?_
      refine p_icmpgeN (tgt := 18) (k) (q) d_Ch_singLines_4 (by decide) rfl rfl (by omega) (by omega) (fun h4 => ?_) (fun h4 => ?_)
      · exact absurd h4 (by omega)
      · refine p_aload_n d_Ch_singLines_7 rfl ?_
        refine p_aload_n d_Ch_singLines_8 rfl ?_
        refine q_V d_Ch_singLines_9 ml_Ch_57 vb_Ch_singLine hc.1 ⟨leb rfl, leb rfl⟩ (c_singLine Γ I1 J c a n (itS n t k) hc ha hca hC1 hG1 (hok.it k)) rfl rfl rfl (fun r S1 I1 J1 hQ => ?_)
        obtain ⟨rfl, rfl, rfl, w1, w2, w3, w4, w5⟩ := hQ
        refine p_incN_3_1 d_Ch_singLines_12 (by decide) rfl ?_
        refine p_goto (tgt := 2) d_Ch_singLines_15 (by decide) ?_
        refine ih (k + 1) _ (by omega) ((hC1.sing hn).mv (w5 _ (by omega) (by omega) (by omega)) (w5 _ (by omega) (by omega) (by omega)) (w5 _ (by omega) (by omega) (by omega)) (w5 _ (by omega) (by omega) (by omega)) (w5 _ (by omega) (by omega) (by omega))) (hG1.sing w1 w2 w4 hn) ?_ (fun y q1 q2 => ?_) (fun x q1 q2 q3 => ?_)
        · rw [w3, h6]
          rfl
        · rw [w4 y q1 q2, hy y q1 q2]
        · rw [w5 x q1 q2 q3, hx x q1 q2 q3]
  refine ct_of [.ref c, .ref a, .int (nI q), .null] (by decide +kernel) rfl (leb rfl) rfl ?_
  refine p_ic_0 d_Ch_singLines_0 ?_
  refine p_is_3 d_Ch_singLines_1 (by decide) rfl ?_
  exact LP q 0 I (by omega) hC hG rfl (fun y _ _ => rfl) (fun x _ _ _ => rfl)
