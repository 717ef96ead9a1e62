/-! ===== the class reads a church ===== -/
theorem tk_num {x : Nat → Int32} {l j : Nat} (hx : ∀ y, y < l → 0 ≤ x y) : tkT x l j = (-2) ↔ (dgB x l j = true ∧ ¬ wrB x l j = true) := by
  unfold tkT
  by_cases h : dgB x l j = true
  · rw [if_pos h]
    by_cases w : wrB x l j = true
    · rw [if_pos w]
      exact ⟨fun z => absurd z (by decide), fun z => absurd w z.2⟩
    · rw [if_neg w]
      exact ⟨fun _ => ⟨h, w⟩, fun _ => rfl⟩
  · rw [if_neg h]
    refine ⟨fun z => ?_, fun z => absurd z.1 h⟩
    by_cases q : j < l
    · rw [if_pos q] at z
      have := hx j q
      rw [z] at this
      exact absurd this (by decide)
    · rw [if_neg q] at z
      exact absurd z (by decide)
theorem nm_tk {x : Nat → Int32} {l j : Nat} {lo hi : Int32} (hx : ∀ y, y < l → 0 ≤ x y) (hl : l ≤ 200) (hj : j ≤ l) (hhi : ¬ 99 < hi) : nmOK x l j lo hi ↔ (tkT x l j = (-2) ∧ (lo ≤ nu x l j ∧ nu x l j ≤ hi)) := by
  rw [tk_num hx]
  have nv : ¬ wrB x l j = true → nu x l j = vl x l j := by
    intro w
    rw [wrB_iff] at w
    unfold wrg at w
    have hd : dg x l j ≤ j + 2 := by
      have := (dg_le (x := x) hj).1
      omega
    exact nu_vl (l - j) j 0 0 (by omega) (Or.inr (Or.inl ⟨rfl, rfl⟩)) hd
  constructor
  · rintro ⟨h1, h2, h3, h4⟩
    have w : ¬ wrB x l j = true := by
      rw [wrB_iff]
      rintro (w | w)
      · by_cases z : x j = 48
        · exact h2 ⟨z, by omega⟩
        · have := vl_big hl h1 z w
          rw [i32_lt] at this hhi
          rw [i32_le] at h4
          omega
      · exact h2 ⟨w.2, w.1⟩
    rw [nv w]
    exact ⟨⟨dgB_iff.mpr h1, w⟩, h3, h4⟩
  · rintro ⟨⟨h1, w⟩, h3, h4⟩
    rw [nv w] at h3 h4
    refine ⟨dgB_iff.mp h1, fun z => w (wrB_iff.mpr (Or.inr ⟨z.2, z.1⟩)), h3, h4⟩
theorem nxT_d {x : Nat → Int32} {l j : Nat} (h : dgB x l j = true) : nxT x l j = dg x l j := by
  unfold nxT
  rw [if_pos h]
theorem tk_59 {x : Nat → Int32} {l j : Nat} : tkT x l j = 59 ↔ (j < l ∧ x j = 59) := by
  unfold tkT
  by_cases h : dgB x l j = true
  · rw [if_pos h]
    obtain ⟨h1, h2, h3⟩ := dgB_iff.mp h
    refine ⟨fun z => ?_, fun z => ?_⟩
    · by_cases w : wrB x l j = true
      · rw [if_pos w] at z; exact absurd z (by decide)
      · rw [if_neg w] at z; exact absurd z (by decide)
    · rw [z.2] at h3
      exact absurd h3 (by decide)
  · rw [if_neg h]
    by_cases q : j < l
    · rw [if_pos q]
      exact ⟨fun z => ⟨q, z⟩, fun z => z.2⟩
    · rw [if_neg q]
      exact ⟨fun z => absurd z (by decide), fun z => absurd z.1 q⟩
theorem nxT_n {x : Nat → Int32} {l j : Nat} (h : j < l) (hd : ¬ (48 ≤ x j ∧ x j ≤ 57)) : nxT x l j = j + 1 := by
  unfold nxT
  rw [if_neg (fun z => hd (dgB_iff.mp z).2), if_pos h]
theorem tkT_n {x : Nat → Int32} {l j : Nat} (h : j < l) (hd : ¬ (48 ≤ x j ∧ x j ≤ 57)) : tkT x l j = x j := by
  unfold tkT
  rw [if_neg (fun z => hd (dgB_iff.mp z).2), if_pos h]
def rnQ (x : Nat → Int32) (l i : Nat) (lo hi : Int32) (I : MemI) (J : MemJ) : PQ := fun r S' I' J' => r = some (.int (bI ((nm x l i lo hi).isRight = true))) ∧ S' = S0 ∧ J' = J ∧ tkF I I' ∧ (∀ p, nm x l i lo hi = .inl p → I' 2 3 = nI p) ∧ ∀ v e, nm x l i lo hi = .inr (v, e) → I' 2 4 = v ∧ I' 2 5 = nI e
theorem rnQ_f {x : Nat → Int32} {l i : Nat} {lo hi : Int32} {I I' : MemI} {J : MemJ} (h : ¬ nmOK x l (sk x l i) lo hi) (hf : tkF I I') (h3 : I' 2 3 = nI (sk x l i)) : rnQ x l i lo hi I J (some (.int 0)) S0 I' J := by
  refine ⟨?_, rfl, rfl, hf, fun p hp => ?_, fun v e hp => ?_⟩
  · rw [nmQ_bad h]; rfl
  · rw [nmQ_bad h] at hp; cases hp; exact h3
  · rw [nmQ_bad h] at hp; cases hp
theorem rnQ_t {x : Nat → Int32} {l i : Nat} {lo hi : Int32} {I I' : MemI} {J : MemJ} (h : nmOK x l (sk x l i) lo hi) (hf : tkF I I') (h4 : I' 2 4 = vl x l (sk x l i)) (h5 : I' 2 5 = nI (dg x l (sk x l i))) : rnQ x l i lo hi I J (some (.int 1)) S0 I' J := by
  refine ⟨?_, rfl, rfl, hf, fun p hp => ?_, fun v e hp => ?_⟩
  · rw [nmQ_ok h]; rfl
  · rw [nmQ_ok h] at hp; cases hp
  · rw [nmQ_ok h] at hp; cases hp; exact ⟨h4, h5⟩
theorem nu_is {x : Nat → Int32} {l j : Nat} (hx : ∀ y, y < l → 0 ≤ x y) (hj : j ≤ l) (h : tkT x l j = (-2)) : nu x l j = vl x l j := by
  have w := ((tk_num hx).mp h).2
  rw [wrB_iff] at w
  unfold wrg at w
  have hd : dg x l j ≤ j + 2 := by
    have := (dg_le (x := x) hj).1
    omega
  exact nu_vl (l - j) j 0 0 (by omega) (Or.inr (Or.inl ⟨rfl, rfl⟩)) hd
theorem c_number (Γ : Cx) (I : MemI) (J : MemJ) (l i : Nat) (hl : I 2 1 = nI l) (hl2 : l ≤ 200) (hn5 : I 2 5 = nI i) (hil : i ≤ l) (hx : ∀ y, y < l → 0 ≤ I 3 y) (lo hi : Int32) (hhi : ¬ 99 < hi) : Ct Γ M_Re_readNumber [.ref 2, .int lo, .int hi] S0 I J (rnQ (I 3) l i lo hi I J) := by
  refine ct_of [.ref 2, .int lo, .int hi] (by decide +kernel) rfl (leb rfl) rfl ?_
  refine p_aload_n d_Re_readNumber_0 rfl ?_
  refine q_V d_Re_readNumber_1 ml_Re_37 vb_Re_readToken kd_2 ⟨leb rfl, leb rfl⟩ (c_token Γ I J l i hl hl2 hn5 hil) rfl rfl rfl (fun r S1 IT J1 hQ => ?_)
  obtain ⟨rfl, rfl, hJ, t1, t2, t3, t4, t5⟩ := hQ
  obtain rfl := hJ.symm
  refine p_aload_n d_Re_readNumber_4 rfl ?_
  refine p_getI d_Re_readNumber_5 fl_Re_40 kd_2 (Or.inl rfl) ?_
  refine p_eqI (y := tkT (I 3) l (sk (I 3) l i)) (t2) ?_
  refine p_bi_m2 d_Re_readNumber_8 ?_
  refine p_icmpne (tgt := 29) d_Re_readNumber_10 (by decide) (fun h10 => ?_) (fun h10 => ?_)
  · refine p_ic_0 d_Re_readNumber_29 ?_
    refine p_iret d_Re_readNumber_30 rfl rfl ?_
    have hb := (sk_le (x := I 3) hil).2
    have hN := nm_tk (lo := lo) (hi := hi) hx hl2 hb hhi
    first
      | (refine rnQ_t (hN.mpr ⟨h10, h22⟩) t1 ?_ ?_
         · rw [t5 ((tk_num hx).mp h10).1]
           exact nu_is hx hb h10
         · rw [t4, nxT_d ((tk_num hx).mp h10).1])
      | exact rnQ_f (fun z => h22 (hN.mp z).2) t1 t3
      | exact rnQ_f (fun z => h10 (hN.mp z).1) t1 t3
  · refine p_aload_n d_Re_readNumber_13 rfl ?_
    refine p_getI d_Re_readNumber_14 fl_Re_76 kd_2 (Or.inl rfl) ?_
    refine p_eqI (y := nu (I 3) l (sk (I 3) l i)) (t5 ((tk_num hx).mp h10).1) ?_
    refine p_iload_n d_Re_readNumber_17 rfl ?_
    refine p_iload_n d_Re_readNumber_18 rfl ?_
    refine q_SN1 d_Re_readNumber_19 nl_Re_97 sb_Bo_within ⟨leb rfl, leb rfl⟩ (c_within Γ S0 IT J (nu (I 3) l (sk (I 3) l i)) lo hi) rfl rfl rfl ?_
    refine p_ifeqB (tgt := 29) d_Re_readNumber_22 (by decide) (fun h22 => ?_) (fun h22 => ?_)
    · refine p_ic_0 d_Re_readNumber_29 ?_
      refine p_iret d_Re_readNumber_30 rfl rfl ?_
      have hb := (sk_le (x := I 3) hil).2
      have hN := nm_tk (lo := lo) (hi := hi) hx hl2 hb hhi
      first
        | (refine rnQ_t (hN.mpr ⟨h10, h22⟩) t1 ?_ ?_
           · rw [t5 ((tk_num hx).mp h10).1]
             exact nu_is hx hb h10
           · rw [t4, nxT_d ((tk_num hx).mp h10).1])
        | exact rnQ_f (fun z => h22 (hN.mp z).2) t1 t3
        | exact rnQ_f (fun z => h10 (hN.mp z).1) t1 t3
    · refine p_ic_1 d_Re_readNumber_25 ?_
      refine p_goto (tgt := 30) d_Re_readNumber_26 (by decide) ?_
      refine p_iret d_Re_readNumber_30 rfl rfl ?_
      have hb := (sk_le (x := I 3) hil).2
      have hN := nm_tk (lo := lo) (hi := hi) hx hl2 hb hhi
      first
        | (refine rnQ_t (hN.mpr ⟨h10, h22⟩) t1 ?_ ?_
           · rw [t5 ((tk_num hx).mp h10).1]
             exact nu_is hx hb h10
           · rw [t4, nxT_d ((tk_num hx).mp h10).1])
        | exact rnQ_f (fun z => h22 (hN.mp z).2) t1 t3
        | exact rnQ_f (fun z => h10 (hN.mp z).1) t1 t3
def reQ (x : Nat → Int32) (l i : Nat) (I : MemI) (J : MemJ) : PQ := fun r S' I' J' => r = some (.int (bI ((enP x l i).isRight = true))) ∧ S' = S0 ∧ J' = J ∧ tkF I I' ∧ (∀ p, enP x l i = .inl p → I' 2 3 = nI p) ∧ ∀ e, enP x l i = .inr e → I' 2 5 = nI e
theorem c_itemEnd (Γ : Cx) (I : MemI) (J : MemJ) (l i : Nat) (hl : I 2 1 = nI l) (hl2 : l ≤ 200) (hn5 : I 2 5 = nI i) (hil : i ≤ l) : Ct Γ M_Re_readItemEnd [.ref 2] S0 I J (reQ (I 3) l i I J) := by
  refine ct_of [.ref 2] (by decide +kernel) rfl (leb rfl) rfl ?_
  refine p_aload_n d_Re_readItemEnd_0 rfl ?_
  refine q_V d_Re_readItemEnd_1 ml_Re_37 vb_Re_readToken kd_2 ⟨leb rfl, leb rfl⟩ (c_token Γ I J l i hl hl2 hn5 hil) rfl rfl rfl (fun r S1 IT J1 hQ => ?_)
  obtain ⟨rfl, rfl, hJ, t1, t2, t3, t4, t5⟩ := hQ
  obtain rfl := hJ.symm
  refine p_aload_n d_Re_readItemEnd_4 rfl ?_
  refine p_getI d_Re_readItemEnd_5 fl_Re_40 kd_2 (Or.inl rfl) ?_
  refine p_eqI (y := tkT (I 3) l (sk (I 3) l i)) (t2) ?_
  refine p_bi_59 d_Re_readItemEnd_8 ?_
  refine p_icmpne (tgt := 17) d_Re_readItemEnd_10 (by decide) (fun h10 => ?_) (fun h10 => ?_)
  · refine p_ic_0 d_Re_readItemEnd_17 ?_
    refine p_iret d_Re_readItemEnd_18 rfl rfl ?_
    have hN := tk_59 (x := I 3) (l := l) (j := (sk (I 3) l i))
    first
      | (have hE : enP (I 3) l i = .inr ((sk (I 3) l i) + 1) := by unfold enP; rw [if_pos (hN.mp h10)]
         refine ⟨?_, rfl, rfl, t1, fun p hp => ?_, fun e hp => ?_⟩
         · rw [hE]; rfl
         · rw [hE] at hp; cases hp
         · rw [hE] at hp; cases hp
           rw [t4, nxT_n (hN.mp h10).1 (by rw [(hN.mp h10).2]; decide)])
      | (have hE : enP (I 3) l i = .inl (sk (I 3) l i) := by unfold enP; rw [if_neg (fun z => h10 (hN.mpr z))]
         refine ⟨?_, rfl, rfl, t1, fun p hp => ?_, fun e hp => ?_⟩
         · rw [hE]; rfl
         · rw [hE] at hp; cases hp; exact t3
         · rw [hE] at hp; cases hp)
  · refine p_ic_1 d_Re_readItemEnd_13 ?_
    refine p_goto (tgt := 18) d_Re_readItemEnd_14 (by decide) ?_
    refine p_iret d_Re_readItemEnd_18 rfl rfl ?_
    have hN := tk_59 (x := I 3) (l := l) (j := (sk (I 3) l i))
    first
      | (have hE : enP (I 3) l i = .inr ((sk (I 3) l i) + 1) := by unfold enP; rw [if_pos (hN.mp h10)]
         refine ⟨?_, rfl, rfl, t1, fun p hp => ?_, fun e hp => ?_⟩
         · rw [hE]; rfl
         · rw [hE] at hp; cases hp
         · rw [hE] at hp; cases hp
           rw [t4, nxT_n (hN.mp h10).1 (by rw [(hN.mp h10).2]; decide)])
      | (have hE : enP (I 3) l i = .inl (sk (I 3) l i) := by unfold enP; rw [if_neg (fun z => h10 (hN.mpr z))]
         refine ⟨?_, rfl, rfl, t1, fun p hp => ?_, fun e hp => ?_⟩
         · rw [hE]; rfl
         · rw [hE] at hp; cases hp; exact t3
         · rw [hE] at hp; cases hp)
def r1c (x : Nat → Int32) (l i : Nat) (lo hi : Int32) (fl cf : Nat) (I : MemI) (J : MemJ) : PQ := fun r S' I' J' => r = some (.int (bI ((nm x l i lo hi).isRight = true))) ∧ S' = S0 ∧ J' = J ∧ (∀ p, nm x l i lo hi = .inl p → I' 2 3 = nI p) ∧ (∀ v e, nm x l i lo hi = .inr (v, e) → I' 2 5 = nI e ∧ I' 10 cf = v) ∧ I' 2 fl = bI ((nm x l i lo hi).isRight = true) ∧ (∀ x, x ≠ 2 → x ≠ 10 → I' x = I x) ∧ (∀ y, (y < 2 ∨ 5 < y) → y ≠ fl → I' 2 y = I 2 y) ∧ ∀ y, y ≠ cf → I' 10 y = I 10 y
theorem c_wait (Γ : Cx) (I : MemI) (J : MemJ) (l i : Nat) (hl : I 2 1 = nI l) (hl2 : l ≤ 200) (hn5 : I 2 5 = nI i) (hil : i ≤ l) (hx : ∀ y, y < l → 0 ≤ I 3 y) : Ct Γ M_Re_readWait [.ref 2, .ref 10] S0 I J (r1c (I 3) l i 0 10 6 5 I J) := by
  refine ct_of [.ref 2, .ref 10] (by decide +kernel) rfl (leb rfl) rfl ?_
  refine p_aload_n d_Re_readWait_0 rfl ?_
  refine p_aload_n d_Re_readWait_1 rfl ?_
  refine p_ic_0 d_Re_readWait_2 ?_
  refine p_bi_10 d_Re_readWait_3 ?_
  refine q_V d_Re_readWait_5 ml_Re_69 vb_Re_readNumber kd_2 ⟨leb rfl, leb rfl⟩ (c_number Γ I J l i hl hl2 hn5 hil hx 0 10 (by decide)) rfl rfl rfl (fun r S1 IN J1 hQ => ?_)
  obtain ⟨rfl, rfl, hJ, t1, t2, t3⟩ := hQ
  obtain rfl := hJ.symm
  refine p_putZ d_Re_readWait_8 fl_Re_27 kd_2 rfl bI_01 nf_2_6 ?_
  refine p_aload_n d_Re_readWait_11 rfl ?_
  refine p_aload_n d_Re_readWait_12 rfl ?_
  refine p_getI d_Re_readWait_13 fl_Re_76 kd_2 (Or.inl rfl) ?_
  refine p_putI d_Re_readWait_16 fl_Re_88 kd_10 rfl nf_0_5 ?_
  refine p_aload_n d_Re_readWait_19 rfl ?_
  refine p_getI d_Re_readWait_20 fl_Re_27 kd_2 (Or.inr rfl) ?_
  refine p_eqI (y := bI ((nm (I 3) l i 0 10).isRight = true)) (by simp [up2]) ?_
  refine p_iret d_Re_readWait_23 rfl bI_nar ?_
  refine ⟨rfl, rfl, rfl, fun p hp => ?_, fun v e hp => ⟨?_, ?_⟩, ?_, fun x a b => ?_, fun y a b => ?_, fun y a => ?_⟩
  · simp [up2, t2 p hp]
  · simp [up2, (t3 v e hp).2]
  · simp [up2, (t3 v e hp).1]
  · simp [up2]
  · funext y; simp [up2, a, b, t1.1 x a]
  · simp only [up2]; rw [if_neg (by omega), if_neg (by omega)]; exact t1.2 y a
  · simp only [up2]; rw [if_neg (by omega), if_neg (by omega)]; exact congrFun (t1.1 10 (by decide)) y
theorem c_lines (Γ : Cx) (I : MemI) (J : MemJ) (l i : Nat) (hl : I 2 1 = nI l) (hl2 : l ≤ 200) (hn5 : I 2 5 = nI i) (hil : i ≤ l) (hx : ∀ y, y < l → 0 ≤ I 3 y) : Ct Γ M_Re_readLines [.ref 2, .ref 10] S0 I J (r1c (I 3) l i 1 9 7 6 I J) := by
  refine ct_of [.ref 2, .ref 10] (by decide +kernel) rfl (leb rfl) rfl ?_
  refine p_aload_n d_Re_readLines_0 rfl ?_
  refine p_aload_n d_Re_readLines_1 rfl ?_
  refine p_ic_1 d_Re_readLines_2 ?_
  refine p_bi_9 d_Re_readLines_3 ?_
  refine q_V d_Re_readLines_5 ml_Re_69 vb_Re_readNumber kd_2 ⟨leb rfl, leb rfl⟩ (c_number Γ I J l i hl hl2 hn5 hil hx 1 9 (by decide)) rfl rfl rfl (fun r S1 IN J1 hQ => ?_)
  obtain ⟨rfl, rfl, hJ, t1, t2, t3⟩ := hQ
  obtain rfl := hJ.symm
  refine p_putZ d_Re_readLines_8 fl_Re_31 kd_2 rfl bI_01 nf_2_7 ?_
  refine p_aload_n d_Re_readLines_11 rfl ?_
  refine p_aload_n d_Re_readLines_12 rfl ?_
  refine p_getI d_Re_readLines_13 fl_Re_76 kd_2 (Or.inl rfl) ?_
  refine p_putI d_Re_readLines_16 fl_Re_91 kd_10 rfl nf_0_6 ?_
  refine p_aload_n d_Re_readLines_19 rfl ?_
  refine p_getI d_Re_readLines_20 fl_Re_31 kd_2 (Or.inr rfl) ?_
  refine p_eqI (y := bI ((nm (I 3) l i 1 9).isRight = true)) (by simp [up2]) ?_
  refine p_iret d_Re_readLines_23 rfl bI_nar ?_
  refine ⟨rfl, rfl, rfl, fun p hp => ?_, fun v e hp => ⟨?_, ?_⟩, ?_, fun x a b => ?_, fun y a b => ?_, fun y a => ?_⟩
  · simp [up2, t2 p hp]
  · simp [up2, (t3 v e hp).2]
  · simp [up2, (t3 v e hp).1]
  · simp [up2]
  · funext y; simp [up2, a, b, t1.1 x a]
  · simp only [up2]; rw [if_neg (by omega), if_neg (by omega)]; exact t1.2 y a
  · simp only [up2]; rw [if_neg (by omega), if_neg (by omega)]; exact congrFun (t1.1 10 (by decide)) y
theorem c_gap (Γ : Cx) (I : MemI) (J : MemJ) (l i : Nat) (hl : I 2 1 = nI l) (hl2 : l ≤ 200) (hn5 : I 2 5 = nI i) (hil : i ≤ l) (hx : ∀ y, y < l → 0 ≤ I 3 y) : Ct Γ M_Re_readGap [.ref 2, .ref 10] S0 I J (r1c (I 3) l i 0 9 8 7 I J) := by
  refine ct_of [.ref 2, .ref 10] (by decide +kernel) rfl (leb rfl) rfl ?_
  refine p_aload_n d_Re_readGap_0 rfl ?_
  refine p_aload_n d_Re_readGap_1 rfl ?_
  refine p_ic_0 d_Re_readGap_2 ?_
  refine p_bi_9 d_Re_readGap_3 ?_
  refine q_V d_Re_readGap_5 ml_Re_69 vb_Re_readNumber kd_2 ⟨leb rfl, leb rfl⟩ (c_number Γ I J l i hl hl2 hn5 hil hx 0 9 (by decide)) rfl rfl rfl (fun r S1 IN J1 hQ => ?_)
  obtain ⟨rfl, rfl, hJ, t1, t2, t3⟩ := hQ
  obtain rfl := hJ.symm
  refine p_putZ d_Re_readGap_8 fl_Re_34 kd_2 rfl bI_01 nf_2_8 ?_
  refine p_aload_n d_Re_readGap_11 rfl ?_
  refine p_aload_n d_Re_readGap_12 rfl ?_
  refine p_getI d_Re_readGap_13 fl_Re_76 kd_2 (Or.inl rfl) ?_
  refine p_putI d_Re_readGap_16 fl_Re_94 kd_10 rfl nf_0_7 ?_
  refine p_aload_n d_Re_readGap_19 rfl ?_
  refine p_getI d_Re_readGap_20 fl_Re_34 kd_2 (Or.inr rfl) ?_
  refine p_eqI (y := bI ((nm (I 3) l i 0 9).isRight = true)) (by simp [up2]) ?_
  refine p_iret d_Re_readGap_23 rfl bI_nar ?_
  refine ⟨rfl, rfl, rfl, fun p hp => ?_, fun v e hp => ⟨?_, ?_⟩, ?_, fun x a b => ?_, fun y a b => ?_, fun y a => ?_⟩
  · simp [up2, t2 p hp]
  · simp [up2, (t3 v e hp).2]
  · simp [up2, (t3 v e hp).1]
  · simp [up2]
  · funext y; simp [up2, a, b, t1.1 x a]
  · simp only [up2]; rw [if_neg (by omega), if_neg (by omega)]; exact t1.2 y a
  · simp only [up2]; rw [if_neg (by omega), if_neg (by omega)]; exact congrFun (t1.1 10 (by decide)) y
