/-! ===== the class reads items ===== -/
def pw4 (x : Nat → Int32) (l i : Nat) : Nat ⊕ (Int32 × Int32 × Int32 × Int32 × Nat) := match nm x l i 0 60 with
  | .inl j => .inl j
  | .inr (v1, e1) => match nm x l e1 0 9 with
    | .inl j => .inl j
    | .inr (v2, e2) => match nm x l e2 0 9 with
      | .inl j => .inl j
      | .inr (v3, e3) => match nm x l e3 0 9 with
        | .inl j => .inl j
        | .inr (v4, e4) => .inr (v1, v2, v3, v4, e4)
theorem pewP_l {x : Nat → Int32} {l i k m p : Nat} {r : Nat → Int32} (h : pw4 x l i = .inl p) : pewP x l i k r m = .inl p := by
  unfold pw4 at h
  unfold pewP
  cases h1 : nm x l i 0 60 with
  | inl a => rw [h1] at h; cases h; rfl
  | inr b1 =>
    obtain ⟨v1, e1⟩ := b1
    rw [h1] at h
    dsimp only at h ⊢
    cases h2 : nm x l e1 0 9 with
    | inl a => rw [h2] at h; cases h; rfl
    | inr b2 =>
      obtain ⟨v2, e2⟩ := b2
      rw [h2] at h
      dsimp only at h ⊢
      cases h3 : nm x l e2 0 9 with
      | inl a => rw [h3] at h; cases h; rfl
      | inr b3 =>
        obtain ⟨v3, e3⟩ := b3
        rw [h3] at h
        dsimp only at h ⊢
        cases h4 : nm x l e3 0 9 with
        | inl a => rw [h4] at h; cases h; rfl
        | inr b4 =>
          obtain ⟨v4, e4⟩ := b4
          rw [h4] at h
          cases h
theorem pewP_r {x : Nat → Int32} {l i k m : Nat} {r : Nat → Int32} {v1 v2 v3 v4 : Int32} {e : Nat} (h : pw4 x l i = .inr (v1, v2, v3, v4, e)) : pewP x l i k r m = (match enP x l e with
          | .inl j => .inl j
          | .inr e5 => .inr (e5, upd (upd (upd (upd (upd r (4 + k) v1) (10 + k) v2) (16 + k) v3) (22 + k) v4) 0 (nI (k + 1)), m)) := by
  unfold pw4 at h
  unfold pewP
  cases h1 : nm x l i 0 60 with
  | inl a => rw [h1] at h; cases h
  | inr b1 =>
    obtain ⟨v1, e1⟩ := b1
    rw [h1] at h
    dsimp only at h ⊢
    cases h2 : nm x l e1 0 9 with
    | inl a => rw [h2] at h; cases h
    | inr b2 =>
      obtain ⟨v2, e2⟩ := b2
      rw [h2] at h
      dsimp only at h ⊢
      cases h3 : nm x l e2 0 9 with
      | inl a => rw [h3] at h; cases h
      | inr b3 =>
        obtain ⟨v3, e3⟩ := b3
        rw [h3] at h
        dsimp only at h ⊢
        cases h4 : nm x l e3 0 9 with
        | inl a => rw [h4] at h; cases h
        | inr b4 =>
          obtain ⟨v4, e4⟩ := b4
          rw [h4] at h
          cases h
          rfl
def pwF (k : Nat) (I I' : MemI) : Prop := (∀ x, x ≠ 2 → x ≠ 10 → x ≠ 11 → x ≠ 12 → x ≠ 13 → x ≠ 14 → I' x = I x) ∧ (∀ y, (y < 2 ∨ 5 < y) → I' 2 y = I 2 y) ∧ (∀ y, y ≠ 4 → I' 10 y = I 10 y) ∧ ∀ a, 11 ≤ a → a ≤ 14 → ∀ y, y ≠ k → I' a y = I a y
theorem pwF.rf {k : Nat} {I : MemI} : pwF k I I := ⟨fun _ _ _ _ _ _ _ => rfl, fun _ _ => rfl, fun _ _ => rfl, fun _ _ _ _ _ => rfl⟩
theorem pwF.tr {k : Nat} {I I1 I2 : MemI} (h : pwF k I I1) (g : pwF k I1 I2) : pwF k I I2 := ⟨fun x a b c d e f => (g.1 x a b c d e f).trans (h.1 x a b c d e f), fun y a => (g.2.1 y a).trans (h.2.1 y a), fun y a => (g.2.2.1 y a).trans (h.2.2.1 y a), fun a b c y d => (g.2.2.2 a b c y d).trans (h.2.2.2 a b c y d)⟩
theorem pwF.tk {k : Nat} {I I1 : MemI} (h : tkF I I1) : pwF k I I1 := ⟨fun x a _ _ _ _ _ => h.1 x a, h.2, fun y _ => congrFun (h.1 10 (by decide)) y, fun a b _ y _ => congrFun (h.1 a (by omega)) y⟩
theorem pwF.up {k a : Nat} {I : MemI} {v : Int32} (h : 11 ≤ a) (h2 : a ≤ 14) : pwF k I (up2 I a k v) := by
  refine ⟨fun x _ _ b c d e => ?_, fun y _ => ?_, fun y _ => ?_, fun b _ _ y q => ?_⟩
  · funext y; simp only [up2]; rw [if_neg (by omega)]
  · simp only [up2]; rw [if_neg (by omega)]
  · simp only [up2]; rw [if_neg (by omega)]
  · simp only [up2]; rw [if_neg (by omega)]
theorem pwF.p {k : Nat} {I : MemI} {v : Int32} : pwF k I (up2 I 10 4 v) := by
  refine ⟨fun x _ _ b c d e => ?_, fun y _ => ?_, fun y _ => ?_, fun b _ _ y q => ?_⟩
  · funext y; simp only [up2]; rw [if_neg (by omega)]
  · simp only [up2]; rw [if_neg (by omega)]
  · simp only [up2]; rw [if_neg (by omega)]
  · simp only [up2]; rw [if_neg (by omega)]
def pwQ (x : Nat → Int32) (l i k : Nat) (I : MemI) (J : MemJ) : PQ := fun r S' I' J' => r = some (.int (bI ((pw4 x l i).isRight = true))) ∧ S' = S0 ∧ J' = J ∧ pwF k I I' ∧ (∀ p, pw4 x l i = .inl p → I' 2 3 = nI p) ∧ ∀ v1 v2 v3 v4 e, pw4 x l i = .inr (v1, v2, v3, v4, e) → e ≤ l ∧ I' 2 5 = nI e ∧ I' 10 4 = nI (k + 1) ∧ I' 11 k = v1 ∧ I' 12 k = v2 ∧ I' 13 k = v3 ∧ I' 14 k = v4
theorem pwQ_l {x : Nat → Int32} {l i k p : Nat} {I I' : MemI} {J : MemJ} (h : pw4 x l i = .inl p) (hf : pwF k I I') (h3 : I' 2 3 = nI p) : pwQ x l i k I J (some (.int 0)) S0 I' J := by
  refine ⟨by rw [h]; rfl, rfl, rfl, hf, fun p2 hp => ?_, fun v1 v2 v3 v4 e hp => ?_⟩
  · rw [h] at hp; cases hp; exact h3
  · rw [h] at hp; cases hp
theorem c_pewR (Γ : Cx) (I : MemI) (J : MemJ) (l i : Nat) (hl : I 2 1 = nI l) (hl2 : l ≤ 200) (hn5 : I 2 5 = nI i) (hil : i ≤ l) (hx : ∀ y, y < l → 0 ≤ I 3 y) (k : Nat) (hk : I 10 4 = nI k) (hk6 : k < 6) : Ct Γ M_Re_readPew [.ref 2, .ref 10] S0 I J (pwQ (I 3) l i k I J) := by
  have b11 : I 2 1 = nI l := hl
  have b51 : I 2 5 = nI i := hn5
  have b31 : I 3 = I 3 := rfl
  have bk1 : I 10 4 = nI k := hk
  have bf1 : pwF k I I := pwF.rf
  refine ct_of [.ref 2, .ref 10, .null] (by decide +kernel) rfl (leb rfl) rfl ?_
  refine p_aload_n d_Re_readPew_0 rfl ?_
  refine p_getI d_Re_readPew_1 fl_Re_50 kd_10 (Or.inl rfl) ?_
  refine p_eqI (y := nI k) (hk) ?_
  refine p_is_2 d_Re_readPew_4 (by decide) rfl ?_
  refine p_aload_n d_Re_readPew_5 rfl ?_
  refine p_ic_0 d_Re_readPew_6 ?_
  refine p_bi_60 d_Re_readPew_7 ?_
  refine q_V d_Re_readPew_9 ml_Re_69 vb_Re_readNumber kd_2 ⟨leb rfl, leb rfl⟩ (c_number Γ I J l i b11 hl2 b51 (by omega) (by rw [b31]; exact hx) 0 60 (by decide)) rfl rfl rfl (fun r S1 IN1 J1 hQ => ?_)
  obtain ⟨rfl, rfl, hJ, n11, n21, n31⟩ := hQ
  obtain rfl := hJ.symm
  refine p_ifneB (tgt := 17) d_Re_readPew_12 (by decide) (fun h12 => ?_) (fun h12 => ?_)
  · obtain ⟨⟨v1, e1⟩, hp1⟩ := isR_ex h12
    obtain ⟨w41, w51⟩ := n31 v1 e1 hp1
    have he1 := nm_le (by omega) hp1
    refine p_aload_n d_Re_readPew_17 rfl ?_
    refine p_getR d_Re_readPew_18 fl_Re_73 kd_10 rfl rf_10_0 ?_
    refine p_iload_n d_Re_readPew_21 rfl ?_
    refine p_aload_n d_Re_readPew_22 rfl ?_
    refine p_getI d_Re_readPew_23 fl_Re_76 kd_2 (Or.inl rfl) ?_
    refine p_eqI (y := v1) (w41) ?_
    refine p_iastN (k) d_Re_readPew_26 ar_11 rfl (by omega) rfl ?_
    refine p_nmM (fun IA1 eIA1 => ?_)
    have b12 : IA1 2 1 = nI l := by rw [eIA1]; simp only [up2]; rw [if_neg (by omega), n11.2 1 (by omega)]; exact b11
    have b52 : IA1 2 5 = nI e1 := by rw [eIA1]; simp only [up2]; rw [if_neg (by omega)]; exact w51
    have b32 : IA1 3 = I 3 := by rw [eIA1]; funext y; simp only [up2]; rw [if_neg (by omega), n11.1 3 (by decide), b31]
    have bk2 : IA1 10 4 = nI k := by rw [eIA1]; simp only [up2]; rw [if_neg (by omega), n11.1 10 (by decide)]; exact bk1
    have bf2 : pwF k I IA1 := by rw [eIA1]; exact (bf1.tr (pwF.tk n11)).tr (pwF.up (by omega) (by omega))
    have c11 : IA1 11 k = v1 := by rw [eIA1]; simp [up2]
    refine p_aload_n d_Re_readPew_27 rfl ?_
    refine p_ic_0 d_Re_readPew_28 ?_
    refine p_bi_9 d_Re_readPew_29 ?_
    refine q_V d_Re_readPew_31 ml_Re_69 vb_Re_readNumber kd_2 ⟨leb rfl, leb rfl⟩ (c_number Γ IA1 J l e1 b12 hl2 b52 (by omega) (by rw [b32]; exact hx) 0 9 (by decide)) rfl rfl rfl (fun r S1 IN2 J1 hQ => ?_)
    obtain ⟨rfl, rfl, hJ, n12, n22, n32⟩ := hQ
    obtain rfl := hJ.symm
    rw [b32] at n22 n32
    rw [b32]
    refine p_ifneB (tgt := 39) d_Re_readPew_34 (by decide) (fun h34 => ?_) (fun h34 => ?_)
    · obtain ⟨⟨v2, e2⟩, hp2⟩ := isR_ex h34
      obtain ⟨w42, w52⟩ := n32 v2 e2 hp2
      have he2 := nm_le (by omega) hp2
      refine p_aload_n d_Re_readPew_39 rfl ?_
      refine p_getR d_Re_readPew_40 fl_Re_79 kd_10 rfl rf_10_1 ?_
      refine p_iload_n d_Re_readPew_43 rfl ?_
      refine p_aload_n d_Re_readPew_44 rfl ?_
      refine p_getI d_Re_readPew_45 fl_Re_76 kd_2 (Or.inl rfl) ?_
      refine p_eqI (y := v2) (w42) ?_
      refine p_iastN (k) d_Re_readPew_48 ar_12 rfl (by omega) rfl ?_
      refine p_nmM (fun IA2 eIA2 => ?_)
      have b13 : IA2 2 1 = nI l := by rw [eIA2]; simp only [up2]; rw [if_neg (by omega), n12.2 1 (by omega)]; exact b12
      have b53 : IA2 2 5 = nI e2 := by rw [eIA2]; simp only [up2]; rw [if_neg (by omega)]; exact w52
      have b33 : IA2 3 = I 3 := by rw [eIA2]; funext y; simp only [up2]; rw [if_neg (by omega), n12.1 3 (by decide), b32]
      have bk3 : IA2 10 4 = nI k := by rw [eIA2]; simp only [up2]; rw [if_neg (by omega), n12.1 10 (by decide)]; exact bk2
      have bf3 : pwF k I IA2 := by rw [eIA2]; exact (bf2.tr (pwF.tk n12)).tr (pwF.up (by omega) (by omega))
      have c22 : IA2 12 k = v2 := by rw [eIA2]; simp [up2]
      have c12 : IA2 11 k = v1 := by rw [eIA2]; simp only [up2]; rw [if_neg (by omega), n12.1 11 (by decide)]; exact c11
      refine p_aload_n d_Re_readPew_49 rfl ?_
      refine p_ic_0 d_Re_readPew_50 ?_
      refine p_bi_9 d_Re_readPew_51 ?_
      refine q_V d_Re_readPew_53 ml_Re_69 vb_Re_readNumber kd_2 ⟨leb rfl, leb rfl⟩ (c_number Γ IA2 J l e2 b13 hl2 b53 (by omega) (by rw [b33]; exact hx) 0 9 (by decide)) rfl rfl rfl (fun r S1 IN3 J1 hQ => ?_)
      obtain ⟨rfl, rfl, hJ, n13, n23, n33⟩ := hQ
      obtain rfl := hJ.symm
      rw [b33] at n23 n33
      rw [b33]
      refine p_ifneB (tgt := 61) d_Re_readPew_56 (by decide) (fun h56 => ?_) (fun h56 => ?_)
      · obtain ⟨⟨v3, e3⟩, hp3⟩ := isR_ex h56
        obtain ⟨w43, w53⟩ := n33 v3 e3 hp3
        have he3 := nm_le (by omega) hp3
        refine p_aload_n d_Re_readPew_61 rfl ?_
        refine p_getR d_Re_readPew_62 fl_Re_82 kd_10 rfl rf_10_2 ?_
        refine p_iload_n d_Re_readPew_65 rfl ?_
        refine p_aload_n d_Re_readPew_66 rfl ?_
        refine p_getI d_Re_readPew_67 fl_Re_76 kd_2 (Or.inl rfl) ?_
        refine p_eqI (y := v3) (w43) ?_
        refine p_iastN (k) d_Re_readPew_70 ar_13 rfl (by omega) rfl ?_
        refine p_nmM (fun IA3 eIA3 => ?_)
        have b14 : IA3 2 1 = nI l := by rw [eIA3]; simp only [up2]; rw [if_neg (by omega), n13.2 1 (by omega)]; exact b13
        have b54 : IA3 2 5 = nI e3 := by rw [eIA3]; simp only [up2]; rw [if_neg (by omega)]; exact w53
        have b34 : IA3 3 = I 3 := by rw [eIA3]; funext y; simp only [up2]; rw [if_neg (by omega), n13.1 3 (by decide), b33]
        have bk4 : IA3 10 4 = nI k := by rw [eIA3]; simp only [up2]; rw [if_neg (by omega), n13.1 10 (by decide)]; exact bk3
        have bf4 : pwF k I IA3 := by rw [eIA3]; exact (bf3.tr (pwF.tk n13)).tr (pwF.up (by omega) (by omega))
        have c33 : IA3 13 k = v3 := by rw [eIA3]; simp [up2]
        have c13 : IA3 11 k = v1 := by rw [eIA3]; simp only [up2]; rw [if_neg (by omega), n13.1 11 (by decide)]; exact c12
        have c23 : IA3 12 k = v2 := by rw [eIA3]; simp only [up2]; rw [if_neg (by omega), n13.1 12 (by decide)]; exact c22
        refine p_aload_n d_Re_readPew_71 rfl ?_
        refine p_ic_0 d_Re_readPew_72 ?_
        refine p_bi_9 d_Re_readPew_73 ?_
        refine q_V d_Re_readPew_75 ml_Re_69 vb_Re_readNumber kd_2 ⟨leb rfl, leb rfl⟩ (c_number Γ IA3 J l e3 b14 hl2 b54 (by omega) (by rw [b34]; exact hx) 0 9 (by decide)) rfl rfl rfl (fun r S1 IN4 J1 hQ => ?_)
        obtain ⟨rfl, rfl, hJ, n14, n24, n34⟩ := hQ
        obtain rfl := hJ.symm
        rw [b34] at n24 n34
        rw [b34]
        refine p_ifneB (tgt := 83) d_Re_readPew_78 (by decide) (fun h78 => ?_) (fun h78 => ?_)
        · obtain ⟨⟨v4, e4⟩, hp4⟩ := isR_ex h78
          obtain ⟨w44, w54⟩ := n34 v4 e4 hp4
          have he4 := nm_le (by omega) hp4
          refine p_aload_n d_Re_readPew_83 rfl ?_
          refine p_getR d_Re_readPew_84 fl_Re_85 kd_10 rfl rf_10_3 ?_
          refine p_iload_n d_Re_readPew_87 rfl ?_
          refine p_aload_n d_Re_readPew_88 rfl ?_
          refine p_getI d_Re_readPew_89 fl_Re_76 kd_2 (Or.inl rfl) ?_
          refine p_eqI (y := v4) (w44) ?_
          refine p_iastN (k) d_Re_readPew_92 ar_14 rfl (by omega) rfl ?_
          refine p_nmM (fun IA4 eIA4 => ?_)
          have b15 : IA4 2 1 = nI l := by rw [eIA4]; simp only [up2]; rw [if_neg (by omega), n14.2 1 (by omega)]; exact b14
          have b55 : IA4 2 5 = nI e4 := by rw [eIA4]; simp only [up2]; rw [if_neg (by omega)]; exact w54
          have b35 : IA4 3 = I 3 := by rw [eIA4]; funext y; simp only [up2]; rw [if_neg (by omega), n14.1 3 (by decide), b34]
          have bk5 : IA4 10 4 = nI k := by rw [eIA4]; simp only [up2]; rw [if_neg (by omega), n14.1 10 (by decide)]; exact bk4
          have bf5 : pwF k I IA4 := by rw [eIA4]; exact (bf4.tr (pwF.tk n14)).tr (pwF.up (by omega) (by omega))
          have c44 : IA4 14 k = v4 := by rw [eIA4]; simp [up2]
          have c14 : IA4 11 k = v1 := by rw [eIA4]; simp only [up2]; rw [if_neg (by omega), n14.1 11 (by decide)]; exact c13
          have c24 : IA4 12 k = v2 := by rw [eIA4]; simp only [up2]; rw [if_neg (by omega), n14.1 12 (by decide)]; exact c23
          have c34 : IA4 13 k = v3 := by rw [eIA4]; simp only [up2]; rw [if_neg (by omega), n14.1 13 (by decide)]; exact c33
          refine p_aload_n d_Re_readPew_93 rfl ?_
          refine p_dup d_Re_readPew_94 rfl ?_
          refine p_getI d_Re_readPew_95 fl_Re_50 kd_10 (Or.inl rfl) ?_
          refine p_eqI (y := nI k) (bk5) ?_
          refine p_ic_1 d_Re_readPew_98 ?_
          refine p_iaddN (k) (1) d_Re_readPew_99 rfl rfl ?_
          refine p_putI d_Re_readPew_100 fl_Re_50 kd_10 rfl nf_0_4 ?_
          refine p_ic_1 d_Re_readPew_103 ?_
          refine p_iret d_Re_readPew_104 rfl rfl ?_
          have hR : pw4 (I 3) l i = .inr (v1, v2, v3, v4, e4) := by
            unfold pw4
            rw [hp1]
            show (match nm (I 3) l e1 0 9 with | .inl j => _ | .inr (v, e) => _) = _
            rw [hp2]
            show (match nm (I 3) l e2 0 9 with | .inl j => _ | .inr (v, e) => _) = _
            rw [hp3]
            show (match nm (I 3) l e3 0 9 with | .inl j => _ | .inr (v, e) => _) = _
            rw [hp4]
          refine ⟨by rw [hR]; rfl, rfl, rfl, bf5.tr pwF.p, fun p hp => ?_, fun a1 a2 a3 a4 a5 hp => ?_⟩
          · rw [hR] at hp; cases hp
          · rw [hR] at hp; cases hp
            refine ⟨by omega, ?_, ?_, ?_, ?_, ?_, ?_⟩
            · simp only [up2]; rw [if_neg (by omega)]; exact b55
            · simp [up2]
            · simp only [up2]; rw [if_neg (by omega)]; exact c14
            · simp only [up2]; rw [if_neg (by omega)]; exact c24
            · simp only [up2]; rw [if_neg (by omega)]; exact c34
            · simp only [up2]; rw [if_neg (by omega)]; exact c44
        · obtain ⟨p, hp4⟩ := isL_ex h78
          refine p_ic_0 d_Re_readPew_81 ?_
          refine p_iret d_Re_readPew_82 rfl rfl ?_
          exact pwQ_l (by unfold pw4; rw [hp1]; show (match nm (I 3) l e1 0 9 with | .inl j => _ | .inr (v, e) => _) = _; rw [hp2]; show (match nm (I 3) l e2 0 9 with | .inl j => _ | .inr (v, e) => _) = _; rw [hp3]; show (match nm (I 3) l e3 0 9 with | .inl j => _ | .inr (v, e) => _) = _; rw [hp4]) (bf4.tr (pwF.tk n14)) (n24 p hp4)
      · obtain ⟨p, hp3⟩ := isL_ex h56
        refine p_ic_0 d_Re_readPew_59 ?_
        refine p_iret d_Re_readPew_60 rfl rfl ?_
        exact pwQ_l (by unfold pw4; rw [hp1]; show (match nm (I 3) l e1 0 9 with | .inl j => _ | .inr (v, e) => _) = _; rw [hp2]; show (match nm (I 3) l e2 0 9 with | .inl j => _ | .inr (v, e) => _) = _; rw [hp3]) (bf3.tr (pwF.tk n13)) (n23 p hp3)
    · obtain ⟨p, hp2⟩ := isL_ex h34
      refine p_ic_0 d_Re_readPew_37 ?_
      refine p_iret d_Re_readPew_38 rfl rfl ?_
      exact pwQ_l (by unfold pw4; rw [hp1]; show (match nm (I 3) l e1 0 9 with | .inl j => _ | .inr (v, e) => _) = _; rw [hp2]) (bf2.tr (pwF.tk n12)) (n22 p hp2)
  · obtain ⟨p, hp1⟩ := isL_ex h12
    refine p_ic_0 d_Re_readPew_15 ?_
    refine p_iret d_Re_readPew_16 rfl rfl ?_
    exact pwQ_l (by unfold pw4; rw [hp1]) (bf1.tr (pwF.tk n11)) (n21 p hp1)
def CW (I : MemI) (r : Nat → Int32) (k : Nat) : Prop := I 10 4 = nI k ∧ I 10 5 = r 1 ∧ I 10 6 = r 2 ∧ I 10 7 = r 3 ∧ ∀ j, j < k → I 11 j = r (4 + j) ∧ I 12 j = r (10 + j) ∧ I 13 j = r (16 + j) ∧ I 14 j = r (22 + j)
def FLg (I : MemI) (m : Nat) : Prop := I 2 6 = nI (bt1 m 1) ∧ I 2 7 = nI (bt1 m 2) ∧ I 2 8 = nI (bt1 m 3)
theorem bt_or : ∀ m, m < 16 → ∀ pl, pl < 4 → ∀ q, q < 4 → bt1 (m ||| 2 ^ pl) q = if q = pl then 1 else bt1 m q := by decide +kernel
def rcF (I I' : MemI) : Prop := (∀ x, x ≠ 2 → x ≠ 10 → x ≠ 11 → x ≠ 12 → x ≠ 13 → x ≠ 14 → I' x = I x) ∧ ∀ y, y < 2 → I' 2 y = I 2 y
theorem rcF.rf {I : MemI} : rcF I I := ⟨fun _ _ _ _ _ _ _ => rfl, fun _ _ => rfl⟩
theorem rcF.tr {I I1 I2 : MemI} (h : rcF I I1) (g : rcF I1 I2) : rcF I I2 := ⟨fun x a b c d e f => (g.1 x a b c d e f).trans (h.1 x a b c d e f), fun y a => (g.2 y a).trans (h.2 y a)⟩
theorem rcF.tk {I I1 : MemI} (h : tkF I I1) : rcF I I1 := ⟨fun x a _ _ _ _ _ => h.1 x a, fun y a => h.2 y (Or.inl a)⟩
theorem rcF.pw {k : Nat} {I I1 : MemI} (h : pwF k I I1) : rcF I I1 := ⟨h.1, fun y a => h.2.1 y (Or.inl a)⟩
theorem CW.tk {I I1 : MemI} {r : Nat → Int32} {k : Nat} (h : CW I r k) (g : tkF I I1) : CW I1 r k := by
  obtain ⟨g1, g2⟩ := g
  unfold CW
  rw [g1 10 (by decide), g1 11 (by decide), g1 12 (by decide), g1 13 (by decide), g1 14 (by decide)]
  exact h
theorem FLg.tk {I I1 : MemI} {m : Nat} (h : FLg I m) (g : tkF I I1) : FLg I1 m := by
  obtain ⟨g1, g2⟩ := g
  unfold FLg
  rw [g2 6 (by omega), g2 7 (by omega), g2 8 (by omega)]
  exact h
theorem CW.pew {I I1 : MemI} {r : Nat → Int32} {k : Nat} {v1 v2 v3 v4 : Int32} (h : CW I r k) (hk : k < 6) (g : pwF k I I1) (hn : I1 10 4 = nI (k + 1)) (c1 : I1 11 k = v1) (c2 : I1 12 k = v2) (c3 : I1 13 k = v3) (c4 : I1 14 k = v4) : CW I1 (upd (upd (upd (upd (upd r (4 + k) v1) (10 + k) v2) (16 + k) v3) (22 + k) v4) 0 (nI (k + 1))) (k + 1) := by
  obtain ⟨h1, h2, h3, h4, h5⟩ := h
  have off : ∀ y, y ≠ 0 → y ≠ 4 + k → y ≠ 10 + k → y ≠ 16 + k → y ≠ 22 + k → upd (upd (upd (upd (upd r (4 + k) v1) (10 + k) v2) (16 + k) v3) (22 + k) v4) 0 (nI (k + 1)) y = r y := by
    intro y b0 b1 b2 b3 b4
    rw [upd_ne b0, upd_ne b4, upd_ne b3, upd_ne b2, upd_ne b1]
  refine ⟨hn, ?_, ?_, ?_, fun j hj => ?_⟩
  · rw [off 1 (by omega) (by omega) (by omega) (by omega) (by omega), g.2.2.1 5 (by omega)]; exact h2
  · rw [off 2 (by omega) (by omega) (by omega) (by omega) (by omega), g.2.2.1 6 (by omega)]; exact h3
  · rw [off 3 (by omega) (by omega) (by omega) (by omega) (by omega), g.2.2.1 7 (by omega)]; exact h4
  rcases Nat.lt_or_ge j k with q | q
  · rw [off (4 + j) (by omega) (by omega) (by omega) (by omega) (by omega), off (10 + j) (by omega) (by omega) (by omega) (by omega) (by omega), off (16 + j) (by omega) (by omega) (by omega) (by omega) (by omega), off (22 + j) (by omega) (by omega) (by omega) (by omega) (by omega), g.2.2.2 11 (by omega) (by omega) j (by omega), g.2.2.2 12 (by omega) (by omega) j (by omega), g.2.2.2 13 (by omega) (by omega) j (by omega), g.2.2.2 14 (by omega) (by omega) j (by omega)]
    exact h5 j q
  · have ej : j = k := by omega
    subst ej
    refine ⟨?_, ?_, ?_, ?_⟩
    · rw [upd_ne (by omega), upd_ne (by omega), upd_ne (by omega), upd_ne (by omega), upd_s]; exact c1
    · rw [upd_ne (by omega), upd_ne (by omega), upd_ne (by omega), upd_s]; exact c2
    · rw [upd_ne (by omega), upd_ne (by omega), upd_s]; exact c3
    · rw [upd_ne (by omega), upd_s]; exact c4
theorem FLg.pw {k m : Nat} {I I1 : MemI} (h : FLg I m) (g : pwF k I I1) : FLg I1 m := by
  unfold FLg
  rw [g.2.1 6 (by omega), g.2.1 7 (by omega), g.2.1 8 (by omega)]
  exact h
theorem tk_c {x : Nat → Int32} {l j : Nat} {c : Int32} (h : tkT x l j = c) (h2 : 57 < c) : j < l ∧ x j = c ∧ nxT x l j = j + 1 := by
  unfold tkT at h
  by_cases d : dgB x l j = true
  · rw [if_pos d] at h
    exfalso
    by_cases w : wrB x l j = true
    · rw [if_pos w] at h; rw [← h] at h2; exact absurd h2 (by decide)
    · rw [if_neg w] at h; rw [← h] at h2; exact absurd h2 (by decide)
  · rw [if_neg d] at h
    by_cases q : j < l
    · rw [if_pos q] at h
      refine ⟨q, h, ?_⟩
      unfold nxT
      rw [if_neg d, if_pos q]
    · rw [if_neg q] at h
      rw [← h] at h2
      exact absurd h2 (by decide)
def riQ (s : PR) (I : MemI) (J : MemJ) : PQ := fun r S' I' J' => r = some (.int (bI (s.isRight = true))) ∧ S' = S0 ∧ J' = J ∧ rcF I I' ∧ (∀ p, s = .inl p → I' 2 3 = nI p) ∧ ∀ i' r' m', s = .inr (i', r', m') → I' 2 5 = nI i' ∧ (∃ k', k' ≤ 6 ∧ r' 0 = nI k' ∧ CW I' r' k') ∧ FLg I' m'
theorem riQ_l {s : PR} {p : Nat} {I I' : MemI} {J : MemJ} (h : s = .inl p) (hf : rcF I I') (h3 : I' 2 3 = nI p) : riQ s I J (some (.int 0)) S0 I' J := by
  subst h
  refine ⟨rfl, rfl, rfl, hf, fun p2 hp => ?_, fun _ _ _ hp => ?_⟩
  · cases hp; exact h3
  · cases hp
theorem riQ_r {s : PR} {i' m' k' : Nat} {r' : Nat → Int32} {I I' : MemI} {J : MemJ} (h : s = .inr (i', r', m')) (hf : rcF I I') (h5 : I' 2 5 = nI i') (hk : k' ≤ 6) (h0 : r' 0 = nI k') (hc : CW I' r' k') (hl : FLg I' m') : riQ s I J (some (.int 1)) S0 I' J := by
  subst h
  refine ⟨rfl, rfl, rfl, hf, fun p2 hp => ?_, fun _ _ _ hp => ?_⟩
  · cases hp
  · cases hp; exact ⟨h5, ⟨k', hk, h0, hc⟩, hl⟩
theorem CW.one {I I1 : MemI} {r : Nat → Int32} {k pl : Nat} {v : Int32} (h : CW I r k) (hp : 1 ≤ pl) (hp3 : pl ≤ 3) (h10 : ∀ y, y ≠ 4 + pl → I1 10 y = I 10 y) (hv : I1 10 (4 + pl) = v) (hx : ∀ x, x ≠ 2 → x ≠ 10 → I1 x = I x) : CW I1 (upd r pl v) k := by
  obtain ⟨a1, a2, a3, a4, a5⟩ := h
  have A : ∀ y, 1 ≤ y → y ≤ 3 → I 10 (4 + y) = r y → I1 10 (4 + y) = upd r pl v y := by
    intro y b c e
    by_cases q : y = pl
    · subst q; rw [upd_s]; exact hv
    · rw [upd_ne q, h10 _ (by omega)]; exact e
  refine ⟨by rw [h10 4 (by omega)]; exact a1, A 1 (by omega) (by omega) a2, A 2 (by omega) (by omega) a3, A 3 (by omega) (by omega) a4, fun j hj => ?_⟩
  rw [hx 11 (by decide) (by decide), hx 12 (by decide) (by decide), hx 13 (by decide) (by decide), hx 14 (by decide) (by decide), upd_ne (by omega), upd_ne (by omega), upd_ne (by omega), upd_ne (by omega)]
  exact a5 j hj
theorem FLg.one {I I1 : MemI} {m pl : Nat} (h : FLg I m) (hm : m < 16) (hp : 1 ≤ pl) (hp3 : pl ≤ 3) (h2 : ∀ y, (y < 2 ∨ 5 < y) → y ≠ 5 + pl → I1 2 y = I 2 y) (hv : I1 2 (5 + pl) = 1) : FLg I1 (m ||| 2 ^ pl) := by
  obtain ⟨a1, a2, a3⟩ := h
  have A : ∀ y, 1 ≤ y → y ≤ 3 → I 2 (5 + y) = nI (bt1 m y) → I1 2 (5 + y) = nI (bt1 (m ||| 2 ^ pl) y) := by
    intro y b c e
    rw [bt_or m hm pl (by omega) y (by omega)]
    by_cases q : y = pl
    · subst q; rw [if_pos rfl]; exact hv
    · rw [if_neg q, h2 _ (by omega) (by omega)]; exact e
  exact ⟨A 1 (by omega) (by omega) a1, A 2 (by omega) (by omega) a2, A 3 (by omega) (by omega) a3⟩
theorem oneP_l {x : Nat → Int32} {l i pl m p : Nat} {lo hi : Int32} {r : Nat → Int32} (h : nm x l i lo hi = .inl p) : oneP x l i pl lo hi r m = .inl p := by
  unfold oneP
  rw [h]
theorem oneP_m {x : Nat → Int32} {l i pl m p e : Nat} {lo hi v : Int32} {r : Nat → Int32} (h : nm x l i lo hi = .inr (v, e)) (h2 : enP x l e = .inl p) : oneP x l i pl lo hi r m = .inl p := by
  unfold oneP
  rw [h]
  show (match enP x l e with | .inl j => _ | .inr e2 => _) = _
  rw [h2]
theorem oneP_r {x : Nat → Int32} {l i pl m e2 e : Nat} {lo hi v : Int32} {r : Nat → Int32} (h : nm x l i lo hi = .inr (v, e)) (h2 : enP x l e = .inr e2) : oneP x l i pl lo hi r m = .inr (e2, upd r pl v, m ||| 2 ^ pl) := by
  unfold oneP
  rw [h]
  show (match enP x l e with | .inl j => _ | .inr e2 => _) = _
  rw [h2]
theorem bt_1 {m q : Nat} (h : ¬ nI (bt1 m q) = 0) : bt1 m q = 1 := by
  have := bt1_le m q
  rcases (show bt1 m q = 0 ∨ bt1 m q = 1 by omega) with e | e
  · rw [e] at h; exact absurd rfl h
  · exact e
theorem bt_0 {m q : Nat} (h : nI (bt1 m q) = 0) : ¬ bt1 m q = 1 := by
  intro e
  rw [e] at h
  exact absurd h (by decide)
theorem c_itemR (Γ : Cx) (I : MemI) (J : MemJ) (l j k mt : Nat) (r : Nat → Int32) (hl : I 2 1 = nI l) (hl2 : l ≤ 200) (hjl : j < l) (ht : I 2 2 = tkT (I 3) l j) (h3 : I 2 3 = nI j) (h5 : I 2 5 = nI (nxT (I 3) l j)) (hk6 : k ≤ 6) (hr0 : r 0 = nI k) (hm : mt < 16) (hC : CW I r k) (hF : FLg I mt) (hx : ∀ y, y < l → 0 ≤ I 3 y) : Ct Γ M_Re_readItem [.ref 2, .ref 10] S0 I J (riQ (itP (I 3) l j k r mt (I 3 j)) I J) := by
  refine ct_of [.ref 2, .ref 10] (by decide +kernel) rfl (leb rfl) rfl ?_
  refine p_aload_n d_Re_readItem_0 rfl ?_
  refine p_getI d_Re_readItem_1 fl_Re_40 kd_2 (Or.inl rfl) ?_
  refine p_eqI (y := tkT (I 3) l j) (ht) ?_
  by_cases hs103 : tkT (I 3) l j = 103
  · refine p_lookup (off := 130) (tgt := 134) d_Re_readItem_4 (by decide) (by rw [hs103]; decide) (by decide) ?_
    obtain ⟨-, xc, nx⟩ := tk_c hs103 (by decide)
    rw [nx] at h5
    have hc : itP (I 3) l j k r mt (I 3 j) = (if bt1 mt 3 = 1 then .inl j else oneP (I 3) l (j + 1) 3 0 9 r mt) := by
      unfold itP
      rw [xc]
      rfl
    refine p_aload_n d_Re_readItem_134 rfl ?_
    refine p_getI d_Re_readItem_135 fl_Re_34 kd_2 (Or.inr rfl) ?_
    refine p_eqI (y := nI (bt1 mt 3)) (hF.2.2) ?_
    refine p_ifne (tgt := 160) d_Re_readItem_138 (by decide) (fun h138 => ?_) (fun h138 => ?_)
    · refine p_ic_0 d_Re_readItem_160 ?_
      refine p_iret d_Re_readItem_161 rfl rfl ?_
      exact riQ_l (by rw [hc, if_pos (bt_1 h138)]) rcF.rf h3
    · refine p_aload_n d_Re_readItem_141 rfl ?_
      refine p_aload_n d_Re_readItem_142 rfl ?_
      refine q_V d_Re_readItem_143 ml_Re_66 vb_Re_readGap kd_2 ⟨leb rfl, leb rfl⟩ (c_gap Γ I J l (j + 1) hl hl2 h5 (by omega) hx) rfl rfl rfl (fun r S1 IO J1 hQ => ?_)
      obtain ⟨rfl, rfl, hJ, p2, p3, p4, p5, p6, p7⟩ := hQ
      obtain rfl := hJ.symm
      have pf : rcF I IO := ⟨fun x a b _ _ _ _ => p5 x a b, fun y a => p6 y (Or.inl a) (by omega)⟩
      refine p_ifeqB (tgt := 160) d_Re_readItem_146 (by decide) (fun h146 => ?_) (fun h146 => ?_)
      · obtain ⟨p, hp⟩ := isL_ex h146
        refine p_ic_0 d_Re_readItem_160 ?_
        refine p_iret d_Re_readItem_161 rfl rfl ?_
        exact riQ_l (by rw [hc, if_neg (bt_0 h138), oneP_l hp]) pf (p2 p hp)
      · obtain ⟨⟨v, e⟩, hp⟩ := isR_ex h146
        obtain ⟨g5, q1⟩ := p3 v e hp
        have q0 := nm_le (by omega) hp
        have g1 : IO 2 1 = nI l := by rw [p6 1 (by omega) (by omega)]; exact hl
        have g3 : IO 3 = I 3 := p5 3 (by decide) (by decide)
        refine p_aload_n d_Re_readItem_149 rfl ?_
        refine q_V d_Re_readItem_150 ml_Re_56 vb_Re_readItemEnd kd_2 ⟨leb rfl, leb rfl⟩ (c_itemEnd Γ IO J l e g1 hl2 g5 (by omega)) rfl rfl rfl (fun r S1 IE J1 hQ => ?_)
        obtain ⟨rfl, rfl, hJ, z1, z2, z3⟩ := hQ
        obtain rfl := hJ.symm
        rw [g3] at z2 z3
        rw [g3]
        refine p_ifeqB (tgt := 160) d_Re_readItem_153 (by decide) (fun h153 => ?_) (fun h153 => ?_)
        · obtain ⟨p, hp2⟩ := isL_ex h153
          refine p_ic_0 d_Re_readItem_160 ?_
          refine p_iret d_Re_readItem_161 rfl rfl ?_
          exact riQ_l (by rw [hc, if_neg (bt_0 h138), oneP_m hp hp2]) (pf.tr (rcF.tk z1)) (z2 p hp2)
        · obtain ⟨e5, hp2⟩ := isR_ex h153
          refine p_ic_1 d_Re_readItem_156 ?_
          refine p_goto (tgt := 161) d_Re_readItem_157 (by decide) ?_
          refine p_iret d_Re_readItem_161 rfl rfl ?_
          exact riQ_r (k' := k) (by rw [hc, if_neg (bt_0 h138), oneP_r hp hp2]) (pf.tr (rcF.tk z1)) (z3 e5 hp2) hk6 (by rw [upd_ne (by omega)]; exact hr0) ((hC.one (by omega) (by omega) p7 q1 p5).tk z1) ((hF.one hm (by omega) (by omega) p6 (by rw [p4, bI_t h146])).tk z1)
  by_cases hs108 : tkT (I 3) l j = 108
  · refine p_lookup (off := 102) (tgt := 106) d_Re_readItem_4 (by decide) (by rw [hs108]; decide) (by decide) ?_
    obtain ⟨-, xc, nx⟩ := tk_c hs108 (by decide)
    rw [nx] at h5
    have hc : itP (I 3) l j k r mt (I 3 j) = (if bt1 mt 2 = 1 then .inl j else oneP (I 3) l (j + 1) 2 1 9 r mt) := by
      unfold itP
      rw [xc]
      rfl
    refine p_aload_n d_Re_readItem_106 rfl ?_
    refine p_getI d_Re_readItem_107 fl_Re_31 kd_2 (Or.inr rfl) ?_
    refine p_eqI (y := nI (bt1 mt 2)) (hF.2.1) ?_
    refine p_ifne (tgt := 132) d_Re_readItem_110 (by decide) (fun h110 => ?_) (fun h110 => ?_)
    · refine p_ic_0 d_Re_readItem_132 ?_
      refine p_iret d_Re_readItem_133 rfl rfl ?_
      exact riQ_l (by rw [hc, if_pos (bt_1 h110)]) rcF.rf h3
    · refine p_aload_n d_Re_readItem_113 rfl ?_
      refine p_aload_n d_Re_readItem_114 rfl ?_
      refine q_V d_Re_readItem_115 ml_Re_63 vb_Re_readLines kd_2 ⟨leb rfl, leb rfl⟩ (c_lines Γ I J l (j + 1) hl hl2 h5 (by omega) hx) rfl rfl rfl (fun r S1 IO J1 hQ => ?_)
      obtain ⟨rfl, rfl, hJ, p2, p3, p4, p5, p6, p7⟩ := hQ
      obtain rfl := hJ.symm
      have pf : rcF I IO := ⟨fun x a b _ _ _ _ => p5 x a b, fun y a => p6 y (Or.inl a) (by omega)⟩
      refine p_ifeqB (tgt := 132) d_Re_readItem_118 (by decide) (fun h118 => ?_) (fun h118 => ?_)
      · obtain ⟨p, hp⟩ := isL_ex h118
        refine p_ic_0 d_Re_readItem_132 ?_
        refine p_iret d_Re_readItem_133 rfl rfl ?_
        exact riQ_l (by rw [hc, if_neg (bt_0 h110), oneP_l hp]) pf (p2 p hp)
      · obtain ⟨⟨v, e⟩, hp⟩ := isR_ex h118
        obtain ⟨g5, q1⟩ := p3 v e hp
        have q0 := nm_le (by omega) hp
        have g1 : IO 2 1 = nI l := by rw [p6 1 (by omega) (by omega)]; exact hl
        have g3 : IO 3 = I 3 := p5 3 (by decide) (by decide)
        refine p_aload_n d_Re_readItem_121 rfl ?_
        refine q_V d_Re_readItem_122 ml_Re_56 vb_Re_readItemEnd kd_2 ⟨leb rfl, leb rfl⟩ (c_itemEnd Γ IO J l e g1 hl2 g5 (by omega)) rfl rfl rfl (fun r S1 IE J1 hQ => ?_)
        obtain ⟨rfl, rfl, hJ, z1, z2, z3⟩ := hQ
        obtain rfl := hJ.symm
        rw [g3] at z2 z3
        rw [g3]
        refine p_ifeqB (tgt := 132) d_Re_readItem_125 (by decide) (fun h125 => ?_) (fun h125 => ?_)
        · obtain ⟨p, hp2⟩ := isL_ex h125
          refine p_ic_0 d_Re_readItem_132 ?_
          refine p_iret d_Re_readItem_133 rfl rfl ?_
          exact riQ_l (by rw [hc, if_neg (bt_0 h110), oneP_m hp hp2]) (pf.tr (rcF.tk z1)) (z2 p hp2)
        · obtain ⟨e5, hp2⟩ := isR_ex h125
          refine p_ic_1 d_Re_readItem_128 ?_
          refine p_goto (tgt := 133) d_Re_readItem_129 (by decide) ?_
          refine p_iret d_Re_readItem_133 rfl rfl ?_
          exact riQ_r (k' := k) (by rw [hc, if_neg (bt_0 h110), oneP_r hp hp2]) (pf.tr (rcF.tk z1)) (z3 e5 hp2) hk6 (by rw [upd_ne (by omega)]; exact hr0) ((hC.one (by omega) (by omega) p7 q1 p5).tk z1) ((hF.one hm (by omega) (by omega) p6 (by rw [p4, bI_t h118])).tk z1)
  by_cases hs112 : tkT (I 3) l j = 112
  · refine p_lookup (off := 44) (tgt := 48) d_Re_readItem_4 (by decide) (by rw [hs112]; decide) (by decide) ?_
    obtain ⟨-, xc, nx⟩ := tk_c hs112 (by decide)
    rw [nx] at h5
    have hc : itP (I 3) l j k r mt (I 3 j) = (if k = 6 then .inl j else pewP (I 3) l (j + 1) k r mt) := by
      unfold itP
      rw [xc]
      rfl
    refine p_aload_n d_Re_readItem_48 rfl ?_
    refine p_getI d_Re_readItem_49 fl_Re_50 kd_10 (Or.inl rfl) ?_
    refine p_eqI (y := nI k) (hC.1) ?_
    refine p_bi_6 d_Re_readItem_52 ?_
    refine p_icmpgeN (tgt := 76) (k) (6) d_Re_readItem_54 (by decide) rfl rfl (by omega) (by omega) (fun h54 => ?_) (fun h54 => ?_)
    · refine p_ic_0 d_Re_readItem_76 ?_
      refine p_iret d_Re_readItem_77 rfl rfl ?_
      exact riQ_l (by rw [hc, if_pos (by omega)]) rcF.rf h3
    · refine p_aload_n d_Re_readItem_57 rfl ?_
      refine p_aload_n d_Re_readItem_58 rfl ?_
      refine q_V d_Re_readItem_59 ml_Re_53 vb_Re_readPew kd_2 ⟨leb rfl, leb rfl⟩ (c_pewR Γ I J l (j + 1) hl hl2 h5 (by omega) hx k hC.1 (by omega)) rfl rfl rfl (fun r S1 IP J1 hQ => ?_)
      obtain ⟨rfl, rfl, hJ, p1, p2, p3⟩ := hQ
      obtain rfl := hJ.symm
      refine p_ifeqB (tgt := 76) d_Re_readItem_62 (by decide) (fun h62 => ?_) (fun h62 => ?_)
      · obtain ⟨p, hp⟩ := isL_ex h62
        refine p_ic_0 d_Re_readItem_76 ?_
        refine p_iret d_Re_readItem_77 rfl rfl ?_
        exact riQ_l (by rw [hc, if_neg (by omega), pewP_l hp]) (rcF.pw p1) (p2 p hp)
      · obtain ⟨⟨v1, v2, v3, v4, e⟩, hp⟩ := isR_ex h62
        obtain ⟨q0, q1, q2, q3, q4, q5, q6⟩ := p3 v1 v2 v3 v4 e hp
        have g1 : IP 2 1 = nI l := by rw [p1.2.1 1 (by omega)]; exact hl
        have g5 : IP 2 5 = nI e := q1
        have g3 : IP 3 = I 3 := p1.1 3 (by decide) (by decide) (by decide) (by decide) (by decide) (by decide)
        refine p_aload_n d_Re_readItem_65 rfl ?_
        refine q_V d_Re_readItem_66 ml_Re_56 vb_Re_readItemEnd kd_2 ⟨leb rfl, leb rfl⟩ (c_itemEnd Γ IP J l e g1 hl2 g5 (by omega)) rfl rfl rfl (fun r S1 IE J1 hQ => ?_)
        obtain ⟨rfl, rfl, hJ, z1, z2, z3⟩ := hQ
        obtain rfl := hJ.symm
        rw [g3] at z2 z3
        rw [g3]
        refine p_ifeqB (tgt := 76) d_Re_readItem_69 (by decide) (fun h69 => ?_) (fun h69 => ?_)
        · obtain ⟨p, hp2⟩ := isL_ex h69
          refine p_ic_0 d_Re_readItem_76 ?_
          refine p_iret d_Re_readItem_77 rfl rfl ?_
          exact riQ_l (by rw [hc, if_neg (by omega), pewP_r hp, hp2]) ((rcF.pw p1).tr (rcF.tk z1)) (z2 p hp2)
        · obtain ⟨e5, hp2⟩ := isR_ex h69
          refine p_ic_1 d_Re_readItem_72 ?_
          refine p_goto (tgt := 77) d_Re_readItem_73 (by decide) ?_
          refine p_iret d_Re_readItem_77 rfl rfl ?_
          exact riQ_r (k' := k + 1) (by rw [hc, if_neg (by omega), pewP_r hp, hp2]) ((rcF.pw p1).tr (rcF.tk z1)) (z3 e5 hp2) (by omega) upd_s ((hC.pew (by omega) p1 q2 q3 q4 q5 q6).tk z1) ((hF.pw p1).tk z1)
  by_cases hs119 : tkT (I 3) l j = 119
  · refine p_lookup (off := 74) (tgt := 78) d_Re_readItem_4 (by decide) (by rw [hs119]; decide) (by decide) ?_
    obtain ⟨-, xc, nx⟩ := tk_c hs119 (by decide)
    rw [nx] at h5
    have hc : itP (I 3) l j k r mt (I 3 j) = (if bt1 mt 1 = 1 then .inl j else oneP (I 3) l (j + 1) 1 0 10 r mt) := by
      unfold itP
      rw [xc]
      rfl
    refine p_aload_n d_Re_readItem_78 rfl ?_
    refine p_getI d_Re_readItem_79 fl_Re_27 kd_2 (Or.inr rfl) ?_
    refine p_eqI (y := nI (bt1 mt 1)) (hF.1) ?_
    refine p_ifne (tgt := 104) d_Re_readItem_82 (by decide) (fun h82 => ?_) (fun h82 => ?_)
    · refine p_ic_0 d_Re_readItem_104 ?_
      refine p_iret d_Re_readItem_105 rfl rfl ?_
      exact riQ_l (by rw [hc, if_pos (bt_1 h82)]) rcF.rf h3
    · refine p_aload_n d_Re_readItem_85 rfl ?_
      refine p_aload_n d_Re_readItem_86 rfl ?_
      refine q_V d_Re_readItem_87 ml_Re_60 vb_Re_readWait kd_2 ⟨leb rfl, leb rfl⟩ (c_wait Γ I J l (j + 1) hl hl2 h5 (by omega) hx) rfl rfl rfl (fun r S1 IO J1 hQ => ?_)
      obtain ⟨rfl, rfl, hJ, p2, p3, p4, p5, p6, p7⟩ := hQ
      obtain rfl := hJ.symm
      have pf : rcF I IO := ⟨fun x a b _ _ _ _ => p5 x a b, fun y a => p6 y (Or.inl a) (by omega)⟩
      refine p_ifeqB (tgt := 104) d_Re_readItem_90 (by decide) (fun h90 => ?_) (fun h90 => ?_)
      · obtain ⟨p, hp⟩ := isL_ex h90
        refine p_ic_0 d_Re_readItem_104 ?_
        refine p_iret d_Re_readItem_105 rfl rfl ?_
        exact riQ_l (by rw [hc, if_neg (bt_0 h82), oneP_l hp]) pf (p2 p hp)
      · obtain ⟨⟨v, e⟩, hp⟩ := isR_ex h90
        obtain ⟨g5, q1⟩ := p3 v e hp
        have q0 := nm_le (by omega) hp
        have g1 : IO 2 1 = nI l := by rw [p6 1 (by omega) (by omega)]; exact hl
        have g3 : IO 3 = I 3 := p5 3 (by decide) (by decide)
        refine p_aload_n d_Re_readItem_93 rfl ?_
        refine q_V d_Re_readItem_94 ml_Re_56 vb_Re_readItemEnd kd_2 ⟨leb rfl, leb rfl⟩ (c_itemEnd Γ IO J l e g1 hl2 g5 (by omega)) rfl rfl rfl (fun r S1 IE J1 hQ => ?_)
        obtain ⟨rfl, rfl, hJ, z1, z2, z3⟩ := hQ
        obtain rfl := hJ.symm
        rw [g3] at z2 z3
        rw [g3]
        refine p_ifeqB (tgt := 104) d_Re_readItem_97 (by decide) (fun h97 => ?_) (fun h97 => ?_)
        · obtain ⟨p, hp2⟩ := isL_ex h97
          refine p_ic_0 d_Re_readItem_104 ?_
          refine p_iret d_Re_readItem_105 rfl rfl ?_
          exact riQ_l (by rw [hc, if_neg (bt_0 h82), oneP_m hp hp2]) (pf.tr (rcF.tk z1)) (z2 p hp2)
        · obtain ⟨e5, hp2⟩ := isR_ex h97
          refine p_ic_1 d_Re_readItem_100 ?_
          refine p_goto (tgt := 105) d_Re_readItem_101 (by decide) ?_
          refine p_iret d_Re_readItem_105 rfl rfl ?_
          exact riQ_r (k' := k) (by rw [hc, if_neg (bt_0 h82), oneP_r hp hp2]) (pf.tr (rcF.tk z1)) (z3 e5 hp2) hk6 (by rw [upd_ne (by omega)]; exact hr0) ((hC.one (by omega) (by omega) p7 q1 p5).tk z1) ((hF.one hm (by omega) (by omega) p6 (by rw [p4, bI_t h90])).tk z1)
  refine p_lookup (off := 158) (tgt := 162) d_Re_readItem_4 (by decide) (by show Op.lookupswitch.offset [(103, 130), (108, 102), (112, 44), (119, 74)] 158 (tkT (I 3) l j).toInt = _; rw [lv_osw hs103 (by decide)]; rw [lv_osw hs108 (by decide)]; rw [lv_osw hs112 (by decide)]; rw [lv_osw hs119 (by decide)]; rfl) (by decide) ?_
  refine p_ic_0 d_Re_readItem_162 ?_
  refine p_iret d_Re_readItem_163 rfl rfl ?_
  have nc : ∀ c, 57 < c → ¬ tkT (I 3) l j = c → ¬ I 3 j = c := by
    intro c a b e
    refine b ?_
    rw [tkT_n hjl (fun z => ?_)]
    · exact e
    · rw [e] at z
      exact absurd z.2 (by rw [i32_nle]; exact a)
  refine riQ_l ?_ rcF.rf h3
  unfold itP
  rw [if_neg (nc _ (by decide) hs112), if_neg (nc _ (by decide) hs119), if_neg (nc _ (by decide) hs108), if_neg (nc _ (by decide) hs103)]
