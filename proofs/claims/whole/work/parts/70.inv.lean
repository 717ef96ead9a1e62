/-! ===== class and reference side by side: what holds between two calls ===== -/
def RowOK (n : Nat) (r : Nat → Int32) : Prop := (∃ b, b < 64 ∧ r 37 = nI b) ∧ (∃ s, s ≤ 999 ∧ r 38 = nI s) ∧ (0 ≤ (r 1).toInt ∧ (r 1).toInt ≤ 10) ∧ LBd n r ∧ ¬ 9999 < r 34
def chE (T r : Nat → Int32) : Prop := ∀ y, y < 28 → y ≠ 1 → r y = T y
/-- class state a holds row r, a row that may come back, of the same church as T -/
def PaR (I : MemI) (n a : Nat) (r T : Nat → Int32) : Prop := SgR I a n r ∧ I a 6 = r 38 ∧ RowOK n r ∧ chE T r
def iA (I : MemI) (n : Nat) : Prop := Vw I n (I 54) ∧ rg n (I 54) ∧ RowOK n (I 54) ∧ (∃ ln, (1 ≤ ln ∧ ln ≤ 9) ∧ I 54 2 = nI ln) ∧ ∃ g, g ≤ 9 ∧ I 54 3 = nI g
def iH (I : MemI) (n x u : Nat) : Prop := x < 10 ∧ u ≤ 10 ∧ I 22 1 = nI x ∧ I 22 2 = nI u ∧ I 53 2 = nI u ∧ ∀ e, e < u → PaR I n (24 + 2 * ((x + 10 - u + e) % 10)) (fun y => I 55 (39 * e + y)) (I 54)
def iK (I : MemI) (n : Nat) : Prop := ∀ i, i < 2 → I 49 i = I 57 i ∧ (¬ I 57 i = 0 → PaR I n (45 + 2 * i) (fun y => I 56 (39 * i + y)) (I 54))
def iT (I : MemI) (l : Nat) : Prop := I 2 1 = nI l ∧ I 53 6 = nI l ∧ l ≤ 200 ∧ I 3 = I 58 ∧ ∀ y, y < l → 0 ≤ I 58 y
def iE (I : MemI) (n E : Nat) : Prop := I 1 12 = nI E ∧ I 53 8 = nI E ∧ E ≤ 6 ∧ ∀ e, e < E → I 50 e = I 59 (3 * e) ∧ (∃ p, p < n ∧ I 51 e = nI p ∧ I 59 (3 * e + 1) = nI p) ∧ I 52 e = I 59 (3 * e + 2)
def InP (I : MemI) (J : MemJ) (n x u l E : Nat) : Prop := iA I n ∧ iH I n x u ∧ iK I n ∧ iT I l ∧ iE I n E ∧ J 1 13 = J 53 9
def Inv (I : MemI) (J : MemJ) : Prop := ∃ n x u l E, InP I J n x u l E
theorem chE.rf {T : Nat → Int32} : chE T T := fun _ _ _ => rfl
theorem chE.tr {T r s : Nat → Int32} (h : chE T r) (g : chE r s) : chE T s := fun y a b => (g y a b).trans (h y a b)
theorem RowOK.row {n : Nat} {r r' : Nat → Int32} (h : RowOK n r) (hn : n ≤ 6) (hr : ∀ y, y < 39 → r' y = r y) : RowOK n r' := by
  obtain ⟨h1, h2, h3, h4, h5⟩ := h
  refine ⟨by rw [hr 37 (by omega)]; exact h1, by rw [hr 38 (by omega)]; exact h2, by rw [hr 1 (by omega)]; exact h3, fun k hk => ?_, by rw [hr 34 (by omega)]; exact h5⟩
  rw [hr (28 + k) (by omega)]
  exact h4 k hk
theorem PaR.mv {I I' : MemI} {a n : Nat} {r T : Nat → Int32} (h : PaR I n a r T) (h0 : I' a = I a) (h1 : I' (a + 1) = I (a + 1)) : PaR I' n a r T := ⟨h.1.mv h0 h1, by rw [h0]; exact h.2.1, h.2.2⟩
theorem PaR.row {I : MemI} {a n : Nat} {r r' T T' : Nat → Int32} (h : PaR I n a r T) (hn : n ≤ 6) (hr : ∀ y, y < 39 → r' y = r y) (hT : chE T T') : PaR I n a r' T' := by
  obtain ⟨⟨g1, g2, g3, g4, g5, g6⟩, h2, h3, h4⟩ := h
  refine ⟨⟨fun k hk => ?_, ?_, ?_, ?_, ?_, ?_⟩, ?_, h3.row hn hr, fun y a b => ?_⟩
  · rw [hr (28 + k) (by omega)]; exact g1 k hk
  · rw [hr 35 (by omega)]; exact g2
  · rw [hr 36 (by omega)]; exact g3
  · rw [hr 37 (by omega)]; exact g4
  · rw [hr 1 (by omega)]; exact g5
  · rw [hr 34 (by omega)]; exact g6
  · rw [hr 38 (by omega)]; exact h2
  · rw [hr y (by omega), hT y a b]; exact h4 y a b
/-- a copy of a state holds the same row -/
theorem PaR_cp {I I' : MemI} {a b n : Nat} {r T : Nat → Int32} (h : SgR I b n r) (h6 : I b 6 = r 38) (hr : RowOK n r) (hT : chE T r) (hn : n ≤ 6) (q1 : ∀ k, k < 6 → I' (a + 1) k = I (b + 1) k) (q2 : ∀ y, 1 ≤ y → y ≤ 6 → I' a y = I b y) : PaR I' n a r T :=
  ⟨SgR_cp h hn q1 q2, by rw [q2 6 (by omega) (by omega)]; exact h6, hr, hT⟩
theorem Vw.to {I I' : MemI} {n : Nat} {t t' : Nat → Int32} (V : Vw I n t) (h4 : ∀ z, 4 ≤ z → z ≤ 8 → I' z = I z) (hc : chE t t') (hg : SgR I' 16 n t') (h6 : I' 16 6 = t' 38) : Vw I' n t' := by
  obtain ⟨v1, v2, v3, v4, v5, v6, v7⟩ := V
  refine ⟨v1, ?_, ?_, hg, h6, ?_, ?_⟩
  · rw [hc 0 (by omega) (by omega)]; exact v2
  · exact (v3.mv (h4 4 (by omega) (by omega)) (h4 5 (by omega) (by omega)) (h4 6 (by omega) (by omega)) (h4 7 (by omega) (by omega)) (h4 8 (by omega) (by omega))).c v1 (fun y a b => hc y b (by omega))
  · rw [h4 4 (by omega) (by omega), hc 2 (by omega) (by omega)]; exact v6
  · rw [h4 4 (by omega) (by omega), hc 3 (by omega) (by omega)]; exact v7
theorem rg.to {n : Nat} {t t' : Nat → Int32} (h : rg n t) (hn : n ≤ 6) (hc : chE t t') : rg n t' := fun k hk => by
  rw [hc (10 + k) (by omega) (by omega), hc (16 + k) (by omega) (by omega)]
  exact h k hk
theorem iA.to {I I' : MemI} {n : Nat} (h : iA I n) (h4 : ∀ z, 4 ≤ z → z ≤ 8 → I' z = I z) (hc : chE (I 54) (I' 54)) (hr : RowOK n (I' 54)) (hg : SgR I' 16 n (I' 54)) (h6 : I' 16 6 = I' 54 38) : iA I' n := by
  obtain ⟨a1, a2, a3, a4, a5⟩ := h
  exact ⟨a1.to h4 hc hg h6, a2.to a1.1 hc, hr, by rw [hc 2 (by omega) (by omega)]; exact a4, by rw [hc 3 (by omega) (by omega)]; exact a5⟩
theorem iA.mv {I I' : MemI} {n : Nat} (h : iA I n) (h4 : ∀ z, 4 ≤ z → z ≤ 8 → I' z = I z) (h16 : I' 16 = I 16) (h17 : I' 17 = I 17) (h54 : I' 54 = I 54) : iA I' n := by
  refine h.to h4 (by rw [h54]; exact chE.rf) (by rw [h54]; exact h.2.2.1) ?_ ?_
  · rw [h54]; exact (h.1.2.2.2.1).mv h16 h17
  · rw [h54, h16]; exact h.1.2.2.2.2.1
theorem iH.to {I I' : MemI} {n x u : Nat} (h : iH I n x u) (hn : n ≤ 6) (h22 : I' 22 = I 22) (h53 : I' 53 2 = I 53 2) (hs : ∀ z, 24 ≤ z → z ≤ 43 → I' z = I z) (h55 : I' 55 = I 55) (hc : chE (I 54) (I' 54)) : iH I' n x u := by
  obtain ⟨a1, a2, a3, a4, a5, a6⟩ := h
  refine ⟨a1, a2, by rw [h22]; exact a3, by rw [h22]; exact a4, by rw [h53]; exact a5, fun e he => ?_⟩
  exact ((a6 e he).mv (hs _ (by omega) (by omega)) (hs _ (by omega) (by omega))).row hn (fun y _ => by rw [h55]) hc
theorem iK.to {I I' : MemI} {n : Nat} (h : iK I n) (hn : n ≤ 6) (h49 : I' 49 = I 49) (h57 : I' 57 = I 57) (hs : ∀ z, 45 ≤ z → z ≤ 48 → I' z = I z) (h56 : I' 56 = I 56) (hc : chE (I 54) (I' 54)) : iK I' n := by
  intro i hi
  obtain ⟨a1, a2⟩ := h i hi
  rw [h49, h57]
  refine ⟨a1, fun q => ?_⟩
  exact ((a2 q).mv (hs _ (by omega) (by omega)) (hs _ (by omega) (by omega))).row hn (fun y _ => by rw [h56]) hc
theorem iT.mv {I I' : MemI} {l : Nat} (h : iT I l) (h2 : I' 2 1 = I 2 1) (h53 : I' 53 6 = I 53 6) (h3 : I' 3 = I 3) (h58 : I' 58 = I 58) : iT I' l := by
  unfold iT at h ⊢
  rw [h2, h53, h3, h58]
  exact h
theorem iE.mv {I I' : MemI} {n E : Nat} (h : iE I n E) (h1 : I' 1 12 = I 1 12) (h53 : I' 53 8 = I 53 8) (h50 : I' 50 = I 50) (h51 : I' 51 = I 51) (h52 : I' 52 = I 52) (h59 : I' 59 = I 59) : iE I' n E := by
  unfold iE at h ⊢
  rw [h1, h53, h50, h51, h52, h59]
  exact h
theorem InP.mv {I I' : MemI} {J : MemJ} {n x u l E : Nat} (h : InP I J n x u l E) (f : ∀ z, (z ≠ 9 ∧ (z < 10 ∨ 15 < z) ∧ (z < 18 ∨ 21 < z) ∧ z < 60) → I' z = I z) : InP I' J n x u l E := by
  obtain ⟨hA, hH, hK, hT, hE, hJ⟩ := h
  have hn := hA.1.1
  refine ⟨hA.mv (fun z a b => f z (by omega)) (f 16 (by omega)) (f 17 (by omega)) (f 54 (by omega)), hH.to hn (f 22 (by omega)) (by rw [f 53 (by omega)]) (fun z a b => f z (by omega)) (f 55 (by omega)) (by rw [f 54 (by omega)]; exact chE.rf), hK.to hn (f 49 (by omega)) (f 57 (by omega)) (fun z a b => f z (by omega)) (f 56 (by omega)) (by rw [f 54 (by omega)]; exact chE.rf), hT.mv (by rw [f 2 (by omega)]) (by rw [f 53 (by omega)]) (f 3 (by omega)) (f 58 (by omega)), hE.mv (by rw [f 1 (by omega)]) (by rw [f 53 (by omega)]) (f 50 (by omega)) (f 51 (by omega)) (f 52 (by omega)) (f 59 (by omega)), hJ⟩
/-- something was done, and what was before is remembered -/
theorem InP.dn {I I1 I2 : MemI} {J : MemJ} {n x u l E : Nat} {t' : Nat → Int32} {r0 r1 r2 r3 : Option Value} {S1 S2 : Sh} {J1 J2 : MemJ} (h : InP I J n x u l E) (q1 : baQ r0 x u n t' I J r1 S1 I1 J1) (q2 : stQ r2 t' (rmU u) (rmP u (I 55) (I 54)) I1 J r3 S2 I2 J2) (hr : RowOK n t') (hc : chE (I 54) t') : Inv I2 J := by
  obtain ⟨hA, hH, hK, hT, hE, hJ⟩ := h
  have hn := hA.1.1
  obtain ⟨-, -, -, a1, a2, a3, a4, ⟨a5, a6⟩, a7⟩ := q1
  obtain ⟨-, -, -, b1, b2, b3, b4, b5⟩ := q2
  obtain ⟨hx, hu, c1, c2, c3, c4⟩ := hH
  have g : ∀ z, (z ≠ 53 ∧ z ≠ 54 ∧ z ≠ 55 ∧ z ≠ 61) → I2 z = I1 z := fun z q => b5 z q.1 q.2.1 q.2.2.1 q.2.2.2
  have f : ∀ z, (z ≠ 9 ∧ z ≠ 16 ∧ z ≠ 17 ∧ z ≠ 22 ∧ z ≠ 24 + 2 * x ∧ z ≠ 24 + 2 * x + 1 ∧ z ≠ 53 ∧ z ≠ 54 ∧ z ≠ 55 ∧ z ≠ 61) → I2 z = I z := fun z q => (g z (by omega)).trans (a7 z (by omega) (by omega) (by omega) (by omega) (by omega) (by omega))
  have hc2 : chE (I 54) (I2 54) := by rw [b1]; exact hc
  have e53 : ∀ y, y ≠ 2 → I2 53 y = I 53 y := fun y hy => by rw [b4 y hy, a7 53 (by omega) (by omega) (by omega) (by omega) (by omega) (by omega)]
  refine ⟨n, (x + 1) % 10, rmU u, l, E, hA.to (fun z a b => f z (by omega)) hc2 (by rw [b1]; exact hr) (by rw [b1]; exact a5.mv (g 16 (by omega)) (g 17 (by omega))) (by rw [b1, g 16 (by omega)]; exact a6), ?_, hK.to hn (f 49 (by omega)) (f 57 (by omega)) (fun z a b => f z (by omega)) (f 56 (by omega)) hc2, hT.mv (by rw [f 2 (by omega)]) (e53 6 (by omega)) (f 3 (by omega)) (f 58 (by omega)), hE.mv (by rw [f 1 (by omega)]) (e53 8 (by omega)) (f 50 (by omega)) (f 51 (by omega)) (f 52 (by omega)) (f 59 (by omega)), hJ⟩
  refine ⟨Nat.mod_lt _ (by omega), by unfold rmU; split <;> omega, by rw [g 22 (by omega)]; exact a3, by rw [g 22 (by omega)]; exact a4, b2, fun e he => ?_⟩
  have hnew : PaR I2 n (24 + 2 * x) (I 54) (I2 54) := by
    refine (PaR_cp (I := I) (b := 16) (T := I 54) hA.1.2.2.2.1 hA.1.2.2.2.2.1 hA.2.2.1 chE.rf hn (fun k hk => ?_) (fun y p q => ?_)).row hn (fun _ _ => rfl) hc2
    · rw [g (24 + 2 * x + 1) (by omega)]; exact a1 k hk
    · rw [g (24 + 2 * x) (by omega)]; exact a2 y p q
  have hold : ∀ e', e' < u → (x + 10 - u + e') % 10 ≠ x → PaR I2 n (24 + 2 * ((x + 10 - u + e') % 10)) (fun y => I 55 (39 * e' + y)) (I2 54) := fun e' h1 h2 =>
    ((c4 e' h1).mv (f _ (by omega)) (f _ (by omega))).row hn (fun _ _ => rfl) hc2
  rw [b3]
  unfold rmU at he ⊢
  unfold rmP
  by_cases h10 : u = 10
  · subst h10
    rw [if_pos rfl] at he ⊢
    rw [if_pos rfl]
    rcases Nat.lt_or_ge e 9 with h9 | h9
    · have ei : ((x + 1) % 10 + 10 - 10 + e) % 10 = (x + 10 - 10 + (e + 1)) % 10 := by omega
      rw [ei]
      refine (hold (e + 1) (by omega) (by omega)).row hn (fun y hy => ?_) chE.rf
      show cpR (shR (I 55)) (I 54) 0 351 (39 * e + y) = I 55 (39 * (e + 1) + y)
      unfold cpR
      rw [if_neg (by omega)]
      unfold shR
      rw [if_pos (by omega)]
      exact congrArg (I 55) (by omega)
    · have e9 : e = 9 := by omega
      subst e9
      have ei : ((x + 1) % 10 + 10 - 10 + 9) % 10 = x := by omega
      rw [ei]
      refine hnew.row hn (fun y hy => ?_) chE.rf
      show cpR (shR (I 55)) (I 54) 0 351 (39 * 9 + y) = I 54 y
      unfold cpR
      rw [if_pos (by omega)]
      exact congrArg (I 54) (by omega)
  · rw [if_neg h10] at he ⊢
    rw [if_neg h10]
    rcases Nat.lt_or_ge e u with h9 | h9
    · have ei : ((x + 1) % 10 + 10 - (u + 1) + e) % 10 = (x + 10 - u + e) % 10 := by omega
      rw [ei]
      refine (hold e h9 (by omega)).row hn (fun y hy => ?_) chE.rf
      show cpR (I 55) (I 54) 0 (39 * u) (39 * e + y) = I 55 (39 * e + y)
      unfold cpR
      rw [if_neg (by omega)]
    · have e9 : e = u := by omega
      subst e9
      have ei : ((x + 1) % 10 + 10 - (e + 1) + e) % 10 = x := by omega
      rw [ei]
      refine hnew.row hn (fun y hy => ?_) chE.rf
      show cpR (I 55) (I 54) 0 (39 * e) (39 * e + y) = I 54 y
      unfold cpR
      rw [if_pos (by omega)]
      exact congrArg (I 54) (by omega)
/-- the last is taken back -/
theorem InP.ud {I I1 I2 : MemI} {J : MemJ} {n x u l E : Nat} {r1 r2 r3 : Option Value} {S1 S2 : Sh} {J1 J2 : MemJ} (h : InP I J n x (u + 1) l E) (q1 : htQ ((x + 9) % 10) u I J r1 S1 I1 J1) (q2 : stQ r2 (fun y => I 55 (39 * u + y)) u (I 55) I1 J r3 S2 I2 J2) : Inv I2 J := by
  obtain ⟨hA, hH, hK, hT, hE, hJ⟩ := h
  have hn := hA.1.1
  obtain ⟨-, -, -, a1, a2, a3, a4, a7⟩ := q1
  obtain ⟨-, -, -, b1, b2, b3, b4, b5⟩ := q2
  obtain ⟨hx, hu, c1, c2, c3, c4⟩ := hH
  have g : ∀ z, (z ≠ 53 ∧ z ≠ 54 ∧ z ≠ 55 ∧ z ≠ 61) → I2 z = I1 z := fun z q => b5 z q.1 q.2.1 q.2.2.1 q.2.2.2
  have f : ∀ z, (z ≠ 16 ∧ z ≠ 17 ∧ z ≠ 22 ∧ z ≠ 53 ∧ z ≠ 54 ∧ z ≠ 55 ∧ z ≠ 61) → I2 z = I z := fun z q => (g z (by omega)).trans (a7 z (by omega) (by omega) (by omega))
  have e53 : ∀ y, y ≠ 2 → I2 53 y = I 53 y := fun y hy => by rw [b4 y hy, a7 53 (by omega) (by omega) (by omega)]
  have ei : (x + 10 - (u + 1) + u) % 10 = (x + 9) % 10 := by omega
  have hp := c4 u (by omega)
  rw [ei] at hp
  obtain ⟨p1, p2, p3, p4⟩ := hp
  have hc2 : chE (I 54) (I2 54) := by rw [b1]; exact p4
  have hg : PaR I2 n 16 (fun y => I 55 (39 * u + y)) (I 54) := by
    refine PaR_cp p1 p2 p3 p4 hn (fun k hk => ?_) (fun y p q => ?_)
    · rw [g (16 + 1) (by omega)]; exact a1 k hk
    · rw [g 16 (by omega)]; exact a2 y p q
  refine ⟨n, (x + 9) % 10, u, l, E, hA.to (fun z a b => f z (by omega)) hc2 (by rw [b1]; exact p3) (by rw [b1]; exact hg.1) (by rw [b1]; exact hg.2.1), ?_, hK.to hn (f 49 (by omega)) (f 57 (by omega)) (fun z a b => f z (by omega)) (f 56 (by omega)) hc2, hT.mv (by rw [f 2 (by omega)]) (e53 6 (by omega)) (f 3 (by omega)) (f 58 (by omega)), hE.mv (by rw [f 1 (by omega)]) (e53 8 (by omega)) (f 50 (by omega)) (f 51 (by omega)) (f 52 (by omega)) (f 59 (by omega)), hJ⟩
  refine ⟨Nat.mod_lt _ (by omega), by omega, by rw [g 22 (by omega)]; exact a3, by rw [g 22 (by omega)]; exact a4, b2, fun e he => ?_⟩
  have ej : ((x + 9) % 10 + 10 - u + e) % 10 = (x + 10 - (u + 1) + e) % 10 := by omega
  rw [ej, b3]
  exact ((c4 e (by omega)).mv (f _ (by omega)) (f _ (by omega))).row hn (fun _ _ => rfl) hc2
/-- an image is kept -/
theorem InP.kp {I I1 I2 : MemI} {J : MemJ} {n x u l E i : Nat} {r1 r2 r3 : Option Value} {S1 S2 : Sh} {J1 J2 : MemJ} (h : InP I J n x u l E) (hi : i < 2) (q1 : bkQ i I J r1 S1 I1 J1) (q2 : kpQ r2 i (cpR (I 56) (I 54) 0 (39 * i)) I1 J r3 S2 I2 J2) : Inv I2 J := by
  obtain ⟨hA, hH, hK, hT, hE, hJ⟩ := h
  have hn := hA.1.1
  obtain ⟨-, -, -, a1, a2, a3, a7⟩ := q1
  obtain ⟨-, -, -, b1, b2, b5⟩ := q2
  have g : ∀ z, (z ≠ 56 ∧ z ≠ 57) → I2 z = I1 z := fun z q => b5 z q.1 q.2
  have f : ∀ z, (z ≠ 45 + 2 * i ∧ z ≠ 45 + 2 * i + 1 ∧ z ≠ 49 ∧ z ≠ 56 ∧ z ≠ 57) → I2 z = I z := fun z q => (g z (by omega)).trans (a7 z (by omega) (by omega) (by omega))
  have hc2 : chE (I 54) (I2 54) := by rw [f 54 (by omega)]; exact chE.rf
  refine ⟨n, x, u, l, E, hA.mv (fun z a b => f z (by omega)) (f 16 (by omega)) (f 17 (by omega)) (f 54 (by omega)), hH.to hn (f 22 (by omega)) (by rw [f 53 (by omega)]) (fun z a b => f z (by omega)) (f 55 (by omega)) hc2, fun j hj => ?_, hT.mv (by rw [f 2 (by omega)]) (by rw [f 53 (by omega)]) (f 3 (by omega)) (f 58 (by omega)), hE.mv (by rw [f 1 (by omega)]) (by rw [f 53 (by omega)]) (f 50 (by omega)) (f 51 (by omega)) (f 52 (by omega)) (f 59 (by omega)), hJ⟩
  obtain ⟨k1, k2⟩ := hK j hj
  rw [g 49 (by omega), a3 j, b2 j, a7 57 (by omega) (by omega) (by omega), b1]
  by_cases e : j = i
  · subst e
    rw [if_pos rfl, if_pos rfl]
    refine ⟨rfl, fun _ => ?_⟩
    refine (PaR_cp (I := I) (b := 16) (r := I 54) (T := I 54) hA.1.2.2.2.1 hA.1.2.2.2.2.1 hA.2.2.1 chE.rf hn (fun k hk => ?_) (fun y p q => ?_)).row hn (fun y hy => ?_) hc2
    · rw [g (45 + 2 * j + 1) (by omega)]; exact a1 k hk
    · rw [g (45 + 2 * j) (by omega)]; exact a2 y p q
    · show cpR (I 56) (I 54) 0 (39 * j) (39 * j + y) = I 54 y
      unfold cpR
      rw [if_pos (by omega)]
      exact congrArg (I 54) (by omega)
  · rw [if_neg e, if_neg e]
    refine ⟨k1, fun q => ?_⟩
    refine ((k2 q).mv (f _ (by omega)) (f _ (by omega))).row hn (fun y hy => ?_) hc2
    show cpR (I 56) (I 54) 0 (39 * i) (39 * j + y) = I 56 (39 * j + y)
    unfold cpR
    rw [if_neg (by omega)]
/-- an image comes back -/
theorem InP.bk {I I1 I2 : MemI} {J : MemJ} {n x u l E i : Nat} {r1 r2 r3 : Option Value} {S1 S2 : Sh} {J1 J2 : MemJ} (h : InP I J n x u l E) (hi : i < 2) (hk : ¬ I 57 i = 0) (q1 : bbQ i I J r1 S1 I1 J1) (q2 : stQ r2 (fun y => I 56 (39 * i + y)) 0 (I 55) I1 J r3 S2 I2 J2) : Inv I2 J := by
  obtain ⟨hA, hH, hK, hT, hE, hJ⟩ := h
  have hn := hA.1.1
  obtain ⟨-, -, -, a1, a2, a3, a4, a7⟩ := q1
  obtain ⟨-, -, -, b1, b2, b3, b4, b5⟩ := q2
  obtain ⟨hx, hu, c1, c2, c3, c4⟩ := hH
  have g : ∀ z, (z ≠ 53 ∧ z ≠ 54 ∧ z ≠ 55 ∧ z ≠ 61) → I2 z = I1 z := fun z q => b5 z q.1 q.2.1 q.2.2.1 q.2.2.2
  have f : ∀ z, (z ≠ 16 ∧ z ≠ 17 ∧ z ≠ 22 ∧ z ≠ 53 ∧ z ≠ 54 ∧ z ≠ 55 ∧ z ≠ 61) → I2 z = I z := fun z q => (g z (by omega)).trans (a7 z (by omega) (by omega) (by omega))
  have e53 : ∀ y, y ≠ 2 → I2 53 y = I 53 y := fun y hy => by rw [b4 y hy, a7 53 (by omega) (by omega) (by omega)]
  obtain ⟨p1, p2, p3, p4⟩ := (hK i hi).2 hk
  have hc2 : chE (I 54) (I2 54) := by rw [b1]; exact p4
  have hg : PaR I2 n 16 (fun y => I 56 (39 * i + y)) (I 54) := by
    refine PaR_cp p1 p2 p3 p4 hn (fun k hk => ?_) (fun y p q => ?_)
    · rw [g (16 + 1) (by omega)]; exact a1 k hk
    · rw [g 16 (by omega)]; exact a2 y p q
  refine ⟨n, x, 0, l, E, hA.to (fun z a b => f z (by omega)) hc2 (by rw [b1]; exact p3) (by rw [b1]; exact hg.1) (by rw [b1]; exact hg.2.1), ?_, hK.to hn (f 49 (by omega)) (f 57 (by omega)) (fun z a b => f z (by omega)) (f 56 (by omega)) hc2, hT.mv (by rw [f 2 (by omega)]) (e53 6 (by omega)) (f 3 (by omega)) (f 58 (by omega)), hE.mv (by rw [f 1 (by omega)]) (e53 8 (by omega)) (f 50 (by omega)) (f 51 (by omega)) (f 52 (by omega)) (f 59 (by omega)), hJ⟩
  exact ⟨hx, by omega, by rw [g 22 (by omega), a4 1 (by omega)]; exact c1, by rw [g 22 (by omega)]; exact a3, b2, fun e he => absurd he (by omega)⟩
