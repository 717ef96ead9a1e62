/-! ===== class and reference side by side: each call ===== -/
def Pr (Γ : Cx) (N1 N2 : MI) (av : List Value) (v : Value) (I : MemI) (J : MemJ) : Prop :=
  ∃ Q1, Ct Γ N1 (.ref 1 :: av) S0 I J Q1 ∧ ∀ r S1 I1 J1, Q1 r S1 I1 J1 → r = some v ∧ S1 = S0 ∧ ∃ Q2, Ct Γ N2 (.ref 53 :: av) S0 I1 J1 Q2 ∧ ∀ r2 S2 I2 J2, Q2 r2 S2 I2 J2 → r2 = some v ∧ S2 = S0 ∧ Inv I2 J2
def PrI (Γ : Cx) (N1 N2 : MI) (av : List Value) (I : MemI) (J : MemJ) : Prop := ∃ x : Int32, Pr Γ N1 N2 av (.int x) I J
def PrJ (Γ : Cx) (N1 N2 : MI) (av : List Value) (I : MemI) (J : MemJ) : Prop := ∃ x : Int64, Pr Γ N1 N2 av (.long x) I J
section PP
variable {Γ : Cx} {N1 N2 : MI} {av : List Value} {v : Value} {I : MemI} {J : MemJ} {n x u l E : Nat}
theorem Pr.rd (h : InP I J n x u l E) (h1 : Ct Γ N1 (.ref 1 :: av) S0 I J (eqQ (some v) S0 I J)) (h2 : Ct Γ N2 (.ref 53 :: av) S0 I J (eqQ (some v) S0 I J)) : Pr Γ N1 N2 av v I J := by
  refine ⟨_, h1, fun r S1 I1 J1 q => ?_⟩
  obtain ⟨rfl, rfl, rfl, rfl⟩ := q
  refine ⟨rfl, rfl, _, h2, fun r2 S2 I2 J2 q => ?_⟩
  obtain ⟨rfl, rfl, rfl, rfl⟩ := q
  exact ⟨rfl, rfl, n, x, u, l, E, h⟩
theorem Pr.sc (h : InP I J n x u l E) (h1 : Ct Γ N1 (.ref 1 :: av) S0 I J (bsQ (some v) I J)) (h2 : ∀ I1 : MemI, I1 54 = I 54 → I1 53 = I 53 → I1 59 = I 59 → Ct Γ N2 (.ref 53 :: av) S0 I1 J (scQ (some v) I1 J)) : Pr Γ N1 N2 av v I J := by
  refine ⟨_, h1, fun r S1 I1 J1 q => ?_⟩
  obtain ⟨rfl, rfl, hJ, hs⟩ := q
  obtain rfl := hJ.symm
  refine ⟨rfl, rfl, _, h2 I1 (hs 54 (by omega) (by omega) (by omega)) (hs 53 (by omega) (by omega) (by omega)) (hs 59 (by omega) (by omega) (by omega)), fun r2 S2 I2 J2 q => ?_⟩
  obtain ⟨rfl, rfl, hJ, ht⟩ := q
  obtain rfl := hJ.symm
  exact ⟨rfl, rfl, n, x, u, l, E, h.mv (fun z hz => (ht z (by omega) (by omega) (by omega)).trans (hs z (by omega) (by omega) (by omega)))⟩
theorem Pr.dn {t' : Nat → Int32} (h : InP I J n x u l E) (h1 : Ct Γ N1 (.ref 1 :: av) S0 I J (baQ (some v) x u n t' I J)) (h2 : ∀ I1 : MemI, I1 54 = I 54 → I1 53 = I 53 → I1 55 = I 55 → Ct Γ N2 (.ref 53 :: av) S0 I1 J (stQ (some v) t' (rmU u) (rmP u (I 55) (I 54)) I1 J)) (hr : RowOK n t') (hc : chE (I 54) t') : Pr Γ N1 N2 av v I J := by
  have hx := h.2.1.1
  refine ⟨_, h1, fun r S1 I1 J1 q => ?_⟩
  have q' := q
  obtain ⟨rfl, rfl, hJ, -, -, -, -, -, hs⟩ := q'
  obtain rfl := hJ.symm
  refine ⟨rfl, rfl, _, h2 I1 (hs 54 (by omega) (by omega) (by omega) (by omega) (by omega) (by omega)) (hs 53 (by omega) (by omega) (by omega) (by omega) (by omega) (by omega)) (hs 55 (by omega) (by omega) (by omega) (by omega) (by omega) (by omega)), fun r2 S2 I2 J2 q2 => ?_⟩
  have q2' := q2
  obtain ⟨rfl, rfl, hJ, -⟩ := q2'
  obtain rfl := hJ.symm
  exact ⟨rfl, rfl, h.dn q q2 hr hc⟩
end PP
theorem exP {n : Nat} (hn : n ≤ 6) {a : Int32} (h : 0 ≤ a ∧ a < nI n) : ∃ k, k < n ∧ a = nI k := by
  obtain ⟨k, hk, rfl⟩ := nI_of (i32_nlt.mpr h.1)
  exact ⟨k, (nI_ltI hk (by omega)).mp h.2, rfl⟩
theorem exL {a M : Int32} (m : Nat) (hM : M.toInt = m) (h : 0 ≤ a ∧ a ≤ M) : ∃ k, k ≤ m ∧ a = nI k := nI_of2 hM (i32_nlt.mpr h.1) h.2
theorem ex1 {a M : Int32} (m : Nat) (hm : m < 1000) (hM : M.toInt = m) (h : 1 ≤ a ∧ a ≤ M) : ∃ k, 1 ≤ k ∧ k ≤ m ∧ a = nI k := by
  have h0 : (0 : Int32) ≤ a := by
    have := i32_le.mp h.1
    rw [i32_le]
    have e1 : (1 : Int32).toInt = 1 := by decide
    have e0 : (0 : Int32).toInt = 0 := by decide
    omega
  obtain ⟨k, hk, rfl⟩ := exL m hM ⟨h0, h.2⟩
  refine ⟨k, ?_, hk, rfl⟩
  have := (nI_leI (a := 1) (b := k) (by omega) (by omega)).mp h.1
  exact this
theorem InP.ok {I : MemI} {J : MemJ} {n x u l E : Nat} (h : InP I J n x u l E) : okT n (I 54) := ⟨h.1.1.1, h.1.2.1.okD, h.1.2.2.1.2.2.2.2⟩
/-- rows that may come next -/
theorem RowOK.it {n s q : Nat} {t : Nat → Int32} (h : RowOK n t) (hok : okT n t) (hs : t 38 = nI s) (hq : 1 ≤ q) (hsq : s + q ≤ 999) : RowOK n (itS n t q) := by
  have hn := hok.1
  obtain ⟨h1, h2, h3, h4, h5⟩ := h
  refine ⟨by rw [it_low 37 (by omega) q hn]; exact h1, ⟨s + q, hsq, itS_38 hn hs q⟩, by rw [it_low 1 (by omega) q hn]; exact h3, it_b hn h3 q hq, (hok.it q).2.2⟩
theorem chE.it {n q : Nat} {t : Nat → Int32} (hn : n ≤ 6) : chE t (itS n t q) := fun y a _ => it_low y (by omega) q hn
theorem RowOK.rs {n g : Nat} {t : Nat → Int32} (h : RowOK n t) (hn : n ≤ 6) (hg : g ≤ 9) : RowOK n (rsT n g t) := by
  obtain ⟨h1, h2, h3, h4, h5⟩ := h
  have off : ∀ y, ¬ (28 ≤ y ∧ y < 28 + n) → rsT n g t y = t y := fun y hy => by unfold rsT; rw [if_neg hy]
  refine ⟨by rw [off 37 (by omega)]; exact h1, by rw [off 38 (by omega)]; exact h2, by rw [off 1 (by omega)]; exact h3, fun k hk => ?_, by rw [off 34 (by omega)]; exact h5⟩
  have e : rsT n g t (28 + k) = t (28 + k) / nI (g + 1) := by unfold rsT; rw [if_pos (by omega)]
  rw [e, dv_ti (by omega)]
  have := td_ab (c := g + 1) (by omega) (h4 k hk)
  exact ⟨this.1, this.2.1⟩
theorem chE.rs {n g : Nat} {t t' : Nat → Int32} (h : chE t t') : chE t (rsT n g t') := fun y a b => by
  unfold rsT
  rw [if_neg (by omega)]
  exact h y a b
theorem chE.up {t : Nat → Int32} {pl : Nat} {a : Int32} (h : 28 ≤ pl ∨ pl = 1) : chE t (upd t pl a) := fun y _ b => upd_ne (by omega)
theorem RowOK.up {n pl : Nat} {t : Nat → Int32} {a : Int32} (h : RowOK n t) (hn : n ≤ 6) (hp : pl = 35 ∨ pl = 36 ∨ (pl = 1 ∧ 0 ≤ a.toInt ∧ a.toInt ≤ 10) ∨ (pl = 37 ∧ ∃ b, b < 64 ∧ a = nI b)) : RowOK n (upd t pl a) := by
  obtain ⟨h1, h2, h3, h4, h5⟩ := h
  refine ⟨?_, by rw [upd_ne (by omega)]; exact h2, ?_, fun k hk => by rw [upd_ne (by omega)]; exact h4 k hk, by rw [upd_ne (by omega)]; exact h5⟩
  · by_cases e : pl = 37
    · subst e
      rcases hp with hp | hp | hp | hp
      · omega
      · omega
      · omega
      · rw [upd_s]; exact hp.2
    · rw [upd_ne (fun q => e q.symm)]; exact h1
  · by_cases e : pl = 1
    · subst e
      rcases hp with hp | hp | hp | hp
      · omega
      · omega
      · rw [upd_s]; exact hp.2
      · omega
    · rw [upd_ne (fun q => e q.symm)]; exact h3
theorem pr_pew (Γ : Cx) {I : MemI} {J : MemJ} (h : Inv I J) (k w : Int32) : PrI Γ M_Bo_pew M_Mo_pew [.int k, .int w] I J := by
  obtain ⟨n, x, u, l, E, h⟩ := h
  have V : Vw I n (I 54) := h.1.1
  have hn : n ≤ 6 := V.1
  have h0 : I 54 0 = nI n := V.2.1
  have hok := h.ok
  obtain ⟨⟨b, hb, hkn⟩, ⟨s, hs, hs6⟩, hw, hlb, h99⟩ := id h.1.2.2.1
  obtain ⟨⟨ln, hln9, hln⟩, g, hg9, hg⟩ := id h.1.2.2.2
  obtain ⟨hx, hu, c1, c2, c3, -⟩ := id h.2.1
  by_cases hc : (0 ≤ k ∧ k < nI n) ∧ (0 ≤ w ∧ w ≤ 6)
  · obtain ⟨k, hk, rfl⟩ := exP hn hc.1
    obtain ⟨q, hq, rfl⟩ := exL 6 (by decide) hc.2
    exact ⟨_, Pr.rd h (b_pew Γ I J n (I 54) V k q b hk hq hb hkn) (m_pew Γ I J n k q hn h0 hk hq)⟩
  · exact ⟨_, Pr.rd h (b_pew_bad Γ I J n (I 54) V k w hc) (m_pew_bad Γ I J n k w hn h0 hc)⟩
theorem pr_now (Γ : Cx) {I : MemI} {J : MemJ} (h : Inv I J) (w : Int32) : PrI Γ M_Bo_now M_Mo_now [.int w] I J := by
  obtain ⟨n, x, u, l, E, h⟩ := h
  have V : Vw I n (I 54) := h.1.1
  have hn : n ≤ 6 := V.1
  have h0 : I 54 0 = nI n := V.2.1
  have hok := h.ok
  obtain ⟨⟨b, hb, hkn⟩, ⟨s, hs, hs6⟩, hw, hlb, h99⟩ := id h.1.2.2.1
  obtain ⟨⟨ln, hln9, hln⟩, g, hg9, hg⟩ := id h.1.2.2.2
  obtain ⟨hx, hu, c1, c2, c3, -⟩ := id h.2.1
  have e : I 22 2 = I 53 2 := c2.trans c3.symm
  have q := b_now Γ I J n (I 54) V w
  rw [e] at q
  exact ⟨_, Pr.rd h q (m_now Γ I J n w hn h0)⟩
theorem pr_count (Γ : Cx) {I : MemI} {J : MemJ} (h : Inv I J) (w : Int32) : PrI Γ M_Bo_count M_Mo_count [.int w] I J := by
  obtain ⟨n, x, u, l, E, h⟩ := h
  have V : Vw I n (I 54) := h.1.1
  have hn : n ≤ 6 := V.1
  have h0 : I 54 0 = nI n := V.2.1
  have hok := h.ok
  obtain ⟨⟨b, hb, hkn⟩, ⟨s, hs, hs6⟩, hw, hlb, h99⟩ := id h.1.2.2.1
  obtain ⟨⟨ln, hln9, hln⟩, g, hg9, hg⟩ := id h.1.2.2.2
  obtain ⟨hx, hu, c1, c2, c3, -⟩ := id h.2.1
  have q := b_count Γ I J n (I 54) V w
  rw [h.2.2.2.2.1.1.trans h.2.2.2.2.1.2.1.symm, h.2.2.2.1.1.trans h.2.2.2.1.2.1.symm] at q
  exact ⟨_, Pr.rd h q (m_count Γ I J w)⟩
theorem pr_trace (Γ : Cx) {I : MemI} {J : MemJ} (h : Inv I J) : PrJ Γ M_Bo_trace M_Mo_trace [] I J := by
  obtain ⟨n, x, u, l, E, h⟩ := h
  have V : Vw I n (I 54) := h.1.1
  have hn : n ≤ 6 := V.1
  have h0 : I 54 0 = nI n := V.2.1
  have hok := h.ok
  obtain ⟨⟨b, hb, hkn⟩, ⟨s, hs, hs6⟩, hw, hlb, h99⟩ := id h.1.2.2.1
  obtain ⟨⟨ln, hln9, hln⟩, g, hg9, hg⟩ := id h.1.2.2.2
  obtain ⟨hx, hu, c1, c2, c3, -⟩ := id h.2.1
  have q := b_trace Γ I J
  rw [h.2.2.2.2.2] at q
  exact ⟨_, Pr.rd h q (m_trace Γ I J)⟩
theorem pr_ahead (Γ : Cx) {I : MemI} {J : MemJ} (h : Inv I J) (a : Int32) : PrI Γ M_Bo_ahead M_Mo_ahead [.int a] I J := by
  obtain ⟨n, x, u, l, E, h⟩ := h
  have V : Vw I n (I 54) := h.1.1
  have hn : n ≤ 6 := V.1
  have h0 : I 54 0 = nI n := V.2.1
  have hok := h.ok
  obtain ⟨⟨b, hb, hkn⟩, ⟨s, hs, hs6⟩, hw, hlb, h99⟩ := id h.1.2.2.1
  obtain ⟨⟨ln, hln9, hln⟩, g, hg9, hg⟩ := id h.1.2.2.2
  obtain ⟨hx, hu, c1, c2, c3, -⟩ := id h.2.1
  by_cases hc : 0 ≤ a ∧ a ≤ 20
  · exact ⟨_, Pr.dn h (b_ahead Γ I J n (I 54) V x u hx c1 c2 hu a hc) (fun I1 e4 e3 e5 => by
      have m := m_ahead Γ I1 J a hc u (by rw [e3]; exact c3) hu
      rw [e4, e5] at m
      exact m) (h.1.2.2.1.up hn (Or.inl rfl)) (chE.up (Or.inl (by omega)))⟩
  · exact ⟨_, Pr.rd h (b_ahead_bad Γ I J a hc) (m_ahead_bad Γ I J a hc)⟩
theorem pr_waits (Γ : Cx) {I : MemI} {J : MemJ} (h : Inv I J) (a : Int32) : PrI Γ M_Bo_waits M_Mo_waits [.int a] I J := by
  obtain ⟨n, x, u, l, E, h⟩ := h
  have V : Vw I n (I 54) := h.1.1
  have hn : n ≤ 6 := V.1
  have h0 : I 54 0 = nI n := V.2.1
  have hok := h.ok
  obtain ⟨⟨b, hb, hkn⟩, ⟨s, hs, hs6⟩, hw, hlb, h99⟩ := id h.1.2.2.1
  obtain ⟨⟨ln, hln9, hln⟩, g, hg9, hg⟩ := id h.1.2.2.2
  obtain ⟨hx, hu, c1, c2, c3, -⟩ := id h.2.1
  by_cases hc : 0 ≤ a ∧ a ≤ 10
  · have hc' : 0 ≤ a.toInt ∧ a.toInt ≤ 10 := ⟨i32_le.mp hc.1, i32_le.mp hc.2⟩
    exact ⟨_, Pr.dn h (b_waits Γ I J n (I 54) V x u hx c1 c2 hu a hc) (fun I1 e4 e3 e5 => by
      have m := m_waits Γ I1 J a hc u (by rw [e3]; exact c3) hu
      rw [e4, e5] at m
      exact m) (h.1.2.2.1.up hn (Or.inr (Or.inr (Or.inl ⟨rfl, hc'⟩)))) (chE.up (Or.inr rfl))⟩
  · exact ⟨_, Pr.rd h (b_waits_bad Γ I J a hc) (m_waits_bad Γ I J a hc)⟩
theorem pr_choir (Γ : Cx) {I : MemI} {J : MemJ} (h : Inv I J) (a : Int32) : PrI Γ M_Bo_choir M_Mo_choir [.int a] I J := by
  obtain ⟨n, x, u, l, E, h⟩ := h
  have V : Vw I n (I 54) := h.1.1
  have hn : n ≤ 6 := V.1
  have h0 : I 54 0 = nI n := V.2.1
  have hok := h.ok
  obtain ⟨⟨b, hb, hkn⟩, ⟨s, hs, hs6⟩, hw, hlb, h99⟩ := id h.1.2.2.1
  obtain ⟨⟨ln, hln9, hln⟩, g, hg9, hg⟩ := id h.1.2.2.2
  obtain ⟨hx, hu, c1, c2, c3, -⟩ := id h.2.1
  by_cases hc : 0 ≤ a ∧ a < nI n
  · obtain ⟨k, hk, rfl⟩ := exP hn hc
    exact ⟨_, Pr.dn h (b_choir Γ I J n (I 54) V x u hx c1 c2 hu (nI k) (nI k) (Or.inl hc) (Or.inr ⟨k, by omega, rfl, rfl⟩)) (fun I1 e4 e3 e5 => by
      have m := m_choir Γ I1 J n hn (by rw [e4]; exact h0) k hk u (by rw [e3]; exact c3) hu
      rw [e4, e5] at m
      exact m) (h.1.2.2.1.up hn (Or.inr (Or.inl rfl))) (chE.up (Or.inl (by omega)))⟩
  · by_cases hc2 : a = -1000009
    · subst hc2
      exact ⟨_, Pr.dn h (b_choir Γ I J n (I 54) V x u hx c1 c2 hu (-1000009) (-1) (Or.inr rfl) (Or.inl ⟨rfl, rfl⟩)) (fun I1 e4 e3 e5 => by
      have m := m_choir_none Γ I1 J n hn (by rw [e4]; exact h0) u (by rw [e3]; exact c3) hu
      rw [e4, e5] at m
      exact m) (h.1.2.2.1.up hn (Or.inr (Or.inl rfl))) (chE.up (Or.inl (by omega)))⟩
    · exact ⟨_, Pr.rd h (b_choir_bad Γ I J n (I 54) V a hc hc2) (m_choir_bad Γ I J n hn h0 a hc hc2)⟩
theorem pr_knows (Γ : Cx) {I : MemI} {J : MemJ} (h : Inv I J) (k w : Int32) : PrI Γ M_Bo_knows M_Mo_knows [.int k, .int w] I J := by
  obtain ⟨n, x, u, l, E, h⟩ := h
  have V : Vw I n (I 54) := h.1.1
  have hn : n ≤ 6 := V.1
  have h0 : I 54 0 = nI n := V.2.1
  have hok := h.ok
  obtain ⟨⟨b, hb, hkn⟩, ⟨s, hs, hs6⟩, hw, hlb, h99⟩ := id h.1.2.2.1
  obtain ⟨⟨ln, hln9, hln⟩, g, hg9, hg⟩ := id h.1.2.2.2
  obtain ⟨hx, hu, c1, c2, c3, -⟩ := id h.2.1
  by_cases hc : (0 ≤ k ∧ k < nI n) ∧ (0 ≤ w ∧ w ≤ 1)
  · obtain ⟨k, hk, rfl⟩ := exP hn hc.1
    obtain ⟨i, hi, rfl⟩ := exL 1 (by decide) hc.2
    have hlt := (knS_m b hb k (by omega) i (by omega)).2
    exact ⟨_, Pr.dn h (b_knows Γ I J n (I 54) V x u hx c1 c2 hu k i b hk (by omega) hb hkn) (fun I1 e4 e3 e5 => by
      have m := m_knows Γ I1 J n hn (by rw [e4]; exact h0) k i b hk (by omega) hb (by rw [e4]; exact hkn) u (by rw [e3]; exact c3) hu
      rw [e4, e5] at m
      exact m) (h.1.2.2.1.up hn (Or.inr (Or.inr (Or.inr ⟨rfl, _, hlt, rfl⟩)))) (chE.up (Or.inl (by omega)))⟩
  · exact ⟨_, Pr.rd h (b_knows_bad Γ I J n (I 54) V k w hc) (m_knows_bad Γ I J n hn h0 k w hc)⟩
theorem pr_line (Γ : Cx) {I : MemI} {J : MemJ} (h : Inv I J) : PrI Γ M_Bo_line M_Mo_line [] I J := by
  obtain ⟨n, x, u, l, E, h⟩ := h
  have V : Vw I n (I 54) := h.1.1
  have hn : n ≤ 6 := V.1
  have h0 : I 54 0 = nI n := V.2.1
  have hok := h.ok
  obtain ⟨⟨b, hb, hkn⟩, ⟨s, hs, hs6⟩, hw, hlb, h99⟩ := id h.1.2.2.1
  obtain ⟨⟨ln, hln9, hln⟩, g, hg9, hg⟩ := id h.1.2.2.2
  obtain ⟨hx, hu, c1, c2, c3, -⟩ := id h.2.1
  have e9 : I 54 38 < 999 ↔ s < 999 := by
    rw [hs6, show (999 : Int32) = nI 999 from rfl]
    exact nI_ltI (by omega) (by omega)
  by_cases hc : s < 999
  · exact ⟨_, Pr.dn h (b_line Γ I J n (I 54) V x u hx c1 c2 hu hok s hs6 hc) (fun I1 e4 e3 e5 => by
      have m := m_line Γ I1 J n hn (by rw [e4]; exact h0) (by rw [e4]; exact hok) (by rw [e4]; exact e9.mpr hc) u (by rw [e3]; exact c3) hu
      rw [e4, e5] at m
      exact m) (h.1.2.2.1.it (q := 1) hok hs6 (by omega) (by omega)) (chE.it (q := 1) hn)⟩
  · exact ⟨_, Pr.rd h (b_line_st Γ I J n (I 54) V (fun q => hc (e9.mp q))) (m_line_st Γ I J (fun q => hc (e9.mp q)))⟩
theorem pr_verse (Γ : Cx) {I : MemI} {J : MemJ} (h : Inv I J) : PrI Γ M_Bo_verse M_Mo_verse [] I J := by
  obtain ⟨n, x, u, l, E, h⟩ := h
  have V : Vw I n (I 54) := h.1.1
  have hn : n ≤ 6 := V.1
  have h0 : I 54 0 = nI n := V.2.1
  have hok := h.ok
  obtain ⟨⟨b, hb, hkn⟩, ⟨s, hs, hs6⟩, hw, hlb, h99⟩ := id h.1.2.2.1
  obtain ⟨⟨ln, hln9, hln⟩, g, hg9, hg⟩ := id h.1.2.2.2
  obtain ⟨hx, hu, c1, c2, c3, -⟩ := id h.2.1
  have e9 : 999 < I 54 38 + I 54 2 ↔ 999 < s + ln := by
    rw [hs6, hln, nI_add, show (999 : Int32) = nI 999 from rfl]
    exact nI_ltI (by omega) (by omega)
  by_cases hc : 999 < s + ln
  · exact ⟨_, Pr.rd h (b_verse_st Γ I J n (I 54) V (e9.mpr hc)) (m_verse_st Γ I J (e9.mpr hc))⟩
  · exact ⟨_, Pr.dn h (b_verse Γ I J n (I 54) V x u hx c1 c2 hu hok s ln g hs6 (by omega) hln hln9.2 hg hg9) (fun I1 e4 e3 e5 => by
      have m := m_verse Γ I1 J n hn (by rw [e4]; exact h0) (by rw [e4]; exact hok) ln g (by rw [e4]; exact hln) hln9.2 (by rw [e4]; exact hg) hg9 (by rw [e4]; exact fun q => hc (e9.mp q)) u (by rw [e3]; exact c3) hu
      rw [e4, e5] at m
      exact m) ((h.1.2.2.1.it (q := ln) hok hs6 hln9.1 (by omega)).rs hn hg9) ((chE.it (q := ln) hn).rs)⟩
theorem pr_undo (Γ : Cx) {I : MemI} {J : MemJ} (h : Inv I J) : PrI Γ M_Bo_undo M_Mo_undo [] I J := by
  obtain ⟨n, x, u, l, E, h⟩ := h
  have V : Vw I n (I 54) := h.1.1
  have hn : n ≤ 6 := V.1
  have h0 : I 54 0 = nI n := V.2.1
  have hok := h.ok
  obtain ⟨⟨b, hb, hkn⟩, ⟨s, hs, hs6⟩, hw, hlb, h99⟩ := id h.1.2.2.1
  obtain ⟨⟨ln, hln9, hln⟩, g, hg9, hg⟩ := id h.1.2.2.2
  obtain ⟨hx, hu, c1, c2, c3, -⟩ := id h.2.1
  match u, h, c2, c3, hu with
  | 0, h, c2, c3, _ => exact ⟨_, Pr.rd h (b_undo_st Γ I J c2) (m_undo_st Γ I J c3)⟩
  | u + 1, h, c2, c3, hu =>
    refine ⟨nI u, _, b_undo Γ I J x ((x + 9) % 10) u (by omega) hx rfl c1 c2 hu, fun r S1 I1 J1 q => ?_⟩
    obtain ⟨rfl, q⟩ := q
    have q' := q
    obtain ⟨-, rfl, hJ, -, -, -, -, hs⟩ := q'
    obtain rfl := hJ.symm
    have m := m_undo Γ I1 J u (by rw [hs 53 (by omega) (by omega) (by omega)]; exact c3) hu
    rw [hs 55 (by omega) (by omega) (by omega)] at m
    refine ⟨rfl, rfl, _, m, fun r2 S2 I2 J2 q2 => ?_⟩
    have q2' := q2
    obtain ⟨rfl, rfl, hJ, -⟩ := q2'
    obtain rfl := hJ.symm
    exact ⟨rfl, rfl, h.ud q q2⟩
theorem pr_keep (Γ : Cx) {I : MemI} {J : MemJ} (h : Inv I J) (a : Int32) : PrI Γ M_Bo_keep M_Mo_keep [.int a] I J := by
  obtain ⟨n, x, u, l, E, h⟩ := h
  have V : Vw I n (I 54) := h.1.1
  have hn : n ≤ 6 := V.1
  have h0 : I 54 0 = nI n := V.2.1
  have hok := h.ok
  obtain ⟨⟨b, hb, hkn⟩, ⟨s, hs, hs6⟩, hw, hlb, h99⟩ := id h.1.2.2.1
  obtain ⟨⟨ln, hln9, hln⟩, g, hg9, hg⟩ := id h.1.2.2.2
  obtain ⟨hx, hu, c1, c2, c3, -⟩ := id h.2.1
  by_cases hc : 0 ≤ a ∧ a ≤ 1
  · obtain ⟨i, hi, rfl⟩ := exL 1 (by decide) hc
    refine ⟨I 54 38, _, b_keep Γ I J i (by omega), fun r S1 I1 J1 q => ?_⟩
    have q' := q
    obtain ⟨rfl, rfl, hJ, -, -, -, hs⟩ := q'
    obtain rfl := hJ.symm
    have m := m_keep Γ I1 J i (by omega)
    rw [hs 54 (by omega) (by omega) (by omega), hs 56 (by omega) (by omega) (by omega)] at m
    refine ⟨by rw [V.2.2.2.2.1], rfl, _, m, fun r2 S2 I2 J2 q2 => ?_⟩
    have q2' := q2
    obtain ⟨rfl, rfl, hJ, -⟩ := q2'
    obtain rfl := hJ.symm
    exact ⟨rfl, rfl, h.kp (by omega) q q2⟩
  · exact ⟨_, Pr.rd h (b_keep_bad Γ I J a hc) (m_keep_bad Γ I J a hc)⟩
theorem pr_back (Γ : Cx) {I : MemI} {J : MemJ} (h : Inv I J) (a : Int32) : PrI Γ M_Bo_back M_Mo_back [.int a] I J := by
  obtain ⟨n, x, u, l, E, h⟩ := h
  have V : Vw I n (I 54) := h.1.1
  have hn : n ≤ 6 := V.1
  have h0 : I 54 0 = nI n := V.2.1
  have hok := h.ok
  obtain ⟨⟨b, hb, hkn⟩, ⟨s, hs, hs6⟩, hw, hlb, h99⟩ := id h.1.2.2.1
  obtain ⟨⟨ln, hln9, hln⟩, g, hg9, hg⟩ := id h.1.2.2.2
  obtain ⟨hx, hu, c1, c2, c3, -⟩ := id h.2.1
  by_cases hc : 0 ≤ a ∧ a ≤ 1
  · obtain ⟨i, hi, rfl⟩ := exL 1 (by decide) hc
    obtain ⟨k1, k2⟩ := h.2.2.1 i (by omega)
    by_cases hk : I 57 i = 0
    · exact ⟨_, Pr.rd h (b_back_st Γ I J i (by omega) (k1.trans hk)) (m_back_st Γ I J i (by omega) hk)⟩
    · refine ⟨I 56 (39 * i + 38), _, b_back Γ I J i (by omega) (by rw [k1]; exact hk), fun r S1 I1 J1 q => ?_⟩
      have q' := q
      obtain ⟨rfl, rfl, hJ, -, -, -, -, hs⟩ := q'
      obtain rfl := hJ.symm
      have m := m_back Γ I1 J i (by omega) (by rw [hs 57 (by omega) (by omega) (by omega)]; exact hk)
      rw [hs 56 (by omega) (by omega) (by omega), hs 55 (by omega) (by omega) (by omega)] at m
      refine ⟨by rw [(k2 hk).2.1], rfl, _, m, fun r2 S2 I2 J2 q2 => ?_⟩
      have q2' := q2
      obtain ⟨rfl, rfl, hJ, -⟩ := q2'
      obtain rfl := hJ.symm
      exact ⟨rfl, rfl, h.bk (by omega) hk q q2⟩
  · exact ⟨_, Pr.rd h (b_back_bad Γ I J a hc) (m_back_bad Γ I J a hc)⟩
