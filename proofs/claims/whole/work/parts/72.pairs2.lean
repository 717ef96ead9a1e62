/-! ===== class and reference side by side: questions, the text, what was heard ===== -/
theorem pr_behind (Γ : Cx) {I : MemI} {J : MemJ} (h : Inv I J) (a k : Int32) : PrI Γ M_Bo_behind M_Mo_behind [.int a, .int k] I J := by
  obtain ⟨n, x, u, l, E, h⟩ := h
  have V : Vw I n (I 54) := h.1.1
  have hn : n ≤ 6 := V.1
  have h0 : I 54 0 = nI n := V.2.1
  have hok := h.ok
  obtain ⟨⟨b, hb, hkn⟩, ⟨s, hs, hs6⟩, hw, hlb, h99⟩ := id h.1.2.2.1
  obtain ⟨⟨ln, hln9, hln⟩, g, hg9, hg⟩ := id h.1.2.2.2
  obtain ⟨hx, hu, c1, c2, c3, -⟩ := id h.2.1
  by_cases hc : (0 ≤ a ∧ a ≤ 60) ∧ ((0 ≤ k ∧ k < nI n) ∨ k = -1 ∨ k = -2)
  · obtain ⟨⟨q, hq, rfl⟩, hc2⟩ : (∃ q, q ≤ 60 ∧ a = nI q) ∧ _ := ⟨exL 60 (by decide) hc.1, hc.2⟩
    rcases hc2 with hkk | rfl | rfl
    · obtain ⟨k, hk, rfl⟩ := exP hn hkk
      exact ⟨_, Pr.sc h (b_behind_p Γ I J n (I 54) V hok q hq k hk) (fun I1 e4 e3 e9 => by
      have m := m_behind_p Γ I1 J n hn (by rw [e4]; exact h0) (by rw [e4]; exact hok) q hq k hk
      rw [e4] at m
      exact m)⟩
    · exact ⟨_, Pr.sc h (b_behind_1 Γ I J n (I 54) V hok q hq) (fun I1 e4 e3 e9 => by
      have m := m_behind_1 Γ I1 J n hn (by rw [e4]; exact h0) (by rw [e4]; exact hok) q hq
      rw [e4] at m
      exact m)⟩
    · exact ⟨_, Pr.sc h (b_behind_2 Γ I J n (I 54) V hok q hq) (fun I1 e4 e3 e9 => by
      have m := m_behind_2 Γ I1 J n hn (by rw [e4]; exact h0) (by rw [e4]; exact hok) q hq
      rw [e4] at m
      exact m)⟩
  · exact ⟨_, Pr.rd h (b_behind_bad Γ I J n (I 54) V a k hc) (m_behind_bad Γ I J n hn h0 a k hc)⟩
theorem pr_asleep (Γ : Cx) {I : MemI} {J : MemJ} (h : Inv I J) (a : Int32) : PrI Γ M_Bo_asleep M_Mo_asleep [.int a] I J := by
  obtain ⟨n, x, u, l, E, h⟩ := h
  have V : Vw I n (I 54) := h.1.1
  have hn : n ≤ 6 := V.1
  have h0 : I 54 0 = nI n := V.2.1
  have hok := h.ok
  obtain ⟨⟨b, hb, hkn⟩, ⟨s, hs, hs6⟩, hw, hlb, h99⟩ := id h.1.2.2.1
  obtain ⟨⟨ln, hln9, hln⟩, g, hg9, hg⟩ := id h.1.2.2.2
  obtain ⟨hx, hu, c1, c2, c3, -⟩ := id h.2.1
  by_cases hc : 1 ≤ a ∧ a ≤ 9999
  · exact ⟨_, Pr.sc h (b_asleep Γ I J n (I 54) V hok a hc) (fun I1 e4 e3 e9 => by
      have m := m_asleep Γ I1 J n hn (by rw [e4]; exact h0) (by rw [e4]; exact hok) a hc
      rw [e4] at m
      exact m)⟩
  · exact ⟨_, Pr.rd h (b_asleep_bad Γ I J a hc) (m_asleep_bad Γ I J a hc)⟩
theorem pr_rest (Γ : Cx) {I : MemI} {J : MemJ} (h : Inv I J) : PrI Γ M_Bo_rest M_Mo_rest [] I J := by
  obtain ⟨n, x, u, l, E, h⟩ := h
  have V : Vw I n (I 54) := h.1.1
  have hn : n ≤ 6 := V.1
  have h0 : I 54 0 = nI n := V.2.1
  have hok := h.ok
  obtain ⟨⟨b, hb, hkn⟩, ⟨s, hs, hs6⟩, hw, hlb, h99⟩ := id h.1.2.2.1
  obtain ⟨⟨ln, hln9, hln⟩, g, hg9, hg⟩ := id h.1.2.2.2
  obtain ⟨hx, hu, c1, c2, c3, -⟩ := id h.2.1
  exact ⟨_, Pr.sc h (b_rest Γ I J n (I 54) V hok) (fun I1 e4 e3 e9 => by
      have m := m_rest Γ I1 J n hn (by rw [e4]; exact h0) (by rw [e4]; exact hok)
      rw [e4] at m
      exact m)⟩
theorem pr_playAhead (Γ : Cx) {I : MemI} {J : MemJ} (h : Inv I J) (a w : Int32) : PrI Γ M_Bo_playAhead M_Mo_playAhead [.int a, .int w] I J := by
  obtain ⟨n, x, u, l, E, h⟩ := h
  have V : Vw I n (I 54) := h.1.1
  have hn : n ≤ 6 := V.1
  have h0 : I 54 0 = nI n := V.2.1
  have hok := h.ok
  obtain ⟨⟨b, hb, hkn⟩, ⟨s, hs, hs6⟩, hw, hlb, h99⟩ := id h.1.2.2.1
  obtain ⟨⟨ln, hln9, hln⟩, g, hg9, hg⟩ := id h.1.2.2.2
  obtain ⟨hx, hu, c1, c2, c3, -⟩ := id h.2.1
  by_cases hc : (1 ≤ a ∧ a ≤ 30) ∧ (0 ≤ w ∧ w ≤ 1)
  · obtain ⟨q, hq1, hq, rfl⟩ := ex1 30 (by omega) (by decide) hc.1
    obtain ⟨i, hi, rfl⟩ := exL 1 (by decide) hc.2
    have c := b_playAhead Γ I J n (I 54) V hok q hq1 hq i (by omega)
    exact ⟨_, Pr.sc h (c) (fun I1 e4 e3 e9 => by
      have m := m_playAhead Γ I1 J n hn (by rw [e4]; exact h0) (by rw [e4]; exact hok) q hq1 hq i (by omega)
      rw [e4] at m
      exact m)⟩
  · exact ⟨_, Pr.rd h (b_playAhead_bad Γ I J a w hc) (m_playAhead_bad Γ I J a w hc)⟩
theorem pr_seat (Γ : Cx) {I : MemI} {J : MemJ} (h : Inv I J) (a w : Int32) : PrI Γ M_Bo_seat M_Mo_seat [.int a, .int w] I J := by
  obtain ⟨n, x, u, l, E, h⟩ := h
  have V : Vw I n (I 54) := h.1.1
  have hn : n ≤ 6 := V.1
  have h0 : I 54 0 = nI n := V.2.1
  have hok := h.ok
  obtain ⟨⟨b, hb, hkn⟩, ⟨s, hs, hs6⟩, hw, hlb, h99⟩ := id h.1.2.2.1
  obtain ⟨⟨ln, hln9, hln⟩, g, hg9, hg⟩ := id h.1.2.2.2
  obtain ⟨hx, hu, c1, c2, c3, -⟩ := id h.2.1
  by_cases hc : (1 ≤ a ∧ a ≤ 30) ∧ (0 ≤ w ∧ w ≤ 1)
  · obtain ⟨q, hq1, hq, rfl⟩ := ex1 30 (by omega) (by decide) hc.1
    obtain ⟨i, hi, rfl⟩ := exL 1 (by decide) hc.2
    have c := b_seat Γ I J n (I 54) V hok q hq1 hq i (by omega)
    exact ⟨_, Pr.sc h (c) (fun I1 e4 e3 e9 => by
      have m := m_seat Γ I1 J n hn (by rw [e4]; exact h0) (by rw [e4]; exact hok) q hq1 hq i (by omega)
      rw [e4] at m
      exact m)⟩
  · exact ⟨_, Pr.rd h (b_seat_bad Γ I J a w hc) (m_seat_bad Γ I J a w hc)⟩
theorem pr_knowers (Γ : Cx) {I : MemI} {J : MemJ} (h : Inv I J) (a d : Int32) : PrI Γ M_Bo_knowers M_Mo_knowers [.int a, .int d] I J := by
  obtain ⟨n, x, u, l, E, h⟩ := h
  have V : Vw I n (I 54) := h.1.1
  have hn : n ≤ 6 := V.1
  have h0 : I 54 0 = nI n := V.2.1
  have hok := h.ok
  obtain ⟨⟨b, hb, hkn⟩, ⟨s, hs, hs6⟩, hw, hlb, h99⟩ := id h.1.2.2.1
  obtain ⟨⟨ln, hln9, hln⟩, g, hg9, hg⟩ := id h.1.2.2.2
  obtain ⟨hx, hu, c1, c2, c3, -⟩ := id h.2.1
  by_cases hc : (1 ≤ a ∧ a ≤ 30) ∧ (0 ≤ d ∧ d ≤ 99)
  · obtain ⟨q, hq1, hq, rfl⟩ := ex1 30 (by omega) (by decide) hc.1
    have c := b_knowers Γ I J n (I 54) V hok q hq b hkn hb d hq1 hc.2
    rw [kz_eq hn] at c
    exact ⟨_, Pr.sc h (c) (fun I1 e4 e3 e9 => by
      have m := m_knowers Γ I1 J n hn (by rw [e4]; exact h0) (by rw [e4]; exact hok) q hq1 hq b (by rw [e4]; exact hkn) hb d hc.2
      rw [e4] at m
      exact m)⟩
  · exact ⟨_, Pr.rd h (b_knowers_bad Γ I J a d hc) (m_knowers_bad Γ I J a d hc)⟩
theorem pr_pulls (Γ : Cx) {I : MemI} {J : MemJ} (h : Inv I J) (a : Int32) : PrI Γ M_Bo_pulls M_Mo_pulls [.int a] I J := by
  obtain ⟨n, x, u, l, E, h⟩ := h
  have V : Vw I n (I 54) := h.1.1
  have hn : n ≤ 6 := V.1
  have h0 : I 54 0 = nI n := V.2.1
  have hok := h.ok
  obtain ⟨⟨b, hb, hkn⟩, ⟨s, hs, hs6⟩, hw, hlb, h99⟩ := id h.1.2.2.1
  obtain ⟨⟨ln, hln9, hln⟩, g, hg9, hg⟩ := id h.1.2.2.2
  obtain ⟨hx, hu, c1, c2, c3, -⟩ := id h.2.1
  by_cases hc : 1 ≤ a ∧ a ≤ 30
  · obtain ⟨q, hq1, hq, rfl⟩ := ex1 30 (by omega) (by decide) hc
    exact ⟨_, Pr.sc h (b_pulls Γ I J n (I 54) V hok h.1.2.1 q hq1 hq) (fun I1 e4 e3 e9 => by
      have m := m_pulls Γ I1 J n hn (by rw [e4]; exact h0) (by rw [e4]; exact hok) q hq1 hq (by rw [e4]; exact h.1.2.1)
      rw [e4] at m
      exact m)⟩
  · exact ⟨_, Pr.rd h (b_pulls_bad Γ I J a hc) (m_pulls_bad Γ I J a hc)⟩
theorem pr_change (Γ : Cx) {I : MemI} {J : MemJ} (h : Inv I J) (a : Int32) : PrI Γ M_Bo_change M_Mo_change [.int a] I J := by
  obtain ⟨n, x, u, l, E, h⟩ := h
  have V : Vw I n (I 54) := h.1.1
  have hn : n ≤ 6 := V.1
  have h0 : I 54 0 = nI n := V.2.1
  have hok := h.ok
  obtain ⟨⟨b, hb, hkn⟩, ⟨s, hs, hs6⟩, hw, hlb, h99⟩ := id h.1.2.2.1
  obtain ⟨⟨ln, hln9, hln⟩, g, hg9, hg⟩ := id h.1.2.2.2
  obtain ⟨hx, hu, c1, c2, c3, -⟩ := id h.2.1
  by_cases hc : 1 ≤ a ∧ a ≤ 30
  · obtain ⟨q, hq1, hq, rfl⟩ := ex1 30 (by omega) (by decide) hc
    exact ⟨_, Pr.sc h (b_change Γ I J n (I 54) V hok q hq1 hq) (fun I1 e4 e3 e9 => by
      have m := m_change Γ I1 J n hn (by rw [e4]; exact h0) (by rw [e4]; exact hok) q hq1 hq
      rw [e4] at m
      exact m)⟩
  · exact ⟨_, Pr.rd h (b_change_bad Γ I J a hc) (m_change_bad Γ I J a hc)⟩
theorem pr_gaps (Γ : Cx) {I : MemI} {J : MemJ} (h : Inv I J) (d : Int32) : PrI Γ M_Bo_gaps M_Mo_gaps [.int d] I J := by
  obtain ⟨n, x, u, l, E, h⟩ := h
  have V : Vw I n (I 54) := h.1.1
  have hn : n ≤ 6 := V.1
  have h0 : I 54 0 = nI n := V.2.1
  have hok := h.ok
  obtain ⟨⟨b, hb, hkn⟩, ⟨s, hs, hs6⟩, hw, hlb, h99⟩ := id h.1.2.2.1
  obtain ⟨⟨ln, hln9, hln⟩, g, hg9, hg⟩ := id h.1.2.2.2
  obtain ⟨hx, hu, c1, c2, c3, -⟩ := id h.2.1
  by_cases hc : 0 ≤ d ∧ d ≤ 99
  · have c := b_gaps Γ I J n (I 54) V hok ln hln hln9.2 d hc
    rw [gp_eq (it_b hn hw ln hln9.1) 10 0 (by omega)] at c
    exact ⟨_, Pr.sc h (c) (fun I1 e4 e3 e9 => by
      have m := m_gaps Γ I1 J n hn (by rw [e4]; exact h0) (by rw [e4]; exact hok) ln (by rw [e4]; exact hln) hln9.2 d hc
      rw [e4] at m
      exact m)⟩
  · exact ⟨_, Pr.rd h (b_gaps_bad Γ I J d hc) (m_gaps_bad Γ I J d hc)⟩
theorem pr_odds (Γ : Cx) {I : MemI} {J : MemJ} (h : Inv I J) (x1 x2 x3 x4 x5 : Int32) : PrJ Γ M_Bo_odds M_Mo_odds [.int x1, .int x2, .int x3, .int x4, .int x5] I J := by
  obtain ⟨n, x, u, l, E, h⟩ := h
  have V : Vw I n (I 54) := h.1.1
  have hn : n ≤ 6 := V.1
  have h0 : I 54 0 = nI n := V.2.1
  have hok := h.ok
  obtain ⟨⟨b, hb, hkn⟩, ⟨s, hs, hs6⟩, hw, hlb, h99⟩ := id h.1.2.2.1
  obtain ⟨⟨ln, hln9, hln⟩, g, hg9, hg⟩ := id h.1.2.2.2
  obtain ⟨hx, hu, c1, c2, c3, -⟩ := id h.2.1
  by_cases hc : (0 ≤ x1 ∧ x1 ≤ 20) ∧ (0 ≤ x2 ∧ x2 ≤ 10) ∧ (0 ≤ x3 ∧ x3 ≤ 6) ∧ (0 ≤ x4 ∧ x4 ≤ 99) ∧ (0 ≤ x5 ∧ x5 ≤ 1)
  · obtain ⟨a, ha, rfl⟩ := exL 20 (by decide) hc.1
    obtain ⟨p, hp, rfl⟩ := exL 10 (by decide) hc.2.1
    obtain ⟨m0, hm, rfl⟩ := exL 6 (by decide) hc.2.2.1
    obtain ⟨w, hw1, rfl⟩ := exL 1 (by decide) hc.2.2.2.2
    exact ⟨_, Pr.sc h (b_odds Γ I J n (I 54) V hok a p m0 w x4 ha hp hm hc.2.2.2.1 (by omega)) (fun I1 e4 e3 e9 => by
      have m := m_odds Γ I1 J n hn (by rw [e4]; exact h0) (by rw [e4]; exact hok) a p m0 w x4 ha hp hm hc.2.2.2.1 (by omega)
      rw [e4] at m
      exact m)⟩
  · exact ⟨_, Pr.rd h (b_odds_bad Γ I J x1 x2 x3 x4 x5 hc) (m_odds_bad Γ I J x1 x2 x3 x4 x5 hc)⟩
theorem pr_waited (Γ : Cx) {I : MemI} {J : MemJ} (h : Inv I J) : PrI Γ M_Bo_waited M_Mo_waited [] I J := by
  obtain ⟨n, x, u, l, E, h⟩ := h
  have V : Vw I n (I 54) := h.1.1
  have hn : n ≤ 6 := V.1
  have h0 : I 54 0 = nI n := V.2.1
  have hok := h.ok
  obtain ⟨⟨b, hb, hkn⟩, ⟨s, hs, hs6⟩, hw, hlb, h99⟩ := id h.1.2.2.1
  obtain ⟨⟨ln, hln9, hln⟩, g, hg9, hg⟩ := id h.1.2.2.2
  obtain ⟨hx, hu, c1, c2, c3, -⟩ := id h.2.1
  obtain ⟨d1, d2, d3, d4⟩ := id h.2.2.2.2.1
  have hpw : ∃ pw : Nat → Nat, ∀ e, e < E → pw e < n ∧ I 51 e = nI (pw e) ∧ I 59 (3 * e + 1) = nI (pw e) := by
    refine ⟨fun e => (I 51 e).toNatClampNeg, fun e he => ?_⟩
    obtain ⟨p, p1, p2, p3⟩ := (d4 e he).2.1
    have ep : (I 51 e).toNatClampNeg = p := by rw [p2]; exact nI_clamp (by omega)
    simp only [ep]
    exact ⟨p1, p2, p3⟩
  obtain ⟨pw, hpw⟩ := hpw
  exact ⟨_, Pr.sc h (b_waited Γ I J n (I 54) V hok E d1 d3 pw (I 59) (fun e he => ⟨(d4 e he).1, ⟨(hpw e he).2.1, (hpw e he).1⟩, (d4 e he).2.2⟩)) (fun I1 e4 e3 e9 => by
      have m := m_waited Γ I1 J n hn (by rw [e4]; exact h0) (by rw [e4]; exact hok) E (by rw [e3]; exact d2) d3 pw (fun e he => by rw [e9]; exact ⟨(hpw e he).2.2, (hpw e he).1⟩)
      rw [e4, e9] at m
      exact m)⟩
theorem InP.tx {I I' : MemI} {J : MemJ} {n x u l l' E : Nat} (h : InP I J n x u l E) (f : ∀ z, (z ≠ 2 ∧ z ≠ 3 ∧ z ≠ 53 ∧ z ≠ 58) → I' z = I z) (e53 : ∀ y, y ≠ 6 → I' 53 y = I 53 y) (hT : iT I' l') : Inv I' J := by
  obtain ⟨hA, hH, hK, -, hE, hJ⟩ := h
  have hn := hA.1.1
  exact ⟨n, x, u, l', E, hA.mv (fun z a b => f z (by omega)) (f 16 (by omega)) (f 17 (by omega)) (f 54 (by omega)), hH.to hn (f 22 (by omega)) (e53 2 (by omega)) (fun z a b => f z (by omega)) (f 55 (by omega)) (by rw [f 54 (by omega)]; exact chE.rf), hK.to hn (f 49 (by omega)) (f 57 (by omega)) (fun z a b => f z (by omega)) (f 56 (by omega)) (by rw [f 54 (by omega)]; exact chE.rf), hT, hE.mv (by rw [f 1 (by omega)]) (e53 8 (by omega)) (f 50 (by omega)) (f 51 (by omega)) (f 52 (by omega)) (f 59 (by omega)), hJ⟩
theorem InP.he {I I' : MemI} {J : MemJ} {n x u l E E' : Nat} (h : InP I J n x u l E) (f : ∀ z, (z ≠ 1 ∧ z ≠ 50 ∧ z ≠ 51 ∧ z ≠ 52 ∧ z ≠ 53 ∧ z ≠ 59) → I' z = I z) (e53 : ∀ y, y ≠ 8 → I' 53 y = I 53 y) (hE : iE I' n E') : Inv I' J := by
  obtain ⟨hA, hH, hK, hT, -, hJ⟩ := h
  have hn := hA.1.1
  exact ⟨n, x, u, l, E', hA.mv (fun z a b => f z (by omega)) (f 16 (by omega)) (f 17 (by omega)) (f 54 (by omega)), hH.to hn (f 22 (by omega)) (e53 2 (by omega)) (fun z a b => f z (by omega)) (f 55 (by omega)) (by rw [f 54 (by omega)]; exact chE.rf), hK.to hn (f 49 (by omega)) (f 57 (by omega)) (fun z a b => f z (by omega)) (f 56 (by omega)) (by rw [f 54 (by omega)]; exact chE.rf), hT.mv (by rw [f 2 (by omega)]) (e53 6 (by omega)) (f 3 (by omega)) (f 58 (by omega)), hE, hJ⟩
theorem pr_clear (Γ : Cx) {I : MemI} {J : MemJ} (h : Inv I J) : PrI Γ M_Bo_clear M_Mo_clear [] I J := by
  obtain ⟨n, x, u, l, E, h⟩ := h
  have V : Vw I n (I 54) := h.1.1
  have hn : n ≤ 6 := V.1
  have h0 : I 54 0 = nI n := V.2.1
  have hok := h.ok
  obtain ⟨⟨b, hb, hkn⟩, ⟨s, hs, hs6⟩, hw, hlb, h99⟩ := id h.1.2.2.1
  obtain ⟨⟨ln, hln9, hln⟩, g, hg9, hg⟩ := id h.1.2.2.2
  obtain ⟨hx, hu, c1, c2, c3, -⟩ := id h.2.1
  obtain ⟨t1, t2, t3, t4, t5⟩ := id h.2.2.2.1
  refine ⟨nI l, _, b_clear Γ I J, fun r S1 I1 J1 q => ?_⟩
  obtain ⟨rfl, rfl, rfl, hJJ⟩ := q
  obtain rfl := hJJ.symm
  refine ⟨by rw [t1], rfl, _, m_clear Γ (up2 I 2 1 0) J, fun r2 S2 I2 J2 q => ?_⟩
  obtain ⟨rfl, rfl, rfl, hJJ⟩ := q
  obtain rfl := hJJ.symm
  refine ⟨by rw [up2_o (by omega), t2], rfl, ?_⟩
  refine h.tx (l' := 0) (fun z hz => by rw [up2_o (by omega), up2_o (by omega)]) (fun y hy => by rw [up2_ne (by omega), up2_o (by omega)]) ⟨?_, ?_, by omega, ?_, fun y hy => absurd hy (by omega)⟩
  · rw [up2_o (by omega), up2_s]; rfl
  · rw [up2_s]; rfl
  · rw [up2_o (by omega), up2_o (by omega), up2_o (by omega), up2_o (by omega)]; exact t4
theorem pr_type (Γ : Cx) {I : MemI} {J : MemJ} (h : Inv I J) (a : Int32) : PrI Γ M_Bo_type M_Mo_type [.int a] I J := by
  obtain ⟨n, x, u, l, E, h⟩ := h
  have V : Vw I n (I 54) := h.1.1
  have hn : n ≤ 6 := V.1
  have h0 : I 54 0 = nI n := V.2.1
  have hok := h.ok
  obtain ⟨⟨b, hb, hkn⟩, ⟨s, hs, hs6⟩, hw, hlb, h99⟩ := id h.1.2.2.1
  obtain ⟨⟨ln, hln9, hln⟩, g, hg9, hg⟩ := id h.1.2.2.2
  obtain ⟨hx, hu, c1, c2, c3, -⟩ := id h.2.1
  obtain ⟨t1, t2, t3, t4, t5⟩ := id h.2.2.2.1
  by_cases hc : 0 ≤ a ∧ a ≤ 255
  · by_cases hl : l < 200
    · refine ⟨nI (l + 1), _, b_type_ok Γ I J a l hc t1 hl, fun r S1 I1 J1 q => ?_⟩
      obtain ⟨rfl, rfl, rfl, hJJ⟩ := q
      obtain rfl := hJJ.symm
      refine ⟨rfl, rfl, _, m_type_ok Γ _ J a l hc (by rw [up2_o (by omega), up2_o (by omega)]; exact t2) hl, fun r2 S2 I2 J2 q => ?_⟩
      obtain ⟨rfl, rfl, rfl, hJJ⟩ := q
      obtain rfl := hJJ.symm
      refine ⟨rfl, rfl, ?_⟩
      refine h.tx (l' := l + 1) (fun z hz => by rw [up2_o (by omega), up2_o (by omega), up2_o (by omega), up2_o (by omega)]) (fun y hy => by rw [up2_ne (by omega), up2_o (by omega), up2_o (by omega), up2_o (by omega)]) ⟨?_, ?_, by omega, ?_, fun y hy => ?_⟩
      · rw [up2_o (by omega), up2_o (by omega), up2_s]
      · rw [up2_s]
      · rw [up2_o (by omega), up2_o (by omega), up2_o (by omega), up2_row, up2_o (by omega), up2_row, up2_o (by omega), up2_o (by omega), t4]
      · rw [up2_o (by omega), up2_row, up2_o (by omega), up2_o (by omega)]
        by_cases e : y = l
        · subst e; rw [upd_s]; exact hc.1
        · rw [upd_ne e]; exact t5 y (by omega)
    · have e : l = 200 := by omega
      subst e
      exact ⟨_, Pr.rd h (b_type_full Γ I J a hc t1) (m_type_full Γ I J a hc t2)⟩
  · exact ⟨_, Pr.rd h (b_type_bad Γ I J a hc) (m_type_bad Γ I J a hc)⟩
theorem pr_forget (Γ : Cx) {I : MemI} {J : MemJ} (h : Inv I J) : PrI Γ M_Bo_forget M_Mo_forget [] I J := by
  obtain ⟨n, x, u, l, E, h⟩ := h
  have V : Vw I n (I 54) := h.1.1
  have hn : n ≤ 6 := V.1
  have h0 : I 54 0 = nI n := V.2.1
  have hok := h.ok
  obtain ⟨⟨b, hb, hkn⟩, ⟨s, hs, hs6⟩, hw, hlb, h99⟩ := id h.1.2.2.1
  obtain ⟨⟨ln, hln9, hln⟩, g, hg9, hg⟩ := id h.1.2.2.2
  obtain ⟨hx, hu, c1, c2, c3, -⟩ := id h.2.1
  obtain ⟨d1, d2, d3, d4⟩ := id h.2.2.2.2.1
  refine ⟨nI E, _, b_forget Γ I J, fun r S1 I1 J1 q => ?_⟩
  obtain ⟨rfl, rfl, rfl, hJJ⟩ := q
  obtain rfl := hJJ.symm
  refine ⟨by rw [d1], rfl, _, m_forget Γ (up2 I 1 12 0) J, fun r2 S2 I2 J2 q => ?_⟩
  obtain ⟨rfl, rfl, rfl, hJJ⟩ := q
  obtain rfl := hJJ.symm
  refine ⟨by rw [up2_o (by omega), d2], rfl, ?_⟩
  refine h.he (E' := 0) (fun z hz => by rw [up2_o (by omega), up2_o (by omega)]) (fun y hy => by rw [up2_ne (by omega), up2_o (by omega)]) ⟨?_, ?_, by omega, fun y hy => absurd hy (by omega)⟩
  · rw [up2_o (by omega), up2_s]; rfl
  · rw [up2_s]; rfl
theorem pr_hear (Γ : Cx) {I : MemI} {J : MemJ} (h : Inv I J) (a k z : Int32) : PrI Γ M_Bo_hear M_Mo_hear [.int a, .int k, .int z] I J := by
  obtain ⟨n, x, u, l, E, h⟩ := h
  have V : Vw I n (I 54) := h.1.1
  have hn : n ≤ 6 := V.1
  have h0 : I 54 0 = nI n := V.2.1
  have hok := h.ok
  obtain ⟨⟨b, hb, hkn⟩, ⟨s, hs, hs6⟩, hw, hlb, h99⟩ := id h.1.2.2.1
  obtain ⟨⟨ln, hln9, hln⟩, g, hg9, hg⟩ := id h.1.2.2.2
  obtain ⟨hx, hu, c1, c2, c3, -⟩ := id h.2.1
  obtain ⟨d1, d2, d3, d4⟩ := id h.2.2.2.2.1
  by_cases hc : (1 ≤ a ∧ a ≤ 20) ∧ (0 ≤ k ∧ k < nI n) ∧ (-99 ≤ z ∧ z ≤ 999)
  · by_cases hl : E < 6
    · refine ⟨nI (E + 1), _, b_hear_ok Γ I J n (I 54) V E a k z hc d1 hl, fun r S1 I1 J1 q => ?_⟩
      obtain ⟨rfl, rfl, rfl, hJJ⟩ := q
      obtain rfl := hJJ.symm
      refine ⟨rfl, rfl, _, m_hear_ok Γ _ J n E a k z hn (by rw [up2_o (by omega), up2_o (by omega), up2_o (by omega), up2_o (by omega)]; exact h0) hc (by rw [up2_o (by omega), up2_o (by omega), up2_o (by omega), up2_o (by omega)]; exact d2) hl, fun r2 S2 I2 J2 q => ?_⟩
      obtain ⟨rfl, rfl, rfl, hJJ⟩ := q
      obtain rfl := hJJ.symm
      refine ⟨rfl, rfl, ?_⟩
      have o53 : ∀ y, y ≠ 53 → y ≠ 59 → up2 (up2 (up2 (up2 (up2 (up2 (up2 (up2 I 50 E a) 51 E k) 52 E z) 1 12 (nI (E + 1))) 59 (3 * E) a) 59 (3 * E + 1) k) 59 (3 * E + 2) z) 53 8 (nI (E + 1)) y = up2 (up2 (up2 (up2 I 50 E a) 51 E k) 52 E z) 1 12 (nI (E + 1)) y := fun y p q => by rw [up2_o p, up2_o q, up2_o q, up2_o q]
      have o59 : up2 (up2 (up2 (up2 (up2 (up2 (up2 (up2 I 50 E a) 51 E k) 52 E z) 1 12 (nI (E + 1))) 59 (3 * E) a) 59 (3 * E + 1) k) 59 (3 * E + 2) z) 53 8 (nI (E + 1)) 59 = upd (upd (upd (I 59) (3 * E) a) (3 * E + 1) k) (3 * E + 2) z := by rw [up2_o (by omega), up2_row, up2_row, up2_row, up2_o (by omega), up2_o (by omega), up2_o (by omega), up2_o (by omega)]
      refine h.he (E' := E + 1) (fun z hz => by rw [o53 z (by omega) (by omega), up2_o (by omega), up2_o (by omega), up2_o (by omega), up2_o (by omega)]) (fun y hy => by rw [up2_ne (by omega), up2_o (by omega), up2_o (by omega), up2_o (by omega), up2_o (by omega), up2_o (by omega), up2_o (by omega), up2_o (by omega)]) ⟨?_, ?_, by omega, fun e he => ?_⟩
      · rw [o53 1 (by omega) (by omega), up2_s]
      · rw [up2_s]
      · rw [o59, o53 50 (by omega) (by omega), o53 51 (by omega) (by omega), o53 52 (by omega) (by omega), up2_o (by omega), up2_o (by omega), up2_o (by omega), up2_row, up2_o (by omega), up2_o (by omega), up2_row, up2_o (by omega), up2_o (by omega), up2_row, up2_o (by omega), up2_o (by omega)]
        obtain ⟨p, hp, ep⟩ := exP hn hc.2.1
        by_cases e1 : e = E
        · subst e1
          refine ⟨?_, ⟨p, hp, ?_, ?_⟩, ?_⟩
          · rw [upd_s, upd_ne (by omega), upd_ne (by omega), upd_s]
          · rw [upd_s]; exact ep
          · rw [upd_ne (by omega), upd_s]; exact ep
          · rw [upd_s, upd_s]
        · rw [upd_ne e1, upd_ne e1, upd_ne e1, upd_ne (by omega), upd_ne (by omega), upd_ne (by omega), upd_ne (by omega), upd_ne (by omega), upd_ne (by omega), upd_ne (by omega), upd_ne (by omega), upd_ne (by omega)]
          exact d4 e (by omega)
    · have e : E = 6 := by omega
      subst e
      exact ⟨_, Pr.rd h (b_hear_full Γ I J n (I 54) V a k z hc d1) (m_hear_full Γ I J n a k z hn h0 hc d2)⟩
  · exact ⟨_, Pr.rd h (b_hear_bad Γ I J n (I 54) V a k z hc) (m_hear_bad Γ I J n a k z hn h0 hc)⟩
theorem pr_rate (Γ : Cx) {I : MemI} {J : MemJ} (h : Inv I J) (w k : Int32) : PrI Γ M_Bo_rate M_Mo_rate [.int w, .int k] I J := by
  obtain ⟨n, x, u, l, E, h⟩ := h
  have V : Vw I n (I 54) := h.1.1
  have hn : n ≤ 6 := V.1
  have h0 : I 54 0 = nI n := V.2.1
  have hok := h.ok
  obtain ⟨⟨b, hb, hkn⟩, ⟨s, hs, hs6⟩, hw, hlb, h99⟩ := id h.1.2.2.1
  obtain ⟨⟨ln, hln9, hln⟩, g, hg9, hg⟩ := id h.1.2.2.2
  obtain ⟨hx, hu, c1, c2, c3, -⟩ := id h.2.1
  by_cases hc : (0 ≤ w ∧ w ≤ 5) ∧ (0 ≤ k ∧ k < nI n)
  · obtain ⟨q, hq, rfl⟩ := exL 5 (by decide) hc.1
    obtain ⟨k, hk, rfl⟩ := exP hn hc.2
    refine ⟨ratT (I 54) k q, _, b_rate Γ I J n (I 54) V k q hk hq, fun r S1 I1 J1 p => ?_⟩
    obtain ⟨rfl, rfl, rfl, rfl⟩ := p
    refine ⟨rfl, rfl, _, m_rate Γ I1 _ n k q hn h0 hk hq, fun r2 S2 I2 J2 p => ?_⟩
    obtain ⟨rfl, rfl, rfl, rfl⟩ := p
    refine ⟨rfl, rfl, n, x, u, l, E, h.1, h.2.1, h.2.2.1, h.2.2.2.1, h.2.2.2.2.1, ?_⟩
    have hJ := h.2.2.2.2.2
    simp [upJ, hJ]
  · exact ⟨_, Pr.rd h (b_rate_bad Γ I J n (I 54) V w k hc) (m_rate_bad Γ I J n w k hn h0 hc)⟩
theorem pr_church (Γ : Cx) {I : MemI} {J : MemJ} (h : Inv I J) : PrI Γ M_Bo_church M_Mo_church [] I J := by
  obtain ⟨n, x, u, l, E, h⟩ := h
  have V : Vw I n (I 54) := h.1.1
  have hn : n ≤ 6 := V.1
  have h0 : I 54 0 = nI n := V.2.1
  have hok := h.ok
  obtain ⟨⟨b, hb, hkn⟩, ⟨s, hs, hs6⟩, hw, hlb, h99⟩ := id h.1.2.2.1
  obtain ⟨⟨ln, hln9, hln⟩, g, hg9, hg⟩ := id h.1.2.2.2
  obtain ⟨hx, hu, c1, c2, c3, -⟩ := id h.2.1
  obtain ⟨t1, t2, t3, t4, t5⟩ := id h.2.2.2.1
  have c := b_church Γ I J l t1 t3 (fun y hy => by rw [t4]; exact t5 y hy)
  rw [t4] at c
  cases hres : parF (I 58) l (l + 1) 0 0 clR 0 with
  | inl p =>
    rw [hres] at c
    refine ⟨-10 - nI p, _, c, fun r S1 I1 J1 q => ?_⟩
    obtain ⟨rfl, hJ, q1, -⟩ := q
    obtain rfl := hJ.symm
    obtain ⟨rfl, f1, f2⟩ := q1 p rfl
    have e58 : I1 58 = I 58 := f1 58 (by omega) (by omega) (by omega) (by omega) (by omega) (by omega)
    have m := m_church Γ I1 J l (by rw [f1 53 (by omega) (by omega) (by omega) (by omega) (by omega) (by omega)]; exact t2) t3 (by rw [e58]; exact t5)
    rw [e58, hres] at m
    refine ⟨rfl, rfl, _, m, fun r2 S2 I2 J2 q => ?_⟩
    obtain ⟨rfl, hJ, q1, -⟩ := q
    obtain rfl := hJ.symm
    obtain ⟨rfl, g1, g2⟩ := q1 p rfl
    refine ⟨rfl, rfl, ?_⟩
    have f : ∀ z, (z ≠ 2 ∧ (z < 10 ∨ 14 < z) ∧ z ≠ 53 ∧ z ≠ 60) → I2 z = I z := fun z hz => (g1 z (by omega) (by omega)).trans (f1 z (by omega) (by omega) (by omega) (by omega) (by omega) (by omega))
    have e53 : ∀ y, y < 11 → I2 53 y = I 53 y := fun y hy => by rw [g2 y (by omega) (by omega) (by omega), f1 53 (by omega) (by omega) (by omega) (by omega) (by omega) (by omega)]
    obtain ⟨hA, hH, hK, hT, hE, hJ⟩ := h
    exact ⟨n, x, u, l, E, hA.mv (fun z a b => f z (by omega)) (f 16 (by omega)) (f 17 (by omega)) (f 54 (by omega)), hH.to hn (f 22 (by omega)) (e53 2 (by omega)) (fun z a b => f z (by omega)) (f 55 (by omega)) (by rw [f 54 (by omega)]; exact chE.rf), hK.to hn (f 49 (by omega)) (f 57 (by omega)) (fun z a b => f z (by omega)) (f 56 (by omega)) (by rw [f 54 (by omega)]; exact chE.rf), hT.mv (by rw [g1 2 (by omega) (by omega)]; exact f2 1 (by omega)) (e53 6 (by omega)) (f 3 (by omega)) (f 58 (by omega)), hE.mv (by rw [f 1 (by omega)]) (e53 8 (by omega)) (f 50 (by omega)) (f 51 (by omega)) (f 52 (by omega)) (f 59 (by omega)), hJ⟩
  | inr w =>
    obtain ⟨it, row⟩ := w
    rw [hres] at c
    refine ⟨nI it, _, c, fun r S1 I1 J1 q => ?_⟩
    obtain ⟨rfl, hJ, -, q1⟩ := q
    obtain rfl := hJ.symm
    obtain ⟨rfl, hPV, ⟨k, hV⟩, v1, v2, v3, v4, v5, v6, v7⟩ := q1 it row rfl
    have e58 : I1 58 = I 58 := v7 58 (by omega) (by omega) (by omega)
    have m := m_church Γ I1 J l (by rw [v7 53 (by omega) (by omega) (by omega)]; exact t2) t3 (by rw [e58]; exact t5)
    rw [e58, hres] at m
    refine ⟨rfl, rfl, _, m, fun r2 S2 I2 J2 q => ?_⟩
    obtain ⟨rfl, hJ, -, q1⟩ := q
    obtain rfl := hJ.symm
    obtain ⟨rfl, w1, w2, w3, w4, w5, w6, w7⟩ := q1 it row rfl
    refine ⟨rfl, rfl, ?_⟩
    have g : ∀ z, (z ≠ 53 ∧ z ≠ 54 ∧ z ≠ 57 ∧ z ≠ 60) → I2 z = I1 z := fun z hz => w7 z hz.1 hz.2.1 hz.2.2.1 hz.2.2.2
    obtain ⟨k', p1, p2, p3, p4, p5, p6, p7⟩ := hPV
    have ek : k' = k := (nI_eq (by omega) (by have := hV.1; omega)).mp (p2.symm.trans hV.2.1)
    subst ek
    obtain ⟨u1, u2, u3, u4, u5, u6, u7⟩ := hV
    have i4 : ∀ z, 4 ≤ z → z ≤ 8 → I2 z = I1 z := fun z a b => g z (by omega)
    have hrow : RowOK k' row := by
      refine ⟨⟨0, by omega, by rw [p7 37 (by omega)]; rfl⟩, ⟨0, by omega, by rw [p7 38 (by omega)]; rfl⟩, ⟨i32_le.mp p4.1, i32_le.mp p4.2⟩, fun j hj => ?_, by rw [p7 34 (by omega)]; decide⟩
      rw [p7 (28 + j) (by omega)]
      have e : clR (28 + j) = 0 := by unfold clR; rw [if_neg (by omega), if_neg (by omega), if_neg (by omega)]
      rw [e]
      decide
    have hV2 : Vw I2 k' row := (show Vw I1 k' row from ⟨u1, u2, u3, u4, u5, u6, u7⟩).to i4 chE.rf (u4.mv (g 16 (by omega)) (g 17 (by omega))) (by rw [g 16 (by omega)]; exact u5)
    refine ⟨k', x, 0, 0, 0, ⟨by rw [w1]; exact hV2, by rw [w1]; exact fun j hj => ⟨⟨i32_le.mp (p3 j hj).2.1.1, i32_le.mp (p3 j hj).2.1.2⟩, ⟨i32_le.mp (p3 j hj).2.2.1.1, i32_le.mp (p3 j hj).2.2.1.2⟩⟩, by rw [w1]; exact hrow, ?_, ?_⟩, ⟨hx, by omega, by rw [g 22 (by omega), v6 1 (by omega)]; exact c1, by rw [g 22 (by omega)]; exact v2, w3, fun e he => absurd he (by omega)⟩, fun i hi => ?_, ⟨by rw [g 2 (by omega)]; exact v1, w2, by omega, by rw [g 3 (by omega), g 58 (by omega), e58, v7 3 (by omega) (by omega) (by omega)]; exact t4, fun y hy => absurd hy (by omega)⟩, ⟨by rw [g 1 (by omega)]; exact v3, w4, by omega, fun e he => absurd he (by omega)⟩, h.2.2.2.2.2⟩
    · obtain ⟨j, j1, j2, j3⟩ := ex1 9 (by omega) (by decide) p5
      exact ⟨j, ⟨j1, j2⟩, by rw [w1]; exact j3⟩
    · obtain ⟨j, j1, j2⟩ := exL 9 (by decide) p6
      exact ⟨j, j1, by rw [w1]; exact j2⟩
    · have z57 : I2 57 i = 0 := by
        match i, hi with
        | 0, _ => exact w5
        | 1, _ => exact w6
      have z49 : I1 49 i = 0 := by
        match i, hi with
        | 0, _ => exact v4
        | 1, _ => exact v5
      exact ⟨by rw [g 49 (by omega), z49, z57], fun q => absurd z57 q⟩
