/-! ===== the reference reads the church ===== -/
def kOf (r : Nat → Int32) : Nat := (r 0).toNatClampNeg
theorem kOf_nI {r : Nat → Int32} {k : Nat} (h : r 0 = nI k) (hk : k ≤ 6) : kOf r = k := by
  unfold kOf
  rw [h, nI_clamp (by omega)]
def parF (x : Nat → Int32) (l : Nat) : Nat → Nat → Nat → (Nat → Int32) → Nat → Nat ⊕ (Nat × (Nat → Int32))
  | 0, _, _, _, _ => .inl 0
  | f + 1, i, it, r, m => if sk x l i < l then (match itP x l (sk x l i) (kOf r) r m (x (sk x l i)) with
      | .inl p => .inl p
      | .inr (i', r', m') => parF x l f i' (it + 1) r' m') else .inr (it, r)
theorem oneP_ok {x : Nat → Int32} {l i pl m i' m' : Nat} {lo hi : Int32} {r r' : Nat → Int32} (h : oneP x l i pl lo hi r m = .inr (i', r', m')) (hil : i ≤ l) : (∃ v, r' = upd r pl v ∧ lo ≤ v ∧ v ≤ hi) ∧ m' = m ||| 2 ^ pl ∧ i < i' ∧ i' ≤ l := by
  unfold oneP at h
  cases h1 : nm x l i lo hi with
  | inl a => rw [h1] at h; cases h
  | inr b =>
    obtain ⟨v, e⟩ := b
    rw [h1] at h
    have h2 : (match enP x l e with | .inl j => (.inl j : PR) | .inr e2 => .inr (e2, upd r pl v, m ||| 2 ^ pl)) = .inr (i', r', m') := h
    cases h3 : enP x l e with
    | inl a => rw [h3] at h2; cases h2
    | inr e2 =>
      rw [h3] at h2
      cases h2
      have a1 := nm_le hil h1
      have a2 := enP_le a1.2 h3
      refine ⟨⟨v, rfl, ?_⟩, rfl, by omega, by omega⟩
      unfold nm at h1
      split at h1
      · rename_i q
        cases h1
        exact (nmD_iff.mp q).2.2
      · cases h1
theorem nm_rng {x : Nat → Int32} {l i : Nat} {lo hi v : Int32} {e : Nat} (h1 : nm x l i lo hi = .inr (v, e)) : lo ≤ v ∧ v ≤ hi := by
  unfold nm at h1
  split at h1
  · rename_i q
    cases h1
    exact (nmD_iff.mp q).2.2
  · cases h1
theorem pewP_ok {x : Nat → Int32} {l i k m i' m' : Nat} {r r' : Nat → Int32} (h : pewP x l i k r m = .inr (i', r', m')) (hi : i ≤ l) : (∃ v1 v2 v3 v4, r' = upd (upd (upd (upd (upd r (4 + k) v1) (10 + k) v2) (16 + k) v3) (22 + k) v4) 0 (nI (k + 1)) ∧ (0 ≤ v1 ∧ v1 ≤ 60) ∧ (0 ≤ v2 ∧ v2 ≤ 9) ∧ (0 ≤ v3 ∧ v3 ≤ 9) ∧ (0 ≤ v4 ∧ v4 ≤ 9)) ∧ m' = m ∧ i < i' ∧ i' ≤ l := by
  unfold pewP at h
  cases h1 : nm x l i 0 60 with
  | inl a => rw [h1] at h; cases h
  | inr b1 =>
    obtain ⟨v1, e1⟩ := b1
    rw [h1] at h
    dsimp only at h
    cases h2 : nm x l e1 0 9 with
    | inl a => rw [h2] at h; cases h
    | inr b2 =>
      obtain ⟨v2, e2⟩ := b2
      rw [h2] at h
      dsimp only at h
      cases h3 : nm x l e2 0 9 with
      | inl a => rw [h3] at h; cases h
      | inr b3 =>
        obtain ⟨v3, e3⟩ := b3
        rw [h3] at h
        dsimp only at h
        cases h4 : nm x l e3 0 9 with
        | inl a => rw [h4] at h; cases h
        | inr b4 =>
          obtain ⟨v4, e4⟩ := b4
          rw [h4] at h
          dsimp only at h
          cases h5 : enP x l e4 with
          | inl a => rw [h5] at h; cases h
          | inr e5 =>
            rw [h5] at h
            cases h
            have a1 := nm_le hi h1
            have a2 := nm_le a1.2 h2
            have a3 := nm_le a2.2 h3
            have a4 := nm_le a3.2 h4
            have a5 := enP_le a4.2 h5
            exact ⟨⟨v1, v2, v3, v4, rfl, nm_rng h1, nm_rng h2, nm_rng h3, nm_rng h4⟩, rfl, by omega, by omega⟩
theorem or16 : ∀ m, m < 16 → ∀ pl, pl < 4 → (m ||| 2 ^ pl) < 16 := by decide +kernel
/-- what may be read: a church as told -/
def PV (r : Nat → Int32) : Prop := ∃ k, k ≤ 6 ∧ r 0 = nI k ∧ (∀ j, j < k → (0 ≤ r (4 + j) ∧ r (4 + j) ≤ 60) ∧ (0 ≤ r (10 + j) ∧ r (10 + j) ≤ 9) ∧ (0 ≤ r (16 + j) ∧ r (16 + j) ≤ 9) ∧ (0 ≤ r (22 + j) ∧ r (22 + j) ≤ 9)) ∧ (0 ≤ r 1 ∧ r 1 ≤ 10) ∧ (1 ≤ r 2 ∧ r 2 ≤ 9) ∧ (0 ≤ r 3 ∧ r 3 ≤ 9) ∧ ∀ y, 28 ≤ y → r y = clR y
theorem PV_cl : PV clR := ⟨0, by omega, rfl, fun j hj => absurd hj (by omega), by decide, by decide, by decide, fun _ _ => rfl⟩
theorem PV.one {r : Nat → Int32} {pl : Nat} {v : Int32} (h : PV r) (hp : (pl = 1 ∧ 0 ≤ v ∧ v ≤ 10) ∨ (pl = 2 ∧ 1 ≤ v ∧ v ≤ 9) ∨ (pl = 3 ∧ 0 ≤ v ∧ v ≤ 9)) : PV (upd r pl v) := by
  obtain ⟨k, h1, h2, h3, h4, h5, h6, h7⟩ := h
  rcases hp with ⟨rfl, hv⟩ | ⟨rfl, hv⟩ | ⟨rfl, hv⟩
  · refine ⟨k, h1, by rw [upd_ne (by omega)]; exact h2, fun j hj => ?_, by rw [upd_s]; exact hv, by rw [upd_ne (by omega)]; exact h5, by rw [upd_ne (by omega)]; exact h6, fun y hy => by rw [upd_ne (by omega)]; exact h7 y hy⟩
    rw [upd_ne (by omega), upd_ne (by omega), upd_ne (by omega), upd_ne (by omega)]
    exact h3 j hj
  · refine ⟨k, h1, by rw [upd_ne (by omega)]; exact h2, fun j hj => ?_, by rw [upd_ne (by omega)]; exact h4, by rw [upd_s]; exact hv, by rw [upd_ne (by omega)]; exact h6, fun y hy => by rw [upd_ne (by omega)]; exact h7 y hy⟩
    rw [upd_ne (by omega), upd_ne (by omega), upd_ne (by omega), upd_ne (by omega)]
    exact h3 j hj
  · refine ⟨k, h1, by rw [upd_ne (by omega)]; exact h2, fun j hj => ?_, by rw [upd_ne (by omega)]; exact h4, by rw [upd_ne (by omega)]; exact h5, by rw [upd_s]; exact hv, fun y hy => by rw [upd_ne (by omega)]; exact h7 y hy⟩
    rw [upd_ne (by omega), upd_ne (by omega), upd_ne (by omega), upd_ne (by omega)]
    exact h3 j hj
theorem PV.pew {r : Nat → Int32} {k : Nat} {v1 v2 v3 v4 : Int32} (h : PV r) (hk : r 0 = nI k) (hk6 : k < 6) (a1 : 0 ≤ v1 ∧ v1 ≤ 60) (a2 : 0 ≤ v2 ∧ v2 ≤ 9) (a3 : 0 ≤ v3 ∧ v3 ≤ 9) (a4 : 0 ≤ v4 ∧ v4 ≤ 9) : PV (upd (upd (upd (upd (upd r (4 + k) v1) (10 + k) v2) (16 + k) v3) (22 + k) v4) 0 (nI (k + 1))) := by
  obtain ⟨k', h1, h2, h3, h4, h5, h6, h7⟩ := h
  have e : k' = k := (nI_eq (by omega) (by omega)).mp (h2.symm.trans hk)
  subst e
  have off : ∀ y, y ≠ 0 → y ≠ 4 + k' → y ≠ 10 + k' → y ≠ 16 + k' → y ≠ 22 + k' → upd (upd (upd (upd (upd r (4 + k') v1) (10 + k') v2) (16 + k') v3) (22 + k') v4) 0 (nI (k' + 1)) y = r y := by
    intro y b0 b1 b2 b3 b4
    rw [upd_ne b0, upd_ne b4, upd_ne b3, upd_ne b2, upd_ne b1]
  refine ⟨k' + 1, by omega, upd_s, fun j hj => ?_, by rw [off 1 (by omega) (by omega) (by omega) (by omega) (by omega)]; exact h4, by rw [off 2 (by omega) (by omega) (by omega) (by omega) (by omega)]; exact h5, by rw [off 3 (by omega) (by omega) (by omega) (by omega) (by omega)]; exact h6, fun y hy => by rw [off y (by omega) (by omega) (by omega) (by omega) (by omega)]; exact h7 y hy⟩
  rcases Nat.lt_or_ge j k' with q | q
  · rw [off (4 + j) (by omega) (by omega) (by omega) (by omega) (by omega), off (10 + j) (by omega) (by omega) (by omega) (by omega) (by omega), off (16 + j) (by omega) (by omega) (by omega) (by omega) (by omega), off (22 + j) (by omega) (by omega) (by omega) (by omega) (by omega)]
    exact h3 j q
  · have ej : j = k' := by omega
    subst ej
    refine ⟨?_, ?_, ?_, ?_⟩
    · rw [upd_ne (by omega), upd_ne (by omega), upd_ne (by omega), upd_ne (by omega), upd_s]; exact a1
    · rw [upd_ne (by omega), upd_ne (by omega), upd_ne (by omega), upd_s]; exact a2
    · rw [upd_ne (by omega), upd_ne (by omega), upd_s]; exact a3
    · rw [upd_ne (by omega), upd_s]; exact a4
theorem itP_ok {x : Nat → Int32} {l j k m i' m' : Nat} {c : Int32} {r r' : Nat → Int32} (h : itP x l j k r m c = .inr (i', r', m')) (hr : PV r) (hk : r 0 = nI k) (hk6 : k ≤ 6) (hm : m < 16) (hj : j < l) : PV r' ∧ m' < 16 ∧ j < i' ∧ i' ≤ l := by
  unfold itP at h
  split at h
  · split at h
    · cases h
    · obtain ⟨⟨v1, v2, v3, v4, rfl, a1, a2, a3, a4⟩, rfl, b1, b2⟩ := pewP_ok h (by omega)
      exact ⟨hr.pew hk (by omega) a1 a2 a3 a4, hm, by omega, b2⟩
  · split at h
    · split at h
      · cases h
      · obtain ⟨⟨v, rfl, a1⟩, rfl, b1, b2⟩ := oneP_ok h (by omega)
        exact ⟨hr.one (Or.inl ⟨rfl, a1⟩), or16 m hm 1 (by omega), by omega, b2⟩
    · split at h
      · split at h
        · cases h
        · obtain ⟨⟨v, rfl, a1⟩, rfl, b1, b2⟩ := oneP_ok h (by omega)
          exact ⟨hr.one (Or.inr (Or.inl ⟨rfl, a1⟩)), or16 m hm 2 (by omega), by omega, b2⟩
      · split at h
        · split at h
          · cases h
          · obtain ⟨⟨v, rfl, a1⟩, rfl, b1, b2⟩ := oneP_ok h (by omega)
            exact ⟨hr.one (Or.inr (Or.inr ⟨rfl, a1⟩)), or16 m hm 3 (by omega), by omega, b2⟩
        · cases h
def chQ (res : Nat ⊕ (Nat × (Nat → Int32))) (I : MemI) (J : MemJ) : PQ := fun r S' I' J' => S' = S0 ∧ J' = J ∧ (∀ p, res = .inl p → r = some (.int (-10 - nI p)) ∧ rdF I I') ∧ ∀ it row, res = .inr (it, row) → r = some (.int (nI it)) ∧ I' 54 = row ∧ I' 53 6 = 0 ∧ I' 53 2 = 0 ∧ I' 53 8 = 0 ∧ I' 57 0 = 0 ∧ I' 57 1 = 0 ∧ ∀ x, x ≠ 53 → x ≠ 54 → x ≠ 57 → x ≠ 60 → I' x = I x
theorem m_church (Γ : Cx) (I : MemI) (J : MemJ) (l : Nat) (hl : I 53 6 = nI l) (hl2 : l ≤ 200) (htx : ∀ y, y < l → 0 ≤ I 58 y) : Ct Γ M_Mo_church [.ref 53] S0 I J (chQ (parF (I 58) l (l + 1) 0 0 clR 0) I J) := by
  have LP : ∀ (f i it mt : Nat) (r : Nat → Int32) (I1 : MemI), l + 1 ≤ i + f → i ≤ l → PV r → mt < 16 → I1 53 11 = nI (sk (I 58) l i) → I1 53 12 = nI (sk (I 58) l i) → I1 60 = r → I1 53 13 = nI mt → rdF I I1 → (parF (I 58) l (l + 1) 0 0 clR 0) = parF (I 58) l f i it r mt → WP Γ M_Mo_church (0, 0) S0 I1 J 24 [.ref 53, .int (nI it), .int (ltr (I 58) l (sk (I 58) l i))] [] (chQ (parF (I 58) l (l + 1) 0 0 clR 0) I J) := by
    intro f
    induction f with
    | zero => intro i it mt r I1 h1 h2; exact absurd h1 (by omega)
    | succ f ih =>
      intro i it mt r I1 h1 hil hPV hmt16 h11 h12 h60 h13 hrd hF
      obtain ⟨b1, b2⟩ := sk_le (x := I 58) hil
      obtain ⟨k, hk6, hk0, -⟩ := id hPV
      have h6 : I1 53 6 = nI l := by rw [hrd.2 6 (by omega) (by omega) (by omega)]; exact hl
      have h58 : I1 58 = I 58 := hrd.1 58 (by decide) (by decide)
      refine p_iload_n d_Mo_church_24 rfl ?_
      refine p_iflt (tgt := 55) d_Mo_church_25 (by decide) (fun h25 => ?_) (fun h25 => ?_)
      · refine p_aload_n d_Mo_church_55 rfl ?_
        refine p_getR d_Mo_church_56 fl_Mo_29 kd_53 rfl rf_53_10 ?_
        refine p_ic_0 d_Mo_church_59 ?_
        refine p_aload_n d_Mo_church_60 rfl ?_
        refine p_getR d_Mo_church_61 fl_Mo_7 kd_53 rfl rf_53_0 ?_
        refine p_ic_0 d_Mo_church_64 ?_
        refine q_S d_Mo_church_65 ml_Mo_92 sb_Mo_copies ⟨leb rfl, leb rfl⟩ (m_copies Γ I1 J 60 54 0 0 39 39 ar_60 ar_54 (by decide) (by omega) (by omega) rfl rfl) rfl rfl rfl (fun r S1 IC J1 hQ => ?_)
        obtain ⟨rfl, rfl, hJ, c1, c2⟩ := hQ
        obtain rfl := hJ.symm
        refine p_row r ar_54 (fun y hy => by rw [c1, h60]; simp [cpR, hy]) ?_
        refine p_aload_n d_Mo_church_68 rfl ?_
        refine p_ic_0 d_Mo_church_69 ?_
        refine p_putI d_Mo_church_70 fl_Mo_52 kd_53 rfl nf_5_6 ?_
        refine p_aload_n d_Mo_church_73 rfl ?_
        refine p_ic_0 d_Mo_church_74 ?_
        refine p_putI d_Mo_church_75 fl_Mo_96 kd_53 rfl nf_5_2 ?_
        refine p_aload_n d_Mo_church_78 rfl ?_
        refine p_ic_0 d_Mo_church_79 ?_
        refine p_putI d_Mo_church_80 fl_Mo_99 kd_53 rfl nf_5_8 ?_
        refine p_aload_n d_Mo_church_83 rfl ?_
        refine p_getR d_Mo_church_84 fl_Mo_19 kd_53 rfl rf_53_4 ?_
        refine p_ic_0 d_Mo_church_87 ?_
        refine p_ic_0 d_Mo_church_88 ?_
        refine p_zastN (0) d_Mo_church_89 ar_57 rfl (by omega) rfl (Or.inl rfl) ?_
        refine p_aload_n d_Mo_church_90 rfl ?_
        refine p_getR d_Mo_church_91 fl_Mo_19 kd_53 rfl rf_53_4 ?_
        refine p_ic_1 d_Mo_church_94 ?_
        refine p_ic_0 d_Mo_church_95 ?_
        refine p_zastN (1) d_Mo_church_96 ar_57 rfl (by omega) rfl (Or.inl rfl) ?_
        refine p_iload_n d_Mo_church_97 rfl ?_
        refine p_iret d_Mo_church_98 rfl rfl ?_
        have jl : ¬ (sk (I 58) l i) < l := by
          intro q
          unfold ltr at h25
          rw [if_pos q] at h25
          exact absurd (htx _ q) (i32_nle.mpr h25)
        have hres : (parF (I 58) l (l + 1) 0 0 clR 0) = .inr (it, r) := by
          rw [hF]
          unfold parF
          rw [if_neg jl]
        refine ⟨rfl, rfl, fun p hp => ?_, fun it2 row hp => ?_⟩
        · rw [hres] at hp; cases hp
        · rw [hres] at hp; cases hp
          refine ⟨rfl, ?_, ?_, ?_, ?_, ?_, ?_, fun x q1 q2 q3 q4 => ?_⟩
          · funext y; simp [up2]
          · simp [up2]
          · simp [up2]
          · simp [up2]
          · simp [up2]
          · simp [up2]
          · funext y
            simp [up2, q1, q2, q3, c2 x q2, hrd.1 x q1 q4]
      · have jl : (sk (I 58) l i) < l := by
          rcases Nat.lt_or_ge (sk (I 58) l i) l with q | q
          · exact q
          · refine absurd ?_ h25
            unfold ltr
            rw [if_neg (by omega)]
            decide
        have cj : ltr (I 58) l (sk (I 58) l i) = I 58 (sk (I 58) l i) := by unfold ltr; rw [if_pos jl]
        refine p_aload_n d_Mo_church_28 rfl ?_
        refine p_iload_n d_Mo_church_29 rfl ?_
        refine q_V d_Mo_church_30 ml_Mo_88 vb_Mo_takesItem kd_53 ⟨leb rfl, leb rfl⟩ (m_takesItem Γ I1 J l (sk (I 58) l i) mt r h6 hl2 h11 jl h12 h60 h13 hmt16 k hk0 hk6 _) rfl rfl rfl (fun r S1 IT J1 hQ => ?_)
        obtain ⟨rfl, rfl, hJ, t1, t2, t3⟩ := hQ
        obtain rfl := hJ.symm
        rw [h58, cj] at t2 t3
        rw [h58, cj]
        refine p_ifneB (tgt := 44) d_Mo_church_33 (by decide) (fun h33 => ?_) (fun h33 => ?_)
        · obtain ⟨⟨i', r', m'⟩, hp⟩ := isR_ex h33
          obtain ⟨u11, u60, u13⟩ := t3 i' r' m' hp
          obtain ⟨u1, u2, u3, u4⟩ := itP_ok hp hPV hk0 hk6 hmt16 jl
          have k58 : IT 58 = I 58 := by rw [t1.1 58 (by decide) (by decide)]; exact h58
          refine p_incN_1_1 d_Mo_church_44 (by decide) rfl ?_
          refine p_aload_n d_Mo_church_47 rfl ?_
          refine q_V d_Mo_church_48 ml_Mo_63 vb_Mo_first kd_53 ⟨leb rfl, leb rfl⟩ (m_first Γ IT J l i' (by rw [t1.2 6 (by omega) (by omega) (by omega)]; exact h6) hl2 u11 u4) rfl rfl rfl (fun r S1 IF J1 hQ => ?_)
          obtain ⟨rfl, rfl, hJ, f11, f12, f13, f60, frd⟩ := hQ
          obtain rfl := hJ.symm
          rw [k58] at f11 f12
          rw [k58]
          refine p_is_2 d_Mo_church_51 (by decide) rfl ?_
          refine p_goto (tgt := 24) d_Mo_church_52 (by decide) ?_
          refine ih i' (it + 1) m' r' IF (by omega) u4 u1 u2 f11 f12 (by rw [f60, u60]) (by rw [f13, u13]) ((hrd.tr t1).tr frd) ?_
          rw [hF]
          show (if _ then _ else _) = _
          rw [if_pos jl, kOf_nI hk0 hk6, hp]
        · refine p_bi_m10 d_Mo_church_36 ?_
          refine p_aload_n d_Mo_church_38 rfl ?_
          refine p_getI d_Mo_church_39 fl_Mo_60 kd_53 (Or.inl rfl) ?_
          refine p_isub d_Mo_church_42 ?_
          refine p_iret d_Mo_church_43 rfl rfl ?_
          obtain ⟨p, hp⟩ := isL_ex h33
          have hres : (parF (I 58) l (l + 1) 0 0 clR 0) = .inl p := by
            rw [hF]
            unfold parF
            rw [if_pos jl, kOf_nI hk0 hk6, hp]
          refine ⟨rfl, rfl, fun p2 hp2 => ?_, fun it2 row hp2 => ?_⟩
          · rw [hres] at hp2; cases hp2
            exact ⟨by rw [t2 p hp], hrd.tr t1⟩
          · rw [hres] at hp2; cases hp2
  refine ct_of [.ref 53, .null, .null] (by decide +kernel) rfl (leb rfl) rfl ?_
  refine p_aload_n d_Mo_church_0 rfl ?_
  refine p_getR d_Mo_church_1 fl_Mo_29 kd_53 rfl rf_53_10 ?_
  refine q_S d_Mo_church_4 ml_Mo_41 sb_Mo_clean ⟨leb rfl, leb rfl⟩ (m_clean Γ S0 I J 60 ar_60) rfl rfl rfl (fun r S1 IL J1 hQ => ?_)
  obtain ⟨rfl, rfl, hJ, c1, c2⟩ := hQ
  obtain rfl := hJ.symm
  refine p_aload_n d_Mo_church_7 rfl ?_
  refine p_ic_0 d_Mo_church_8 ?_
  refine p_putI d_Mo_church_9 fl_Mo_57 kd_53 rfl nf_5_11 ?_
  refine p_aload_n d_Mo_church_12 rfl ?_
  refine p_ic_0 d_Mo_church_13 ?_
  refine p_putI d_Mo_church_14 fl_Mo_79 kd_53 rfl nf_5_13 ?_
  refine p_nmM (fun IM eIM => ?_)
  have m58 : IM 58 = I 58 := by rw [eIM]; funext y; simp [up2, c2]
  have m6 : IM 53 6 = nI l := by rw [eIM]; simp [up2, c2, hl]
  have m11 : IM 53 11 = nI 0 := by rw [eIM]; simp [up2, nI_0]
  have m13 : IM 53 13 = nI 0 := by rw [eIM]; simp [up2, nI_0]
  have m60 : IM 60 = clR := by rw [eIM]; funext y; simp [up2, c1]
  have mrd : rdF I IM := by rw [eIM]; exact ⟨fun x a b => by funext y; simp [up2, a, c2 x b], fun y a b c => by simp [up2, a, c, c2]⟩
  refine p_ic_0 d_Mo_church_17 ?_
  refine p_is_1 d_Mo_church_18 (by decide) rfl ?_
  refine p_aload_n d_Mo_church_19 rfl ?_
  refine q_V d_Mo_church_20 ml_Mo_63 vb_Mo_first kd_53 ⟨leb rfl, leb rfl⟩ (m_first Γ IM J l 0 m6 hl2 m11 (by omega)) rfl rfl rfl (fun r S1 IF J1 hQ => ?_)
  obtain ⟨rfl, rfl, hJ, f11, f12, f13, f60, frd⟩ := hQ
  obtain rfl := hJ.symm
  rw [m58] at f11 f12
  rw [m58]
  refine p_is_2 d_Mo_church_23 (by decide) rfl ?_
  exact LP (l + 1) 0 0 0 clR IF (by omega) (by omega) PV_cl (by omega) f11 f12 (by rw [f60, m60]) (by rw [f13, m13]) (mrd.tr frd) rfl
