/-! ===== the class reads the church ===== -/
theorem tk_e {x : Nat → Int32} {l j : Nat} (hx : ∀ y, y < l → 0 ≤ x y) : tkT x l j = (-1) ↔ ¬ j < l := by
  unfold tkT
  by_cases h : dgB x l j = true
  · rw [if_pos h]
    have hj := (dgB_iff.mp h).1
    refine ⟨fun z => ?_, fun z => absurd hj z⟩
    exfalso
    by_cases w : wrB x l j = true
    · rw [if_pos w] at z; exact absurd z (by decide)
    · rw [if_neg w] at z; exact absurd z (by decide)
  · rw [if_neg h]
    by_cases q : j < l
    · rw [if_pos q]
      refine ⟨fun z => ?_, fun z => absurd q z⟩
      have := hx j q
      rw [z] at this
      exact absurd this (by decide)
    · rw [if_neg q]
      exact ⟨fun _ => q, fun _ => rfl⟩
def inQ (res : Nat ⊕ (Nat × (Nat → Int32))) (I : MemI) (J : MemJ) : PQ := fun r S' I' J' => S' = S0 ∧ J' = J ∧ rcF I I' ∧ (∀ p, res = .inl p → r = some (.int (-10 - nI p))) ∧ ∀ it row, res = .inr (it, row) → r = some (.int (nI it)) ∧ it ≤ 200 ∧ PV row ∧ ∃ k, k ≤ 6 ∧ row 0 = nI k ∧ CW I' row k
theorem c_into (Γ : Cx) (I : MemI) (J : MemJ) (l : Nat) (hl : I 2 1 = nI l) (hl2 : l ≤ 200) (hx : ∀ y, y < l → 0 ≤ I 3 y) : Ct Γ M_Re_readInto [.ref 2, .ref 10] S0 I J (inQ (parF (I 3) l (l + 1) 0 0 clR 0) I J) := by
  have LP : ∀ (f i it mt k : Nat) (r : Nat → Int32) (I1 : MemI), l + 1 ≤ i + f → i ≤ l → it ≤ i → PV r → mt < 16 → I1 2 5 = nI i → k ≤ 6 → r 0 = nI k → CW I1 r k → FLg I1 mt → rcF I I1 → parF (I 3) l (l + 1) 0 0 clR 0 = parF (I 3) l f i it r mt → WP Γ M_Re_readInto (0, 0) S0 I1 J 26 [.ref 2, .ref 10, .int (nI it)] [] (inQ (parF (I 3) l (l + 1) 0 0 clR 0) I J) := by
    intro f
    induction f with
    | zero => intro i it mt k r I1 h1 h2; exact absurd h1 (by omega)
    | succ f ih =>
      intro i it mt k r I1 h1 hil hit hPV hm g5 hk6 hr0 hC hFl hrc hF
      obtain ⟨b1, b2⟩ := sk_le (x := I 3) hil
      have g1 : I1 2 1 = nI l := by rw [hrc.2 1 (by omega)]; exact hl
      have g3 : I1 3 = I 3 := hrc.1 3 (by decide) (by decide) (by decide) (by decide) (by decide) (by decide)
      refine p_iload_n d_Re_readInto_26 rfl ?_
      refine p_si_200 d_Re_readInto_27 ?_
      refine p_icmpgtN (tgt := 64) (it) (200) d_Re_readInto_30 (by decide) rfl rfl (by omega) (by omega) (fun h30 => ?_) (fun h30 => ?_)
      · exact absurd h30 (by omega)
      · refine p_aload_n d_Re_readInto_33 rfl ?_
        refine q_V d_Re_readInto_34 ml_Re_37 vb_Re_readToken kd_2 ⟨leb rfl, leb rfl⟩ (c_token Γ I1 J l i g1 hl2 g5 hil) rfl rfl rfl (fun r S1 IT J1 hQ => ?_)
        obtain ⟨rfl, rfl, hJ, t1, t2, t3, t4, t5⟩ := hQ
        obtain rfl := hJ.symm
        rw [g3] at t2 t3 t4
        have k3 : IT 3 = I 3 := by rw [t1.1 3 (by decide)]; exact g3
        refine p_aload_n d_Re_readInto_37 rfl ?_
        refine p_getI d_Re_readInto_38 fl_Re_40 kd_2 (Or.inl rfl) ?_
        refine p_eqI (y := tkT (I 3) l (sk (I 3) l i)) (t2) ?_
        refine p_ic_m1 d_Re_readInto_41 ?_
        refine p_icmpne (tgt := 47) d_Re_readInto_42 (by decide) (fun h42 => ?_) (fun h42 => ?_)
        · have jl : (sk (I 3) l i) < l := Decidable.byContradiction (fun z => h42 ((tk_e hx).mpr z))
          refine p_aload_n d_Re_readInto_47 rfl ?_
          refine p_aload_n d_Re_readInto_48 rfl ?_
          refine q_V d_Re_readInto_49 ml_Re_43 vb_Re_readItem kd_2 ⟨leb rfl, leb rfl⟩ (c_itemR Γ IT J l (sk (I 3) l i) k mt r (by rw [t1.2 1 (by omega)]; exact g1) hl2 jl (by rw [k3]; exact t2) t3 (by rw [k3]; exact t4) hk6 hr0 hm (hC.tk t1) (hFl.tk t1) (by rw [k3]; exact hx)) rfl rfl rfl (fun r S1 IR J1 hQ => ?_)
          obtain ⟨rfl, rfl, hJ, r1, r2, r3⟩ := hQ
          obtain rfl := hJ.symm
          rw [k3] at r2 r3
          rw [k3]
          refine p_ifneB (tgt := 58) d_Re_readInto_52 (by decide) (fun h52 => ?_) (fun h52 => ?_)
          · obtain ⟨⟨i', r', m'⟩, hp⟩ := isR_ex h52
            obtain ⟨u5, ⟨k', u1, u2, u3⟩, u4⟩ := r3 i' r' m' hp
            obtain ⟨v1, v2, v3, v4⟩ := itP_ok hp hPV hr0 hk6 hm jl
            refine p_incN_2_1 d_Re_readInto_58 (by decide) rfl ?_
            refine p_goto (tgt := 26) d_Re_readInto_61 (by decide) ?_
            refine ih i' (it + 1) m' k' r' IR (by omega) v4 (by omega) v1 v2 u5 u1 u2 u3 u4 ((hrc.tr (rcF.tk t1)).tr r1) ?_
            rw [hF]
            show (if _ then _ else _) = _
            rw [if_pos jl, kOf_nI hr0 hk6, hp]
          · obtain ⟨p, hp⟩ := isL_ex h52
            refine p_goto (tgt := 64) d_Re_readInto_55 (by decide) ?_
            refine p_bi_m10 d_Re_readInto_64 ?_
            refine p_aload_n d_Re_readInto_66 rfl ?_
            refine p_getI d_Re_readInto_67 fl_Re_47 kd_2 (Or.inl rfl) ?_
            refine p_eqI (y := nI p) (r2 p hp) ?_
            refine p_isub d_Re_readInto_70 ?_
            refine p_iret d_Re_readInto_71 rfl rfl ?_
            have hres : parF (I 3) l (l + 1) 0 0 clR 0 = .inl p := by
              rw [hF]
              unfold parF
              rw [if_pos jl, kOf_nI hr0 hk6, hp]
            refine ⟨rfl, rfl, (hrc.tr (rcF.tk t1)).tr r1, fun p2 hp2 => ?_, fun it2 row hp2 => ?_⟩
            · rw [hres] at hp2; cases hp2; rfl
            · rw [hres] at hp2; cases hp2
        · refine p_iload_n d_Re_readInto_45 rfl ?_
          refine p_iret d_Re_readInto_46 rfl rfl ?_
          have jl : ¬ (sk (I 3) l i) < l := (tk_e hx).mp h42
          have hres : parF (I 3) l (l + 1) 0 0 clR 0 = .inr (it, r) := by
            rw [hF]
            unfold parF
            rw [if_neg jl]
          refine ⟨rfl, rfl, hrc.tr (rcF.tk t1), fun p hp => ?_, fun it2 row hp => ?_⟩
          · rw [hres] at hp; cases hp
          · rw [hres] at hp; cases hp
            exact ⟨rfl, by omega, hPV, k, hk6, hr0, hC.tk t1⟩
  refine ct_of [.ref 2, .ref 10, .null] (by decide +kernel) rfl (leb rfl) rfl ?_
  refine p_aload_n d_Re_readInto_0 rfl ?_
  refine q_V0 d_Re_readInto_1 ml_Re_19 vb_Ch_empty kd_10 ⟨leb rfl, leb rfl⟩ (c_Chempty Γ I J 10 ch_10) rfl rfl rfl ?_
  refine p_aload_n d_Re_readInto_4 rfl ?_
  refine p_ic_0 d_Re_readInto_5 ?_
  refine p_putI d_Re_readInto_6 fl_Re_24 kd_2 rfl nf_2_5 ?_
  refine p_aload_n d_Re_readInto_9 rfl ?_
  refine p_ic_0 d_Re_readInto_10 ?_
  refine p_putZ d_Re_readInto_11 fl_Re_27 kd_2 rfl (Or.inl rfl) nf_2_6 ?_
  refine p_aload_n d_Re_readInto_14 rfl ?_
  refine p_ic_0 d_Re_readInto_15 ?_
  refine p_putZ d_Re_readInto_16 fl_Re_31 kd_2 rfl (Or.inl rfl) nf_2_7 ?_
  refine p_aload_n d_Re_readInto_19 rfl ?_
  refine p_ic_0 d_Re_readInto_20 ?_
  refine p_putZ d_Re_readInto_21 fl_Re_34 kd_2 rfl (Or.inl rfl) nf_2_8 ?_
  refine p_nmM (fun IM eIM => ?_)
  refine p_ic_0 d_Re_readInto_24 ?_
  refine p_is_2 d_Re_readInto_25 (by decide) rfl ?_
  refine LP (l + 1) 0 0 0 0 clR IM (by omega) (by omega) (by omega) PV_cl (by omega) ?_ (by omega) rfl ?_ ?_ ?_ rfl
  · rw [eIM]; simp [up2, nI_0]
  · rw [eIM]; exact ⟨by simp [up2, nI_0], by simp [up2, clR], by simp [up2, clR], by simp [up2, clR], fun j hj => absurd hj (by omega)⟩
  · rw [eIM]; exact ⟨by simp [up2]; rfl, by simp [up2]; rfl, by simp [up2]; rfl⟩
  · rw [eIM]; exact ⟨fun x a b _ _ _ _ => by funext y; simp [up2, a, b], fun y a => by simp only [up2]; rw [if_neg (by omega), if_neg (by omega), if_neg (by omega), if_neg (by omega), if_neg (by omega), if_neg (by omega), if_neg (by omega), if_neg (by omega)]⟩
