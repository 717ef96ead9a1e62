/-! ===== the reference reads items and the church ===== -/
theorem met16 : ∀ m, m < 16 → ∀ pl, pl < 4 → (nI m >>> (nI pl &&& 31) &&& 1) = nI (bt1 m pl) ∧ (nI m ||| ((1 : Int32) <<< (nI pl &&& 31))) = nI (m ||| 2 ^ pl) ∧ (m ||| 2 ^ pl) < 16 := by decide +kernel
def prQ (res : PR) (I : MemI) (J : MemJ) : PQ := fun r S' I' J' => r = some (.int (bI (res.isRight = true))) ∧ S' = S0 ∧ J' = J ∧ rdF I I' ∧ (∀ p, res = .inl p → I' 53 12 = nI p) ∧ ∀ i' r' m', res = .inr (i', r', m') → I' 53 11 = nI i' ∧ I' 60 = r' ∧ I' 53 13 = nI m'
theorem prQ_l {res : PR} {p : Nat} {I I' : MemI} {J : MemJ} (h : res = .inl p) (hr : rdF I I') (h12 : I' 53 12 = nI p) : prQ res I J (some (.int 0)) S0 I' J := by
  subst h
  exact ⟨rfl, rfl, rfl, hr, fun q hq => (by cases hq; exact h12), fun a b c hq => (by cases hq)⟩
theorem prQ_r {res : PR} {i' m' : Nat} {r' : Nat → Int32} {I I' : MemI} {J : MemJ} (h : res = .inr (i', r', m')) (hr : rdF I I') (h11 : I' 53 11 = nI i') (h60 : I' 60 = r') (h13 : I' 53 13 = nI m') : prQ res I J (some (.int 1)) S0 I' J := by
  subst h
  exact ⟨rfl, rfl, rfl, hr, fun q hq => (by cases hq), fun a b c hq => (by cases hq; exact ⟨h11, h60, h13⟩)⟩
theorem m_takesOne (Γ : Cx) (I : MemI) (J : MemJ) (l j mt : Nat) (r : Nat → Int32) (hl : I 53 6 = nI l) (hl2 : l ≤ 200) (hat : I 53 11 = nI j) (hjl : j < l) (hbg : I 53 12 = nI j) (h60 : I 60 = r) (hmt : I 53 13 = nI mt) (hm16 : mt < 16) (pl : Nat) (hpl : pl < 4) (lo hi : Int32) : Ct Γ M_Mo_takesOne [.ref 53, .int (nI pl), .int lo, .int hi] S0 I J (prQ (if bt1 mt pl = 1 then .inl j else oneP (I 58) l (j + 1) pl lo hi r mt) I J) := by
  obtain ⟨q1, q2, q3⟩ := met16 mt hm16 pl hpl
  have bl := bt1_le mt pl
  refine ct_of [.ref 53, .int (nI pl), .int lo, .int hi] (by decide +kernel) rfl (leb rfl) rfl ?_
  refine p_aload_n d_Mo_takesOne_0 rfl ?_
  refine p_getI d_Mo_takesOne_1 fl_Mo_79 kd_53 (Or.inl rfl) ?_
  refine p_eqI hmt ?_
  refine p_iload_n d_Mo_takesOne_4 rfl ?_
  refine p_ishr d_Mo_takesOne_5 ?_
  refine p_ic_1 d_Mo_takesOne_6 ?_
  refine p_iand d_Mo_takesOne_7 ?_
  refine p_eqI q1 ?_
  refine p_ic_1 d_Mo_takesOne_8 ?_
  refine p_icmpneN (tgt := 14) ((bt1 mt pl)) (1) d_Mo_takesOne_9 (by decide) rfl rfl (by omega) (by omega) (fun h9 => ?_) (fun h9 => ?_)
  · refine p_aload_n d_Mo_takesOne_14 rfl ?_
    refine p_dup d_Mo_takesOne_15 rfl ?_
    refine p_getI d_Mo_takesOne_16 fl_Mo_57 kd_53 (Or.inl rfl) ?_
    refine p_eqI (y := nI j) (hat) ?_
    refine p_ic_1 d_Mo_takesOne_19 ?_
    refine p_iaddN (j) (1) d_Mo_takesOne_20 rfl rfl ?_
    refine p_putI d_Mo_takesOne_21 fl_Mo_57 kd_53 rfl nf_5_11 ?_
    refine p_aload_n d_Mo_takesOne_24 rfl ?_
    refine p_dup d_Mo_takesOne_25 rfl ?_
    refine p_getI d_Mo_takesOne_26 fl_Mo_79 kd_53 (Or.inl rfl) ?_
    refine p_eqI (y := nI mt) (by simp [up2, hmt]) ?_
    refine p_ic_1 d_Mo_takesOne_29 ?_
    refine p_iload_n d_Mo_takesOne_30 rfl ?_
    refine p_ishl d_Mo_takesOne_31 ?_
    refine p_ior d_Mo_takesOne_32 ?_
    refine p_eqI q2 ?_
    refine p_putI d_Mo_takesOne_33 fl_Mo_79 kd_53 rfl nf_5_13 ?_
    refine p_nmM (fun IM eIM => ?_)
    have m58 : IM 58 = I 58 := by rw [eIM]; funext y; simp [up2]
    have m6 : IM 53 6 = nI l := by rw [eIM]; simp [up2, hl]
    have m11 : IM 53 11 = nI (j + 1) := by rw [eIM]; simp [up2]
    have m13 : IM 53 13 = nI (mt ||| 2 ^ pl) := by rw [eIM]; simp [up2]
    have m60 : IM 60 = r := by rw [eIM]; funext y; simp [up2, h60]
    have mrd : rdF I IM := by rw [eIM]; exact ⟨fun x a b => by funext y; simp [up2, a], fun y a b c => by simp [up2, a, c]⟩
    refine p_aload_n d_Mo_takesOne_36 rfl ?_
    refine p_iload_n d_Mo_takesOne_37 rfl ?_
    refine p_iload_n d_Mo_takesOne_38 rfl ?_
    refine p_iload_n d_Mo_takesOne_39 rfl ?_
    refine q_V d_Mo_takesOne_40 ml_Mo_71 vb_Mo_number kd_53 ⟨leb rfl, leb rfl⟩ (m_number Γ IM J l (j + 1) m6 hl2 m11 (by omega) (pl) (by omega) lo hi) rfl rfl rfl (fun r S1 IN J1 hQ => ?_)
    obtain ⟨rfl, rfl, hJ, n1, n2, n3, n4⟩ := hQ
    obtain rfl := hJ.symm
    rw [m58] at n3 n4
    rw [m58]
    refine p_ifeqB (tgt := 57) d_Mo_takesOne_43 (by decide) (fun h43 => ?_) (fun h43 => ?_)
    · obtain ⟨p, hp⟩ := isL_ex h43
      refine p_ic_0 d_Mo_takesOne_57 ?_
      refine p_iret d_Mo_takesOne_58 rfl rfl ?_
      exact prQ_l (by rw [if_neg h9]; unfold oneP; rw [hp]) (mrd.tr n1) (n3 p hp)
    · obtain ⟨⟨v, e⟩, hp⟩ := isR_ex h43
      obtain ⟨w11, w60⟩ := n4 v e hp
      have he := nm_le (by omega) hp
      have k6 : IN 53 6 = nI l := by rw [n1.2 6 (by omega) (by omega) (by omega)]; exact m6
      have k58 : IN 58 = I 58 := by rw [n1.1 58 (by decide) (by decide)]; exact m58
      refine p_aload_n d_Mo_takesOne_46 rfl ?_
      refine q_V d_Mo_takesOne_47 ml_Mo_75 vb_Mo_ends kd_53 ⟨leb rfl, leb rfl⟩ (m_ends Γ IN J l (e) k6 hl2 w11 (by omega)) rfl rfl rfl (fun r S1 IE J1 hQ => ?_)
      obtain ⟨rfl, rfl, hJ, z1, z2, z3, z4, z5⟩ := hQ
      obtain rfl := hJ.symm
      rw [k58] at z4 z5
      rw [k58]
      refine p_ifeqB (tgt := 57) d_Mo_takesOne_50 (by decide) (fun h50 => ?_) (fun h50 => ?_)
      · obtain ⟨p, hp2⟩ := isL_ex h50
        refine p_ic_0 d_Mo_takesOne_57 ?_
        refine p_iret d_Mo_takesOne_58 rfl rfl ?_
        exact prQ_l (by rw [if_neg h9]; unfold oneP; rw [hp]; show (match enP (I 58) l e with | .inl j => _ | .inr e2 => _) = _; rw [hp2]) ((mrd.tr n1).tr z1) (z4 p hp2)
      · obtain ⟨e2, hp2⟩ := isR_ex h50
        refine p_ic_1 d_Mo_takesOne_53 ?_
        refine p_goto (tgt := 58) d_Mo_takesOne_54 (by decide) ?_
        refine p_iret d_Mo_takesOne_58 rfl rfl ?_
        exact prQ_r (by rw [if_neg h9]; unfold oneP; rw [hp]; show (match enP (I 58) l e with | .inl j => _ | .inr e2 => _) = _; rw [hp2]) ((mrd.tr n1).tr z1) (z5 e2 hp2) (by rw [z3, w60, m60]) (by rw [z2, n2, m13])
  · refine p_ic_0 d_Mo_takesOne_12 ?_
    refine p_iret d_Mo_takesOne_13 rfl rfl ?_
    exact prQ_l (by rw [if_pos h9]) rdF.rf hbg
theorem m_takesPew (Γ : Cx) (I : MemI) (J : MemJ) (l j mt : Nat) (r : Nat → Int32) (hl : I 53 6 = nI l) (hl2 : l ≤ 200) (hat : I 53 11 = nI j) (hjl : j < l) (hbg : I 53 12 = nI j) (h60 : I 60 = r) (hmt : I 53 13 = nI mt) (hm16 : mt < 16) (k : Nat) (hk : r 0 = nI k) (hk6 : k ≤ 6) : Ct Γ M_Mo_takesPew [.ref 53] S0 I J (prQ (if k = 6 then .inl j else pewP (I 58) l (j + 1) k r mt) I J) := by
  refine ct_of [.ref 53, .null] (by decide +kernel) rfl (leb rfl) rfl ?_
  refine p_aload_n d_Mo_takesPew_0 rfl ?_
  refine p_getR d_Mo_takesPew_1 fl_Mo_29 kd_53 rfl rf_53_10 ?_
  refine p_ic_0 d_Mo_takesPew_4 ?_
  refine p_ialdN (0) d_Mo_takesPew_5 ar_60 rfl (by omega) rfl ?_
  refine p_eqI (y := nI k) (by rw [h60]; exact hk) ?_
  refine p_is_1 d_Mo_takesPew_6 (by decide) rfl ?_
  refine p_iload_n d_Mo_takesPew_7 rfl ?_
  refine p_bi_6 d_Mo_takesPew_8 ?_
  refine p_icmpneN (tgt := 15) (k) (6) d_Mo_takesPew_10 (by decide) rfl rfl (by omega) (by omega) (fun h10 => ?_) (fun h10 => ?_)
  · refine p_aload_n d_Mo_takesPew_15 rfl ?_
    refine p_dup d_Mo_takesPew_16 rfl ?_
    refine p_getI d_Mo_takesPew_17 fl_Mo_57 kd_53 (Or.inl rfl) ?_
    refine p_eqI (y := nI j) (hat) ?_
    refine p_ic_1 d_Mo_takesPew_20 ?_
    refine p_iaddN (j) (1) d_Mo_takesPew_21 rfl rfl ?_
    refine p_putI d_Mo_takesPew_22 fl_Mo_57 kd_53 rfl nf_5_11 ?_
    refine p_nmM (fun IM eIM => ?_)
    have m58 : IM 58 = I 58 := by rw [eIM]; funext y; simp [up2]
    have m6 : IM 53 6 = nI l := by rw [eIM]; simp [up2, hl]
    have m11 : IM 53 11 = nI (j + 1) := by rw [eIM]; simp [up2]
    have m13 : IM 53 13 = nI mt := by rw [eIM]; simp [up2, hmt]
    have m60 : IM 60 = r := by rw [eIM]; funext y; simp [up2, h60]
    have mrd : rdF I IM := by rw [eIM]; exact ⟨fun x a b => by funext y; simp [up2, a], fun y a b c => by simp [up2, a]⟩
    refine p_aload_n d_Mo_takesPew_25 rfl ?_
    refine p_ic_4 d_Mo_takesPew_26 ?_
    refine p_iload_n d_Mo_takesPew_27 rfl ?_
    refine p_iaddN (4) (k) d_Mo_takesPew_28 rfl rfl ?_
    refine p_ic_0 d_Mo_takesPew_29 ?_
    refine p_bi_60 d_Mo_takesPew_30 ?_
    refine q_V d_Mo_takesPew_32 ml_Mo_71 vb_Mo_number kd_53 ⟨leb rfl, leb rfl⟩ (m_number Γ IM J l (j + 1) m6 hl2 m11 (by omega) (4 + k) (by omega) 0 60) rfl rfl rfl (fun r S1 IN1 J1 hQ => ?_)
    obtain ⟨rfl, rfl, hJ, n11, n21, n31, n41⟩ := hQ
    obtain rfl := hJ.symm
    rw [m58] at n31 n41
    rw [m58]
    refine p_ifeqB (tgt := 80) d_Mo_takesPew_35 (by decide) (fun h35 => ?_) (fun h35 => ?_)
    · obtain ⟨p, hp1⟩ := isL_ex h35
      refine p_ic_0 d_Mo_takesPew_80 ?_
      refine p_iret d_Mo_takesPew_81 rfl rfl ?_
      exact prQ_l (by rw [if_neg h10]; unfold pewP; rw [hp1]) (mrd.tr n11) (n31 p hp1)
    · obtain ⟨⟨v1, e1⟩, hp1⟩ := isR_ex h35
      obtain ⟨w111, w601⟩ := n41 v1 e1 hp1
      have he1 := nm_le (by omega) hp1
      have k61 : IN1 53 6 = nI l := by rw [n11.2 6 (by omega) (by omega) (by omega)]; exact m6
      have k581 : IN1 58 = I 58 := by rw [n11.1 58 (by decide) (by decide)]; exact m58
      refine p_aload_n d_Mo_takesPew_38 rfl ?_
      refine p_bi_10 d_Mo_takesPew_39 ?_
      refine p_iload_n d_Mo_takesPew_41 rfl ?_
      refine p_iaddN (10) (k) d_Mo_takesPew_42 rfl rfl ?_
      refine p_ic_0 d_Mo_takesPew_43 ?_
      refine p_bi_9 d_Mo_takesPew_44 ?_
      refine q_V d_Mo_takesPew_46 ml_Mo_71 vb_Mo_number kd_53 ⟨leb rfl, leb rfl⟩ (m_number Γ IN1 J l (e1) k61 hl2 w111 (by omega) (10 + k) (by omega) 0 9) rfl rfl rfl (fun r S1 IN2 J1 hQ => ?_)
      obtain ⟨rfl, rfl, hJ, n12, n22, n32, n42⟩ := hQ
      obtain rfl := hJ.symm
      rw [k581] at n32 n42
      rw [k581]
      refine p_ifeqB (tgt := 80) d_Mo_takesPew_49 (by decide) (fun h49 => ?_) (fun h49 => ?_)
      · obtain ⟨p, hp2⟩ := isL_ex h49
        refine p_ic_0 d_Mo_takesPew_80 ?_
        refine p_iret d_Mo_takesPew_81 rfl rfl ?_
        exact prQ_l (by rw [if_neg h10]; unfold pewP; rw [hp1]; show (match nm (I 58) l e1 0 9 with | .inl j => _ | .inr (v, e) => _) = _; rw [hp2]) ((mrd.tr n11).tr n12) (n32 p hp2)
      · obtain ⟨⟨v2, e2⟩, hp2⟩ := isR_ex h49
        obtain ⟨w112, w602⟩ := n42 v2 e2 hp2
        have he2 := nm_le (by omega) hp2
        have k62 : IN2 53 6 = nI l := by rw [n12.2 6 (by omega) (by omega) (by omega)]; exact k61
        have k582 : IN2 58 = I 58 := by rw [n12.1 58 (by decide) (by decide)]; exact k581
        refine p_aload_n d_Mo_takesPew_52 rfl ?_
        refine p_bi_16 d_Mo_takesPew_53 ?_
        refine p_iload_n d_Mo_takesPew_55 rfl ?_
        refine p_iaddN (16) (k) d_Mo_takesPew_56 rfl rfl ?_
        refine p_ic_0 d_Mo_takesPew_57 ?_
        refine p_bi_9 d_Mo_takesPew_58 ?_
        refine q_V d_Mo_takesPew_60 ml_Mo_71 vb_Mo_number kd_53 ⟨leb rfl, leb rfl⟩ (m_number Γ IN2 J l (e2) k62 hl2 w112 (by omega) (16 + k) (by omega) 0 9) rfl rfl rfl (fun r S1 IN3 J1 hQ => ?_)
        obtain ⟨rfl, rfl, hJ, n13, n23, n33, n43⟩ := hQ
        obtain rfl := hJ.symm
        rw [k582] at n33 n43
        rw [k582]
        refine p_ifeqB (tgt := 80) d_Mo_takesPew_63 (by decide) (fun h63 => ?_) (fun h63 => ?_)
        · obtain ⟨p, hp3⟩ := isL_ex h63
          refine p_ic_0 d_Mo_takesPew_80 ?_
          refine p_iret d_Mo_takesPew_81 rfl rfl ?_
          exact prQ_l (by rw [if_neg h10]; unfold pewP; rw [hp1]; show (match nm (I 58) l e1 0 9 with | .inl j => _ | .inr (v, e) => _) = _; rw [hp2]; show (match nm (I 58) l e2 0 9 with | .inl j => _ | .inr (v, e) => _) = _; rw [hp3]) (((mrd.tr n11).tr n12).tr n13) (n33 p hp3)
        · obtain ⟨⟨v3, e3⟩, hp3⟩ := isR_ex h63
          obtain ⟨w113, w603⟩ := n43 v3 e3 hp3
          have he3 := nm_le (by omega) hp3
          have k63 : IN3 53 6 = nI l := by rw [n13.2 6 (by omega) (by omega) (by omega)]; exact k62
          have k583 : IN3 58 = I 58 := by rw [n13.1 58 (by decide) (by decide)]; exact k582
          refine p_aload_n d_Mo_takesPew_66 rfl ?_
          refine p_bi_22 d_Mo_takesPew_67 ?_
          refine p_iload_n d_Mo_takesPew_69 rfl ?_
          refine p_iaddN (22) (k) d_Mo_takesPew_70 rfl rfl ?_
          refine p_ic_0 d_Mo_takesPew_71 ?_
          refine p_bi_9 d_Mo_takesPew_72 ?_
          refine q_V d_Mo_takesPew_74 ml_Mo_71 vb_Mo_number kd_53 ⟨leb rfl, leb rfl⟩ (m_number Γ IN3 J l (e3) k63 hl2 w113 (by omega) (22 + k) (by omega) 0 9) rfl rfl rfl (fun r S1 IN4 J1 hQ => ?_)
          obtain ⟨rfl, rfl, hJ, n14, n24, n34, n44⟩ := hQ
          obtain rfl := hJ.symm
          rw [k583] at n34 n44
          rw [k583]
          refine p_ifneB (tgt := 82) d_Mo_takesPew_77 (by decide) (fun h77 => ?_) (fun h77 => ?_)
          · obtain ⟨⟨v4, e4⟩, hp4⟩ := isR_ex h77
            obtain ⟨w114, w604⟩ := n44 v4 e4 hp4
            have he4 := nm_le (by omega) hp4
            have k64 : IN4 53 6 = nI l := by rw [n14.2 6 (by omega) (by omega) (by omega)]; exact k63
            have k584 : IN4 58 = I 58 := by rw [n14.1 58 (by decide) (by decide)]; exact k583
            refine p_aload_n d_Mo_takesPew_82 rfl ?_
            refine p_getR d_Mo_takesPew_83 fl_Mo_29 kd_53 rfl rf_53_10 ?_
            refine p_ic_0 d_Mo_takesPew_86 ?_
            refine p_dup2 d_Mo_takesPew_87 rfl rfl ?_
            refine p_ialdN (0) d_Mo_takesPew_88 ar_60 rfl (by omega) rfl ?_
            have r60 : IN4 60 = upd (upd (upd (upd r (4 + k) v1) (10 + k) v2) (16 + k) v3) (22 + k) v4 := by rw [w604, w603, w602, w601, m60]
            refine p_eqI (y := nI k) (by rw [r60, upd_ne (by omega), upd_ne (by omega), upd_ne (by omega), upd_ne (by omega)]; exact hk) ?_
            refine p_ic_1 d_Mo_takesPew_89 ?_
            refine p_iaddN (k) (1) d_Mo_takesPew_90 rfl rfl ?_
            refine p_iastN (0) d_Mo_takesPew_91 ar_60 rfl (by omega) rfl ?_
            refine p_nmM (fun IP eIP => ?_)
            have x58 : IP 58 = I 58 := by rw [eIP]; funext y; simp [up2, k584]
            have x6 : IP 53 6 = nI l := by rw [eIP]; simp [up2, k64]
            have x11 : IP 53 11 = nI e4 := by rw [eIP]; simp [up2, w114]
            have x13 : IP 53 13 = nI mt := by rw [eIP]; simp only [up2]; rw [if_neg (by omega), n24, n23, n22, n21, m13]
            have x60 : IP 60 = upd (upd (upd (upd (upd r (4 + k) v1) (10 + k) v2) (16 + k) v3) (22 + k) v4) 0 (nI (k + 1)) := by rw [eIP, up2_row, r60]
            have xrd : rdF I IP := by
              refine ((((mrd.tr n11).tr n12).tr n13).tr n14).tr ?_
              rw [eIP]
              exact ⟨fun x a b => by funext y; simp [up2, b], fun y a b c => by simp [up2]⟩
            refine p_aload_n d_Mo_takesPew_92 rfl ?_
            refine q_V d_Mo_takesPew_93 ml_Mo_75 vb_Mo_ends kd_53 ⟨leb rfl, leb rfl⟩ (m_ends Γ IP J l (e4) x6 hl2 x11 (by omega)) rfl rfl rfl (fun r S1 IE J1 hQ => ?_)
            obtain ⟨rfl, rfl, hJ, z1, z2, z3, z4, z5⟩ := hQ
            obtain rfl := hJ.symm
            rw [x58] at z4 z5
            rw [x58]
            refine p_iret d_Mo_takesPew_96 rfl bI_nar ?_
            by_cases h96 : (enP (I 58) l e4).isRight = true
            · obtain ⟨e5, hp5⟩ := isR_ex h96
              rw [bI_t h96]
              exact prQ_r (by rw [if_neg h10]; unfold pewP; rw [hp1]; show (match nm (I 58) l e1 0 9 with | .inl j => _ | .inr (v, e) => _) = _; rw [hp2]; show (match nm (I 58) l e2 0 9 with | .inl j => _ | .inr (v, e) => _) = _; rw [hp3]; show (match nm (I 58) l e3 0 9 with | .inl j => _ | .inr (v, e) => _) = _; rw [hp4]; show (match enP (I 58) l e4 with | .inl j => _ | .inr e5 => _) = _; rw [hp5]) (xrd.tr z1) (z5 e5 hp5) (by rw [z3, x60]) (by rw [z2, x13])
            · obtain ⟨p, hp5⟩ := isL_ex h96
              rw [bI_f h96]
              exact prQ_l (by rw [if_neg h10]; unfold pewP; rw [hp1]; show (match nm (I 58) l e1 0 9 with | .inl j => _ | .inr (v, e) => _) = _; rw [hp2]; show (match nm (I 58) l e2 0 9 with | .inl j => _ | .inr (v, e) => _) = _; rw [hp3]; show (match nm (I 58) l e3 0 9 with | .inl j => _ | .inr (v, e) => _) = _; rw [hp4]; show (match enP (I 58) l e4 with | .inl j => _ | .inr e5 => _) = _; rw [hp5]) (xrd.tr z1) (z4 p hp5)
          · obtain ⟨p, hp4⟩ := isL_ex h77
            refine p_ic_0 d_Mo_takesPew_80 ?_
            refine p_iret d_Mo_takesPew_81 rfl rfl ?_
            exact prQ_l (by rw [if_neg h10]; unfold pewP; rw [hp1]; show (match nm (I 58) l e1 0 9 with | .inl j => _ | .inr (v, e) => _) = _; rw [hp2]; show (match nm (I 58) l e2 0 9 with | .inl j => _ | .inr (v, e) => _) = _; rw [hp3]; show (match nm (I 58) l e3 0 9 with | .inl j => _ | .inr (v, e) => _) = _; rw [hp4]) ((((mrd.tr n11).tr n12).tr n13).tr n14) (n34 p hp4)
  · refine p_ic_0 d_Mo_takesPew_13 ?_
    refine p_iret d_Mo_takesPew_14 rfl rfl ?_
    exact prQ_l (by rw [if_pos h10]) rdF.rf hbg
theorem m_takesItem (Γ : Cx) (I : MemI) (J : MemJ) (l j mt : Nat) (r : Nat → Int32) (hl : I 53 6 = nI l) (hl2 : l ≤ 200) (hat : I 53 11 = nI j) (hjl : j < l) (hbg : I 53 12 = nI j) (h60 : I 60 = r) (hmt : I 53 13 = nI mt) (hm16 : mt < 16) (k : Nat) (hk : r 0 = nI k) (hk6 : k ≤ 6) (c : Int32) : Ct Γ M_Mo_takesItem [.ref 53, .int c] S0 I J (prQ (itP (I 58) l j k r mt c) I J) := by
  refine ct_of [.ref 53, .int c] (by decide +kernel) rfl (leb rfl) rfl ?_
  refine p_iload_n d_Mo_takesItem_0 rfl ?_
  by_cases hs103 : c = 103
  · refine p_lookup (off := 66) (tgt := 67) d_Mo_takesItem_1 (by decide) (by rw [hs103]; decide) (by decide) ?_
    refine p_aload_n d_Mo_takesItem_67 rfl ?_
    refine p_ic_3 d_Mo_takesItem_68 ?_
    refine p_ic_0 d_Mo_takesItem_69 ?_
    refine p_bi_9 d_Mo_takesItem_70 ?_
    refine q_V d_Mo_takesItem_72 ml_Mo_85 vb_Mo_takesOne kd_53 ⟨leb rfl, leb rfl⟩ (m_takesOne Γ I J l j mt r hl hl2 hat hjl hbg h60 hmt hm16 3 (by omega) 0 9) rfl rfl rfl (fun r S1 IT J1 hQ => ?_)
    obtain ⟨rfl, rfl, hJ, t1, t2, t3⟩ := hQ
    obtain rfl := hJ.symm
    refine p_iret d_Mo_takesItem_75 rfl bI_nar ?_
    have hc : itP (I 58) l j k r mt c = (if bt1 mt 3 = 1 then .inl j else oneP (I 58) l (j + 1) 3 0 9 r mt) := by
      unfold itP
      subst hs103
      rfl
    rw [hc]
    exact ⟨rfl, rfl, rfl, t1, t2, t3⟩
  by_cases hs108 : c = 108
  · refine p_lookup (off := 57) (tgt := 58) d_Mo_takesItem_1 (by decide) (by rw [hs108]; decide) (by decide) ?_
    refine p_aload_n d_Mo_takesItem_58 rfl ?_
    refine p_ic_2 d_Mo_takesItem_59 ?_
    refine p_ic_1 d_Mo_takesItem_60 ?_
    refine p_bi_9 d_Mo_takesItem_61 ?_
    refine q_V d_Mo_takesItem_63 ml_Mo_85 vb_Mo_takesOne kd_53 ⟨leb rfl, leb rfl⟩ (m_takesOne Γ I J l j mt r hl hl2 hat hjl hbg h60 hmt hm16 2 (by omega) 1 9) rfl rfl rfl (fun r S1 IT J1 hQ => ?_)
    obtain ⟨rfl, rfl, hJ, t1, t2, t3⟩ := hQ
    obtain rfl := hJ.symm
    refine p_iret d_Mo_takesItem_66 rfl bI_nar ?_
    have hc : itP (I 58) l j k r mt c = (if bt1 mt 2 = 1 then .inl j else oneP (I 58) l (j + 1) 2 1 9 r mt) := by
      unfold itP
      subst hs108
      rfl
    rw [hc]
    exact ⟨rfl, rfl, rfl, t1, t2, t3⟩
  by_cases hs112 : c = 112
  · refine p_lookup (off := 43) (tgt := 44) d_Mo_takesItem_1 (by decide) (by rw [hs112]; decide) (by decide) ?_
    refine p_aload_n d_Mo_takesItem_44 rfl ?_
    refine q_V d_Mo_takesItem_45 ml_Mo_82 vb_Mo_takesPew kd_53 ⟨leb rfl, leb rfl⟩ (m_takesPew Γ I J l j mt r hl hl2 hat hjl hbg h60 hmt hm16 k hk hk6) rfl rfl rfl (fun r S1 IT J1 hQ => ?_)
    obtain ⟨rfl, rfl, hJ, t1, t2, t3⟩ := hQ
    obtain rfl := hJ.symm
    refine p_iret d_Mo_takesItem_48 rfl bI_nar ?_
    have hc : itP (I 58) l j k r mt c = (if k = 6 then .inl j else pewP (I 58) l (j + 1) k r mt) := by
      unfold itP
      rw [if_pos hs112]
    rw [hc]
    exact ⟨rfl, rfl, rfl, t1, t2, t3⟩
  by_cases hs119 : c = 119
  · refine p_lookup (off := 48) (tgt := 49) d_Mo_takesItem_1 (by decide) (by rw [hs119]; decide) (by decide) ?_
    refine p_aload_n d_Mo_takesItem_49 rfl ?_
    refine p_ic_1 d_Mo_takesItem_50 ?_
    refine p_ic_0 d_Mo_takesItem_51 ?_
    refine p_bi_10 d_Mo_takesItem_52 ?_
    refine q_V d_Mo_takesItem_54 ml_Mo_85 vb_Mo_takesOne kd_53 ⟨leb rfl, leb rfl⟩ (m_takesOne Γ I J l j mt r hl hl2 hat hjl hbg h60 hmt hm16 1 (by omega) 0 10) rfl rfl rfl (fun r S1 IT J1 hQ => ?_)
    obtain ⟨rfl, rfl, hJ, t1, t2, t3⟩ := hQ
    obtain rfl := hJ.symm
    refine p_iret d_Mo_takesItem_57 rfl bI_nar ?_
    have hc : itP (I 58) l j k r mt c = (if bt1 mt 1 = 1 then .inl j else oneP (I 58) l (j + 1) 1 0 10 r mt) := by
      unfold itP
      rw [if_neg hs112, if_pos hs119]
    rw [hc]
    exact ⟨rfl, rfl, rfl, t1, t2, t3⟩
  refine p_lookup (off := 75) (tgt := 76) d_Mo_takesItem_1 (by decide) (by show Op.lookupswitch.offset [(103, 66), (108, 57), (112, 43), (119, 48)] 75 (c).toInt = _; rw [lv_osw hs103 (by decide)]; rw [lv_osw hs108 (by decide)]; rw [lv_osw hs112 (by decide)]; rw [lv_osw hs119 (by decide)]; rfl) (by decide) ?_
  refine p_ic_0 d_Mo_takesItem_76 ?_
  refine p_iret d_Mo_takesItem_77 rfl rfl ?_
  exact prQ_l (by unfold itP; rw [if_neg hs112, if_neg hs119, if_neg hs108, if_neg hs103]) rdF.rf hbg
def clR : Nat → Int32 := fun y => if y = 2 then 4 else if y = 3 then 2 else if y = 36 then (-1) else 0
theorem ar10 {S : Sh} {a c n : Nat} (h : ar S a c n) : ar S a c n := h
def r1S (S : Sh) (r0 : Option Value) (d : Nat) (row : Nat → Int32) (I : MemI) (J : MemJ) : PQ := fun r S' I' J' => r = r0 ∧ S' = S ∧ J' = J ∧ I' d = row ∧ ∀ x, x ≠ d → I' x = I x
theorem m_clean (Γ : Cx) (S : Sh) (I : MemI) (J : MemJ) (tc : Nat) (ht : ar S tc 10 39) : Ct Γ M_Mo_clean [.ref tc] S I J (r1S S none tc clR I J) := by
  have LP : ∀ (f k : Nat) (I1 : MemI), k + f = 39 → (∀ y, y < k → I1 tc y = 0) → (∀ x, x ≠ tc → I1 x = I x) → WP Γ M_Mo_clean (0, 0) S I1 J 2 [.ref tc, .int (nI k)] [] (r1S S none tc clR I J) := by
    intro f
    induction f with
    | zero =>
      intro k I1 hkf hr hx
      obtain rfl : k = 39 := by omega
      refine p_iload_n d_Mo_clean_2 rfl ?_
      refine p_bi_39 d_Mo_clean_3 ?_
      refine p_icmpgeN (tgt := 18) (39) (39) d_Mo_clean_5 (by decide) rfl rfl (by omega) (by omega) (fun h5 => ?_) (fun h5 => ?_)
      · refine p_aload_n d_Mo_clean_18 rfl ?_
        refine p_ic_2 d_Mo_clean_19 ?_
        refine p_ic_4 d_Mo_clean_20 ?_
        refine p_iastN (2) d_Mo_clean_21 ht rfl (by omega) rfl ?_
        refine p_aload_n d_Mo_clean_22 rfl ?_
        refine p_ic_3 d_Mo_clean_23 ?_
        refine p_ic_2 d_Mo_clean_24 ?_
        refine p_iastN (3) d_Mo_clean_25 ht rfl (by omega) rfl ?_
        refine p_aload_n d_Mo_clean_26 rfl ?_
        refine p_bi_36 d_Mo_clean_27 ?_
        refine p_ic_m1 d_Mo_clean_29 ?_
        refine p_iastN (36) d_Mo_clean_30 ht rfl (by omega) rfl ?_
        refine p_row clR ht (fun y hy => ?_) ?_
        · simp only [up2, true_and]
          unfold clR
          by_cases q1 : y = 36
          · subst q1; simp
          · by_cases q2 : y = 3
            · subst q2; simp
            · by_cases q3 : y = 2
              · subst q3; simp
              · simp [q1, q2, q3, hr y hy]
        refine p_ret d_Mo_clean_31 rfl ?_
        refine ⟨rfl, rfl, rfl, by simp, fun x q => ?_⟩
        funext y
        simp [q, up2, hx x q]
      · exact absurd (Nat.le_refl _) h5
    | succ f ih =>
      intro k I1 hkf hr hx
      refine p_iload_n d_Mo_clean_2 rfl ?_
      refine p_bi_39 d_Mo_clean_3 ?_
      refine p_icmpgeN (tgt := 18) (k) (39) d_Mo_clean_5 (by decide) rfl rfl (by omega) (by omega) (fun h5 => ?_) (fun h5 => ?_)
      · exact absurd h5 (by omega)
      · refine p_aload_n d_Mo_clean_8 rfl ?_
        refine p_iload_n d_Mo_clean_9 rfl ?_
        refine p_ic_0 d_Mo_clean_10 ?_
        refine p_iastN (k) d_Mo_clean_11 ht rfl (by omega) rfl ?_
        refine p_incN_1_1 d_Mo_clean_12 (by decide) rfl ?_
        refine p_goto (tgt := 2) d_Mo_clean_15 (by decide) ?_
        refine ih (k + 1) _ (by omega) (fun y hy => ?_) (fun x q => ?_)
        · simp only [up2, true_and]
          by_cases q : y = k
          · rw [if_pos q]
          · rw [if_neg q, hr y (by omega)]
        · funext y
          simp [up2, q, hx x q]
  refine ct_of [.ref tc, .null] (by decide +kernel) rfl (leb rfl) rfl ?_
  refine p_ic_0 d_Mo_clean_0 ?_
  refine p_is_1 d_Mo_clean_1 (by decide) rfl ?_
  exact LP 39 0 I (by omega) (fun y hy => absurd hy (by omega)) (fun x _ => rfl)
