/-! ===== the reference's questions ===== -/
def scQ (r0 : Option Value) (I : MemI) (J : MemJ) : PQ := fun r S' I' J' => r = r0 ∧ S' = S0 ∧ J' = J ∧ ∀ x, x ≠ 61 → x ≠ 62 → x ≠ 63 → I' x = I x
theorem it_low {n : Nat} {t : Nat → Int32} (y : Nat) (h1 : y < 28 ∨ 34 < y ∧ y ≠ 38) : ∀ q, n ≤ 6 → itS n t q y = t y
  | 0, _ => rfl
  | q + 1, hn => by
    show singT n _ y = _
    rw [singT_off (by omega) (by omega) (by omega)]
    exact it_low y h1 q hn
theorem okT_c {n : Nat} {t t' : Nat → Int32} (h : okT n t) (h1 : ∀ k, k < n → t' (10 + k) = t (10 + k) ∧ t' (16 + k) = t (16 + k)) (h2 : t' 34 = t 34) : okT n t' := by
  obtain ⟨a, b, c⟩ := h
  refine ⟨a, fun k hk => ?_, by rw [h2]; exact c⟩
  have e : nrT n t' k = nrT n t k := by unfold nrT; rw [(h1 k hk).2]
  rw [e, (h1 k hk).1]
  exact b k hk
theorem upd_ne {f : Nat → Int32} {k y : Nat} {x : Int32} (h : y ≠ k) : upd f k x y = f y := by simp [upd, h]
theorem upd_s {f : Nat → Int32} {k : Nat} {x : Int32} : upd f k x k = x := by simp [upd]
theorem okT_upd {n : Nat} {t : Nat → Int32} {y : Nat} {v : Int32} (h : okT n t) (hy : y = 1 ∨ 34 < y) : okT n (upd t y v) := by
  have hn := h.1
  refine okT_c h (fun k hk => ⟨upd_ne (by omega), upd_ne (by omega)⟩) (upd_ne (by omega))
theorem m_asNow' (Γ : Cx) (I1 I : MemI) (J : MemJ) (h : I1 54 = I 54) : Ct Γ M_Mo_asNow [.ref 53] S0 I1 J (r1Q none 62 (I 54) I1 J) := h ▸ m_asNow Γ I1 J
theorem nI_m1 : ∀ k, k < 6 → ¬ nI k = -1 := by decide +kernel
theorem nI_m2 : ∀ k, k < 6 → ¬ nI k = -2 := by decide +kernel
theorem isP_m1 : ∀ n, n ≤ 6 → ¬ ((0 : Int32) ≤ -1 ∧ (-1 : Int32) < nI n) := by decide +kernel
theorem isP_m2 : ∀ n, n ≤ 6 → ¬ ((0 : Int32) ≤ -2 ∧ (-2 : Int32) < nI n) := by decide +kernel
theorem i60 : ∀ q, q ≤ 60 → (0 : Int32) ≤ nI q ∧ nI q ≤ 60 := by decide +kernel
theorem i30 : ∀ q, 1 ≤ q → q ≤ 30 → (1 : Int32) ≤ nI q ∧ nI q ≤ 30 := by
  intro q h1 h2
  rw [show (1 : Int32) = nI 1 from rfl, show (30 : Int32) = nI 30 from rfl]
  exact ⟨nI_le h1 (by omega), nI_le h2 (by omega)⟩
theorem m_behind_p (Γ : Cx) (I : MemI) (J : MemJ) (n : Nat) (hn : n ≤ 6) (h0 : I 54 0 = nI n) (hok : okT n (I 54)) (q : Nat) (hq : q ≤ 60) (k : Nat) (hk : k < n) : Ct Γ M_Mo_behind [.ref 53, .int (nI q), .int (nI k)] S0 I J (scQ (some (.int (itS n (I 54) q (28 + k)))) I J) := by
  refine ct_of [.ref 53, .int (nI q), .int (nI k)] (by decide +kernel) rfl (leb rfl) rfl ?_
  refine p_iload_n d_Mo_behind_0 rfl ?_
  refine p_i2l d_Mo_behind_1 ?_
  refine p_lc_0 d_Mo_behind_2 ?_
  refine p_ldc2 d_Mo_behind_3 kl_Mo_146 ?_
  refine q_S1 d_Mo_behind_6 ml_Mo_45 sb_Mo_in ⟨leb rfl, leb rfl⟩ (c_in Γ _ _ _ (nI q) 0 60 (by decide) (by decide)) rfl rfl rfl ?_
  refine p_ifeqB (tgt := 31) d_Mo_behind_9 (by decide) (fun h9 => ?_) (fun h9 => ?_)
  · exact absurd (i60 q hq) h9
  · refine p_aload_n d_Mo_behind_12 rfl ?_
    refine p_iload_n d_Mo_behind_13 rfl ?_
    refine q_V1 d_Mo_behind_14 ml_Mo_102 vb_Mo_isPew kd_53 ⟨leb rfl, leb rfl⟩ (m_isPew Γ I J n (nI k) hn h0) rfl rfl rfl ?_
    refine p_ifneB (tgt := 34) d_Mo_behind_17 (by decide) (fun h17 => ?_) (fun h17 => ?_)
    · refine p_aload_n d_Mo_behind_34 rfl ?_
      refine q_V d_Mo_behind_35 ml_Mo_148 vb_Mo_asNow kd_53 ⟨leb rfl, leb rfl⟩ (m_asNow' Γ I I J (rfl)) rfl rfl rfl (fun r S1 IA J1 hQ => ?_)
      obtain ⟨rfl, rfl, hJ, a1, a2⟩ := hQ
      obtain rfl := hJ.symm
      refine p_aload_n d_Mo_behind_38 rfl ?_
      refine p_iload_n d_Mo_behind_39 rfl ?_
      refine q_V d_Mo_behind_40 ml_Mo_151 vb_Mo_go kd_53 ⟨leb rfl, leb rfl⟩ (m_go Γ _ J n (q) (by omega) (by rw [a1]; exact h0) (by rw [a1]; exact hok)) rfl rfl rfl (fun r S1 IG J1 hQ => ?_)
      obtain ⟨rfl, rfl, hJ, g1, g2⟩ := hQ
      obtain rfl := hJ.symm
      refine p_iload_n d_Mo_behind_43 rfl ?_
      refine p_ic_m1 d_Mo_behind_44 ?_
      refine p_icmpne (tgt := 58) d_Mo_behind_45 (by decide) (fun h45 => ?_) (fun h45 => ?_)
      · refine p_iload_n d_Mo_behind_58 rfl ?_
        refine p_bi_m2 d_Mo_behind_59 ?_
        refine p_icmpne (tgt := 74) d_Mo_behind_61 (by decide) (fun h61 => ?_) (fun h61 => ?_)
        · refine p_aload_n d_Mo_behind_74 rfl ?_
          refine p_getR d_Mo_behind_75 fl_Mo_35 kd_53 rfl rf_53_15 ?_
          refine p_bi_28 d_Mo_behind_78 ?_
          refine p_iload_n d_Mo_behind_80 rfl ?_
          refine p_iaddN (28) (k) d_Mo_behind_81 rfl rfl ?_
          refine p_ialdN (28 + k) d_Mo_behind_82 ar_62 rfl (by omega) rfl ?_
          refine p_iret d_Mo_behind_83 rfl rfl ?_
          exact ⟨by rw [g1, a1], rfl, rfl, fun x q1 q2 q3 => by rw [g2 x q1 q2, a2 x q2]⟩
        · exact absurd h61 (nI_m2 k (by omega))
      · exact absurd h45 (nI_m1 k (by omega))
    · exact absurd (isP_nI hn hk) h17
theorem m_behind_1 (Γ : Cx) (I : MemI) (J : MemJ) (n : Nat) (hn : n ≤ 6) (h0 : I 54 0 = nI n) (hok : okT n (I 54)) (q : Nat) (hq : q ≤ 60) : Ct Γ M_Mo_behind [.ref 53, .int (nI q), .int (-1)] S0 I J (scQ (some (.int (itS n (I 54) q 34))) I J) := by
  refine ct_of [.ref 53, .int (nI q), .int (-1)] (by decide +kernel) rfl (leb rfl) rfl ?_
  refine p_iload_n d_Mo_behind_0 rfl ?_
  refine p_i2l d_Mo_behind_1 ?_
  refine p_lc_0 d_Mo_behind_2 ?_
  refine p_ldc2 d_Mo_behind_3 kl_Mo_146 ?_
  refine q_S1 d_Mo_behind_6 ml_Mo_45 sb_Mo_in ⟨leb rfl, leb rfl⟩ (c_in Γ _ _ _ (nI q) 0 60 (by decide) (by decide)) rfl rfl rfl ?_
  refine p_ifeqB (tgt := 31) d_Mo_behind_9 (by decide) (fun h9 => ?_) (fun h9 => ?_)
  · exact absurd (i60 q hq) h9
  · refine p_aload_n d_Mo_behind_12 rfl ?_
    refine p_iload_n d_Mo_behind_13 rfl ?_
    refine q_V1 d_Mo_behind_14 ml_Mo_102 vb_Mo_isPew kd_53 ⟨leb rfl, leb rfl⟩ (m_isPew Γ I J n (-1) hn h0) rfl rfl rfl ?_
    refine p_ifneB (tgt := 34) d_Mo_behind_17 (by decide) (fun h17 => ?_) (fun h17 => ?_)
    · exact absurd h17 (isP_m1 n hn)
    · refine p_iload_n d_Mo_behind_20 rfl ?_
      refine p_ic_m1 d_Mo_behind_21 ?_
      refine p_icmpeq (tgt := 34) d_Mo_behind_22 (by decide) (fun h22 => ?_) (fun h22 => ?_)
      · refine p_aload_n d_Mo_behind_34 rfl ?_
        refine q_V d_Mo_behind_35 ml_Mo_148 vb_Mo_asNow kd_53 ⟨leb rfl, leb rfl⟩ (m_asNow' Γ I I J (rfl)) rfl rfl rfl (fun r S1 IA J1 hQ => ?_)
        obtain ⟨rfl, rfl, hJ, a1, a2⟩ := hQ
        obtain rfl := hJ.symm
        refine p_aload_n d_Mo_behind_38 rfl ?_
        refine p_iload_n d_Mo_behind_39 rfl ?_
        refine q_V d_Mo_behind_40 ml_Mo_151 vb_Mo_go kd_53 ⟨leb rfl, leb rfl⟩ (m_go Γ _ J n (q) (by omega) (by rw [a1]; exact h0) (by rw [a1]; exact hok)) rfl rfl rfl (fun r S1 IG J1 hQ => ?_)
        obtain ⟨rfl, rfl, hJ, g1, g2⟩ := hQ
        obtain rfl := hJ.symm
        refine p_iload_n d_Mo_behind_43 rfl ?_
        refine p_ic_m1 d_Mo_behind_44 ?_
        refine p_icmpne (tgt := 58) d_Mo_behind_45 (by decide) (fun h45 => ?_) (fun h45 => ?_)
        · exact absurd rfl h45
        · refine p_aload_n d_Mo_behind_48 rfl ?_
          refine p_getR d_Mo_behind_49 fl_Mo_35 kd_53 rfl rf_53_15 ?_
          refine p_bi_34 d_Mo_behind_52 ?_
          refine p_ialdN (34) d_Mo_behind_54 ar_62 rfl (by omega) rfl ?_
          refine p_goto (tgt := 83) d_Mo_behind_55 (by decide) ?_
          refine p_iret d_Mo_behind_83 rfl rfl ?_
          exact ⟨by rw [g1, a1], rfl, rfl, fun x q1 q2 q3 => by rw [g2 x q1 q2, a2 x q2]⟩
      · exact absurd rfl h22
theorem m_behind_2 (Γ : Cx) (I : MemI) (J : MemJ) (n : Nat) (hn : n ≤ 6) (h0 : I 54 0 = nI n) (hok : okT n (I 54)) (q : Nat) (hq : q ≤ 60) : Ct Γ M_Mo_behind [.ref 53, .int (nI q), .int (-2)] S0 I J (scQ (some (.int (apT n (itS n (I 54) q)))) I J) := by
  refine ct_of [.ref 53, .int (nI q), .int (-2)] (by decide +kernel) rfl (leb rfl) rfl ?_
  refine p_iload_n d_Mo_behind_0 rfl ?_
  refine p_i2l d_Mo_behind_1 ?_
  refine p_lc_0 d_Mo_behind_2 ?_
  refine p_ldc2 d_Mo_behind_3 kl_Mo_146 ?_
  refine q_S1 d_Mo_behind_6 ml_Mo_45 sb_Mo_in ⟨leb rfl, leb rfl⟩ (c_in Γ _ _ _ (nI q) 0 60 (by decide) (by decide)) rfl rfl rfl ?_
  refine p_ifeqB (tgt := 31) d_Mo_behind_9 (by decide) (fun h9 => ?_) (fun h9 => ?_)
  · exact absurd (i60 q hq) h9
  · refine p_aload_n d_Mo_behind_12 rfl ?_
    refine p_iload_n d_Mo_behind_13 rfl ?_
    refine q_V1 d_Mo_behind_14 ml_Mo_102 vb_Mo_isPew kd_53 ⟨leb rfl, leb rfl⟩ (m_isPew Γ I J n (-2) hn h0) rfl rfl rfl ?_
    refine p_ifneB (tgt := 34) d_Mo_behind_17 (by decide) (fun h17 => ?_) (fun h17 => ?_)
    · exact absurd h17 (isP_m2 n hn)
    · refine p_iload_n d_Mo_behind_20 rfl ?_
      refine p_ic_m1 d_Mo_behind_21 ?_
      refine p_icmpeq (tgt := 34) d_Mo_behind_22 (by decide) (fun h22 => ?_) (fun h22 => ?_)
      · exact absurd h22 (by decide)
      · refine p_iload_n d_Mo_behind_25 rfl ?_
        refine p_bi_m2 d_Mo_behind_26 ?_
        refine p_icmpeq (tgt := 34) d_Mo_behind_28 (by decide) (fun h28 => ?_) (fun h28 => ?_)
        · refine p_aload_n d_Mo_behind_34 rfl ?_
          refine q_V d_Mo_behind_35 ml_Mo_148 vb_Mo_asNow kd_53 ⟨leb rfl, leb rfl⟩ (m_asNow' Γ I I J (rfl)) rfl rfl rfl (fun r S1 IA J1 hQ => ?_)
          obtain ⟨rfl, rfl, hJ, a1, a2⟩ := hQ
          obtain rfl := hJ.symm
          refine p_aload_n d_Mo_behind_38 rfl ?_
          refine p_iload_n d_Mo_behind_39 rfl ?_
          refine q_V d_Mo_behind_40 ml_Mo_151 vb_Mo_go kd_53 ⟨leb rfl, leb rfl⟩ (m_go Γ _ J n (q) (by omega) (by rw [a1]; exact h0) (by rw [a1]; exact hok)) rfl rfl rfl (fun r S1 IG J1 hQ => ?_)
          obtain ⟨rfl, rfl, hJ, g1, g2⟩ := hQ
          obtain rfl := hJ.symm
          refine p_iload_n d_Mo_behind_43 rfl ?_
          refine p_ic_m1 d_Mo_behind_44 ?_
          refine p_icmpne (tgt := 58) d_Mo_behind_45 (by decide) (fun h45 => ?_) (fun h45 => ?_)
          · refine p_iload_n d_Mo_behind_58 rfl ?_
            refine p_bi_m2 d_Mo_behind_59 ?_
            refine p_icmpne (tgt := 74) d_Mo_behind_61 (by decide) (fun h61 => ?_) (fun h61 => ?_)
            · exact absurd rfl h61
            · refine p_aload_n d_Mo_behind_64 rfl ?_
              refine p_getR d_Mo_behind_65 fl_Mo_35 kd_53 rfl rf_53_15 ?_
              refine q_S1 d_Mo_behind_68 ml_Mo_108 sb_Mo_apart ⟨leb rfl, leb rfl⟩ (m_apart Γ _ J 62 n ar_62 hn (by rw [g1, a1, it_low 0 (by omega) q hn]; exact h0)) rfl rfl rfl ?_
              refine p_goto (tgt := 83) d_Mo_behind_71 (by decide) ?_
              refine p_iret d_Mo_behind_83 rfl rfl ?_
              exact ⟨by rw [g1, a1], rfl, rfl, fun x q1 q2 q3 => by rw [g2 x q1 q2, a2 x q2]⟩
          · exact absurd h45 (by decide)
        · exact absurd rfl h28
theorem m_behind_bad (Γ : Cx) (I : MemI) (J : MemJ) (n : Nat) (hn : n ≤ 6) (h0 : I 54 0 = nI n) (x y : Int32) (hb : ¬ ((0 ≤ x ∧ x ≤ 60) ∧ ((0 ≤ y ∧ y < nI n) ∨ y = -1 ∨ y = -2))) : Ct Γ M_Mo_behind [.ref 53, .int x, .int y] S0 I J (eqQ (some (.int (-1000001))) S0 I J) := by
  refine ct_of [.ref 53, .int x, .int y] (by decide +kernel) rfl (leb rfl) rfl ?_
  refine p_iload_n d_Mo_behind_0 rfl ?_
  refine p_i2l d_Mo_behind_1 ?_
  refine p_lc_0 d_Mo_behind_2 ?_
  refine p_ldc2 d_Mo_behind_3 kl_Mo_146 ?_
  refine q_S1 d_Mo_behind_6 ml_Mo_45 sb_Mo_in ⟨leb rfl, leb rfl⟩ (c_in Γ _ _ _ x 0 60 (by decide) (by decide)) rfl rfl rfl ?_
  refine p_ifeqB (tgt := 31) d_Mo_behind_9 (by decide) (fun h9 => ?_) (fun h9 => ?_)
  · refine p_ldc d_Mo_behind_31 kc_Mo_51 ?_
    refine p_iret d_Mo_behind_33 rfl rfl ?_
    exact ⟨rfl, rfl, rfl, rfl⟩
  · refine p_aload_n d_Mo_behind_12 rfl ?_
    refine p_iload_n d_Mo_behind_13 rfl ?_
    refine q_V1 d_Mo_behind_14 ml_Mo_102 vb_Mo_isPew kd_53 ⟨leb rfl, leb rfl⟩ (m_isPew Γ I J n y hn h0) rfl rfl rfl ?_
    refine p_ifneB (tgt := 34) d_Mo_behind_17 (by decide) (fun h17 => ?_) (fun h17 => ?_)
    · exact absurd ⟨h9, Or.inl h17⟩ hb
    · refine p_iload_n d_Mo_behind_20 rfl ?_
      refine p_ic_m1 d_Mo_behind_21 ?_
      refine p_icmpeq (tgt := 34) d_Mo_behind_22 (by decide) (fun h22 => ?_) (fun h22 => ?_)
      · exact absurd ⟨h9, Or.inr (Or.inl h22)⟩ hb
      · refine p_iload_n d_Mo_behind_25 rfl ?_
        refine p_bi_m2 d_Mo_behind_26 ?_
        refine p_icmpeq (tgt := 34) d_Mo_behind_28 (by decide) (fun h28 => ?_) (fun h28 => ?_)
        · exact absurd ⟨h9, Or.inr (Or.inr h28)⟩ hb
        · refine p_ldc d_Mo_behind_31 kc_Mo_51 ?_
          refine p_iret d_Mo_behind_33 rfl rfl ?_
          exact ⟨rfl, rfl, rfl, rfl⟩
def aslF (n : Nat) (p : Int32) : Nat → (Nat → Int32) → Nat → Int32
  | 0, _, _ => (-1000009)
  | f + 1, t, j => if p ≤ t 34 then nI j else aslF n p f (singT n t) (j + 1)
theorem i60' {k : Nat} : nI 60 < nI k ↔ True ∧ nI 60 < nI k := by simp
theorem m_asleep (Γ : Cx) (I : MemI) (J : MemJ) (n : Nat) (hn : n ≤ 6) (h0 : I 54 0 = nI n) (hok : okT n (I 54)) (p : Int32) (hp : 1 ≤ p ∧ p ≤ 9999) : Ct Γ M_Mo_asleep [.ref 53, .int p] S0 I J (scQ (some (.int (aslF n p 61 (I 54) 0))) I J) := by
  have LP : ∀ (f j : Nat) (I1 : MemI) (t : Nat → Int32), j + f = 61 → I1 62 = t → t 0 = nI n → okT n t → (∀ x, x ≠ 61 → x ≠ 62 → x ≠ 63 → I1 x = I x) → aslF n p 61 (I 54) 0 = aslF n p f t j → WP Γ M_Mo_asleep (0, 0) S0 I1 J 21 [.ref 53, .int p, .int (nI j)] [] (scQ (some (.int (aslF n p 61 (I 54) 0))) I J) := by
    intro f
    induction f with
    | zero =>
      intro j I1 t hjf h62 ht0 hokt hx hF
      obtain rfl : j = 61 := by omega
      refine p_iload_n d_Mo_asleep_21 rfl ?_
      refine p_bi_60 d_Mo_asleep_22 ?_
      refine p_icmpgtN (tgt := 51) (61) (60) d_Mo_asleep_24 (by decide) rfl rfl (by omega) (by omega) (fun h24 => ?_) (fun h24 => ?_)
      · refine p_ldc d_Mo_asleep_51 kc_Mo_107 ?_
        refine p_iret d_Mo_asleep_53 rfl rfl ?_
        exact ⟨by rw [hF]; rfl, rfl, rfl, hx⟩
      · exact absurd (by omega) h24
    | succ f ih =>
      intro j I1 t hjf h62 ht0 hokt hx hF
      refine p_iload_n d_Mo_asleep_21 rfl ?_
      refine p_bi_60 d_Mo_asleep_22 ?_
      refine p_icmpgtN (tgt := 51) (j) (60) d_Mo_asleep_24 (by decide) rfl rfl (by omega) (by omega) (fun h24 => ?_) (fun h24 => ?_)
      · exact absurd h24 (by omega)
      · refine p_aload_n d_Mo_asleep_27 rfl ?_
        refine p_getR d_Mo_asleep_28 fl_Mo_35 kd_53 rfl rf_53_15 ?_
        refine p_bi_34 d_Mo_asleep_31 ?_
        refine p_ialdN (34) d_Mo_asleep_33 ar_62 rfl (by omega) rfl ?_
        refine p_iload_n d_Mo_asleep_34 rfl ?_
        refine p_icmplt (tgt := 40) d_Mo_asleep_35 (by decide) (fun h35 => ?_) (fun h35 => ?_)
        · refine p_aload_n d_Mo_asleep_40 rfl ?_
          refine p_ic_1 d_Mo_asleep_41 ?_
          refine q_V d_Mo_asleep_42 ml_Mo_151 vb_Mo_go kd_53 ⟨leb rfl, leb rfl⟩ (m_go Γ _ J n (1) (by omega) (by rw [h62]; exact ht0) (by rw [h62]; exact hokt)) rfl rfl rfl (fun r S1 IG J1 hQ => ?_)
          obtain ⟨rfl, rfl, hJ, g1, g2⟩ := hQ
          obtain rfl := hJ.symm
          refine p_incN_2_1 d_Mo_asleep_45 (by decide) rfl ?_
          refine p_goto (tgt := 21) d_Mo_asleep_48 (by decide) ?_
          rw [h62] at h35
          refine ih (j + 1) _ (singT n t) (by omega) (by rw [g1, h62]; rfl) (by rw [singT_off (by omega) (by omega) (by omega)]; exact ht0) hokt.sing (fun x q1 q2 q3 => by rw [g2 x q1 q2, hx x q1 q2 q3]) ?_
          rw [hF]
          show (if p ≤ t 34 then nI j else aslF n p f (singT n t) (j + 1)) = _
          rw [if_neg (i32_nle.mpr h35)]
        · refine p_iload_n d_Mo_asleep_38 rfl ?_
          refine p_iret d_Mo_asleep_39 rfl rfl ?_
          refine ⟨?_, rfl, rfl, hx⟩
          rw [hF]
          rw [h62] at h35
          unfold aslF
          rw [if_pos (i32_nlt.mp h35)]
  refine ct_of [.ref 53, .int p, .null] (by decide +kernel) rfl (leb rfl) rfl ?_
  refine p_iload_n d_Mo_asleep_0 rfl ?_
  refine p_i2l d_Mo_asleep_1 ?_
  refine p_lc_1 d_Mo_asleep_2 ?_
  refine p_ldc2 d_Mo_asleep_3 kl_Mo_155 ?_
  refine q_S1 d_Mo_asleep_6 ml_Mo_45 sb_Mo_in ⟨leb rfl, leb rfl⟩ (c_in Γ _ _ _ p 1 9999 (by decide) (by decide)) rfl rfl rfl ?_
  refine p_ifneB (tgt := 15) d_Mo_asleep_9 (by decide) (fun h9 => ?_) (fun h9 => ?_)
  · refine p_aload_n d_Mo_asleep_15 rfl ?_
    refine q_V d_Mo_asleep_16 ml_Mo_148 vb_Mo_asNow kd_53 ⟨leb rfl, leb rfl⟩ (m_asNow' Γ I I J (rfl)) rfl rfl rfl (fun r S1 IA J1 hQ => ?_)
    obtain ⟨rfl, rfl, hJ, a1, a2⟩ := hQ
    obtain rfl := hJ.symm
    refine p_ic_0 d_Mo_asleep_19 ?_
    refine p_is_2 d_Mo_asleep_20 (by decide) rfl ?_
    exact LP 61 0 IA (I 54) (by omega) a1 h0 hok (fun x q1 q2 q3 => a2 x q2) rfl
  · exact absurd hp h9
theorem m_asleep_bad (Γ : Cx) (I : MemI) (J : MemJ) (p : Int32) (hb : ¬ (1 ≤ p ∧ p ≤ 9999)) : Ct Γ M_Mo_asleep [.ref 53, .int p] S0 I J (eqQ (some (.int (-1000001))) S0 I J) := by
  refine ct_of [.ref 53, .int p, .null] (by decide +kernel) rfl (leb rfl) rfl ?_
  refine p_iload_n d_Mo_asleep_0 rfl ?_
  refine p_i2l d_Mo_asleep_1 ?_
  refine p_lc_1 d_Mo_asleep_2 ?_
  refine p_ldc2 d_Mo_asleep_3 kl_Mo_155 ?_
  refine q_S1 d_Mo_asleep_6 ml_Mo_45 sb_Mo_in ⟨leb rfl, leb rfl⟩ (c_in Γ _ _ _ p 1 9999 (by decide) (by decide)) rfl rfl rfl ?_
  refine p_ifneB (tgt := 15) d_Mo_asleep_9 (by decide) (fun h9 => ?_) (fun h9 => ?_)
  · exact absurd h9 hb
  · refine p_ldc d_Mo_asleep_12 kc_Mo_51 ?_
    refine p_iret d_Mo_asleep_14 rfl rfl ?_
    exact ⟨rfl, rfl, rfl, rfl⟩
def rstF (n : Nat) : Nat → (Nat → Int32) → Nat → Int32
  | 0, _, _ => (-1000009)
  | f + 1, t, j => if ∀ k, k < n → t (28 + k) = singT n t (28 + k) then nI j else rstF n f (singT n t) (j + 1)
theorem m_rest (Γ : Cx) (I : MemI) (J : MemJ) (n : Nat) (hn : n ≤ 6) (h0 : I 54 0 = nI n) (hok : okT n (I 54)) : Ct Γ M_Mo_rest [.ref 53] S0 I J (scQ (some (.int (rstF n 61 (I 54) 0))) I J) := by
  have LP : ∀ (f j : Nat) (I1 : MemI) (t : Nat → Int32) (v w : Value), v.category = 1 → w.category = 1 → j + f = 61 → I1 62 = t → t 0 = nI n → okT n t → (∀ x, x ≠ 61 → x ≠ 62 → x ≠ 63 → I1 x = I x) → rstF n 61 (I 54) 0 = rstF n f t j → WP Γ M_Mo_rest (0, 0) S0 I1 J 6 [.ref 53, .int (nI j), v, w] [] (scQ (some (.int (rstF n 61 (I 54) 0))) I J) := by
    intro f
    induction f with
    | zero =>
      intro j I1 t v w hv hw hjf h62 ht0 hokt hx hF
      obtain rfl : j = 61 := by omega
      refine p_iload_n d_Mo_rest_6 rfl ?_
      refine p_bi_60 d_Mo_rest_7 ?_
      refine p_icmpgtN (tgt := 106) (61) (60) d_Mo_rest_9 (by decide) rfl rfl (by omega) (by omega) (fun h9 => ?_) (fun h9 => ?_)
      · refine p_ldc d_Mo_rest_106 kc_Mo_107 ?_
        refine p_iret d_Mo_rest_108 rfl rfl ?_
        exact ⟨by rw [hF]; rfl, rfl, rfl, hx⟩
      · exact absurd (by omega) h9
    | succ f ih =>
      intro j I1 t v w hv hw hjf h62 ht0 hokt hx hF
      have C50 : ∀ (e k : Nat) (b : Int32) (I2 : MemI), k + e = n → I2 62 = singT n t → (∀ i, i < 6 → I2 63 i = t (28 + i)) → (∀ x, x ≠ 61 → x ≠ 62 → x ≠ 63 → I2 x = I x) → b = bI (∀ i, i < k → t (28 + i) = singT n t (28 + i)) → WP Γ M_Mo_rest (0, 0) S0 I2 J 50 [.ref 53, .int (nI j), .int b, .int (nI k)] [] (scQ (some (.int (rstF n 61 (I 54) 0))) I J) := by
        intro e
        induction e with
        | zero =>
          intro k b I2 hke e62 e63 ex eb
          obtain rfl : k = n := by omega
          refine p_iload_n d_Mo_rest_50 rfl ?_
          refine p_aload_n d_Mo_rest_51 rfl ?_
          refine p_getR d_Mo_rest_52 fl_Mo_7 kd_53 rfl rf_53_0 ?_
          refine p_ic_0 d_Mo_rest_55 ?_
          refine p_ialdN (0) d_Mo_rest_56 ar_54 rfl (by omega) rfl ?_
          refine p_eqI (y := nI k) (by rw [ex 54 (by decide) (by decide) (by decide)]; exact h0) ?_
          refine p_icmpgeN (tgt := 94) (k) (k) d_Mo_rest_57 (by decide) rfl rfl (by omega) (by omega) (fun h57 => ?_) (fun h57 => ?_)
          · refine p_iload_n d_Mo_rest_94 rfl ?_
            refine p_ifeq (tgt := 100) d_Mo_rest_95 (by decide) (fun h95 => ?_) (fun h95 => ?_)
            · refine p_incN_1_1 d_Mo_rest_100 (by decide) rfl ?_
              refine p_goto (tgt := 6) d_Mo_rest_103 (by decide) ?_
              refine ih (j + 1) _ (singT k t) _ _ rfl rfl (by omega) e62 (by rw [singT_off (by omega) (by omega) (by omega)]; exact ht0) hokt.sing ex ?_
              rw [hF]
              have g : ¬ (∀ i, i < k → t (28 + i) = singT k t (28 + i)) := by
                intro q
                rw [eb] at h95
                unfold bI at h95
                have q2 : ∀ i, i < k → t (28 + i) = singT k t (28 + i) := q
                rw [if_pos q2] at h95
                exact absurd h95 (by decide)
              show (if ∀ i, i < k → t (28 + i) = singT k t (28 + i) then nI j else rstF k f (singT k t) (j + 1)) = _
              rw [if_neg g]
            · refine p_iload_n d_Mo_rest_98 rfl ?_
              refine p_iret d_Mo_rest_99 rfl rfl ?_
              refine ⟨?_, rfl, rfl, ex⟩
              rw [hF]
              have g : (∀ i, i < k → t (28 + i) = singT k t (28 + i)) := by
                rcases Classical.em (∀ i, i < k → t (28 + i) = singT k t (28 + i)) with q | q
                · exact q
                · exact absurd (by rw [eb]; unfold bI; rw [if_neg q]) h95
              unfold rstF
              rw [if_pos g]
          · exact absurd (Nat.le_refl _) h57
        | succ e ihe =>
          intro k b I2 hke e62 e63 ex eb
          have J87 : ∀ b2 : Int32, b2 = bI (∀ i, i < k + 1 → t (28 + i) = singT n t (28 + i)) → WP Γ M_Mo_rest (0, 0) S0 I2 J 87 [.ref 53, .int (nI j), .int b, .int (nI k)] [.int b2] (scQ (some (.int (rstF n 61 (I 54) 0))) I J) := by
            intro b2 eb2
            refine p_is_2 d_Mo_rest_87 (by decide) rfl ?_
            refine p_incN_3_1 d_Mo_rest_88 (by decide) rfl ?_
            refine p_goto (tgt := 50) d_Mo_rest_91 (by decide) ?_
            exact ihe (k + 1) b2 I2 (by omega) e62 e63 ex eb2
          have K1 : b = 0 → ¬ (∀ i, i < k + 1 → t (28 + i) = singT n t (28 + i)) := by
            intro h q
            rw [eb, bI_t (fun i hi => q i (by omega))] at h
            exact absurd h (by decide)
          have K2 : ¬ t (28 + k) = singT n t (28 + k) → ¬ (∀ i, i < k + 1 → t (28 + i) = singT n t (28 + i)) := fun h q => h (q k (by omega))
          have K3 : ¬ b = 0 → t (28 + k) = singT n t (28 + k) → ∀ i, i < k + 1 → t (28 + i) = singT n t (28 + i) := by
            intro h h2 i hi
            rcases Classical.em (∀ i, i < k → t (28 + i) = singT n t (28 + i)) with z | z
            · rcases Nat.lt_or_ge i k with q | q
              · exact z i q
              · rw [show i = k by omega]
                exact h2
            · exact absurd (by rw [eb, bI_f z]) h
          refine p_iload_n d_Mo_rest_50 rfl ?_
          refine p_aload_n d_Mo_rest_51 rfl ?_
          refine p_getR d_Mo_rest_52 fl_Mo_7 kd_53 rfl rf_53_0 ?_
          refine p_ic_0 d_Mo_rest_55 ?_
          refine p_ialdN (0) d_Mo_rest_56 ar_54 rfl (by omega) rfl ?_
          refine p_eqI (y := nI n) (by rw [ex 54 (by decide) (by decide) (by decide)]; exact h0) ?_
          refine p_icmpgeN (tgt := 94) (k) (n) d_Mo_rest_57 (by decide) rfl rfl (by omega) (by omega) (fun h57 => ?_) (fun h57 => ?_)
          · exact absurd h57 (by omega)
          · refine p_iload_n d_Mo_rest_60 rfl ?_
            refine p_ifeq (tgt := 86) d_Mo_rest_61 (by decide) (fun h61 => ?_) (fun h61 => ?_)
            · refine p_ic_0 d_Mo_rest_86 ?_
              first | exact J87 _ (bI_f (K1 h61)).symm | (rw [e63 k (by omega), e62] at h79; exact J87 _ (bI_f (K2 h79)).symm) | (rw [e63 k (by omega), e62] at h79; exact J87 _ (bI_t (K3 h61 h79)).symm)
            · refine p_aload_n d_Mo_rest_64 rfl ?_
              refine p_getR d_Mo_rest_65 fl_Mo_38 kd_53 rfl rf_53_16 ?_
              refine p_iload_n d_Mo_rest_68 rfl ?_
              refine p_ialdN (k) d_Mo_rest_69 ar_63 rfl (by omega) rfl ?_
              refine p_aload_n d_Mo_rest_70 rfl ?_
              refine p_getR d_Mo_rest_71 fl_Mo_35 kd_53 rfl rf_53_15 ?_
              refine p_bi_28 d_Mo_rest_74 ?_
              refine p_iload_n d_Mo_rest_76 rfl ?_
              refine p_iaddN (28) (k) d_Mo_rest_77 rfl rfl ?_
              refine p_ialdN (28 + k) d_Mo_rest_78 ar_62 rfl (by omega) rfl ?_
              refine p_icmpne (tgt := 86) d_Mo_rest_79 (by decide) (fun h79 => ?_) (fun h79 => ?_)
              · refine p_ic_0 d_Mo_rest_86 ?_
                first | exact J87 _ (bI_f (K1 h61)).symm | (rw [e63 k (by omega), e62] at h79; exact J87 _ (bI_f (K2 h79)).symm) | (rw [e63 k (by omega), e62] at h79; exact J87 _ (bI_t (K3 h61 h79)).symm)
              · refine p_ic_1 d_Mo_rest_82 ?_
                refine p_goto (tgt := 87) d_Mo_rest_83 (by decide) ?_
                first | exact J87 _ (bI_f (K1 h61)).symm | (rw [e63 k (by omega), e62] at h79; exact J87 _ (bI_f (K2 h79)).symm) | (rw [e63 k (by omega), e62] at h79; exact J87 _ (bI_t (K3 h61 h79)).symm)
      have C14 : ∀ (e k : Nat) (I2 : MemI), k + e = 6 → I2 62 = t → (∀ i, i < k → I2 63 i = t (28 + i)) → (∀ x, x ≠ 61 → x ≠ 62 → x ≠ 63 → I2 x = I x) → WP Γ M_Mo_rest (0, 0) S0 I2 J 14 [.ref 53, .int (nI j), .int (nI k), w] [] (scQ (some (.int (rstF n 61 (I 54) 0))) I J) := by
        intro e
        induction e with
        | zero =>
          intro k I2 hke e62 e63 ex
          obtain rfl : k = 6 := by omega
          refine p_iload_n d_Mo_rest_14 rfl ?_
          refine p_bi_6 d_Mo_rest_15 ?_
          refine p_icmpgeN (tgt := 41) (6) (6) d_Mo_rest_17 (by decide) rfl rfl (by omega) (by omega) (fun h17 => ?_) (fun h17 => ?_)
          · refine p_aload_n d_Mo_rest_41 rfl ?_
            refine p_ic_1 d_Mo_rest_42 ?_
            refine q_V d_Mo_rest_43 ml_Mo_151 vb_Mo_go kd_53 ⟨leb rfl, leb rfl⟩ (m_go Γ _ J n (1) (by omega) (by rw [e62]; exact ht0) (by rw [e62]; exact hokt)) rfl rfl rfl (fun r S1 IG J1 hQ => ?_)
            obtain ⟨rfl, rfl, hJ, g1, g2⟩ := hQ
            obtain rfl := hJ.symm
            refine p_ic_1 d_Mo_rest_46 ?_
            refine p_is_2 d_Mo_rest_47 (by decide) rfl ?_
            refine p_ic_0 d_Mo_rest_48 ?_
            refine p_is_3 d_Mo_rest_49 (by decide) rfl ?_
            exact C50 n 0 1 IG (by omega) (by rw [g1, e62]; rfl) (fun i hi => by rw [g2 63 (by decide) (by decide)]; exact e63 i hi) (fun x q1 q2 q3 => by rw [g2 x q1 q2, ex x q1 q2 q3]) (by unfold bI; rw [if_pos (fun i hi => absurd hi (by omega))])
          · exact absurd (Nat.le_refl _) h17
        | succ e ihe =>
          intro k I2 hke e62 e63 ex
          refine p_iload_n d_Mo_rest_14 rfl ?_
          refine p_bi_6 d_Mo_rest_15 ?_
          refine p_icmpgeN (tgt := 41) (k) (6) d_Mo_rest_17 (by decide) rfl rfl (by omega) (by omega) (fun h17 => ?_) (fun h17 => ?_)
          · exact absurd h17 (by omega)
          · refine p_aload_n d_Mo_rest_20 rfl ?_
            refine p_getR d_Mo_rest_21 fl_Mo_38 kd_53 rfl rf_53_16 ?_
            refine p_iload_n d_Mo_rest_24 rfl ?_
            refine p_aload_n d_Mo_rest_25 rfl ?_
            refine p_getR d_Mo_rest_26 fl_Mo_35 kd_53 rfl rf_53_15 ?_
            refine p_bi_28 d_Mo_rest_29 ?_
            refine p_iload_n d_Mo_rest_31 rfl ?_
            refine p_iaddN (28) (k) d_Mo_rest_32 rfl rfl ?_
            refine p_ialdN (28 + k) d_Mo_rest_33 ar_62 rfl (by omega) rfl ?_
            refine p_iastN (k) d_Mo_rest_34 ar_63 rfl (by omega) rfl ?_
            refine p_incN_2_1 d_Mo_rest_35 (by decide) rfl ?_
            refine p_goto (tgt := 14) d_Mo_rest_38 (by decide) ?_
            refine ihe (k + 1) _ (by omega) (by funext y; simp only [up2]; rw [if_neg (by omega), e62]) (fun i hi => ?_) (fun x q1 q2 q3 => ?_)
            · simp only [up2, true_and]
              by_cases q : i = k
              · subst q
                rw [if_pos rfl, e62]
              · rw [if_neg q, e63 i (by omega)]
            · funext y
              simp only [up2]
              rw [if_neg (fun z => q3 z.1), ex x q1 q2 q3]
      refine p_iload_n d_Mo_rest_6 rfl ?_
      refine p_bi_60 d_Mo_rest_7 ?_
      refine p_icmpgtN (tgt := 106) (j) (60) d_Mo_rest_9 (by decide) rfl rfl (by omega) (by omega) (fun h9 => ?_) (fun h9 => ?_)
      · exact absurd h9 (by omega)
      · refine p_ic_0 d_Mo_rest_12 ?_
        refine p_is_2 d_Mo_rest_13 (by decide) rfl ?_
        exact C14 6 0 I1 (by omega) h62 (fun i hi => absurd hi (by omega)) hx
  refine ct_of [.ref 53, .null, .null, .null] (by decide +kernel) rfl (leb rfl) rfl ?_
  refine p_aload_n d_Mo_rest_0 rfl ?_
  refine q_V d_Mo_rest_1 ml_Mo_148 vb_Mo_asNow kd_53 ⟨leb rfl, leb rfl⟩ (m_asNow' Γ I I J (rfl)) rfl rfl rfl (fun r S1 IA J1 hQ => ?_)
  obtain ⟨rfl, rfl, hJ, a1, a2⟩ := hQ
  obtain rfl := hJ.symm
  refine p_ic_0 d_Mo_rest_4 ?_
  refine p_is_1 d_Mo_rest_5 (by decide) rfl ?_
  exact LP 61 0 IA (I 54) _ _ rfl rfl (by omega) a1 h0 hok (fun x q1 q2 q3 => a2 x q2) rfl
