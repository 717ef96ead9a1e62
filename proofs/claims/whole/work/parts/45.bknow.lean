/-! ===== the class's own calls: knowers ===== -/
def kok (n q : Nat) (t : Nat → Int32) (kn : Nat) (d : Int32) (sz b : Nat) : Bool := decide (pop b = sz) && (decide ((b &&& kn) = 0) && decide (apT n (itS n (upd t 37 (nI (kn ||| b))) q) ≤ d))
theorem kok_iff {n q : Nat} {t : Nat → Int32} {kn : Nat} {d : Int32} {sz b : Nat} : kok n q t kn d sz b = true ↔ (pop b = sz ∧ (b &&& kn) = 0 ∧ apT n (itS n (upd t 37 (nI (kn ||| b))) q) ≤ d) := by
  unfold kok
  simp
def ksF (n q : Nat) (t : Nat → Int32) (kn : Nat) (d : Int32) (sz : Nat) : Nat → Nat → Option Nat
  | 0, _ => none
  | f + 1, b => if kok n q t kn d sz b = true then some b else ksF n q t kn d sz f (b + 1)
def kzF (n q : Nat) (t : Nat → Int32) (kn : Nat) (d : Int32) : Nat → Nat → Option Nat
  | 0, _ => none
  | f + 1, s => if (ksF n q t kn d s (2 ^ n) 0).isSome = true then ksF n q t kn d s (2 ^ n) 0 else kzF n q t kn d f (s + 1)
theorem b_ofSize (Γ : Cx) (I : MemI) (J : MemJ) (n : Nat) (t : Nat → Int32) (V : Vw I n t) (hok : okT n t) (q : Nat) (hq : q ≤ 30) (kn : Nat) (hkn : t 37 = nI kn) (hk64 : kn < 64) (d : Int32) (sz : Nat) (hsz : sz ≤ 6) : Ct Γ M_Bo_knowersOfSize [.ref 1, .int (nI sz), .int (nI q), .int d] S0 I J (bsQ (some (.int (bst (ksF n q t kn d sz (2 ^ n) 0)))) I J) := by
  have hn := V.1
  obtain ⟨sh1, sh2⟩ := shl1 n hn
  have LP : ∀ (f b : Nat) (I1 : MemI), b + f = 2 ^ n → scF I I1 → ksF n q t kn d sz (2 ^ n) 0 = ksF n q t kn d sz f b → WP Γ M_Bo_knowersOfSize (0, 0) S0 I1 J 14 [.ref 1, .int (nI sz), .int (nI q), .int d, .int (nI (2 ^ n)), .int (nI b)] [] (bsQ (some (.int (bst (ksF n q t kn d sz (2 ^ n) 0)))) I J) := by
    intro f
    induction f with
    | zero =>
      intro b I1 hbf hF0 hF
      refine p_iload d_Bo_knowersOfSize_14 rfl ?_
      refine p_iload d_Bo_knowersOfSize_16 rfl ?_
      refine p_icmpgeN (tgt := 110) (b) ((2 ^ n)) d_Bo_knowersOfSize_18 (by decide) rfl rfl (by omega) (by omega) (fun h18 => ?_) (fun h18 => ?_)
      · refine p_ldc d_Bo_knowersOfSize_110 kc_Bo_174 ?_
        refine p_iret d_Bo_knowersOfSize_112 rfl rfl ?_
        exact ⟨by rw [hF]; rfl, rfl, rfl, hF0⟩
      · exact absurd (by omega) h18
    | succ f ih =>
      intro b I1 hbf hF0 hF
      have V1 := V.sc hF0
      have b64 : b < 64 := by omega
      have hpl := pop_le b b64
      have NX : ∀ I2 : MemI, scF I I2 → ¬ kok n q t kn d sz b = true → WP Γ M_Bo_knowersOfSize (0, 0) S0 I2 J 104 [.ref 1, .int (nI sz), .int (nI q), .int d, .int (nI (2 ^ n)), .int (nI b)] [] (bsQ (some (.int (bst (ksF n q t kn d sz (2 ^ n) 0)))) I J) := by
        intro I2 hF2 hN
        refine p_incN_5_1 d_Bo_knowersOfSize_104 (by decide) rfl ?_
        refine p_goto (tgt := 14) d_Bo_knowersOfSize_107 (by decide) ?_
        refine ih (b + 1) I2 (by omega) hF2 ?_
        rw [hF]
        show (if kok n q t kn d sz b = true then some b else ksF n q t kn d sz f (b + 1)) = _
        rw [if_neg hN]
      refine p_iload d_Bo_knowersOfSize_14 rfl ?_
      refine p_iload d_Bo_knowersOfSize_16 rfl ?_
      refine p_icmpgeN (tgt := 110) (b) ((2 ^ n)) d_Bo_knowersOfSize_18 (by decide) rfl rfl (by omega) (by omega) (fun h18 => ?_) (fun h18 => ?_)
      · exact absurd h18 (by omega)
      · refine p_iload d_Bo_knowersOfSize_21 rfl ?_
        refine q_S1 d_Bo_knowersOfSize_23 ml_Bo_178 sb_In_bitCount ⟨leb rfl, leb rfl⟩ (c_bitCount Γ S0 _ J b b64) rfl rfl rfl ?_
        refine p_iload_n d_Bo_knowersOfSize_26 rfl ?_
        refine p_icmpneN (tgt := 104) ((pop b)) (sz) d_Bo_knowersOfSize_27 (by decide) rfl rfl (by omega) (by omega) (fun h27 => ?_) (fun h27 => ?_)
        · first
            | exact NX _ hF1 (fun z => i32_nle.mpr h98 (kok_iff.mp z).2.2)
            | exact NX _ hF0 (fun z => h40 (by rw [(kok_iff.mp z).2.1]; rfl))
            | exact NX _ hF0 (fun z => h27 (kok_iff.mp z).1)
        · refine p_iload d_Bo_knowersOfSize_30 rfl ?_
          refine p_aload_n d_Bo_knowersOfSize_32 rfl ?_
          refine p_getR d_Bo_knowersOfSize_33 fl_Bo_29 kd_1 rfl rf_1_3 ?_
          refine p_getI d_Bo_knowersOfSize_36 fl_Bo_175 kd_16 (Or.inl rfl) ?_
          refine p_eqI (y := nI kn) (by rw [← hkn]; exact V1.2.2.2.1.2.2.2.1) ?_
          refine p_iand d_Bo_knowersOfSize_39 ?_
          refine p_eqI (y := nI (b &&& kn)) ((and64 b b64 kn hk64).1) ?_
          refine p_ifeq (tgt := 46) d_Bo_knowersOfSize_40 (by decide) (fun h40 => ?_) (fun h40 => ?_)
          · have a0 : (b &&& kn) = 0 := (nI_eq (a := b &&& kn) (b := 0) (Nat.lt_trans (and64 b b64 kn hk64).2 (by omega)) (by omega)).mp h40
            refine p_aload_n d_Bo_knowersOfSize_46 rfl ?_
            refine p_getR d_Bo_knowersOfSize_47 fl_Bo_33 kd_1 rfl rf_1_4 ?_
            refine p_aload_n d_Bo_knowersOfSize_50 rfl ?_
            refine p_getR d_Bo_knowersOfSize_51 fl_Bo_29 kd_1 rfl rf_1_3 ?_
            refine q_V d_Bo_knowersOfSize_54 ml_Bo_186 vb_Si_copyFrom kd_18 ⟨leb rfl, leb rfl⟩ (c_copy Γ I1 J 18 16 si_18 si_16 (by omega)) rfl rfl rfl (fun r S1 IT J1 hQ => ?_)
            obtain ⟨rfl, rfl, hJ, q1, q2, q3⟩ := hQ
            obtain rfl := hJ.symm
            have cS : SgR IT 18 n t := SgR_cp V1.2.2.2.1 hn q1 q2
            have cF : scF I1 IT := fun z a b c => q3 z (by omega) (by omega)
            have V2 : Vw IT n t := V1.sc cF
            refine p_aload_n d_Bo_knowersOfSize_57 rfl ?_
            refine p_getR d_Bo_knowersOfSize_58 fl_Bo_33 kd_1 rfl rf_1_4 ?_
            refine p_dup d_Bo_knowersOfSize_61 rfl ?_
            refine p_getI d_Bo_knowersOfSize_62 fl_Bo_175 kd_18 (Or.inl rfl) ?_
            refine p_eqI (y := nI kn) (by rw [← hkn]; exact cS.2.2.2.1) ?_
            refine p_iload d_Bo_knowersOfSize_65 rfl ?_
            refine p_ior d_Bo_knowersOfSize_67 ?_
            refine p_eqI (y := nI (kn ||| b)) ((or64 kn hk64 b b64).1) ?_
            refine p_putI d_Bo_knowersOfSize_68 fl_Bo_175 kd_18 rfl nf_3_3 ?_
            refine p_aload_n d_Bo_knowersOfSize_71 rfl ?_
            refine p_getR d_Bo_knowersOfSize_72 fl_Bo_19 kd_1 rfl rf_1_1 ?_
            refine p_aload_n d_Bo_knowersOfSize_75 rfl ?_
            refine p_getR d_Bo_knowersOfSize_76 fl_Bo_33 kd_1 rfl rf_1_4 ?_
            refine p_iload_n d_Bo_knowersOfSize_79 rfl ?_
            refine q_V d_Bo_knowersOfSize_80 ml_Bo_163 vb_Ch_singLines kd_4 ⟨leb rfl, leb rfl⟩ (c_singLines Γ (up2 IT 18 3 (nI (kn ||| b))) J 4 18 n q (upd t 37 (nI (kn ||| b))) ch_4 si_18 (by omega) (by omega) (V2.2.2.1.up hn (by omega)) (cS.set hn (Or.inr (Or.inr ⟨rfl, rfl, rfl⟩))) (okT_upd hok (by omega))) rfl rfl rfl (fun r S1 IS J1 hQ => ?_)
            obtain ⟨rfl, rfl, hJ, l1, l2, l3, l4, l5⟩ := hQ
            obtain rfl := hJ.symm
            have sF : scF (up2 IT 18 3 (nI (kn ||| b))) IS := fun z a b c => l5 z (by omega) (by omega) (by omega)
            have hF1 : scF I IS := ((hF0.tr cF).tr scF.up).tr sF
            refine p_aload_n d_Bo_knowersOfSize_83 rfl ?_
            refine p_getR d_Bo_knowersOfSize_84 fl_Bo_33 kd_1 rfl rf_1_4 ?_
            refine p_aload_n d_Bo_knowersOfSize_87 rfl ?_
            refine p_getR d_Bo_knowersOfSize_88 fl_Bo_19 kd_1 rfl rf_1_1 ?_
            refine p_getI d_Bo_knowersOfSize_91 fl_Bo_146 kd_4 (Or.inl rfl) ?_
            refine p_eqI (y := nI n) ((V.sc hF1).2.2.1.1) ?_
            refine q_V1 d_Bo_knowersOfSize_94 ml_Bo_149 vb_Si_apart kd_18 ⟨leb rfl, leb rfl⟩ (c_apart Γ IS J 18 n si_18 hn) rfl rfl rfl ?_
            rw [ap_k l1]
            refine p_iload_n d_Bo_knowersOfSize_97 rfl ?_
            refine p_icmpgt (tgt := 104) d_Bo_knowersOfSize_98 (by decide) (fun h98 => ?_) (fun h98 => ?_)
            · first
                | exact NX _ hF1 (fun z => i32_nle.mpr h98 (kok_iff.mp z).2.2)
                | exact NX _ hF0 (fun z => h40 (by rw [(kok_iff.mp z).2.1]; rfl))
                | exact NX _ hF0 (fun z => h27 (kok_iff.mp z).1)
            · refine p_iload d_Bo_knowersOfSize_101 rfl ?_
              refine p_iret d_Bo_knowersOfSize_103 rfl rfl ?_
              refine ⟨?_, rfl, rfl, hF1⟩
              rw [hF]
              have hk : kok n q t kn d sz b = true := kok_iff.mpr ⟨by omega, a0, i32_nlt.mp h98⟩
              unfold ksF
              rw [if_pos hk]
              rfl
          · refine p_goto (tgt := 104) d_Bo_knowersOfSize_43 (by decide) ?_
            first
              | exact NX _ hF1 (fun z => i32_nle.mpr h98 (kok_iff.mp z).2.2)
              | exact NX _ hF0 (fun z => h40 (by rw [(kok_iff.mp z).2.1]; rfl))
              | exact NX _ hF0 (fun z => h27 (kok_iff.mp z).1)
  refine ct_of [.ref 1, .int (nI sz), .int (nI q), .int d, .null, .null] (by decide +kernel) rfl (leb rfl) rfl ?_
  refine p_ic_1 d_Bo_knowersOfSize_0 ?_
  refine p_aload_n d_Bo_knowersOfSize_1 rfl ?_
  refine p_getR d_Bo_knowersOfSize_2 fl_Bo_19 kd_1 rfl rf_1_1 ?_
  refine p_getI d_Bo_knowersOfSize_5 fl_Bo_146 kd_4 (Or.inl rfl) ?_
  refine p_eqI (y := nI n) (V.2.2.1.1) ?_
  refine p_ishl d_Bo_knowersOfSize_8 ?_
  refine p_eqI (y := nI (2 ^ n)) sh1 ?_
  refine p_is_4 d_Bo_knowersOfSize_9 (by decide) rfl ?_
  refine p_ic_0 d_Bo_knowersOfSize_11 ?_
  refine p_is_5 d_Bo_knowersOfSize_12 (by decide) rfl ?_
  exact LP (2 ^ n) 0 I (by omega) scF.rf rfl
theorem b_knowers_bad (Γ : Cx) (I : MemI) (J : MemJ) (x d : Int32) (hb : ¬ ((1 ≤ x ∧ x ≤ 30) ∧ (0 ≤ d ∧ d ≤ 99))) : Ct Γ M_Bo_knowers [.ref 1, .int x, .int d] S0 I J (eqQ (some (.int (-1000001))) S0 I J) := by
  refine ct_of [.ref 1, .int x, .int d, .null, .null] (by decide +kernel) rfl (leb rfl) rfl ?_
  refine p_iload_n d_Bo_knowers_0 rfl ?_
  refine p_ic_1 d_Bo_knowers_1 ?_
  refine p_bi_30 d_Bo_knowers_2 ?_
  refine q_S1 d_Bo_knowers_4 ml_Bo_64 sb_Bo_within ⟨leb rfl, leb rfl⟩ (c_within Γ S0 _ _ x 1 30) rfl rfl rfl ?_
  refine p_ifeqB (tgt := 20) d_Bo_knowers_7 (by decide) (fun h7 => ?_) (fun h7 => ?_)
  · refine p_ldc d_Bo_knowers_20 kc_Bo_68 ?_
    refine p_iret d_Bo_knowers_22 rfl rfl ?_
    exact ⟨rfl, rfl, rfl, rfl⟩
  · refine p_iload_n d_Bo_knowers_10 rfl ?_
    refine p_ic_0 d_Bo_knowers_11 ?_
    refine p_bi_99 d_Bo_knowers_12 ?_
    refine q_S1 d_Bo_knowers_14 ml_Bo_64 sb_Bo_within ⟨leb rfl, leb rfl⟩ (c_within Γ S0 _ _ d 0 99) rfl rfl rfl ?_
    refine p_ifneB (tgt := 23) d_Bo_knowers_17 (by decide) (fun h17 => ?_) (fun h17 => ?_)
    · exact absurd ⟨h7, h17⟩ hb
    · refine p_ldc d_Bo_knowers_20 kc_Bo_68 ?_
      refine p_iret d_Bo_knowers_22 rfl rfl ?_
      exact ⟨rfl, rfl, rfl, rfl⟩
theorem ksF_lt {n q : Nat} {t : Nat → Int32} {kn : Nat} {d : Int32} {sz : Nat} : ∀ (f b c : Nat), ksF n q t kn d sz f b = some c → c < b + f
  | 0, _, _, h => by cases h
  | f + 1, b, c, h => by
    have h' : (if kok n q t kn d sz b = true then some b else ksF n q t kn d sz f (b + 1)) = some c := h
    by_cases q1 : kok n q t kn d sz b = true
    · rw [if_pos q1] at h'
      cases h'
      omega
    · rw [if_neg q1] at h'
      have := ksF_lt f (b + 1) c h'
      omega
theorem b_knowers (Γ : Cx) (I : MemI) (J : MemJ) (n : Nat) (t : Nat → Int32) (V : Vw I n t) (hok : okT n t) (q : Nat) (hq : q ≤ 30) (kn : Nat) (hkn : t 37 = nI kn) (hk64 : kn < 64) (d : Int32) (hq1 : 1 ≤ q) (hd : 0 ≤ d ∧ d ≤ 99) : Ct Γ M_Bo_knowers [.ref 1, .int (nI q), .int d] S0 I J (bsQ (some (.int (bst (kzF n q t kn d (n + 1) 0)))) I J) := by
  have hn := V.1
  obtain ⟨sh1, sh2⟩ := shl1 n hn
  have LP : ∀ (f s : Nat) (v : Value) (I1 : MemI), v.category = 1 → s + f = n + 1 → scF I I1 → kzF n q t kn d (n + 1) 0 = kzF n q t kn d f s → WP Γ M_Bo_knowers (0, 0) S0 I1 J 25 [.ref 1, .int (nI q), .int d, .int (nI s), v] [] (bsQ (some (.int (bst (kzF n q t kn d (n + 1) 0)))) I J) := by
    intro f
    induction f with
    | zero =>
      intro s v I1 hv hsf hF0 hF
      have V1 := V.sc hF0
      refine p_iload_n d_Bo_knowers_25 rfl ?_
      refine p_aload_n d_Bo_knowers_26 rfl ?_
      refine p_getR d_Bo_knowers_27 fl_Bo_19 kd_1 rfl rf_1_1 ?_
      refine p_getI d_Bo_knowers_30 fl_Bo_146 kd_4 (Or.inl rfl) ?_
      refine p_eqI (y := nI n) (V1.2.2.1.1) ?_
      refine p_icmpgtN (tgt := 61) (s) (n) d_Bo_knowers_33 (by decide) rfl rfl (by omega) (by omega) (fun h33 => ?_) (fun h33 => ?_)
      · refine p_ldc d_Bo_knowers_61 kc_Bo_174 ?_
        refine p_iret d_Bo_knowers_63 rfl rfl ?_
        exact ⟨by rw [hF]; rfl, rfl, rfl, hF0⟩
      · exact absurd (by omega) h33
    | succ f ih =>
      intro s v I1 hv hsf hF0 hF
      have V1 := V.sc hF0
      refine p_iload_n d_Bo_knowers_25 rfl ?_
      refine p_aload_n d_Bo_knowers_26 rfl ?_
      refine p_getR d_Bo_knowers_27 fl_Bo_19 kd_1 rfl rf_1_1 ?_
      refine p_getI d_Bo_knowers_30 fl_Bo_146 kd_4 (Or.inl rfl) ?_
      refine p_eqI (y := nI n) (V1.2.2.1.1) ?_
      refine p_icmpgtN (tgt := 61) (s) (n) d_Bo_knowers_33 (by decide) rfl rfl (by omega) (by omega) (fun h33 => ?_) (fun h33 => ?_)
      · exact absurd h33 (by omega)
      · refine p_aload_n d_Bo_knowers_36 rfl ?_
        refine p_iload_n d_Bo_knowers_37 rfl ?_
        refine p_iload_n d_Bo_knowers_38 rfl ?_
        refine p_iload_n d_Bo_knowers_39 rfl ?_
        refine q_V d_Bo_knowers_40 ml_Bo_199 vb_Bo_knowersOfSize kd_1 ⟨leb rfl, leb rfl⟩ (b_ofSize Γ I1 J n t V1 hok q hq kn hkn hk64 d s (by omega)) rfl rfl rfl (fun r S1 IS J1 hQ => ?_)
        obtain ⟨rfl, rfl, hJ, sF⟩ := hQ
        obtain rfl := hJ.symm
        refine p_is_4 d_Bo_knowers_43 (by decide) rfl ?_
        refine p_iload d_Bo_knowers_45 rfl ?_
        refine p_ldc d_Bo_knowers_47 kc_Bo_174 ?_
        refine p_icmpeq (tgt := 55) d_Bo_knowers_49 (by decide) (fun h49 => ?_) (fun h49 => ?_)
        · have hbs : (ksF n q t kn d s (2 ^ n) 0).isSome = true ↔ ¬ bst (ksF n q t kn d s (2 ^ n) 0) = -1000009 := by
            cases hc : ksF n q t kn d s (2 ^ n) 0 with
            | none => exact ⟨fun z => (by cases z), fun z => absurd rfl z⟩
            | some c =>
              have := ksF_lt _ _ _ hc
              exact ⟨fun _ => nI_ne_NONE (by omega), fun _ => rfl⟩
          refine p_incN_3_1 d_Bo_knowers_55 (by decide) rfl ?_
          refine p_goto (tgt := 25) d_Bo_knowers_58 (by decide) ?_
          refine ih (s + 1) _ IS rfl (by omega) (hF0.tr sF) ?_
          rw [hF]
          show (if (ksF n q t kn d s (2 ^ n) 0).isSome = true then ksF n q t kn d s (2 ^ n) 0 else kzF n q t kn d f (s + 1)) = _
          rw [if_neg (fun z => hbs.mp z h49)]
        · have hbs : (ksF n q t kn d s (2 ^ n) 0).isSome = true ↔ ¬ bst (ksF n q t kn d s (2 ^ n) 0) = -1000009 := by
            cases hc : ksF n q t kn d s (2 ^ n) 0 with
            | none => exact ⟨fun z => (by cases z), fun z => absurd rfl z⟩
            | some c =>
              have := ksF_lt _ _ _ hc
              exact ⟨fun _ => nI_ne_NONE (by omega), fun _ => rfl⟩
          refine p_iload d_Bo_knowers_52 rfl ?_
          refine p_iret d_Bo_knowers_54 rfl rfl ?_
          refine ⟨?_, rfl, rfl, hF0.tr sF⟩
          rw [hF]
          unfold kzF
          rw [if_pos (hbs.mpr h49)]
  refine ct_of [.ref 1, .int (nI q), .int d, .null, .null] (by decide +kernel) rfl (leb rfl) rfl ?_
  refine p_iload_n d_Bo_knowers_0 rfl ?_
  refine p_ic_1 d_Bo_knowers_1 ?_
  refine p_bi_30 d_Bo_knowers_2 ?_
  refine q_S1 d_Bo_knowers_4 ml_Bo_64 sb_Bo_within ⟨leb rfl, leb rfl⟩ (c_within Γ S0 _ _ (nI q) 1 30) rfl rfl rfl ?_
  refine p_ifeqB (tgt := 20) d_Bo_knowers_7 (by decide) (fun h7 => ?_) (fun h7 => ?_)
  · exact absurd (i30 q hq1 hq) h7
  · refine p_iload_n d_Bo_knowers_10 rfl ?_
    refine p_ic_0 d_Bo_knowers_11 ?_
    refine p_bi_99 d_Bo_knowers_12 ?_
    refine q_S1 d_Bo_knowers_14 ml_Bo_64 sb_Bo_within ⟨leb rfl, leb rfl⟩ (c_within Γ S0 _ _ d 0 99) rfl rfl rfl ?_
    refine p_ifneB (tgt := 23) d_Bo_knowers_17 (by decide) (fun h17 => ?_) (fun h17 => ?_)
    · refine p_ic_0 d_Bo_knowers_23 ?_
      refine p_is_3 d_Bo_knowers_24 (by decide) rfl ?_
      exact LP (n + 1) 0 _ I rfl (by omega) scF.rf rfl
    · exact absurd hd h17
