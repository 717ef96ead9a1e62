/-! ===== the reference: how he waited, the odds ===== -/
/-- from the beginning, with another wait -/
def bgT (w : Int32) (t : Nat → Int32) : Nat → Int32 := fun y => if 28 ≤ y ∧ y < 34 then 0 else if y = 34 then 0 else if y = 35 then 0 else if y = 36 then (-1) else if y = 37 then 0 else if y = 1 then w else t y
def soT (n E : Nat) (t0 h : Nat → Int32) (pw : Nat → Nat) (i : Nat) : Prop := ∀ e, e < E → h (3 * e) = nI i → itS n t0 i (28 + pw e) = h (3 * e + 2)
def soB (n E : Nat) (t0 h : Nat → Int32) (pw : Nat → Nat) (f : Nat) : Bool := (List.range f).all fun i => (List.range E).all fun e => decide (h (3 * e) = nI (i + 1) → itS n t0 (i + 1) (28 + pw e) = h (3 * e + 2))
theorem soB_iff {n E : Nat} {t0 h : Nat → Int32} {pw : Nat → Nat} {f : Nat} : soB n E t0 h pw f = true ↔ ∀ i, i < f → soT n E t0 h pw (i + 1) := by
  unfold soB soT
  simp only [List.all_eq_true, List.mem_range, decide_eq_true_eq]
theorem okT_bg {n : Nat} {t : Nat → Int32} {w : Int32} (h : okT n t) : okT n (bgT w t) := by
  have hn := h.1
  obtain ⟨a, b, c⟩ := h
  refine ⟨a, fun k hk => ?_, by unfold bgT; rw [if_neg (by omega), if_pos rfl]; decide⟩
  have e1 : bgT w t (10 + k) = t (10 + k) := by unfold bgT; rw [if_neg (by omega), if_neg (by omega), if_neg (by omega), if_neg (by omega), if_neg (by omega), if_neg (by omega)]
  have e2 : nrT n (bgT w t) k = nrT n t k := by
    unfold nrT
    have e3 : bgT w t (16 + k) = t (16 + k) := by unfold bgT; rw [if_neg (by omega), if_neg (by omega), if_neg (by omega), if_neg (by omega), if_neg (by omega), if_neg (by omega)]
    rw [e3]
  rw [e1, e2]
  exact b k hk
theorem bgT_0 {t : Nat → Int32} {w : Int32} : bgT w t 0 = t 0 := by unfold bgT; rw [if_neg (by omega), if_neg (by omega), if_neg (by omega), if_neg (by omega), if_neg (by omega), if_neg (by omega)]
theorem m_isSo (Γ : Cx) (I : MemI) (J : MemJ) (n : Nat) (hn : n ≤ 6) (h0 : I 54 0 = nI n) (hok : okT n (I 54)) (E : Nat) (he : I 53 8 = nI E) (hE : E ≤ 6) (pw : Nat → Nat) (hpw : ∀ e, e < E → I 59 (3 * e + 1) = nI (pw e) ∧ pw e < n) (w : Int32) : Ct Γ M_Mo_isSo [.ref 53, .int w] S0 I J (scQ (some (.int (bI (soB n E (bgT w (I 54)) (I 59) pw 20 = true)))) I J) := by
  have LO : ∀ (f j : Nat) (v : Value) (I1 : MemI), v.category = 1 → j + f = 20 → I1 62 = itS n (bgT w (I 54)) j → (∀ x, x ≠ 61 → x ≠ 62 → x ≠ 63 → I1 x = I x) → (∀ i, i < j → soT n E (bgT w (I 54)) (I 59) pw (i + 1)) → WP Γ M_Mo_isSo (0, 0) S0 I1 J 69 [.ref 53, .int w, .int (nI (j + 1)), v] [] (scQ (some (.int (bI (soB n E (bgT w (I 54)) (I 59) pw 20 = true)))) I J) := by
    intro f
    induction f with
    | zero =>
      intro j v I1 hv hjf h62 hx hall
      obtain rfl : j = 20 := by omega
      refine p_iload_n d_Mo_isSo_69 rfl ?_
      refine p_bi_20 d_Mo_isSo_70 ?_
      refine p_icmpgtN (tgt := 147) (20 + 1) (20) d_Mo_isSo_72 (by decide) rfl rfl (by omega) (by omega) (fun h72 => ?_) (fun h72 => ?_)
      · refine p_ic_1 d_Mo_isSo_147 ?_
        refine p_iret d_Mo_isSo_148 rfl rfl ?_
        exact ⟨by rw [bI_t (soB_iff.mpr hall)], rfl, rfl, hx⟩
      · exact absurd (by omega) h72
    | succ f ih =>
      intro j v I1 hv hjf h62 hx hall
      have LI : ∀ (g e : Nat) (I2 : MemI), e + g = E → I2 62 = itS n (bgT w (I 54)) (j + 1) → (∀ x, x ≠ 61 → x ≠ 62 → x ≠ 63 → I2 x = I x) → (∀ d, d < e → I 59 (3 * d) = nI (j + 1) → itS n (bgT w (I 54)) (j + 1) (28 + pw d) = I 59 (3 * d + 2)) → WP Γ M_Mo_isSo (0, 0) S0 I2 J 82 [.ref 53, .int w, .int (nI (j + 1)), .int (nI e)] [] (scQ (some (.int (bI (soB n E (bgT w (I 54)) (I 59) pw 20 = true)))) I J) := by
        intro g
        induction g with
        | zero =>
          intro e I2 heg e62 ex hall2
          obtain rfl : e = E := by omega
          refine p_iload_n d_Mo_isSo_82 rfl ?_
          refine p_aload_n d_Mo_isSo_83 rfl ?_
          refine p_getI d_Mo_isSo_84 fl_Mo_99 kd_53 (Or.inl rfl) ?_
          refine p_eqI (y := nI e) (by rw [ex 53 (by decide) (by decide) (by decide)]; exact he) ?_
          refine p_icmpgeN (tgt := 141) (e) (e) d_Mo_isSo_87 (by decide) rfl rfl (by omega) (by omega) (fun h87 => ?_) (fun h87 => ?_)
          · refine p_incN_2_1 d_Mo_isSo_141 (by decide) rfl ?_
            refine p_goto (tgt := 69) d_Mo_isSo_144 (by decide) ?_
            refine ih (j + 1) _ I2 rfl (by omega) e62 ex (fun i hi => ?_)
            rcases Nat.lt_or_ge i j with z | z
            · exact hall i z
            · rw [show i = j by omega]
              exact hall2
          · exact absurd (Nat.le_refl _) h87
        | succ g ihg =>
          intro e I2 heg e62 ex hall2
          obtain ⟨p1, p2⟩ := hpw e (by omega)
          have x59 : I2 59 = I 59 := ex 59 (by decide) (by decide) (by decide)
          refine p_iload_n d_Mo_isSo_82 rfl ?_
          refine p_aload_n d_Mo_isSo_83 rfl ?_
          refine p_getI d_Mo_isSo_84 fl_Mo_99 kd_53 (Or.inl rfl) ?_
          refine p_eqI (y := nI E) (by rw [ex 53 (by decide) (by decide) (by decide)]; exact he) ?_
          refine p_icmpgeN (tgt := 141) (e) (E) d_Mo_isSo_87 (by decide) rfl rfl (by omega) (by omega) (fun h87 => ?_) (fun h87 => ?_)
          · exact absurd h87 (by omega)
          · refine p_aload_n d_Mo_isSo_90 rfl ?_
            refine p_getR d_Mo_isSo_91 fl_Mo_26 kd_53 rfl rf_53_7 ?_
            refine p_ic_3 d_Mo_isSo_94 ?_
            refine p_iload_n d_Mo_isSo_95 rfl ?_
            refine p_imulN (3) (e) d_Mo_isSo_96 rfl rfl ?_
            refine p_ialdN (3 * e) d_Mo_isSo_97 ar_59 rfl (by omega) rfl ?_
            refine p_iload_n d_Mo_isSo_98 rfl ?_
            refine p_icmpne (tgt := 135) d_Mo_isSo_99 (by decide) (fun h99 => ?_) (fun h99 => ?_)
            · rw [x59] at h99
              refine p_incN_3_1 d_Mo_isSo_135 (by decide) rfl ?_
              refine p_goto (tgt := 82) d_Mo_isSo_138 (by decide) ?_
              refine ihg (e + 1) I2 (by omega) e62 ex (fun d hd => ?_)
              rcases Nat.lt_or_ge d e with z | z
              · exact hall2 d z
              · rw [show d = e by omega]
                first | exact fun _ => h130 | exact fun z => absurd z h99
            · rw [x59] at h99
              refine p_aload_n d_Mo_isSo_102 rfl ?_
              refine p_getR d_Mo_isSo_103 fl_Mo_35 kd_53 rfl rf_53_15 ?_
              refine p_bi_28 d_Mo_isSo_106 ?_
              refine p_aload_n d_Mo_isSo_108 rfl ?_
              refine p_getR d_Mo_isSo_109 fl_Mo_26 kd_53 rfl rf_53_7 ?_
              refine p_ic_3 d_Mo_isSo_112 ?_
              refine p_iload_n d_Mo_isSo_113 rfl ?_
              refine p_imulN (3) (e) d_Mo_isSo_114 rfl rfl ?_
              refine p_ic_1 d_Mo_isSo_115 ?_
              refine p_iaddN (3 * e) (1) d_Mo_isSo_116 rfl rfl ?_
              refine p_ialdN ((3 * e) + 1) d_Mo_isSo_117 ar_59 rfl (by omega) rfl ?_
              refine p_eqI (y := nI (pw e)) (by rw [x59]; exact p1) ?_
              refine p_iaddN (28) ((pw e)) d_Mo_isSo_118 rfl rfl ?_
              refine p_ialdN (28 + (pw e)) d_Mo_isSo_119 ar_62 rfl (by omega) rfl ?_
              refine p_aload_n d_Mo_isSo_120 rfl ?_
              refine p_getR d_Mo_isSo_121 fl_Mo_26 kd_53 rfl rf_53_7 ?_
              refine p_ic_3 d_Mo_isSo_124 ?_
              refine p_iload_n d_Mo_isSo_125 rfl ?_
              refine p_imulN (3) (e) d_Mo_isSo_126 rfl rfl ?_
              refine p_ic_2 d_Mo_isSo_127 ?_
              refine p_iaddN (3 * e) (2) d_Mo_isSo_128 rfl rfl ?_
              refine p_ialdN ((3 * e) + 2) d_Mo_isSo_129 ar_59 rfl (by omega) rfl ?_
              refine p_icmpeq (tgt := 135) d_Mo_isSo_130 (by decide) (fun h130 => ?_) (fun h130 => ?_)
              · rw [x59, e62] at h130
                refine p_incN_3_1 d_Mo_isSo_135 (by decide) rfl ?_
                refine p_goto (tgt := 82) d_Mo_isSo_138 (by decide) ?_
                refine ihg (e + 1) I2 (by omega) e62 ex (fun d hd => ?_)
                rcases Nat.lt_or_ge d e with z | z
                · exact hall2 d z
                · rw [show d = e by omega]
                  first | exact fun _ => h130 | exact fun z => absurd z h99
              · rw [x59, e62] at h130
                refine p_ic_0 d_Mo_isSo_133 ?_
                refine p_iret d_Mo_isSo_134 rfl rfl ?_
                refine ⟨?_, rfl, rfl, ex⟩
                rw [bI_f (fun z => h130 (soB_iff.mp z j (by omega) e (by omega) h99))]
      refine p_iload_n d_Mo_isSo_69 rfl ?_
      refine p_bi_20 d_Mo_isSo_70 ?_
      refine p_icmpgtN (tgt := 147) (j + 1) (20) d_Mo_isSo_72 (by decide) rfl rfl (by omega) (by omega) (fun h72 => ?_) (fun h72 => ?_)
      · exact absurd h72 (by omega)
      · refine p_aload_n d_Mo_isSo_75 rfl ?_
        refine p_ic_1 d_Mo_isSo_76 ?_
        refine q_V d_Mo_isSo_77 ml_Mo_151 vb_Mo_go kd_53 ⟨leb rfl, leb rfl⟩ (m_go Γ _ J n (1) (by omega) (by rw [h62, it_low 0 (by omega) j hn, bgT_0]; exact h0) (by rw [h62]; exact (okT_bg hok).it j)) rfl rfl rfl (fun r S1 IG J1 hQ => ?_)
        obtain ⟨rfl, rfl, hJ, g1, g2⟩ := hQ
        obtain rfl := hJ.symm
        refine p_ic_0 d_Mo_isSo_80 ?_
        refine p_is_3 d_Mo_isSo_81 (by decide) rfl ?_
        exact LI E 0 IG (by omega) (by rw [g1, h62]; rfl) (fun x q1 q2 q3 => by rw [g2 x q1 q2, hx x q1 q2 q3]) (fun d hd => absurd hd (by omega))
  have LZ : ∀ (f k : Nat) (I1 : MemI), k + f = 6 → (∀ y, I1 62 y = if 28 ≤ y ∧ y < 28 + k then 0 else I 54 y) → (∀ x, x ≠ 62 → I1 x = I x) → WP Γ M_Mo_isSo (0, 0) S0 I1 J 6 [.ref 53, .int w, .int (nI k), .null] [] (scQ (some (.int (bI (soB n E (bgT w (I 54)) (I 59) pw 20 = true)))) I J) := by
    intro f
    induction f with
    | zero =>
      intro k I1 hkf hr hx
      obtain rfl : k = 6 := by omega
      refine p_iload_n d_Mo_isSo_6 rfl ?_
      refine p_bi_6 d_Mo_isSo_7 ?_
      refine p_icmpgeN (tgt := 28) (6) (6) d_Mo_isSo_9 (by decide) rfl rfl (by omega) (by omega) (fun h9 => ?_) (fun h9 => ?_)
      · refine p_aload_n d_Mo_isSo_28 rfl ?_
        refine p_getR d_Mo_isSo_29 fl_Mo_35 kd_53 rfl rf_53_15 ?_
        refine p_bi_34 d_Mo_isSo_32 ?_
        refine p_ic_0 d_Mo_isSo_34 ?_
        refine p_iastN (34) d_Mo_isSo_35 ar_62 rfl (by omega) rfl ?_
        refine p_aload_n d_Mo_isSo_36 rfl ?_
        refine p_getR d_Mo_isSo_37 fl_Mo_35 kd_53 rfl rf_53_15 ?_
        refine p_bi_35 d_Mo_isSo_40 ?_
        refine p_ic_0 d_Mo_isSo_42 ?_
        refine p_iastN (35) d_Mo_isSo_43 ar_62 rfl (by omega) rfl ?_
        refine p_aload_n d_Mo_isSo_44 rfl ?_
        refine p_getR d_Mo_isSo_45 fl_Mo_35 kd_53 rfl rf_53_15 ?_
        refine p_bi_36 d_Mo_isSo_48 ?_
        refine p_ic_m1 d_Mo_isSo_50 ?_
        refine p_iastN (36) d_Mo_isSo_51 ar_62 rfl (by omega) rfl ?_
        refine p_aload_n d_Mo_isSo_52 rfl ?_
        refine p_getR d_Mo_isSo_53 fl_Mo_35 kd_53 rfl rf_53_15 ?_
        refine p_bi_37 d_Mo_isSo_56 ?_
        refine p_ic_0 d_Mo_isSo_58 ?_
        refine p_iastN (37) d_Mo_isSo_59 ar_62 rfl (by omega) rfl ?_
        refine p_aload_n d_Mo_isSo_60 rfl ?_
        refine p_getR d_Mo_isSo_61 fl_Mo_35 kd_53 rfl rf_53_15 ?_
        refine p_ic_1 d_Mo_isSo_64 ?_
        refine p_iload_n d_Mo_isSo_65 rfl ?_
        refine p_iastN (1) d_Mo_isSo_66 ar_62 rfl (by omega) rfl ?_
        refine p_ic_1 d_Mo_isSo_67 ?_
        refine p_is_2 d_Mo_isSo_68 (by decide) rfl ?_
        refine LO 20 0 _ _ rfl (by omega) ?_ (fun x q1 q2 q3 => ?_) (fun i hi => absurd hi (by omega))
        · funext y
          show up2 _ _ _ _ _ _ = bgT w (I 54) y
          simp only [up2, true_and, hr]
          unfold bgT
          by_cases c1 : 28 ≤ y ∧ y < 34
          · rw [if_neg (by omega), if_neg (by omega), if_neg (by omega), if_neg (by omega), if_neg (by omega), if_pos c1, if_pos c1]
          · rw [if_neg c1]
            by_cases c2 : y = 1
            · subst c2; simp
            · by_cases c3 : y = 34
              · subst c3; simp
              · by_cases c4 : y = 35
                · subst c4; simp
                · by_cases c5 : y = 36
                  · subst c5; simp
                  · by_cases c6 : y = 37
                    · subst c6; simp
                    · simp [c2, c3, c4, c5, c6]
                      intro z1 z2
                      omega
        · funext y
          simp only [up2]
          rw [if_neg (fun z => q2 z.1), if_neg (fun z => q2 z.1), if_neg (fun z => q2 z.1), if_neg (fun z => q2 z.1), if_neg (fun z => q2 z.1), hx x q2]
      · exact absurd (Nat.le_refl _) h9
    | succ f ih =>
      intro k I1 hkf hr hx
      refine p_iload_n d_Mo_isSo_6 rfl ?_
      refine p_bi_6 d_Mo_isSo_7 ?_
      refine p_icmpgeN (tgt := 28) (k) (6) d_Mo_isSo_9 (by decide) rfl rfl (by omega) (by omega) (fun h9 => ?_) (fun h9 => ?_)
      · exact absurd h9 (by omega)
      · refine p_aload_n d_Mo_isSo_12 rfl ?_
        refine p_getR d_Mo_isSo_13 fl_Mo_35 kd_53 rfl rf_53_15 ?_
        refine p_bi_28 d_Mo_isSo_16 ?_
        refine p_iload_n d_Mo_isSo_18 rfl ?_
        refine p_iaddN (28) (k) d_Mo_isSo_19 rfl rfl ?_
        refine p_ic_0 d_Mo_isSo_20 ?_
        refine p_iastN (28 + k) d_Mo_isSo_21 ar_62 rfl (by omega) rfl ?_
        refine p_incN_2_1 d_Mo_isSo_22 (by decide) rfl ?_
        refine p_goto (tgt := 6) d_Mo_isSo_25 (by decide) ?_
        refine ih (k + 1) _ (by omega) (fun y => ?_) (fun x q => ?_)
        · simp only [up2, true_and]
          by_cases q : y = 28 + k
          · subst q
            rw [if_pos rfl, if_pos (by omega)]
          · rw [if_neg q, hr y]
            by_cases q2 : 28 ≤ y ∧ y < 28 + k
            · rw [if_pos q2, if_pos (by omega)]
            · rw [if_neg q2, if_neg (by omega)]
        · funext y
          simp only [up2]
          rw [if_neg (fun z => q z.1), hx x q]
  refine ct_of [.ref 53, .int w, .null, .null] (by decide +kernel) rfl (leb rfl) rfl ?_
  refine p_aload_n d_Mo_isSo_0 rfl ?_
  refine q_V d_Mo_isSo_1 ml_Mo_148 vb_Mo_asNow kd_53 ⟨leb rfl, leb rfl⟩ (m_asNow' Γ I I J (rfl)) rfl rfl rfl (fun r S1 IA J1 hQ => ?_)
  obtain ⟨rfl, rfl, hJ, a1, a2⟩ := hQ
  obtain rfl := hJ.symm
  refine p_ic_0 d_Mo_isSo_4 ?_
  refine p_is_2 d_Mo_isSo_5 (by decide) rfl ?_
  exact LZ 6 0 IA (by omega) (fun y => by rw [if_neg (by omega), a1]) a2
def wdF (P : Nat → Bool) : Nat → Nat → Int32 → Int32
  | 0, _, s => s
  | f + 1, w, s => wdF P f (w + 1) (if P w = true then s ||| ((1 : Int32) <<< (nI w &&& 31)) else s)
theorem or_0 (x : Int32) : x ||| 0 = x := by simp
theorem m_waited (Γ : Cx) (I : MemI) (J : MemJ) (n : Nat) (hn : n ≤ 6) (h0 : I 54 0 = nI n) (hok : okT n (I 54)) (E : Nat) (he : I 53 8 = nI E) (hE : E ≤ 6) (pw : Nat → Nat) (hpw : ∀ e, e < E → I 59 (3 * e + 1) = nI (pw e) ∧ pw e < n) : Ct Γ M_Mo_waited [.ref 53] S0 I J (scQ (some (.int (wdF (fun w => soB n E (bgT (nI w) (I 54)) (I 59) pw 20) 11 0 0))) I J) := by
  have LP : ∀ (f k : Nat) (s : Int32) (I1 : MemI), k + f = 11 → (∀ x, x ≠ 61 → x ≠ 62 → x ≠ 63 → I1 x = I x) → wdF (fun w => soB n E (bgT (nI w) (I 54)) (I 59) pw 20) 11 0 0 = wdF (fun w => soB n E (bgT (nI w) (I 54)) (I 59) pw 20) f k s → WP Γ M_Mo_waited (0, 0) S0 I1 J 4 [.ref 53, .int s, .int (nI k)] [] (scQ (some (.int (wdF (fun w => soB n E (bgT (nI w) (I 54)) (I 59) pw 20) 11 0 0))) I J) := by
    intro f
    induction f with
    | zero =>
      intro k s I1 hkf hx hF
      obtain rfl : k = 11 := by omega
      refine p_iload_n d_Mo_waited_4 rfl ?_
      refine p_bi_10 d_Mo_waited_5 ?_
      refine p_icmpgtN (tgt := 34) (11) (10) d_Mo_waited_7 (by decide) rfl rfl (by omega) (by omega) (fun h7 => ?_) (fun h7 => ?_)
      · refine p_iload_n d_Mo_waited_34 rfl ?_
        refine p_iret d_Mo_waited_35 rfl rfl ?_
        exact ⟨by rw [hF]; rfl, rfl, rfl, hx⟩
      · exact absurd (by omega) h7
    | succ f ih =>
      intro k s I1 hkf hx hF
      have x54 : I1 54 = I 54 := hx 54 (by decide) (by decide) (by decide)
      have x59 : I1 59 = I 59 := hx 59 (by decide) (by decide) (by decide)
      have x53 : I1 53 = I 53 := hx 53 (by decide) (by decide) (by decide)
      refine p_iload_n d_Mo_waited_4 rfl ?_
      refine p_bi_10 d_Mo_waited_5 ?_
      refine p_icmpgtN (tgt := 34) (k) (10) d_Mo_waited_7 (by decide) rfl rfl (by omega) (by omega) (fun h7 => ?_) (fun h7 => ?_)
      · exact absurd h7 (by omega)
      · refine p_iload_n d_Mo_waited_10 rfl ?_
        refine p_aload_n d_Mo_waited_11 rfl ?_
        refine p_iload_n d_Mo_waited_12 rfl ?_
        refine q_V d_Mo_waited_13 ml_Mo_175 vb_Mo_isSo kd_53 ⟨leb rfl, leb rfl⟩ (m_isSo Γ I1 J n hn (by rw [x54]; exact h0) (by rw [x54]; exact hok) E (by rw [x53]; exact he) hE pw (fun e hq => by rw [x59]; exact hpw e hq) (nI k)) rfl rfl rfl (fun r S1 IS J1 hQ => ?_)
        obtain ⟨rfl, rfl, hJ, s1⟩ := hQ
        obtain rfl := hJ.symm
        rw [x54, x59]
        refine p_ifeqB (tgt := 25) d_Mo_waited_16 (by decide) (fun h16 => ?_) (fun h16 => ?_)
        · refine p_ic_0 d_Mo_waited_25 ?_
          refine p_ior d_Mo_waited_26 ?_
          refine p_is_1 d_Mo_waited_27 (by decide) rfl ?_
          refine p_incN_2_1 d_Mo_waited_28 (by decide) rfl ?_
          refine p_goto (tgt := 4) d_Mo_waited_31 (by decide) ?_
          refine ih (k + 1) _ IS (by omega) (fun x q1 q2 q3 => by rw [s1 x q1 q2 q3, hx x q1 q2 q3]) ?_
          rw [hF]
          show wdF _ f (k + 1) (if soB n E (bgT (nI k) (I 54)) (I 59) pw 20 = true then _ else _) = _
          first | (rw [if_pos h16]; done) | (rw [if_neg h16, or_0]; done)
        · refine p_ic_1 d_Mo_waited_19 ?_
          refine p_iload_n d_Mo_waited_20 rfl ?_
          refine p_ishl d_Mo_waited_21 ?_
          refine p_goto (tgt := 26) d_Mo_waited_22 (by decide) ?_
          refine p_ior d_Mo_waited_26 ?_
          refine p_is_1 d_Mo_waited_27 (by decide) rfl ?_
          refine p_incN_2_1 d_Mo_waited_28 (by decide) rfl ?_
          refine p_goto (tgt := 4) d_Mo_waited_31 (by decide) ?_
          refine ih (k + 1) _ IS (by omega) (fun x q1 q2 q3 => by rw [s1 x q1 q2 q3, hx x q1 q2 q3]) ?_
          rw [hF]
          show wdF _ f (k + 1) (if soB n E (bgT (nI k) (I 54)) (I 59) pw 20 = true then _ else _) = _
          first | (rw [if_pos h16]; done) | (rw [if_neg h16, or_0]; done)
  refine ct_of [.ref 53, .null, .null] (by decide +kernel) rfl (leb rfl) rfl ?_
  refine p_ic_0 d_Mo_waited_0 ?_
  refine p_is_1 d_Mo_waited_1 (by decide) rfl ?_
  refine p_ic_0 d_Mo_waited_2 ?_
  refine p_is_2 d_Mo_waited_3 (by decide) rfl ?_
  exact LP 11 0 0 I (by omega) (fun x _ _ _ => rfl) rfl
