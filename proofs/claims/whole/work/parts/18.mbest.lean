/-! ===== the reference's questions for the best ===== -/
def gA (n q : Nat) (t : Nat → Int32) (a : Nat) : Int32 := grT n (itS n (upd t 35 (nI a)) q)
def paF (n q : Nat) (t : Nat → Int32) : Nat → Nat → Int32 → Int32 → Int32 × Int32
  | 0, _, b, l => (b, l)
  | f + 1, a, b, l => if gA n q t a < l then paF n q t f (a + 1) (nI a) (gA n q t a) else paF n q t f (a + 1) b l
def pick (w : Nat) (x : Int32 × Int32) : Int32 := if w = 0 then x.1 else x.2
def stA (n q : Nat) (t : Nat → Int32) (v : Int32) : Int32 := apT n (itS n (upd t 36 v) q)
def cvk (n k : Nat) : Int32 := if k < n then nI k else (-1)
def cvn (n k : Nat) : Int32 := if k < n then nI k else (-1000009)
def stF (n q : Nat) (t : Nat → Int32) : Nat → Nat → Int32 → Int32 → Int32 × Int32
  | 0, _, b, l => (b, l)
  | f + 1, k, b, l => if stA n q t (cvk n k) < l then stF n q t f (k + 1) (cvn n k) (stA n q t (cvk n k)) else stF n q t f (k + 1) b l
theorem m_playAhead (Γ : Cx) (I : MemI) (J : MemJ) (n : Nat) (hn : n ≤ 6) (h0 : I 54 0 = nI n) (hok : okT n (I 54)) (q : Nat) (hq1 : 1 ≤ q) (hq : q ≤ 30) (w : Nat) (hw : w < 2) : Ct Γ M_Mo_playAhead [.ref 53, .int (nI q), .int (nI w)] S0 I J (scQ (some (.int (pick w (paF n q (I 54) 21 0 0 1000000)))) I J) := by
  have LP : ∀ (f a : Nat) (b l : Int32) (v : Value) (I1 : MemI), v.category = 1 → a + f = 21 → (∀ x, x ≠ 61 → x ≠ 62 → x ≠ 63 → I1 x = I x) → paF n q (I 54) 21 0 0 1000000 = paF n q (I 54) f a b l → WP Γ M_Mo_playAhead (0, 0) S0 I1 J 26 [.ref 53, .int (nI q), .int (nI w), .int b, .int l, .int (nI a), v] [] (scQ (some (.int (pick w (paF n q (I 54) 21 0 0 1000000)))) I J) := by
    intro f
    induction f with
    | zero =>
      intro a b l v I1 hv haf hx hF
      obtain rfl : a = 21 := by omega
      refine p_iload d_Mo_playAhead_26 rfl ?_
      refine p_bi_20 d_Mo_playAhead_28 ?_
      refine p_icmpgtN (tgt := 96) (21) (20) d_Mo_playAhead_30 (by decide) rfl rfl (by omega) (by omega) (fun h30 => ?_) (fun h30 => ?_)
      · refine p_iload_n d_Mo_playAhead_96 rfl ?_
        refine p_ifne (tgt := 104) d_Mo_playAhead_97 (by decide) (fun h97 => ?_) (fun h97 => ?_)
        · have gw : ¬ w = 0 := fun z => h97 (by rw [z]; rfl)
          refine p_iload d_Mo_playAhead_104 rfl ?_
          refine p_iret d_Mo_playAhead_106 rfl rfl ?_
          exact ⟨by rw [hF]; simp [pick, paF, gw], rfl, rfl, hx⟩
        · have gw : w = 0 := by
            rcases Nat.eq_zero_or_pos w with z | z
            · exact z
            · exact absurd h97 (nI_ne0 z (by omega))
          refine p_iload_n d_Mo_playAhead_100 rfl ?_
          refine p_goto (tgt := 106) d_Mo_playAhead_101 (by decide) ?_
          refine p_iret d_Mo_playAhead_106 rfl rfl ?_
          exact ⟨by rw [hF]; simp [pick, paF, gw], rfl, rfl, hx⟩
      · exact absurd (by omega) h30
    | succ f ih =>
      intro a b l v I1 hv haf hx hF
      have hr : ∀ IA : MemI, IA 62 = I 54 → up2 IA 62 35 (nI a) 62 = upd (I 54) 35 (nI a) := fun IA h => by rw [up2_row, h]
      have hk : okT n (upd (I 54) 35 (nI a)) := okT_upd hok (Or.inr (by omega))
      have hz : upd (I 54) 35 (nI a) 0 = nI n := by rw [upd_ne (by omega)]; exact h0
      refine p_iload d_Mo_playAhead_26 rfl ?_
      refine p_bi_20 d_Mo_playAhead_28 ?_
      refine p_icmpgtN (tgt := 96) (a) (20) d_Mo_playAhead_30 (by decide) rfl rfl (by omega) (by omega) (fun h30 => ?_) (fun h30 => ?_)
      · exact absurd h30 (by omega)
      · refine p_aload_n d_Mo_playAhead_33 rfl ?_
        refine q_V d_Mo_playAhead_34 ml_Mo_148 vb_Mo_asNow kd_53 ⟨leb rfl, leb rfl⟩ (m_asNow' Γ I1 I J (hx 54 (by decide) (by decide) (by decide))) rfl rfl rfl (fun r S1 IA J1 hQ => ?_)
        obtain ⟨rfl, rfl, hJ, a1, a2⟩ := hQ
        obtain rfl := hJ.symm
        refine p_aload_n d_Mo_playAhead_37 rfl ?_
        refine p_getR d_Mo_playAhead_38 fl_Mo_35 kd_53 rfl rf_53_15 ?_
        refine p_bi_35 d_Mo_playAhead_41 ?_
        refine p_iload d_Mo_playAhead_43 rfl ?_
        refine p_iastN (35) d_Mo_playAhead_45 ar_62 rfl (by omega) rfl ?_
        refine p_aload_n d_Mo_playAhead_46 rfl ?_
        refine p_iload_n d_Mo_playAhead_47 rfl ?_
        refine q_V d_Mo_playAhead_48 ml_Mo_151 vb_Mo_go kd_53 ⟨leb rfl, leb rfl⟩ (m_go Γ _ J n (q) (by omega) (by rw [hr IA a1]; exact hz) (by rw [hr IA a1]; exact hk)) rfl rfl rfl (fun r S1 IG J1 hQ => ?_)
        obtain ⟨rfl, rfl, hJ, g1, g2⟩ := hQ
        obtain rfl := hJ.symm
        refine p_aload_n d_Mo_playAhead_51 rfl ?_
        refine p_getR d_Mo_playAhead_52 fl_Mo_35 kd_53 rfl rf_53_15 ?_
        refine q_S1 d_Mo_playAhead_55 ml_Mo_163 sb_Mo_greatest ⟨leb rfl, leb rfl⟩ (m_greatest Γ _ J 62 n ar_62 hn (by rw [g1, it_low 0 (by omega) q hn, hr IA a1]; exact hz)) rfl rfl rfl ?_
        refine p_is_6 d_Mo_playAhead_58 (by decide) rfl ?_
        refine p_iload d_Mo_playAhead_60 rfl ?_
        refine p_iload d_Mo_playAhead_62 rfl ?_
        refine p_icmpge (tgt := 72) d_Mo_playAhead_64 (by decide) (fun h64 => ?_) (fun h64 => ?_)
        · refine p_iload_n d_Mo_playAhead_72 rfl ?_
          refine p_is_3 d_Mo_playAhead_73 (by decide) rfl ?_
          refine p_iload d_Mo_playAhead_74 rfl ?_
          refine p_iload d_Mo_playAhead_76 rfl ?_
          refine p_icmpge (tgt := 86) d_Mo_playAhead_78 (by decide) (fun h78 => ?_) (fun h78 => ?_)
          · refine p_iload d_Mo_playAhead_86 rfl ?_
            refine p_is_4 d_Mo_playAhead_88 (by decide) rfl ?_
            refine p_incN_5_1 d_Mo_playAhead_90 (by decide) rfl ?_
            refine p_goto (tgt := 26) d_Mo_playAhead_93 (by decide) ?_
            refine ih (a + 1) _ _ _ _ rfl (by omega) (fun x q1 q2 q3 => ?_) ?_
            · rw [g2 x q1 q2]
              funext y
              simp only [up2]
              rw [if_neg (fun z => q2 z.1), a2 x q2, hx x q1 q2 q3]
            · rw [hF]
              show (if gA n q (I 54) a < l then _ else _) = _
              rw [g1, hr IA a1] at h64
              rw [if_neg (show ¬ gA n q (I 54) a < l from i32_nlt.mpr h64)]
          · exact absurd h64 h78
        · refine p_iload d_Mo_playAhead_67 rfl ?_
          refine p_goto (tgt := 73) d_Mo_playAhead_69 (by decide) ?_
          refine p_is_3 d_Mo_playAhead_73 (by decide) rfl ?_
          refine p_iload d_Mo_playAhead_74 rfl ?_
          refine p_iload d_Mo_playAhead_76 rfl ?_
          refine p_icmpge (tgt := 86) d_Mo_playAhead_78 (by decide) (fun h78 => ?_) (fun h78 => ?_)
          · exact absurd h78 h64
          · refine p_iload d_Mo_playAhead_81 rfl ?_
            refine p_goto (tgt := 88) d_Mo_playAhead_83 (by decide) ?_
            refine p_is_4 d_Mo_playAhead_88 (by decide) rfl ?_
            refine p_incN_5_1 d_Mo_playAhead_90 (by decide) rfl ?_
            refine p_goto (tgt := 26) d_Mo_playAhead_93 (by decide) ?_
            refine ih (a + 1) _ _ _ _ rfl (by omega) (fun x q1 q2 q3 => ?_) ?_
            · rw [g2 x q1 q2]
              funext y
              simp only [up2]
              rw [if_neg (fun z => q2 z.1), a2 x q2, hx x q1 q2 q3]
            · rw [hF]
              show (if gA n q (I 54) a < l then _ else _) = _
              rw [g1, hr IA a1] at h64
              rw [if_pos (show gA n q (I 54) a < l from i32_nle.mp h64)]
              rw [g1, hr IA a1]
              rfl
  refine ct_of [.ref 53, .int (nI q), .int (nI w), .null, .null, .null, .null] (by decide +kernel) rfl (leb rfl) rfl ?_
  refine p_iload_n d_Mo_playAhead_0 rfl ?_
  refine q_S1 d_Mo_playAhead_1 ml_Mo_159 sb_Mo_isSpan ⟨leb rfl, leb rfl⟩ (c_isSpan Γ S0 I J (nI q)) rfl rfl rfl ?_
  refine p_ifeqB (tgt := 14) d_Mo_playAhead_4 (by decide) (fun h4 => ?_) (fun h4 => ?_)
  · first | exact absurd (i30 q hq1 hq) h4 | exact absurd (i1 w hw) h11
  · refine p_iload_n d_Mo_playAhead_7 rfl ?_
    refine q_S1 d_Mo_playAhead_8 ml_Mo_137 sb_Mo_isTwo ⟨leb rfl, leb rfl⟩ (c_isTwo Γ S0 I J (nI w)) rfl rfl rfl ?_
    refine p_ifneB (tgt := 17) d_Mo_playAhead_11 (by decide) (fun h11 => ?_) (fun h11 => ?_)
    · refine p_ic_0 d_Mo_playAhead_17 ?_
      refine p_is_3 d_Mo_playAhead_18 (by decide) rfl ?_
      refine p_ldc d_Mo_playAhead_19 kc_Mo_162 ?_
      refine p_is_4 d_Mo_playAhead_21 (by decide) rfl ?_
      refine p_ic_0 d_Mo_playAhead_23 ?_
      refine p_is_5 d_Mo_playAhead_24 (by decide) rfl ?_
      exact LP 21 0 0 _ _ I rfl (by omega) (fun x _ _ _ => rfl) rfl
    · first | exact absurd (i30 q hq1 hq) h4 | exact absurd (i1 w hw) h11
theorem m_playAhead_bad (Γ : Cx) (I : MemI) (J : MemJ) (x y : Int32) (hb : ¬ ((1 ≤ x ∧ x ≤ 30) ∧ (0 ≤ y ∧ y ≤ 1))) : Ct Γ M_Mo_playAhead [.ref 53, .int x, .int y] S0 I J (eqQ (some (.int (-1000001))) S0 I J) := by
  refine ct_of [.ref 53, .int x, .int y, .null, .null, .null, .null] (by decide +kernel) rfl (leb rfl) rfl ?_
  refine p_iload_n d_Mo_playAhead_0 rfl ?_
  refine q_S1 d_Mo_playAhead_1 ml_Mo_159 sb_Mo_isSpan ⟨leb rfl, leb rfl⟩ (c_isSpan Γ S0 I J x) rfl rfl rfl ?_
  refine p_ifeqB (tgt := 14) d_Mo_playAhead_4 (by decide) (fun h4 => ?_) (fun h4 => ?_)
  · refine p_ldc d_Mo_playAhead_14 kc_Mo_51 ?_
    refine p_iret d_Mo_playAhead_16 rfl rfl ?_
    exact ⟨rfl, rfl, rfl, rfl⟩
  · refine p_iload_n d_Mo_playAhead_7 rfl ?_
    refine q_S1 d_Mo_playAhead_8 ml_Mo_137 sb_Mo_isTwo ⟨leb rfl, leb rfl⟩ (c_isTwo Γ S0 I J y) rfl rfl rfl ?_
    refine p_ifneB (tgt := 17) d_Mo_playAhead_11 (by decide) (fun h11 => ?_) (fun h11 => ?_)
    · exact absurd ⟨h4, h11⟩ hb
    · refine p_ldc d_Mo_playAhead_14 kc_Mo_51 ?_
      refine p_iret d_Mo_playAhead_16 rfl rfl ?_
      exact ⟨rfl, rfl, rfl, rfl⟩
theorem m_seat_bad (Γ : Cx) (I : MemI) (J : MemJ) (x y : Int32) (hb : ¬ ((1 ≤ x ∧ x ≤ 30) ∧ (0 ≤ y ∧ y ≤ 1))) : Ct Γ M_Mo_seat [.ref 53, .int x, .int y] S0 I J (eqQ (some (.int (-1000001))) S0 I J) := by
  refine ct_of [.ref 53, .int x, .int y, .null, .null, .null, .null] (by decide +kernel) rfl (leb rfl) rfl ?_
  refine p_iload_n d_Mo_seat_0 rfl ?_
  refine q_S1 d_Mo_seat_1 ml_Mo_159 sb_Mo_isSpan ⟨leb rfl, leb rfl⟩ (c_isSpan Γ S0 I J x) rfl rfl rfl ?_
  refine p_ifeqB (tgt := 14) d_Mo_seat_4 (by decide) (fun h4 => ?_) (fun h4 => ?_)
  · refine p_ldc d_Mo_seat_14 kc_Mo_51 ?_
    refine p_iret d_Mo_seat_16 rfl rfl ?_
    exact ⟨rfl, rfl, rfl, rfl⟩
  · refine p_iload_n d_Mo_seat_7 rfl ?_
    refine q_S1 d_Mo_seat_8 ml_Mo_137 sb_Mo_isTwo ⟨leb rfl, leb rfl⟩ (c_isTwo Γ S0 I J y) rfl rfl rfl ?_
    refine p_ifneB (tgt := 17) d_Mo_seat_11 (by decide) (fun h11 => ?_) (fun h11 => ?_)
    · exact absurd ⟨h4, h11⟩ hb
    · refine p_ldc d_Mo_seat_14 kc_Mo_51 ?_
      refine p_iret d_Mo_seat_16 rfl rfl ?_
      exact ⟨rfl, rfl, rfl, rfl⟩
theorem m_seat (Γ : Cx) (I : MemI) (J : MemJ) (n : Nat) (hn : n ≤ 6) (h0 : I 54 0 = nI n) (hok : okT n (I 54)) (q : Nat) (hq1 : 1 ≤ q) (hq : q ≤ 30) (w : Nat) (hw : w < 2) : Ct Γ M_Mo_seat [.ref 53, .int (nI q), .int (nI w)] S0 I J (scQ (some (.int (pick w (stF n q (I 54) (n + 1) 0 (-1000009) 1000000)))) I J) := by
  have LP : ∀ (f k : Nat) (b l : Int32) (v : Value) (I1 : MemI), v.category = 1 → k + f = n + 1 → (∀ x, x ≠ 61 → x ≠ 62 → x ≠ 63 → I1 x = I x) → stF n q (I 54) (n + 1) 0 (-1000009) 1000000 = stF n q (I 54) f k b l → WP Γ M_Mo_seat (0, 0) S0 I1 J 27 [.ref 53, .int (nI q), .int (nI w), .int b, .int l, .int (nI k), v] [] (scQ (some (.int (pick w (stF n q (I 54) (n + 1) 0 (-1000009) 1000000)))) I J) := by
    intro f
    induction f with
    | zero =>
      intro k b l v I1 hv hkf hx hF
      obtain rfl : k = n + 1 := by omega
      refine p_iload d_Mo_seat_27 rfl ?_
      refine p_aload_n d_Mo_seat_29 rfl ?_
      refine p_getR d_Mo_seat_30 fl_Mo_7 kd_53 rfl rf_53_0 ?_
      refine p_ic_0 d_Mo_seat_33 ?_
      refine p_ialdN (0) d_Mo_seat_34 ar_54 rfl (by omega) rfl ?_
      refine p_eqI (y := nI n) (by rw [hx 54 (by decide) (by decide) (by decide)]; exact h0) ?_
      refine p_icmpgtN (tgt := 132) (n + 1) (n) d_Mo_seat_35 (by decide) rfl rfl (by omega) (by omega) (fun h35 => ?_) (fun h35 => ?_)
      · refine p_iload_n d_Mo_seat_132 rfl ?_
        refine p_ifne (tgt := 140) d_Mo_seat_133 (by decide) (fun h133 => ?_) (fun h133 => ?_)
        · have gw : ¬ w = 0 := fun z => h133 (by rw [z]; rfl)
          refine p_iload d_Mo_seat_140 rfl ?_
          refine p_iret d_Mo_seat_142 rfl rfl ?_
          exact ⟨by rw [hF]; simp [pick, stF, gw], rfl, rfl, hx⟩
        · have gw : w = 0 := by
            rcases Nat.eq_zero_or_pos w with z | z
            · exact z
            · exact absurd h133 (nI_ne0 z (by omega))
          refine p_iload_n d_Mo_seat_136 rfl ?_
          refine p_goto (tgt := 142) d_Mo_seat_137 (by decide) ?_
          refine p_iret d_Mo_seat_142 rfl rfl ?_
          exact ⟨by rw [hF]; simp [pick, stF, gw], rfl, rfl, hx⟩
      · exact absurd (by omega) h35
    | succ f ih =>
      intro k b l v I1 hv hkf hx hF
      have hr : ∀ (IA : MemI) (c : Int32), IA 62 = I 54 → up2 IA 62 36 c 62 = upd (I 54) 36 c := fun IA c h => by rw [up2_row, h]
      have hk : ∀ c, okT n (upd (I 54) 36 c) := fun c => okT_upd hok (Or.inr (by omega))
      have hz : ∀ c, upd (I 54) 36 c 0 = nI n := fun c => by rw [upd_ne (by omega)]; exact h0
      have J65 : ∀ (IA : MemI) (c : Int32), c = cvk n k → IA 62 = I 54 → (∀ x, x ≠ 62 → IA x = I1 x) → WP Γ M_Mo_seat (0, 0) S0 IA J 65 [.ref 53, .int (nI q), .int (nI w), .int b, .int l, .int (nI k), v] [.int c, .int 36, .ref 62] (scQ (some (.int (pick w (stF n q (I 54) (n + 1) 0 (-1000009) 1000000)))) I J) := by
        intro IA c ec a1 a2
        have J80 : ∀ (IG : MemI), IG 62 = itS n (upd (I 54) 36 c) q → (∀ x, x ≠ 61 → x ≠ 62 → x ≠ 63 → IG x = I x) → WP Γ M_Mo_seat (0, 0) S0 IG J 80 [.ref 53, .int (nI q), .int (nI w), .int b, .int l, .int (nI k), .int (stA n q (I 54) (cvk n k))] [] (scQ (some (.int (pick w (stF n q (I 54) (n + 1) 0 (-1000009) 1000000)))) I J) := by
          intro IG g1 hg
          have J109 : ∀ z : Int32, (stA n q (I 54) (cvk n k) < l → z = cvn n k) → (¬ stA n q (I 54) (cvk n k) < l → z = b) → WP Γ M_Mo_seat (0, 0) S0 IG J 109 [.ref 53, .int (nI q), .int (nI w), .int b, .int l, .int (nI k), .int (stA n q (I 54) (cvk n k))] [.int z] (scQ (some (.int (pick w (stF n q (I 54) (n + 1) 0 (-1000009) 1000000)))) I J) := by
            intro z z1 z2
            refine p_is_3 d_Mo_seat_109 (by decide) rfl ?_
            refine p_iload d_Mo_seat_110 rfl ?_
            refine p_iload d_Mo_seat_112 rfl ?_
            refine p_icmpge (tgt := 122) d_Mo_seat_114 (by decide) (fun h114 => ?_) (fun h114 => ?_)
            · refine p_iload d_Mo_seat_122 rfl ?_
              refine p_is_4 d_Mo_seat_124 (by decide) rfl ?_
              refine p_incN_5_1 d_Mo_seat_126 (by decide) rfl ?_
              refine p_goto (tgt := 27) d_Mo_seat_129 (by decide) ?_
              refine ih (k + 1) _ _ _ _ rfl (by omega) hg ?_
              rw [hF]
              show (if stA n q (I 54) (cvk n k) < l then _ else _) = _
              first | (rw [if_neg (i32_nlt.mpr h114), z2 (i32_nlt.mpr h114)]; done) | (rw [if_pos (i32_nle.mp h114), z1 (i32_nle.mp h114)]; done)
            · refine p_iload d_Mo_seat_117 rfl ?_
              refine p_goto (tgt := 124) d_Mo_seat_119 (by decide) ?_
              refine p_is_4 d_Mo_seat_124 (by decide) rfl ?_
              refine p_incN_5_1 d_Mo_seat_126 (by decide) rfl ?_
              refine p_goto (tgt := 27) d_Mo_seat_129 (by decide) ?_
              refine ih (k + 1) _ _ _ _ rfl (by omega) hg ?_
              rw [hF]
              show (if stA n q (I 54) (cvk n k) < l then _ else _) = _
              first | (rw [if_neg (i32_nlt.mpr h114), z2 (i32_nlt.mpr h114)]; done) | (rw [if_pos (i32_nle.mp h114), z1 (i32_nle.mp h114)]; done)
          refine p_iload d_Mo_seat_80 rfl ?_
          refine p_iload d_Mo_seat_82 rfl ?_
          refine p_icmpge (tgt := 108) d_Mo_seat_84 (by decide) (fun h84 => ?_) (fun h84 => ?_)
          · refine p_iload_n d_Mo_seat_108 rfl ?_
            refine J109 _ (fun z => ?_) (fun z => ?_)
            · first | exact absurd z (i32_nlt.mpr h84) | (unfold cvn; split <;> first | rfl | omega)
            · first | rfl | exact absurd (i32_nle.mp h84) z
          · refine p_iload d_Mo_seat_87 rfl ?_
            refine p_aload_n d_Mo_seat_89 rfl ?_
            refine p_getR d_Mo_seat_90 fl_Mo_7 kd_53 rfl rf_53_0 ?_
            refine p_ic_0 d_Mo_seat_93 ?_
            refine p_ialdN (0) d_Mo_seat_94 ar_54 rfl (by omega) rfl ?_
            refine p_eqI (y := nI n) (by rw [hg 54 (by decide) (by decide) (by decide)]; exact h0) ?_
            refine p_icmpgeN (tgt := 103) (k) (n) d_Mo_seat_95 (by decide) rfl rfl (by omega) (by omega) (fun h95 => ?_) (fun h95 => ?_)
            · refine p_ldc d_Mo_seat_103 kc_Mo_107 ?_
              refine p_goto (tgt := 109) d_Mo_seat_105 (by decide) ?_
              refine J109 _ (fun z => ?_) (fun z => ?_)
              · first | exact absurd z (i32_nlt.mpr h84) | (unfold cvn; split <;> first | rfl | omega)
              · first | rfl | exact absurd (i32_nle.mp h84) z
            · refine p_iload d_Mo_seat_98 rfl ?_
              refine p_goto (tgt := 109) d_Mo_seat_100 (by decide) ?_
              refine J109 _ (fun z => ?_) (fun z => ?_)
              · first | exact absurd z (i32_nlt.mpr h84) | (unfold cvn; split <;> first | rfl | omega)
              · first | rfl | exact absurd (i32_nle.mp h84) z
        refine p_iastN (36) d_Mo_seat_65 ar_62 rfl (by omega) rfl ?_
        refine p_aload_n d_Mo_seat_66 rfl ?_
        refine p_iload_n d_Mo_seat_67 rfl ?_
        refine q_V d_Mo_seat_68 ml_Mo_151 vb_Mo_go kd_53 ⟨leb rfl, leb rfl⟩ (m_go Γ _ J n (q) (by omega) (by rw [hr IA c a1]; exact hz c) (by rw [hr IA c a1]; exact hk c)) rfl rfl rfl (fun r S1 IG J1 hQ => ?_)
        obtain ⟨rfl, rfl, hJ, g1, g2⟩ := hQ
        obtain rfl := hJ.symm
        refine p_aload_n d_Mo_seat_71 rfl ?_
        refine p_getR d_Mo_seat_72 fl_Mo_35 kd_53 rfl rf_53_15 ?_
        refine q_S1 d_Mo_seat_75 ml_Mo_108 sb_Mo_apart ⟨leb rfl, leb rfl⟩ (m_apart Γ _ J 62 n ar_62 hn (by rw [g1, it_low 0 (by omega) q hn, hr IA c a1]; exact hz c)) rfl rfl rfl ?_
        refine p_eqI (y := stA n q (I 54) (cvk n k)) (by rw [g1, hr IA c a1, ec]; rfl) ?_
        refine p_is_6 d_Mo_seat_78 (by decide) rfl ?_
        refine J80 IG (by rw [g1, hr IA c a1]) (fun x q1 q2 q3 => ?_)
        rw [g2 x q1 q2]
        funext y
        simp only [up2]
        rw [if_neg (fun z => q2 z.1), a2 x q2, hx x q1 q2 q3]
      refine p_iload d_Mo_seat_27 rfl ?_
      refine p_aload_n d_Mo_seat_29 rfl ?_
      refine p_getR d_Mo_seat_30 fl_Mo_7 kd_53 rfl rf_53_0 ?_
      refine p_ic_0 d_Mo_seat_33 ?_
      refine p_ialdN (0) d_Mo_seat_34 ar_54 rfl (by omega) rfl ?_
      refine p_eqI (y := nI n) (by rw [hx 54 (by decide) (by decide) (by decide)]; exact h0) ?_
      refine p_icmpgtN (tgt := 132) (k) (n) d_Mo_seat_35 (by decide) rfl rfl (by omega) (by omega) (fun h35 => ?_) (fun h35 => ?_)
      · exact absurd h35 (by omega)
      · refine p_aload_n d_Mo_seat_38 rfl ?_
        refine q_V d_Mo_seat_39 ml_Mo_148 vb_Mo_asNow kd_53 ⟨leb rfl, leb rfl⟩ (m_asNow' Γ I1 I J (hx 54 (by decide) (by decide) (by decide))) rfl rfl rfl (fun r S1 IA J1 hQ => ?_)
        obtain ⟨rfl, rfl, hJ, a1, a2⟩ := hQ
        obtain rfl := hJ.symm
        refine p_aload_n d_Mo_seat_42 rfl ?_
        refine p_getR d_Mo_seat_43 fl_Mo_35 kd_53 rfl rf_53_15 ?_
        refine p_bi_36 d_Mo_seat_46 ?_
        refine p_iload d_Mo_seat_48 rfl ?_
        refine p_aload_n d_Mo_seat_50 rfl ?_
        refine p_getR d_Mo_seat_51 fl_Mo_7 kd_53 rfl rf_53_0 ?_
        refine p_ic_0 d_Mo_seat_54 ?_
        refine p_ialdN (0) d_Mo_seat_55 ar_54 rfl (by omega) rfl ?_
        refine p_eqI (y := nI n) (by rw [a2 54 (by decide), hx 54 (by decide) (by decide) (by decide)]; exact h0) ?_
        refine p_icmpgeN (tgt := 64) (k) (n) d_Mo_seat_56 (by decide) rfl rfl (by omega) (by omega) (fun h56 => ?_) (fun h56 => ?_)
        · refine p_ic_m1 d_Mo_seat_64 ?_
          exact J65 IA _ (by unfold cvk; split <;> first | rfl | omega) a1 a2
        · refine p_iload d_Mo_seat_59 rfl ?_
          refine p_goto (tgt := 65) d_Mo_seat_61 (by decide) ?_
          exact J65 IA _ (by unfold cvk; split <;> first | rfl | omega) a1 a2
  refine ct_of [.ref 53, .int (nI q), .int (nI w), .null, .null, .null, .null] (by decide +kernel) rfl (leb rfl) rfl ?_
  refine p_iload_n d_Mo_seat_0 rfl ?_
  refine q_S1 d_Mo_seat_1 ml_Mo_159 sb_Mo_isSpan ⟨leb rfl, leb rfl⟩ (c_isSpan Γ S0 I J (nI q)) rfl rfl rfl ?_
  refine p_ifeqB (tgt := 14) d_Mo_seat_4 (by decide) (fun h4 => ?_) (fun h4 => ?_)
  · first | exact absurd (i30 q hq1 hq) h4 | exact absurd (i1 w hw) h11
  · refine p_iload_n d_Mo_seat_7 rfl ?_
    refine q_S1 d_Mo_seat_8 ml_Mo_137 sb_Mo_isTwo ⟨leb rfl, leb rfl⟩ (c_isTwo Γ S0 I J (nI w)) rfl rfl rfl ?_
    refine p_ifneB (tgt := 17) d_Mo_seat_11 (by decide) (fun h11 => ?_) (fun h11 => ?_)
    · refine p_ldc d_Mo_seat_17 kc_Mo_107 ?_
      refine p_is_3 d_Mo_seat_19 (by decide) rfl ?_
      refine p_ldc d_Mo_seat_20 kc_Mo_162 ?_
      refine p_is_4 d_Mo_seat_22 (by decide) rfl ?_
      refine p_ic_0 d_Mo_seat_24 ?_
      refine p_is_5 d_Mo_seat_25 (by decide) rfl ?_
      exact LP (n + 1) 0 _ _ _ I rfl (by omega) (fun x _ _ _ => rfl) rfl
    · first | exact absurd (i30 q hq1 hq) h4 | exact absurd (i1 w hw) h11
def gpF (n ln : Nat) (t : Nat → Int32) (d : Int32) : Nat → Nat → Int32
  | 0, _ => (-1000009)
  | f + 1, g => if grT n (rsT n g (itS n t ln)) ≤ d then nI g else gpF n ln t d f (g + 1)
theorem m_gaps (Γ : Cx) (I : MemI) (J : MemJ) (n : Nat) (hn : n ≤ 6) (h0 : I 54 0 = nI n) (hok : okT n (I 54)) (ln : Nat) (hln : I 54 2 = nI ln) (hl9 : ln ≤ 9) (d : Int32) (hd : 0 ≤ d ∧ d ≤ 99) : Ct Γ M_Mo_gaps [.ref 53, .int d] S0 I J (scQ (some (.int (gpF n ln (I 54) d 10 0))) I J) := by
  have LP : ∀ (f g : Nat) (I1 : MemI), g + f = 10 → (∀ x, x ≠ 61 → x ≠ 62 → x ≠ 63 → I1 x = I x) → gpF n ln (I 54) d 10 0 = gpF n ln (I 54) d f g → WP Γ M_Mo_gaps (0, 0) S0 I1 J 17 [.ref 53, .int d, .int (nI g)] [] (scQ (some (.int (gpF n ln (I 54) d 10 0))) I J) := by
    intro f
    induction f with
    | zero =>
      intro g I1 hgf hx hF
      obtain rfl : g = 10 := by omega
      refine p_iload_n d_Mo_gaps_17 rfl ?_
      refine p_bi_10 d_Mo_gaps_18 ?_
      refine p_icmpgeN (tgt := 64) (10) (10) d_Mo_gaps_20 (by decide) rfl rfl (by omega) (by omega) (fun h20 => ?_) (fun h20 => ?_)
      · refine p_ldc d_Mo_gaps_64 kc_Mo_107 ?_
        refine p_iret d_Mo_gaps_66 rfl rfl ?_
        exact ⟨by rw [hF]; rfl, rfl, rfl, hx⟩
      · exact absurd (Nat.le_refl _) h20
    | succ f ih =>
      intro g I1 hgf hx hF
      refine p_iload_n d_Mo_gaps_17 rfl ?_
      refine p_bi_10 d_Mo_gaps_18 ?_
      refine p_icmpgeN (tgt := 64) (g) (10) d_Mo_gaps_20 (by decide) rfl rfl (by omega) (by omega) (fun h20 => ?_) (fun h20 => ?_)
      · exact absurd h20 (by omega)
      · refine p_aload_n d_Mo_gaps_23 rfl ?_
        refine q_V d_Mo_gaps_24 ml_Mo_148 vb_Mo_asNow kd_53 ⟨leb rfl, leb rfl⟩ (m_asNow' Γ I1 I J (hx 54 (by decide) (by decide) (by decide))) rfl rfl rfl (fun r S1 IA J1 hQ => ?_)
        obtain ⟨rfl, rfl, hJ, a1, a2⟩ := hQ
        obtain rfl := hJ.symm
        refine p_aload_n d_Mo_gaps_27 rfl ?_
        refine p_aload_n d_Mo_gaps_28 rfl ?_
        refine p_getR d_Mo_gaps_29 fl_Mo_7 kd_53 rfl rf_53_0 ?_
        refine p_ic_2 d_Mo_gaps_32 ?_
        refine p_ialdN (2) d_Mo_gaps_33 ar_54 rfl (by omega) rfl ?_
        refine p_eqI (y := nI ln) (by rw [a2 54 (by decide), hx 54 (by decide) (by decide) (by decide)]; exact hln) ?_
        refine q_V d_Mo_gaps_34 ml_Mo_151 vb_Mo_go kd_53 ⟨leb rfl, leb rfl⟩ (m_go Γ _ J n (ln) (by omega) (by rw [a1]; exact h0) (by rw [a1]; exact hok)) rfl rfl rfl (fun r S1 IG J1 hQ => ?_)
        obtain ⟨rfl, rfl, hJ, g1, g2⟩ := hQ
        obtain rfl := hJ.symm
        refine p_aload_n d_Mo_gaps_37 rfl ?_
        refine p_getR d_Mo_gaps_38 fl_Mo_35 kd_53 rfl rf_53_15 ?_
        refine p_iload_n d_Mo_gaps_41 rfl ?_
        refine q_S d_Mo_gaps_42 ml_Mo_127 sb_Mo_rests ⟨leb rfl, leb rfl⟩ (m_rests Γ _ J 62 n g ar_62 hn (by omega) (by rw [g1, it_low 0 (by omega) ln hn, a1]; exact h0)) rfl rfl rfl (fun r S1 IR J1 hQ => ?_)
        obtain ⟨rfl, rfl, hJ, r1, r2⟩ := hQ
        obtain rfl := hJ.symm
        refine p_aload_n d_Mo_gaps_45 rfl ?_
        refine p_getR d_Mo_gaps_46 fl_Mo_35 kd_53 rfl rf_53_15 ?_
        refine q_S1 d_Mo_gaps_49 ml_Mo_163 sb_Mo_greatest ⟨leb rfl, leb rfl⟩ (m_greatest Γ _ J 62 n ar_62 hn (by rw [r1, g1, a1]; unfold rsT; rw [if_neg (by omega), it_low 0 (by omega) ln hn]; exact h0)) rfl rfl rfl ?_
        refine p_iload_n d_Mo_gaps_52 rfl ?_
        refine p_icmpgt (tgt := 58) d_Mo_gaps_53 (by decide) (fun h53 => ?_) (fun h53 => ?_)
        · refine p_incN_2_1 d_Mo_gaps_58 (by decide) rfl ?_
          refine p_goto (tgt := 17) d_Mo_gaps_61 (by decide) ?_
          rw [r1, g1, a1] at h53
          refine ih (g + 1) IR (by omega) (fun x q1 q2 q3 => by rw [r2 x q2, g2 x q1 q2, a2 x q2, hx x q1 q2 q3]) ?_
          rw [hF]
          show (if grT n (rsT n g (itS n (I 54) ln)) ≤ d then _ else _) = _
          rw [if_neg (i32_nle.mpr h53)]
        · refine p_iload_n d_Mo_gaps_56 rfl ?_
          refine p_iret d_Mo_gaps_57 rfl rfl ?_
          rw [r1, g1, a1] at h53
          refine ⟨?_, rfl, rfl, fun x q1 q2 q3 => by rw [r2 x q2, g2 x q1 q2, a2 x q2, hx x q1 q2 q3]⟩
          rw [hF]
          show _ = some (Value.int (if grT n (rsT n g (itS n (I 54) ln)) ≤ d then _ else _))
          rw [if_pos (i32_nlt.mp h53)]
  refine ct_of [.ref 53, .int d, .null] (by decide +kernel) rfl (leb rfl) rfl ?_
  refine p_iload_n d_Mo_gaps_0 rfl ?_
  refine p_i2l d_Mo_gaps_1 ?_
  refine p_lc_0 d_Mo_gaps_2 ?_
  refine p_ldc2 d_Mo_gaps_3 kl_Mo_166 ?_
  refine q_S1 d_Mo_gaps_6 ml_Mo_45 sb_Mo_in ⟨leb rfl, leb rfl⟩ (c_in Γ _ _ _ d 0 99 (by decide) (by decide)) rfl rfl rfl ?_
  refine p_ifneB (tgt := 15) d_Mo_gaps_9 (by decide) (fun h9 => ?_) (fun h9 => ?_)
  · refine p_ic_0 d_Mo_gaps_15 ?_
    refine p_is_2 d_Mo_gaps_16 (by decide) rfl ?_
    exact LP 10 0 I (by omega) (fun x _ _ _ => rfl) rfl
  · exact absurd hd h9
theorem m_gaps_bad (Γ : Cx) (I : MemI) (J : MemJ) (d : Int32) (hb : ¬ (0 ≤ d ∧ d ≤ 99)) : Ct Γ M_Mo_gaps [.ref 53, .int d] S0 I J (eqQ (some (.int (-1000001))) S0 I J) := by
  refine ct_of [.ref 53, .int d, .null] (by decide +kernel) rfl (leb rfl) rfl ?_
  refine p_iload_n d_Mo_gaps_0 rfl ?_
  refine p_i2l d_Mo_gaps_1 ?_
  refine p_lc_0 d_Mo_gaps_2 ?_
  refine p_ldc2 d_Mo_gaps_3 kl_Mo_166 ?_
  refine q_S1 d_Mo_gaps_6 ml_Mo_45 sb_Mo_in ⟨leb rfl, leb rfl⟩ (c_in Γ _ _ _ d 0 99 (by decide) (by decide)) rfl rfl rfl ?_
  refine p_ifneB (tgt := 15) d_Mo_gaps_9 (by decide) (fun h9 => ?_) (fun h9 => ?_)
  · exact absurd h9 hb
  · refine p_ldc d_Mo_gaps_12 kc_Mo_51 ?_
    refine p_iret d_Mo_gaps_14 rfl rfl ?_
    exact ⟨rfl, rfl, rfl, rfl⟩
