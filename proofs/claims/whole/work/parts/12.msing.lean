/-! ===== the reference sings ===== -/
theorem m_from (Γ : Cx) (I : MemI) (J : MemJ) (tc k e : Nat) (ht : ar S0 tc 10 39) (hk : k < 6) (he : e < 6) : Ct Γ M_Mo_from [.ref tc, .int (nI k), .int (nI e)] S0 I J (eqQ (some (.int (frT (I tc) k e))) S0 I J) := by
  refine ct_of [.ref tc, .int (nI k), .int (nI e), .null] (by decide +kernel) rfl (leb rfl) rfl ?_
  refine p_aload_n d_Mo_from_0 rfl ?_
  refine p_ic_4 d_Mo_from_1 ?_
  refine p_iload_n d_Mo_from_2 rfl ?_
  refine p_iaddN (4) (k) d_Mo_from_3 rfl rfl ?_
  refine p_ialdN (4 + k) d_Mo_from_4 ht rfl (by omega) rfl ?_
  refine p_aload_n d_Mo_from_5 rfl ?_
  refine p_ic_4 d_Mo_from_6 ?_
  refine p_iload_n d_Mo_from_7 rfl ?_
  refine p_iaddN (4) (e) d_Mo_from_8 rfl rfl ?_
  refine p_ialdN (4 + e) d_Mo_from_9 ht rfl (by omega) rfl ?_
  refine p_isub d_Mo_from_10 ?_
  refine p_is_3 d_Mo_from_11 (by decide) rfl ?_
  refine p_aload_n d_Mo_from_12 rfl ?_
  refine p_bi_28 d_Mo_from_13 ?_
  refine p_iload_n d_Mo_from_15 rfl ?_
  refine p_iaddN (28) (e) d_Mo_from_16 rfl rfl ?_
  refine p_ialdN (28 + e) d_Mo_from_17 ht rfl (by omega) rfl ?_
  refine p_iload_n d_Mo_from_18 rfl ?_
  refine p_ifge (tgt := 27) d_Mo_from_19 (by decide) (fun h19 => ?_) (fun h19 => ?_)
  · refine p_iload_n d_Mo_from_27 rfl ?_
    refine p_bi_6 d_Mo_from_28 ?_
    refine p_idiv d_Mo_from_30 (by decide) ?_
    refine p_iadd d_Mo_from_31 ?_
    refine p_iret d_Mo_from_32 rfl rfl ?_
    exact ⟨by simp [frT, ab, h19], rfl, rfl, rfl⟩
  · refine p_iload_n d_Mo_from_22 rfl ?_
    refine p_ineg d_Mo_from_23 ?_
    refine p_goto (tgt := 28) d_Mo_from_24 (by decide) ?_
    refine p_bi_6 d_Mo_from_28 ?_
    refine p_idiv d_Mo_from_30 (by decide) ?_
    refine p_iadd d_Mo_from_31 ?_
    refine p_iret d_Mo_from_32 rfl rfl ?_
    exact ⟨by simp [frT, ab, h19], rfl, rfl, rfl⟩
theorem m_lateThen (Γ : Cx) (I : MemI) (J : MemJ) (tc n k : Nat) (ht : ar S0 tc 10 39) (hn : n ≤ 6) (h0 : I tc 0 = nI n) (hk : k < n) (hz : ¬ (I tc (10 + k) + nrT n (I tc) k + 5 = 0)) : Ct Γ M_Mo_lateThen [.ref tc, .int (nI k)] S0 I J (eqQ (some (.int (ltT n (I tc) k))) S0 I J) := by
  have J74 : ∀ (s m a b : Int32), a = nrT n (I tc) k → b = mnT n (I tc) k → WP Γ M_Mo_lateThen (0, 0) S0 I J 74 [.ref tc, .int (nI k), .int s, .int m, .int a, .int b, .null, .null] [] (eqQ (some (.int (ltT n (I tc) k))) S0 I J) := by
    intro s m a b ea eb
    refine p_aload_n d_Mo_lateThen_74 rfl ?_
    refine p_bi_10 d_Mo_lateThen_75 ?_
    refine p_iload_n d_Mo_lateThen_77 rfl ?_
    refine p_iaddN (10) (k) d_Mo_lateThen_78 rfl rfl ?_
    refine p_ialdN (10 + k) d_Mo_lateThen_79 ht rfl (by omega) rfl ?_
    refine p_aload_n d_Mo_lateThen_80 rfl ?_
    refine p_ic_4 d_Mo_lateThen_81 ?_
    refine p_iload_n d_Mo_lateThen_82 rfl ?_
    refine p_iaddN (4) (k) d_Mo_lateThen_83 rfl rfl ?_
    refine p_ialdN (4 + k) d_Mo_lateThen_84 ht rfl (by omega) rfl ?_
    refine p_bi_6 d_Mo_lateThen_85 ?_
    refine p_idiv d_Mo_lateThen_87 (by decide) ?_
    refine p_aload_n d_Mo_lateThen_88 rfl ?_
    refine p_bi_35 d_Mo_lateThen_89 ?_
    refine p_ialdN (35) d_Mo_lateThen_91 ht rfl (by omega) rfl ?_
    refine p_isub d_Mo_lateThen_92 ?_
    refine p_imul d_Mo_lateThen_93 ?_
    refine p_iload d_Mo_lateThen_94 rfl ?_
    refine p_iload d_Mo_lateThen_96 rfl ?_
    refine p_imul d_Mo_lateThen_98 ?_
    refine p_iadd d_Mo_lateThen_99 ?_
    refine p_ic_5 d_Mo_lateThen_100 ?_
    refine p_aload_n d_Mo_lateThen_101 rfl ?_
    refine p_bi_28 d_Mo_lateThen_102 ?_
    refine p_iload_n d_Mo_lateThen_104 rfl ?_
    refine p_iaddN (28) (k) d_Mo_lateThen_105 rfl rfl ?_
    refine p_ialdN (28 + k) d_Mo_lateThen_106 ht rfl (by omega) rfl ?_
    refine p_imul d_Mo_lateThen_107 ?_
    refine p_iadd d_Mo_lateThen_108 ?_
    refine p_is_6 d_Mo_lateThen_109 (by decide) rfl ?_
    refine p_iload d_Mo_lateThen_111 rfl ?_
    refine p_aload_n d_Mo_lateThen_113 rfl ?_
    refine p_bi_10 d_Mo_lateThen_114 ?_
    refine p_iload_n d_Mo_lateThen_116 rfl ?_
    refine p_iaddN (10) (k) d_Mo_lateThen_117 rfl rfl ?_
    refine p_ialdN (10 + k) d_Mo_lateThen_118 ht rfl (by omega) rfl ?_
    refine p_iload d_Mo_lateThen_119 rfl ?_
    refine p_iadd d_Mo_lateThen_121 ?_
    refine p_ic_5 d_Mo_lateThen_122 ?_
    refine p_iadd d_Mo_lateThen_123 ?_
    refine p_idiv d_Mo_lateThen_124 (by rw [ea]; exact hz) ?_
    refine p_aload_n d_Mo_lateThen_125 rfl ?_
    refine p_bi_37 d_Mo_lateThen_126 ?_
    refine p_ialdN (37) d_Mo_lateThen_128 ht rfl (by omega) rfl ?_
    refine p_iload_n d_Mo_lateThen_129 rfl ?_
    refine p_ishr d_Mo_lateThen_130 ?_
    refine p_ic_1 d_Mo_lateThen_131 ?_
    refine p_iand d_Mo_lateThen_132 ?_
    refine p_ic_1 d_Mo_lateThen_133 ?_
    refine p_icmpne (tgt := 141) d_Mo_lateThen_134 (by decide) (fun h134 => ?_) (fun h134 => ?_)
    · refine p_aload_n d_Mo_lateThen_141 rfl ?_
      refine p_bi_22 d_Mo_lateThen_142 ?_
      refine p_iload_n d_Mo_lateThen_144 rfl ?_
      refine p_iaddN (22) (k) d_Mo_lateThen_145 rfl rfl ?_
      refine p_ialdN (22 + k) d_Mo_lateThen_146 ht rfl (by omega) rfl ?_
      refine p_iadd d_Mo_lateThen_147 ?_
      refine p_is_7 d_Mo_lateThen_148 (by decide) rfl ?_
      refine p_iload d_Mo_lateThen_150 rfl ?_
      refine p_bi_m99 d_Mo_lateThen_152 ?_
      refine p_icmpge (tgt := 162) d_Mo_lateThen_154 (by decide) (fun h154 => ?_) (fun h154 => ?_)
      · refine p_iload d_Mo_lateThen_162 rfl ?_
        refine p_si_999 d_Mo_lateThen_164 ?_
        refine p_icmple (tgt := 176) d_Mo_lateThen_167 (by decide) (fun h167 => ?_) (fun h167 => ?_)
        · refine p_iload d_Mo_lateThen_176 rfl ?_
          refine p_iret d_Mo_lateThen_178 rfl rfl ?_
          refine ⟨?_, rfl, rfl, rfl⟩
          simp only [ltT, clT, vT, ← ea, ← eb, h134, if_true, if_false]
          first | rw [if_pos (i32_nle.mp h154)] | (rw [if_neg (i32_nlt.mpr h154)]; first | rw [if_neg (i32_nlt.mpr h167)] | rw [if_pos (i32_nle.mp h167)])
        · refine p_si_999 d_Mo_lateThen_170 ?_
          refine p_goto (tgt := 178) d_Mo_lateThen_173 (by decide) ?_
          refine p_iret d_Mo_lateThen_178 rfl rfl ?_
          refine ⟨?_, rfl, rfl, rfl⟩
          simp only [ltT, clT, vT, ← ea, ← eb, h134, if_true, if_false]
          first | rw [if_pos (i32_nle.mp h154)] | (rw [if_neg (i32_nlt.mpr h154)]; first | rw [if_neg (i32_nlt.mpr h167)] | rw [if_pos (i32_nle.mp h167)])
      · refine p_bi_m99 d_Mo_lateThen_157 ?_
        refine p_goto (tgt := 178) d_Mo_lateThen_159 (by decide) ?_
        refine p_iret d_Mo_lateThen_178 rfl rfl ?_
        refine ⟨?_, rfl, rfl, rfl⟩
        simp only [ltT, clT, vT, ← ea, ← eb, h134, if_true, if_false]
        first | rw [if_pos (i32_nle.mp h154)] | (rw [if_neg (i32_nlt.mpr h154)]; first | rw [if_neg (i32_nlt.mpr h167)] | rw [if_pos (i32_nle.mp h167)])
    · refine p_ic_0 d_Mo_lateThen_137 ?_
      refine p_goto (tgt := 147) d_Mo_lateThen_138 (by decide) ?_
      refine p_iadd d_Mo_lateThen_147 ?_
      refine p_is_7 d_Mo_lateThen_148 (by decide) rfl ?_
      refine p_iload d_Mo_lateThen_150 rfl ?_
      refine p_bi_m99 d_Mo_lateThen_152 ?_
      refine p_icmpge (tgt := 162) d_Mo_lateThen_154 (by decide) (fun h154 => ?_) (fun h154 => ?_)
      · refine p_iload d_Mo_lateThen_162 rfl ?_
        refine p_si_999 d_Mo_lateThen_164 ?_
        refine p_icmple (tgt := 176) d_Mo_lateThen_167 (by decide) (fun h167 => ?_) (fun h167 => ?_)
        · refine p_iload d_Mo_lateThen_176 rfl ?_
          refine p_iret d_Mo_lateThen_178 rfl rfl ?_
          refine ⟨?_, rfl, rfl, rfl⟩
          simp only [ltT, clT, vT, ← ea, ← eb, h134, if_true, if_false]
          first | rw [if_pos (i32_nle.mp h154)] | (rw [if_neg (i32_nlt.mpr h154)]; first | rw [if_neg (i32_nlt.mpr h167)] | rw [if_pos (i32_nle.mp h167)])
        · refine p_si_999 d_Mo_lateThen_170 ?_
          refine p_goto (tgt := 178) d_Mo_lateThen_173 (by decide) ?_
          refine p_iret d_Mo_lateThen_178 rfl rfl ?_
          refine ⟨?_, rfl, rfl, rfl⟩
          simp only [ltT, clT, vT, ← ea, ← eb, h134, if_true, if_false]
          first | rw [if_pos (i32_nle.mp h154)] | (rw [if_neg (i32_nlt.mpr h154)]; first | rw [if_neg (i32_nlt.mpr h167)] | rw [if_pos (i32_nle.mp h167)])
      · refine p_bi_m99 d_Mo_lateThen_157 ?_
        refine p_goto (tgt := 178) d_Mo_lateThen_159 (by decide) ?_
        refine p_iret d_Mo_lateThen_178 rfl rfl ?_
        refine ⟨?_, rfl, rfl, rfl⟩
        simp only [ltT, clT, vT, ← ea, ← eb, h134, if_true, if_false]
        first | rw [if_pos (i32_nle.mp h154)] | (rw [if_neg (i32_nlt.mpr h154)]; first | rw [if_neg (i32_nlt.mpr h167)] | rw [if_pos (i32_nle.mp h167)])
  have J45 : ∀ (s m : Int32), s = smT n (I tc) k → m = nI (myT n k) → WP Γ M_Mo_lateThen (0, 0) S0 I J 45 [.ref tc, .int (nI k), .int s, .int m, .null, .null, .null, .null] [] (eqQ (some (.int (ltT n (I tc) k))) S0 I J) := by
    intro s m es em
    have hm : m = 0 ↔ myT n k = 0 := by
      rw [em]
      exact nI_eq (b := 0) (by unfold myT; split <;> split <;> omega) (by omega)
    refine p_iload_n d_Mo_lateThen_45 rfl ?_
    refine p_ifne (tgt := 53) d_Mo_lateThen_46 (by decide) (fun h46 => ?_) (fun h46 => ?_)
    · refine p_aload_n d_Mo_lateThen_53 rfl ?_
      refine p_bi_16 d_Mo_lateThen_54 ?_
      refine p_iload_n d_Mo_lateThen_56 rfl ?_
      refine p_iaddN (16) (k) d_Mo_lateThen_57 rfl rfl ?_
      refine p_ialdN (16 + k) d_Mo_lateThen_58 ht rfl (by omega) rfl ?_
      refine p_is_4 d_Mo_lateThen_59 (by decide) rfl ?_
      refine p_iload_n d_Mo_lateThen_61 rfl ?_
      refine p_ifne (tgt := 69) d_Mo_lateThen_62 (by decide) (fun h62 => ?_) (fun h62 => ?_)
      · refine p_iload_n d_Mo_lateThen_69 rfl ?_
        refine p_iload_n d_Mo_lateThen_70 rfl ?_
        refine p_idiv d_Mo_lateThen_71 (h62) ?_
        refine p_is_5 d_Mo_lateThen_72 (by decide) rfl ?_
        exact J74 _ _ _ _ (by simp [nrT, ← hm, h46]) (by unfold mnT; rw [← es, ← em]; simp [← hm, h62])
      · refine p_ic_0 d_Mo_lateThen_65 ?_
        refine p_goto (tgt := 72) d_Mo_lateThen_66 (by decide) ?_
        refine p_is_5 d_Mo_lateThen_72 (by decide) rfl ?_
        exact J74 _ _ _ _ (by simp [nrT, ← hm, h46]) (by unfold mnT; rw [← es, ← em]; simp [← hm, h62])
    · refine p_ic_0 d_Mo_lateThen_49 ?_
      refine p_goto (tgt := 59) d_Mo_lateThen_50 (by decide) ?_
      refine p_is_4 d_Mo_lateThen_59 (by decide) rfl ?_
      refine p_iload_n d_Mo_lateThen_61 rfl ?_
      refine p_ifne (tgt := 69) d_Mo_lateThen_62 (by decide) (fun h62 => ?_) (fun h62 => ?_)
      · refine p_iload_n d_Mo_lateThen_69 rfl ?_
        refine p_iload_n d_Mo_lateThen_70 rfl ?_
        refine p_idiv d_Mo_lateThen_71 (h62) ?_
        refine p_is_5 d_Mo_lateThen_72 (by decide) rfl ?_
        exact J74 _ _ _ _ (by simp [nrT, ← hm, h46]) (by unfold mnT; rw [← es, ← em]; simp [← hm, h62])
      · refine p_ic_0 d_Mo_lateThen_65 ?_
        refine p_goto (tgt := 72) d_Mo_lateThen_66 (by decide) ?_
        refine p_is_5 d_Mo_lateThen_72 (by decide) rfl ?_
        exact J74 _ _ _ _ (by simp [nrT, ← hm, h46]) (by unfold mnT; rw [← es, ← em]; simp [← hm, h62])
  refine ct_of [.ref tc, .int (nI k), .null, .null, .null, .null, .null, .null] (by decide +kernel) rfl (leb rfl) rfl ?_
  refine p_ic_0 d_Mo_lateThen_0 ?_
  refine p_is_2 d_Mo_lateThen_1 (by decide) rfl ?_
  refine p_ic_0 d_Mo_lateThen_2 ?_
  refine p_is_3 d_Mo_lateThen_3 (by decide) rfl ?_
  refine p_iload_n d_Mo_lateThen_4 rfl ?_
  refine p_ifle (tgt := 22) d_Mo_lateThen_5 (by decide) (fun h5 => ?_) (fun h5 => ?_)
  · have g5 : ¬ 0 < k := fun q => i32_nlt.mpr h5 ((nI_ltI (a := 0) (by omega) (by omega)).mpr q)
    refine p_iload_n d_Mo_lateThen_22 rfl ?_
    refine p_aload_n d_Mo_lateThen_23 rfl ?_
    refine p_ic_0 d_Mo_lateThen_24 ?_
    refine p_ialdN (0) d_Mo_lateThen_25 ht rfl (by omega) rfl ?_
    refine p_eqI h0 ?_
    refine p_ic_1 d_Mo_lateThen_26 ?_
    refine p_isubN (n) (1) d_Mo_lateThen_27 rfl rfl (by omega) ?_
    refine p_icmpgeN (tgt := 45) (k) (n - 1) d_Mo_lateThen_28 (by decide) rfl rfl (by omega) (by omega) (fun h28 => ?_) (fun h28 => ?_)
    · exact J45 _ _ (by first | (simp [smT, s1T, g5, show k + 1 < n by omega]; done) | (simp [smT, s1T, g5, show ¬ k + 1 < n by omega]; done)) (by first | (simp [myT, g5, show k + 1 < n by omega, nI_0]; done) | (simp [myT, g5, show ¬ k + 1 < n by omega, nI_0]; done))
    · refine p_iload_n d_Mo_lateThen_31 rfl ?_
      refine p_aload_n d_Mo_lateThen_32 rfl ?_
      refine p_iload_n d_Mo_lateThen_33 rfl ?_
      refine p_iload_n d_Mo_lateThen_34 rfl ?_
      refine p_ic_1 d_Mo_lateThen_35 ?_
      refine p_iaddN (k) (1) d_Mo_lateThen_36 rfl rfl ?_
      refine q_S1 d_Mo_lateThen_37 ml_Mo_112 sb_Mo_from ⟨leb rfl, leb rfl⟩ (m_from Γ I J tc k (k + 1) ht (by omega) (by omega)) rfl rfl rfl ?_
      refine p_iadd d_Mo_lateThen_40 ?_
      refine p_is_2 d_Mo_lateThen_41 (by decide) rfl ?_
      refine p_incN_3_1 d_Mo_lateThen_42 (by decide) rfl ?_
      exact J45 _ _ (by first | (simp [smT, s1T, g5, show k + 1 < n by omega]; done) | (simp [smT, s1T, g5, show ¬ k + 1 < n by omega]; done)) (by first | (simp [myT, g5, show k + 1 < n by omega, nI_0]; done) | (simp [myT, g5, show ¬ k + 1 < n by omega, nI_0]; done))
  · have g5 : 0 < k := by
      rcases Nat.eq_zero_or_pos k with q | q
      · exact absurd (by rw [q]; decide) h5
      · exact q
    refine p_iload_n d_Mo_lateThen_8 rfl ?_
    refine p_aload_n d_Mo_lateThen_9 rfl ?_
    refine p_iload_n d_Mo_lateThen_10 rfl ?_
    refine p_iload_n d_Mo_lateThen_11 rfl ?_
    refine p_ic_1 d_Mo_lateThen_12 ?_
    refine p_isubN (k) (1) d_Mo_lateThen_13 rfl rfl (by omega) ?_
    refine q_S1 d_Mo_lateThen_14 ml_Mo_112 sb_Mo_from ⟨leb rfl, leb rfl⟩ (m_from Γ I J tc k (k - 1) ht (by omega) (by omega)) rfl rfl rfl ?_
    refine p_iadd d_Mo_lateThen_17 ?_
    refine p_is_2 d_Mo_lateThen_18 (by decide) rfl ?_
    refine p_incN_3_1 d_Mo_lateThen_19 (by decide) rfl ?_
    refine p_iload_n d_Mo_lateThen_22 rfl ?_
    refine p_aload_n d_Mo_lateThen_23 rfl ?_
    refine p_ic_0 d_Mo_lateThen_24 ?_
    refine p_ialdN (0) d_Mo_lateThen_25 ht rfl (by omega) rfl ?_
    refine p_eqI h0 ?_
    refine p_ic_1 d_Mo_lateThen_26 ?_
    refine p_isubN (n) (1) d_Mo_lateThen_27 rfl rfl (by omega) ?_
    refine p_icmpgeN (tgt := 45) (k) (n - 1) d_Mo_lateThen_28 (by decide) rfl rfl (by omega) (by omega) (fun h28 => ?_) (fun h28 => ?_)
    · exact J45 _ _ (by first | (simp [smT, s1T, g5, show k + 1 < n by omega]; done) | (simp [smT, s1T, g5, show ¬ k + 1 < n by omega]; done)) (by first | (simp [myT, g5, show k + 1 < n by omega, nI_0]; done) | (simp [myT, g5, show ¬ k + 1 < n by omega, nI_0]; done))
    · refine p_iload_n d_Mo_lateThen_31 rfl ?_
      refine p_aload_n d_Mo_lateThen_32 rfl ?_
      refine p_iload_n d_Mo_lateThen_33 rfl ?_
      refine p_iload_n d_Mo_lateThen_34 rfl ?_
      refine p_ic_1 d_Mo_lateThen_35 ?_
      refine p_iaddN (k) (1) d_Mo_lateThen_36 rfl rfl ?_
      refine q_S1 d_Mo_lateThen_37 ml_Mo_112 sb_Mo_from ⟨leb rfl, leb rfl⟩ (m_from Γ I J tc k (k + 1) ht (by omega) (by omega)) rfl rfl rfl ?_
      refine p_iadd d_Mo_lateThen_40 ?_
      refine p_is_2 d_Mo_lateThen_41 (by decide) rfl ?_
      refine p_incN_3_1 d_Mo_lateThen_42 (by decide) rfl ?_
      exact J45 _ _ (by first | (simp [smT, s1T, g5, show k + 1 < n by omega]; done) | (simp [smT, s1T, g5, show ¬ k + 1 < n by omega]; done)) (by first | (simp [myT, g5, show k + 1 < n by omega, nI_0]; done) | (simp [myT, g5, show ¬ k + 1 < n by omega, nI_0]; done))
theorem okD_th {n : Nat} {t : Nat → Int32} : True := trivial
/-- row tc is another one; row 61 is scratch -/
def rwQ (tc : Nat) (I : MemI) (J : MemJ) (row : Nat → Int32) : PQ := fun r S' I' J' => r = none ∧ S' = S0 ∧ J' = J ∧ I' tc = row ∧ ∀ x, x ≠ 61 → x ≠ tc → I' x = I x
theorem m_sings (Γ : Cx) (I : MemI) (J : MemJ) (tc n : Nat) (ht : ar S0 tc 10 39) (hx : tc ≠ 61) (hn : n ≤ 6) (h0 : I tc 0 = nI n) (hz : okD n (I tc)) : Ct Γ M_Mo_sings [.ref 53, .ref tc] S0 I J (rwQ tc I J (singT n (I tc))) := by
  -- behind the second loop
  have K122 : ∀ (s : Int32) (I1 : MemI), (∀ x, x ≠ 61 → x ≠ tc → I1 x = I x) → (∀ y, I1 tc y = if 28 ≤ y ∧ y < 28 + n then thT n (I tc) (y - 28) - wT n (I tc) else I tc y) → WP Γ M_Mo_sings (0, 0) S0 I1 J 122 [.ref 53, .ref tc, .int (nI n), .int s, .int (wT n (I tc)), .int (nI n)] [] (rwQ tc I J (singT n (I tc))) := by
    intro s I1 hf hr
    have e34 : I1 tc 34 = I tc 34 := by rw [hr, if_neg (by omega)]
    have e38 : I1 tc 38 = I tc 38 := by rw [hr, if_neg (by omega)]
    refine p_aload_n d_Mo_sings_122 rfl ?_
    refine p_bi_34 d_Mo_sings_123 ?_
    refine p_ialdN (34) d_Mo_sings_125 ht rfl (by omega) rfl ?_
    refine p_iload d_Mo_sings_126 rfl ?_
    refine p_iadd d_Mo_sings_128 ?_
    refine p_is_5 d_Mo_sings_129 (by decide) rfl ?_
    refine p_aload_n d_Mo_sings_131 rfl ?_
    refine p_bi_34 d_Mo_sings_132 ?_
    refine p_iload d_Mo_sings_134 rfl ?_
    refine p_si_9999 d_Mo_sings_136 ?_
    refine p_icmple (tgt := 148) d_Mo_sings_139 (by decide) (fun h139 => ?_) (fun h139 => ?_)
    · refine p_iload d_Mo_sings_148 rfl ?_
      refine p_iastN (34) d_Mo_sings_150 ht rfl (by omega) rfl ?_
      refine p_aload_n d_Mo_sings_151 rfl ?_
      refine p_bi_38 d_Mo_sings_152 ?_
      refine p_dup2 d_Mo_sings_154 rfl rfl ?_
      refine p_ialdN (38) d_Mo_sings_155 ht rfl (by omega) rfl ?_
      refine p_ic_1 d_Mo_sings_156 ?_
      refine p_iadd d_Mo_sings_157 ?_
      refine p_iastN (38) d_Mo_sings_158 ht rfl (by omega) rfl ?_
      refine p_ret d_Mo_sings_159 rfl ?_
      refine ⟨rfl, rfl, rfl, ?_, ?_⟩
      · funext y
        simp only [up2, singT, capT, e34, e38, true_and, hr y]
        by_cases q1 : 28 ≤ y ∧ y < 28 + n
        · rw [if_neg (by omega), if_neg (by omega)]
          simp [q1]
        · by_cases q2 : y = 38
          · subst q2
            rw [if_pos rfl, if_neg (by omega), if_neg (by omega)]
            simp
          · by_cases q3 : y = 34
            · subst q3
              rw [e34] at h139
              have q4 : ¬ 34 < 28 + n := by omega
              first | (simp [i32_nlt.mpr h139, q4]; done) | (simp [i32_nle.mp h139, q4]; done)
            · simp [q1, q2, q3]
      · intro x a1 a2
        funext y
        simp only [up2]
        rw [if_neg (fun q => a2 q.1), if_neg (fun q => a2 q.1), hf x a1 a2]
    · refine p_si_9999 d_Mo_sings_142 ?_
      refine p_goto (tgt := 150) d_Mo_sings_145 (by decide) ?_
      refine p_iastN (34) d_Mo_sings_150 ht rfl (by omega) rfl ?_
      refine p_aload_n d_Mo_sings_151 rfl ?_
      refine p_bi_38 d_Mo_sings_152 ?_
      refine p_dup2 d_Mo_sings_154 rfl rfl ?_
      refine p_ialdN (38) d_Mo_sings_155 ht rfl (by omega) rfl ?_
      refine p_ic_1 d_Mo_sings_156 ?_
      refine p_iadd d_Mo_sings_157 ?_
      refine p_iastN (38) d_Mo_sings_158 ht rfl (by omega) rfl ?_
      refine p_ret d_Mo_sings_159 rfl ?_
      refine ⟨rfl, rfl, rfl, ?_, ?_⟩
      · funext y
        simp only [up2, singT, capT, e34, e38, true_and, hr y]
        by_cases q1 : 28 ≤ y ∧ y < 28 + n
        · rw [if_neg (by omega), if_neg (by omega)]
          simp [q1]
        · by_cases q2 : y = 38
          · subst q2
            rw [if_pos rfl, if_neg (by omega), if_neg (by omega)]
            simp
          · by_cases q3 : y = 34
            · subst q3
              rw [e34] at h139
              have q4 : ¬ 34 < 28 + n := by omega
              first | (simp [i32_nlt.mpr h139, q4]; done) | (simp [i32_nle.mp h139, q4]; done)
            · simp [q1, q2, q3]
      · intro x a1 a2
        funext y
        simp only [up2]
        rw [if_neg (fun q => a2 q.1), if_neg (fun q => a2 q.1), hf x a1 a2]
  have L93 : ∀ (f k : Nat) (s : Int32) (I1 : MemI), k + f = n → (∀ x, x ≠ 61 → x ≠ tc → I1 x = I x) → (∀ j, j < n → I1 61 j = thT n (I tc) j) → (∀ y, I1 tc y = if 28 ≤ y ∧ y < 28 + k then thT n (I tc) (y - 28) - wT n (I tc) else I tc y) → WP Γ M_Mo_sings (0, 0) S0 I1 J 93 [.ref 53, .ref tc, .int (nI n), .int s, .int (wT n (I tc)), .int (nI k)] [] (rwQ tc I J (singT n (I tc))) := by
    intro f
    induction f with
    | zero =>
      intro k s I1 hkf hf hr ht1
      obtain rfl : k = n := by omega
      refine p_iload d_Mo_sings_93 rfl ?_
      refine p_iload_n d_Mo_sings_95 rfl ?_
      refine p_icmpgeN (tgt := 122) (k) (k) d_Mo_sings_96 (by decide) rfl rfl (by omega) (by omega) (fun h96 => ?_) (fun h96 => ?_)
      · exact K122 s I1 hf ht1
      · exact absurd (Nat.le_refl _) h96
    | succ f ih =>
      intro k s I1 hkf hf hr ht1
      refine p_iload d_Mo_sings_93 rfl ?_
      refine p_iload_n d_Mo_sings_95 rfl ?_
      refine p_icmpgeN (tgt := 122) (k) (n) d_Mo_sings_96 (by decide) rfl rfl (by omega) (by omega) (fun h96 => ?_) (fun h96 => ?_)
      · exact absurd h96 (by omega)
      · refine p_aload_n d_Mo_sings_99 rfl ?_
        refine p_bi_28 d_Mo_sings_100 ?_
        refine p_iload d_Mo_sings_102 rfl ?_
        refine p_iaddN (28) (k) d_Mo_sings_104 rfl rfl ?_
        refine p_aload_n d_Mo_sings_105 rfl ?_
        refine p_getR d_Mo_sings_106 fl_Mo_32 kd_53 rfl rf_53_14 ?_
        refine p_iload d_Mo_sings_109 rfl ?_
        refine p_ialdN (k) d_Mo_sings_111 ar_61 rfl (by omega) rfl ?_
        refine p_iload d_Mo_sings_112 rfl ?_
        refine p_isub d_Mo_sings_114 ?_
        refine p_iastN (28 + k) d_Mo_sings_115 ht rfl (by omega) rfl ?_
        refine p_incN_5_1 d_Mo_sings_116 (by decide) rfl ?_
        refine p_goto (tgt := 93) d_Mo_sings_119 (by decide) ?_
        refine ih (k + 1) s _ (by omega) (fun x a1 a2 => ?_) (fun j hj => ?_) (fun y => ?_)
        · funext y
          simp only [up2]
          rw [if_neg (fun q => a2 q.1), hf x a1 a2]
        · simp only [up2]
          rw [if_neg (fun q => hx q.1.symm), hr j hj]
        · simp only [up2, true_and, ht1 y]
          by_cases q1 : y = 28 + k
          · subst q1
            rw [if_pos rfl, if_pos (by omega), hr k (by omega), show 28 + k - 28 = k by omega]
          · rw [if_neg q1]
            by_cases q2 : 28 ≤ y ∧ y < 28 + k
            · rw [if_pos q2, if_pos (by omega)]
            · rw [if_neg q2, if_neg (by omega)]
  have L9 : ∀ (f k : Nat) (I1 : MemI), k + f = n → (∀ x, x ≠ 61 → I1 x = I x) → (∀ j, j < k → I1 61 j = thT n (I tc) j) → WP Γ M_Mo_sings (0, 0) S0 I1 J 9 [.ref 53, .ref tc, .int (nI n), .int (sumN (thT n (I tc)) k), .int (nI k), .null] [] (rwQ tc I J (singT n (I tc))) := by
    intro f
    induction f with
    | zero =>
      intro k I1 hkf hf hr
      obtain rfl : k = n := by omega
      have et : I1 tc = I tc := hf tc hx
      have J90 : ∀ w : Int32, w = wT k (I tc) → WP Γ M_Mo_sings (0, 0) S0 I1 J 90 [.ref 53, .ref tc, .int (nI k), .int (sumN (thT k (I tc)) k), .int w, .null] [] (rwQ tc I J (singT k (I tc))) := by
        intro w ew
        subst ew
        refine p_ic_0 d_Mo_sings_90 ?_
        refine p_is_5 d_Mo_sings_91 (by decide) rfl ?_
        refine L93 k 0 _ I1 (by omega) (fun x a1 a2 => hf x a1) hr (fun y => ?_)
        rw [if_neg (by omega), et]
      have J75 : ∀ w : Int32, w = w0T k (I tc) → WP Γ M_Mo_sings (0, 0) S0 I1 J 75 [.ref 53, .ref tc, .int (nI k), .int (sumN (thT k (I tc)) k), .int (nI k), .null] [.int w] (rwQ tc I J (singT k (I tc))) := by
        intro w ew
        refine p_is_4 d_Mo_sings_75 (by decide) rfl ?_
        refine p_iload d_Mo_sings_77 rfl ?_
        refine p_ifle (tgt := 87) d_Mo_sings_79 (by decide) (fun h79 => ?_) (fun h79 => ?_)
        · refine p_ic_0 d_Mo_sings_87 ?_
          refine p_is_4 d_Mo_sings_88 (by decide) rfl ?_
          exact J90 _ (by subst ew; first | (simp [wT, i32_nlt.mpr h79]; done) | (simp [wT, i32_nle.mp h79]; done))
        · refine p_iload d_Mo_sings_82 rfl ?_
          refine p_goto (tgt := 88) d_Mo_sings_84 (by decide) ?_
          refine p_is_4 d_Mo_sings_88 (by decide) rfl ?_
          exact J90 _ (by subst ew; first | (simp [wT, i32_nlt.mpr h79]; done) | (simp [wT, i32_nle.mp h79]; done))
      refine p_iload d_Mo_sings_9 rfl ?_
      refine p_iload_n d_Mo_sings_11 rfl ?_
      refine p_icmpgeN (tgt := 57) (k) (k) d_Mo_sings_12 (by decide) rfl rfl (by omega) (by omega) (fun h12 => ?_) (fun h12 => ?_)
      · refine p_iload_n d_Mo_sings_57 rfl ?_
        refine p_ifne (tgt := 65) d_Mo_sings_58 (by decide) (fun h58 => ?_) (fun h58 => ?_)
        · have g58 : ¬ k = 0 := fun q => h58 (by rw [q]; rfl)
          refine p_aload_n d_Mo_sings_65 rfl ?_
          refine p_ic_1 d_Mo_sings_66 ?_
          refine p_ialdN (1) d_Mo_sings_67 ht rfl (by omega) rfl ?_
          refine p_iload_n d_Mo_sings_68 rfl ?_
          refine p_iload_n d_Mo_sings_69 rfl ?_
          refine p_idiv d_Mo_sings_70 (h58) ?_
          refine p_imul d_Mo_sings_71 ?_
          refine p_bi_10 d_Mo_sings_72 ?_
          refine p_idiv d_Mo_sings_74 (by decide) ?_
          exact J75 _ (by simp [w0T, g58, et])
        · have g58 : k = 0 := by
            rcases Nat.eq_zero_or_pos k with q | q
            · exact q
            · exact absurd h58 (nI_ne0 q (by omega))
          refine p_ic_0 d_Mo_sings_61 ?_
          refine p_goto (tgt := 75) d_Mo_sings_62 (by decide) ?_
          exact J75 _ (by simp [w0T, g58, et])
      · exact absurd (Nat.le_refl _) h12
    | succ f ih =>
      intro k I1 hkf hf hr
      have et : I1 tc = I tc := hf tc hx
      have J40 : ∀ v : Int32, v = thT n (I tc) k → WP Γ M_Mo_sings (0, 0) S0 I1 J 40 [.ref 53, .ref tc, .int (nI n), .int (sumN (thT n (I tc)) k), .int (nI k), .null] [.int v, .int (nI k), .ref 61] (rwQ tc I J (singT n (I tc))) := by
        intro v ev
        refine p_iastN (k) d_Mo_sings_40 ar_61 rfl (by omega) rfl ?_
        refine p_iload_n d_Mo_sings_41 rfl ?_
        refine p_aload_n d_Mo_sings_42 rfl ?_
        refine p_getR d_Mo_sings_43 fl_Mo_32 kd_53 rfl rf_53_14 ?_
        refine p_iload d_Mo_sings_46 rfl ?_
        refine p_ialdN (k) d_Mo_sings_48 ar_61 rfl (by omega) rfl ?_
        refine p_iadd d_Mo_sings_49 ?_
        have e1 : up2 I1 61 k v 61 k = thT n (I tc) k := by simp [up2, ev]
        refine p_eqI (y := sumN (thT n (I tc)) (k + 1)) (by rw [e1]; rfl) ?_
        refine p_is_3 d_Mo_sings_50 (by decide) rfl ?_
        refine p_incN_4_1 d_Mo_sings_51 (by decide) rfl ?_
        refine p_goto (tgt := 9) d_Mo_sings_54 (by decide) ?_
        refine ih (k + 1) _ (by omega) (fun x a1 => ?_) (fun j hj => ?_)
        · funext y
          simp only [up2]
          rw [if_neg (fun q => a1 q.1), hf x a1]
        · simp only [up2, true_and]
          by_cases q : j = k
          · subst q
            rw [if_pos rfl, ev]
          · rw [if_neg q, hr j (by omega)]
      refine p_iload d_Mo_sings_9 rfl ?_
      refine p_iload_n d_Mo_sings_11 rfl ?_
      refine p_icmpgeN (tgt := 57) (k) (n) d_Mo_sings_12 (by decide) rfl rfl (by omega) (by omega) (fun h12 => ?_) (fun h12 => ?_)
      · exact absurd h12 (by omega)
      · refine p_aload_n d_Mo_sings_15 rfl ?_
        refine p_getR d_Mo_sings_16 fl_Mo_32 kd_53 rfl rf_53_14 ?_
        refine p_iload d_Mo_sings_19 rfl ?_
        refine p_iload d_Mo_sings_21 rfl ?_
        refine p_aload_n d_Mo_sings_23 rfl ?_
        refine p_bi_36 d_Mo_sings_24 ?_
        refine p_ialdN (36) d_Mo_sings_26 ht rfl (by omega) rfl ?_
        refine p_icmpne (tgt := 34) d_Mo_sings_27 (by decide) (fun h27 => ?_) (fun h27 => ?_)
        · refine p_aload_n d_Mo_sings_34 rfl ?_
          refine p_iload d_Mo_sings_35 rfl ?_
          refine q_S1 d_Mo_sings_37 ml_Mo_116 sb_Mo_lateThen ⟨leb rfl, leb rfl⟩ (m_lateThen Γ I1 J tc n k ht hn (by rw [et]; exact h0) (by omega) (by rw [et]; exact hz k (by omega))) rfl rfl rfl ?_
          exact J40 _ (by rw [et] at h27; simp [thT, h27, et])
        · refine p_ic_0 d_Mo_sings_30 ?_
          refine p_goto (tgt := 40) d_Mo_sings_31 (by decide) ?_
          exact J40 _ (by rw [et] at h27; simp [thT, h27, et])
  refine ct_of [.ref 53, .ref tc, .null, .null, .null, .null] (by decide +kernel) rfl (leb rfl) rfl ?_
  refine p_aload_n d_Mo_sings_0 rfl ?_
  refine p_ic_0 d_Mo_sings_1 ?_
  refine p_ialdN (0) d_Mo_sings_2 ht rfl (by omega) rfl ?_
  refine p_eqI h0 ?_
  refine p_is_2 d_Mo_sings_3 (by decide) rfl ?_
  refine p_ic_0 d_Mo_sings_4 ?_
  refine p_is_3 d_Mo_sings_5 (by decide) rfl ?_
  refine p_ic_0 d_Mo_sings_6 ?_
  refine p_is_4 d_Mo_sings_7 (by decide) rfl ?_
  exact L9 n 0 I (by omega) (fun x _ => rfl) (fun j hj => absurd hj (by omega))
