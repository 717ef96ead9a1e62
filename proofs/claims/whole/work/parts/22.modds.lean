/-! ===== the reference: the odds ===== -/
def bt1 (s k : Nat) : Nat := s / 2 ^ k % 2
theorem shr1 : ∀ s, s < 64 → ∀ k, k < 6 → (nI s >>> (nI k &&& 31) &&& 1) = nI (bt1 s k) := by decide +kernel
theorem bt1_le (s k : Nat) : bt1 s k < 2 := Nat.mod_lt _ (by omega)
/-- row t behind k lines, by the bits of s played ahead -/
def odT (n : Nat) (t : Nat → Int32) (a s : Nat) : Nat → Nat → Int32
  | 0 => t
  | k + 1 => singT n (upd (odT n t a s k) 35 (if bt1 s k = 1 then nI a else 0))
def owN (p s : Nat) : Nat → Nat
  | 0 => 1
  | k + 1 => owN p s k * (if bt1 s k = 1 then p else 10 - p)
def oaN (n : Nat) (t : Nat → Int32) (a p m : Nat) (d : Int32) : Nat → Nat
  | 0 => 0
  | s + 1 => oaN n t a p m d s + (if apT n (odT n t a s m) ≤ d then owN p s m else 0)
theorem owN_le {p s : Nat} (hp : p ≤ 10) : ∀ k, owN p s k ≤ 10 ^ k
  | 0 => Nat.le_refl _
  | k + 1 => by
    show owN p s k * _ ≤ 10 ^ (k + 1)
    rw [Nat.pow_succ]
    refine Nat.mul_le_mul (owN_le hp k) ?_
    split <;> omega
theorem oaN_le {n : Nat} {t : Nat → Int32} {a p m : Nat} {d : Int32} (hp : p ≤ 10) (hm : m ≤ 6) : ∀ s, oaN n t a p m d s ≤ s * 1000000
  | 0 => Nat.le_refl _
  | s + 1 => by
    have h1 := oaN_le (n := n) (t := t) (a := a) (d := d) hp hm s
    have h2 : owN p s m ≤ 1000000 := Nat.le_trans (owN_le hp m) (Nat.pow_le_pow_right (by omega) hm)
    show oaN n t a p m d s + _ ≤ _
    rw [Nat.succ_mul]
    refine Nat.add_le_add h1 ?_
    split
    · exact h2
    · exact Nat.zero_le _
def odR (u l w : Nat) : Int64 := if w = 0 then lN (u / Nat.gcd u l) else lN (l / Nat.gcd u l)
theorem od_ok {n : Nat} {t : Nat → Int32} {a s : Nat} (h : okT n t) : ∀ k, okT n (odT n t a s k)
  | 0 => h
  | k + 1 => (okT_upd (od_ok h k) (Or.inr (by omega))).sing
theorem od_0 {n : Nat} {t : Nat → Int32} {a s : Nat} (hn : n ≤ 6) : ∀ k, odT n t a s k 0 = t 0
  | 0 => rfl
  | k + 1 => by
    show singT n _ 0 = _
    rw [singT_off (by omega) (by omega) (by omega), upd_ne (by omega)]
    exact od_0 hn k
theorem p10_le {m : Nat} (hm : m ≤ 6) : 10 ^ m ≤ 1000000 := Nat.le_trans (Nat.pow_le_pow_right (by omega) hm) (Nat.le_refl _)
theorem p10_pos (m : Nat) : 0 < 10 ^ m := Nat.pow_pos (by omega)
theorem lg_cmp0 {y : Nat} (hy : y < 2 ^ 63) : lg_cmp (lN y) 0 = 0 ↔ y = 0 := by
  unfold lg_cmp
  constructor
  · intro h
    split at h
    · exact absurd h (by decide)
    · split at h
      · rename_i q
        exact (pk_lEQ hy (by omega)).mp q
      · exact absurd h (by decide)
  · intro h
    subst h
    rfl
theorem i20 : ∀ q, q ≤ 20 → (0 : Int32) ≤ nI q ∧ nI q ≤ 20 := by decide +kernel
theorem i10 : ∀ q, q ≤ 10 → (0 : Int32) ≤ nI q ∧ nI q ≤ 10 := by decide +kernel
theorem m_odds (Γ : Cx) (I : MemI) (J : MemJ) (n : Nat) (hn : n ≤ 6) (h0 : I 54 0 = nI n) (hok : okT n (I 54)) (a p m w : Nat) (d : Int32) (ha : a ≤ 20) (hp : p ≤ 10) (hm : m ≤ 6) (hd : 0 ≤ d ∧ d ≤ 99) (hw : w < 2) : Ct Γ M_Mo_odds [.ref 53, .int (nI a), .int (nI p), .int (nI m), .int d, .int (nI w)] S0 I J (scQ (some (.long (odR (oaN n (I 54) a p m d (2 ^ m)) (10 ^ m) w))) I J) := by
  obtain ⟨sh, sh2⟩ := shl1 m hm
  have hl1 := p10_le hm
  have hl0 := p10_pos m
  have hu := oaN_le (n := n) (t := I 54) (a := a) (d := d) hp hm (2 ^ m)
  have LG : ∀ (f x y : Nat) (v w2 : Value) (I1 : MemI), y ≤ f → x < 2 ^ 62 → y < 2 ^ 62 → Nat.gcd x y = Nat.gcd (oaN n (I 54) a p m d (2 ^ m)) (10 ^ m) → (0 < x ∨ 0 < y) → (∀ x, x ≠ 61 → x ≠ 62 → x ≠ 63 → I1 x = I x) → WP Γ M_Mo_odds (0, 0) S0 I1 J 220 [.ref 53, .int (nI a), .int (nI p), .int (nI m), .int d, .int (nI w), .long (lN (oaN n (I 54) a p m d (2 ^ m))), .null, .long (lN (10 ^ m)), .null, .long (lN x), .null, .long (lN y), .null, v, w2] [] (scQ (some (.long (odR (oaN n (I 54) a p m d (2 ^ m)) (10 ^ m) w))) I J) := by
    intro f
    induction f with
    | zero =>
      intro x y v w2 I1 hyf hx62 hy62 hg h0xy hx
      refine p_lload d_Mo_odds_220 rfl ?_
      refine p_lc_0 d_Mo_odds_222 ?_
      refine p_lcmp d_Mo_odds_223 ?_
      refine p_ifeq (tgt := 245) d_Mo_odds_224 (by decide) (fun h224 => ?_) (fun h224 => ?_)
      · have y0 : y = 0 := (lg_cmp0 (by omega)).mp h224
        have hgx : x = Nat.gcd (oaN n (I 54) a p m d (2 ^ m)) (10 ^ m) := by rw [← hg, y0, Nat.gcd_zero_right]
        have hxp : 0 < x := by omega
        have hx0 : ¬ lN x = 0 := fun z => by have := (pk_lEQ (a := x) (b := 0) (by omega) (by omega)).mp z; omega
        refine p_iload d_Mo_odds_245 rfl ?_
        refine p_ifne (tgt := 258) d_Mo_odds_247 (by decide) (fun h247 => ?_) (fun h247 => ?_)
        · have gw : ¬ w = 0 := fun z => h247 (by rw [z]; rfl)
          refine p_lload d_Mo_odds_258 rfl ?_
          refine p_lload d_Mo_odds_260 rfl ?_
          refine p_ldiv d_Mo_odds_262 (hx0) ?_
          refine p_lret d_Mo_odds_263 rfl ?_
          refine ⟨?_, rfl, rfl, hx⟩
          unfold odR
          first | (rw [if_pos gw, pk_lDiv (by omega) (by omega) (by omega), ← hgx]; done) | (rw [if_neg gw, pk_lDiv (by omega) (by omega) (by omega), ← hgx]; done)
        · have gw : w = 0 := by
            rcases Nat.eq_zero_or_pos w with z | z
            · exact z
            · exact absurd h247 (nI_ne0 z (by omega))
          refine p_lload d_Mo_odds_250 rfl ?_
          refine p_lload d_Mo_odds_252 rfl ?_
          refine p_ldiv d_Mo_odds_254 (hx0) ?_
          refine p_goto (tgt := 263) d_Mo_odds_255 (by decide) ?_
          refine p_lret d_Mo_odds_263 rfl ?_
          refine ⟨?_, rfl, rfl, hx⟩
          unfold odR
          first | (rw [if_pos gw, pk_lDiv (by omega) (by omega) (by omega), ← hgx]; done) | (rw [if_neg gw, pk_lDiv (by omega) (by omega) (by omega), ← hgx]; done)
      · exact absurd ((lg_cmp0 (by omega)).mpr (by omega)) h224
    | succ f ih =>
      intro x y v w2 I1 hyf hx62 hy62 hg h0xy hx
      refine p_lload d_Mo_odds_220 rfl ?_
      refine p_lc_0 d_Mo_odds_222 ?_
      refine p_lcmp d_Mo_odds_223 ?_
      refine p_ifeq (tgt := 245) d_Mo_odds_224 (by decide) (fun h224 => ?_) (fun h224 => ?_)
      · have y0 : y = 0 := (lg_cmp0 (by omega)).mp h224
        have hgx : x = Nat.gcd (oaN n (I 54) a p m d (2 ^ m)) (10 ^ m) := by rw [← hg, y0, Nat.gcd_zero_right]
        have hxp : 0 < x := by omega
        have hx0 : ¬ lN x = 0 := fun z => by have := (pk_lEQ (a := x) (b := 0) (by omega) (by omega)).mp z; omega
        refine p_iload d_Mo_odds_245 rfl ?_
        refine p_ifne (tgt := 258) d_Mo_odds_247 (by decide) (fun h247 => ?_) (fun h247 => ?_)
        · have gw : ¬ w = 0 := fun z => h247 (by rw [z]; rfl)
          refine p_lload d_Mo_odds_258 rfl ?_
          refine p_lload d_Mo_odds_260 rfl ?_
          refine p_ldiv d_Mo_odds_262 (hx0) ?_
          refine p_lret d_Mo_odds_263 rfl ?_
          refine ⟨?_, rfl, rfl, hx⟩
          unfold odR
          first | (rw [if_pos gw, pk_lDiv (by omega) (by omega) (by omega), ← hgx]; done) | (rw [if_neg gw, pk_lDiv (by omega) (by omega) (by omega), ← hgx]; done)
        · have gw : w = 0 := by
            rcases Nat.eq_zero_or_pos w with z | z
            · exact z
            · exact absurd h247 (nI_ne0 z (by omega))
          refine p_lload d_Mo_odds_250 rfl ?_
          refine p_lload d_Mo_odds_252 rfl ?_
          refine p_ldiv d_Mo_odds_254 (hx0) ?_
          refine p_goto (tgt := 263) d_Mo_odds_255 (by decide) ?_
          refine p_lret d_Mo_odds_263 rfl ?_
          refine ⟨?_, rfl, rfl, hx⟩
          unfold odR
          first | (rw [if_pos gw, pk_lDiv (by omega) (by omega) (by omega), ← hgx]; done) | (rw [if_neg gw, pk_lDiv (by omega) (by omega) (by omega), ← hgx]; done)
      · have y0 : ¬ y = 0 := fun z => h224 ((lg_cmp0 (by omega)).mpr z)
        have hml : x % y < y := Nat.mod_lt _ (by omega)
        refine p_lload d_Mo_odds_227 rfl ?_
        refine p_lload d_Mo_odds_229 rfl ?_
        refine p_lrem d_Mo_odds_231 (fun z => y0 ((pk_lEQ (a := y) (b := 0) (by omega) (by omega)).mp z)) ?_
        refine p_eqL (pk_lRem (a := x) (b := y) (by omega) (by omega) (by omega)) ?_
        refine p_ls_14 d_Mo_odds_232 (by decide) rfl ?_
        refine p_lload d_Mo_odds_234 rfl ?_
        refine p_ls_10 d_Mo_odds_236 (by decide) rfl ?_
        refine p_lload d_Mo_odds_238 rfl ?_
        refine p_ls_12 d_Mo_odds_240 (by decide) rfl ?_
        refine p_goto (tgt := 220) d_Mo_odds_242 (by decide) ?_
        refine ih y (x % y) _ _ I1 (by omega) hy62 (by omega) ?_ (Or.inl (by omega)) hx
        rw [← hg, Nat.gcd_comm x y, Nat.gcd_rec y x, Nat.gcd_comm]
  have LO : ∀ (f s : Nat) (v11 v13 v14 v15 : Value) (I1 : MemI), v11.category = 1 ∨ v11.category = 2 → s + f = 2 ^ m → (∀ x, x ≠ 61 → x ≠ 62 → x ≠ 63 → I1 x = I x) → WP Γ M_Mo_odds (0, 0) S0 I1 J 93 [.ref 53, .int (nI a), .int (nI p), .int (nI m), .int d, .int (nI w), .long (lN (oaN n (I 54) a p m d s)), .null, .long (lN (10 ^ m)), .null, .int (nI s), v11, .null, v13, v14, v15] [] (scQ (some (.long (odR (oaN n (I 54) a p m d (2 ^ m)) (10 ^ m) w))) I J) := by
    intro f
    induction f with
    | zero =>
      intro s v11 v13 v14 v15 I1 hv hsf hx
      obtain rfl : s = 2 ^ m := by omega
      refine p_iload d_Mo_odds_93 rfl ?_
      refine p_ic_1 d_Mo_odds_95 ?_
      refine p_iload_n d_Mo_odds_96 rfl ?_
      refine p_ishl d_Mo_odds_97 ?_
      refine p_eqI sh ?_
      refine p_icmpgeN (tgt := 212) (2 ^ m) (2 ^ m) d_Mo_odds_98 (by decide) rfl rfl (by omega) (by omega) (fun h98 => ?_) (fun h98 => ?_)
      · refine p_lload d_Mo_odds_212 rfl ?_
        refine p_ls_10 d_Mo_odds_214 (by decide) rfl ?_
        refine p_lload d_Mo_odds_216 rfl ?_
        refine p_ls_12 d_Mo_odds_218 (by decide) rfl ?_
        exact LG _ _ _ _ _ I1 (Nat.le_refl _) (by omega) (by omega) rfl (Or.inr hl0) hx
      · exact absurd (Nat.le_refl _) h98
    | succ f ih =>
      intro s v11 v13 v14 v15 I1 hv hsf hx
      have hs : s < 64 := by omega
      have LI : ∀ (g k : Nat) (v14 v15 : Value) (I2 : MemI), k + g = m → I2 62 = odT n (I 54) a s k → (∀ x, x ≠ 61 → x ≠ 62 → x ≠ 63 → I2 x = I x) → WP Γ M_Mo_odds (0, 0) S0 I2 J 111 [.ref 53, .int (nI a), .int (nI p), .int (nI m), .int d, .int (nI w), .long (lN (oaN n (I 54) a p m d s)), .null, .long (lN (10 ^ m)), .null, .int (nI s), .long (lN (owN p s k)), .null, .int (nI k), v14, v15] [] (scQ (some (.long (odR (oaN n (I 54) a p m d (2 ^ m)) (10 ^ m) w))) I J) := by
        intro g
        induction g with
        | zero =>
          intro k v14 v15 I2 hkg e62 ex
          obtain rfl : k = m := by omega
          have J203 : ∀ (z : Nat), z = (if apT n (odT n (I 54) a s k) ≤ d then owN p s k else 0) → WP Γ M_Mo_odds (0, 0) S0 I2 J 203 [.ref 53, .int (nI a), .int (nI p), .int (nI k), .int d, .int (nI w), .long (lN (oaN n (I 54) a p k d s)), .null, .long (lN (10 ^ k)), .null, .int (nI s), .long (lN (owN p s k)), .null, .int (nI k), v14, v15] [.long (lN z), .long (lN (oaN n (I 54) a p k d s))] (scQ (some (.long (odR (oaN n (I 54) a p k d (2 ^ k)) (10 ^ k) w))) I J) := by
            intro z ez
            refine p_ladd d_Mo_odds_203 ?_
            refine p_eqL (y := lN (oaN n (I 54) a p k d (s + 1))) (by rw [lN_add, ez]; rfl) ?_
            refine p_ls_6 d_Mo_odds_204 (by decide) rfl ?_
            refine p_incN_10_1 d_Mo_odds_206 (by decide) rfl ?_
            refine p_goto (tgt := 93) d_Mo_odds_209 (by decide) ?_
            exact ih (s + 1) _ _ _ _ I2 (Or.inr rfl) (by omega) ex
          refine p_iload d_Mo_odds_111 rfl ?_
          refine p_iload_n d_Mo_odds_113 rfl ?_
          refine p_icmpgeN (tgt := 183) (k) (k) d_Mo_odds_114 (by decide) rfl rfl (by omega) (by omega) (fun h114 => ?_) (fun h114 => ?_)
          · refine p_lload d_Mo_odds_183 rfl ?_
            refine p_aload_n d_Mo_odds_185 rfl ?_
            refine p_getR d_Mo_odds_186 fl_Mo_35 kd_53 rfl rf_53_15 ?_
            refine q_S1 d_Mo_odds_189 ml_Mo_108 sb_Mo_apart ⟨leb rfl, leb rfl⟩ (m_apart Γ I2 J 62 n ar_62 hn (by rw [e62, od_0 hn]; exact h0)) rfl rfl rfl ?_
            refine p_iload d_Mo_odds_192 rfl ?_
            refine p_icmpgt (tgt := 202) d_Mo_odds_194 (by decide) (fun h194 => ?_) (fun h194 => ?_)
            · refine p_lc_0 d_Mo_odds_202 ?_
              rw [e62] at h194
              first | exact J203 _ (if_pos h194).symm | exact J203 0 (if_neg (i32_nle.mpr h194)).symm | exact J203 _ (if_pos (i32_nlt.mp h194)).symm
            · refine p_lload d_Mo_odds_197 rfl ?_
              refine p_goto (tgt := 203) d_Mo_odds_199 (by decide) ?_
              rw [e62] at h194
              first | exact J203 _ (if_pos h194).symm | exact J203 0 (if_neg (i32_nle.mpr h194)).symm | exact J203 _ (if_pos (i32_nlt.mp h194)).symm
          · exact absurd (Nat.le_refl _) h114
        | succ g ihg =>
          intro k v14 v15 I2 hkg e62 ex
          have bl := bt1_le s k
          have J133 : ∀ (z : Nat), z = bt1 s k → WP Γ M_Mo_odds (0, 0) S0 I2 J 133 [.ref 53, .int (nI a), .int (nI p), .int (nI m), .int d, .int (nI w), .long (lN (oaN n (I 54) a p m d s)), .null, .long (lN (10 ^ m)), .null, .int (nI s), .long (lN (owN p s k)), .null, .int (nI k), v14, v15] [.int (nI z)] (scQ (some (.long (odR (oaN n (I 54) a p m d (2 ^ m)) (10 ^ m) w))) I J) := by
            intro z ez
            subst ez
            have K : ∀ (c : Int32) (wy : Nat), c = (if bt1 s k = 1 then nI a else 0) → wy = (if bt1 s k = 1 then p else 10 - p) → True := fun _ _ _ _ => trivial
            have J169 : ∀ (wy : Nat) (c : Int32), wy = (if bt1 s k = 1 then p else 10 - p) → c = (if bt1 s k = 1 then nI a else 0) → WP Γ M_Mo_odds (0, 0) S0 (up2 I2 62 35 c) J 169 [.ref 53, .int (nI a), .int (nI p), .int (nI m), .int d, .int (nI w), .long (lN (oaN n (I 54) a p m d s)), .null, .long (lN (10 ^ m)), .null, .int (nI s), .long (lN (owN p s k)), .null, .int (nI k), .int (nI (bt1 s k)), v15] [.long (lN wy), .long (lN (owN p s k))] (scQ (some (.long (odR (oaN n (I 54) a p m d (2 ^ m)) (10 ^ m) w))) I J) := by
              intro wy c ewy ec
              have hr : up2 I2 62 35 c 62 = upd (odT n (I 54) a s k) 35 (if bt1 s k = 1 then nI a else 0) := by rw [up2_row, e62, ec]
              refine p_lmul d_Mo_odds_169 ?_
              refine p_eqL (y := lN (owN p s (k + 1))) (by rw [lN_mul, ewy]; rfl) ?_
              refine p_ls_11 d_Mo_odds_170 (by decide) rfl ?_
              refine p_aload_n d_Mo_odds_172 rfl ?_
              refine p_ic_1 d_Mo_odds_173 ?_
              refine q_V d_Mo_odds_174 ml_Mo_151 vb_Mo_go kd_53 ⟨leb rfl, leb rfl⟩ (m_go Γ _ J n (1) (by omega) (by rw [hr, upd_ne (by omega), od_0 hn]; exact h0) (by rw [hr]; exact okT_upd (od_ok hok k) (Or.inr (by omega)))) rfl rfl rfl (fun r S1 IG J1 hQ => ?_)
              obtain ⟨rfl, rfl, hJ, g1, g2⟩ := hQ
              obtain rfl := hJ.symm
              refine p_incN_13_1 d_Mo_odds_177 (by decide) rfl ?_
              refine p_goto (tgt := 111) d_Mo_odds_180 (by decide) ?_
              refine ihg (k + 1) _ _ IG (by omega) (by rw [g1, hr]; rfl) (fun x q1 q2 q3 => ?_)
              rw [g2 x q1 q2]
              funext y
              simp only [up2]
              rw [if_neg (fun z => q2 z.1), ex x q1 q2 q3]
            refine p_is_14 d_Mo_odds_133 (by decide) rfl ?_
            refine p_aload_n d_Mo_odds_135 rfl ?_
            refine p_getR d_Mo_odds_136 fl_Mo_35 kd_53 rfl rf_53_15 ?_
            refine p_bi_35 d_Mo_odds_139 ?_
            refine p_iload d_Mo_odds_141 rfl ?_
            refine p_ifeq (tgt := 150) d_Mo_odds_143 (by decide) (fun h143 => ?_) (fun h143 => ?_)
            · have g143 : ¬ bt1 s k = 1 := fun z => by rw [z] at h143; exact absurd h143 (by decide)
              refine p_ic_0 d_Mo_odds_150 ?_
              refine p_iastN (35) d_Mo_odds_151 ar_62 rfl (by omega) rfl ?_
              refine p_lload d_Mo_odds_152 rfl ?_
              refine p_iload d_Mo_odds_154 rfl ?_
              refine p_ifeq (tgt := 164) d_Mo_odds_156 (by decide) (fun h156 => ?_) (fun h156 => ?_)
              · have g156 : ¬ bt1 s k = 1 := fun z => by rw [z] at h156; exact absurd h156 (by decide)
                refine p_bi_10 d_Mo_odds_164 ?_
                refine p_iload_n d_Mo_odds_166 rfl ?_
                refine p_isubN (10) (p) d_Mo_odds_167 rfl rfl (by omega) ?_
                refine p_i2l d_Mo_odds_168 ?_
                refine p_eqL (nI_l (by omega)) ?_
                first | exact J169 _ _ (if_pos g156).symm (if_pos g143).symm | exact J169 _ _ (if_neg g156).symm (if_neg g143).symm | exact absurd g143 g156 | exact absurd g156 g143
              · have g156 : bt1 s k = 1 := by
                  rcases (show bt1 s k = 0 ∨ bt1 s k = 1 by omega) with z | z
                  · exact absurd (by rw [z]; rfl) h156
                  · exact z
                refine p_iload_n d_Mo_odds_159 rfl ?_
                refine p_i2l d_Mo_odds_160 ?_
                refine p_eqL (nI_l (by omega)) ?_
                refine p_goto (tgt := 169) d_Mo_odds_161 (by decide) ?_
                first | exact J169 _ _ (if_pos g156).symm (if_pos g143).symm | exact J169 _ _ (if_neg g156).symm (if_neg g143).symm | exact absurd g143 g156 | exact absurd g156 g143
            · have g143 : bt1 s k = 1 := by
                rcases (show bt1 s k = 0 ∨ bt1 s k = 1 by omega) with z | z
                · exact absurd (by rw [z]; rfl) h143
                · exact z
              refine p_iload_n d_Mo_odds_146 rfl ?_
              refine p_goto (tgt := 151) d_Mo_odds_147 (by decide) ?_
              refine p_iastN (35) d_Mo_odds_151 ar_62 rfl (by omega) rfl ?_
              refine p_lload d_Mo_odds_152 rfl ?_
              refine p_iload d_Mo_odds_154 rfl ?_
              refine p_ifeq (tgt := 164) d_Mo_odds_156 (by decide) (fun h156 => ?_) (fun h156 => ?_)
              · have g156 : ¬ bt1 s k = 1 := fun z => by rw [z] at h156; exact absurd h156 (by decide)
                refine p_bi_10 d_Mo_odds_164 ?_
                refine p_iload_n d_Mo_odds_166 rfl ?_
                refine p_isubN (10) (p) d_Mo_odds_167 rfl rfl (by omega) ?_
                refine p_i2l d_Mo_odds_168 ?_
                refine p_eqL (nI_l (by omega)) ?_
                first | exact J169 _ _ (if_pos g156).symm (if_pos g143).symm | exact J169 _ _ (if_neg g156).symm (if_neg g143).symm | exact absurd g143 g156 | exact absurd g156 g143
              · have g156 : bt1 s k = 1 := by
                  rcases (show bt1 s k = 0 ∨ bt1 s k = 1 by omega) with z | z
                  · exact absurd (by rw [z]; rfl) h156
                  · exact z
                refine p_iload_n d_Mo_odds_159 rfl ?_
                refine p_i2l d_Mo_odds_160 ?_
                refine p_eqL (nI_l (by omega)) ?_
                refine p_goto (tgt := 169) d_Mo_odds_161 (by decide) ?_
                first | exact J169 _ _ (if_pos g156).symm (if_pos g143).symm | exact J169 _ _ (if_neg g156).symm (if_neg g143).symm | exact absurd g143 g156 | exact absurd g156 g143
          refine p_iload d_Mo_odds_111 rfl ?_
          refine p_iload_n d_Mo_odds_113 rfl ?_
          refine p_icmpgeN (tgt := 183) (k) (m) d_Mo_odds_114 (by decide) rfl rfl (by omega) (by omega) (fun h114 => ?_) (fun h114 => ?_)
          · exact absurd h114 (by omega)
          · refine p_iload d_Mo_odds_117 rfl ?_
            refine p_iload d_Mo_odds_119 rfl ?_
            refine p_ishr d_Mo_odds_121 ?_
            refine p_ic_1 d_Mo_odds_122 ?_
            refine p_iand d_Mo_odds_123 ?_
            refine p_eqI (shr1 s hs k (by omega)) ?_
            refine p_ic_1 d_Mo_odds_124 ?_
            refine p_icmpneN (tgt := 132) ((bt1 s k)) (1) d_Mo_odds_125 (by decide) rfl rfl (by omega) (by omega) (fun h125 => ?_) (fun h125 => ?_)
            · refine p_ic_0 d_Mo_odds_132 ?_
              first | exact J133 1 h125.symm | exact J133 0 (by omega)
            · refine p_ic_1 d_Mo_odds_128 ?_
              refine p_goto (tgt := 133) d_Mo_odds_129 (by decide) ?_
              first | exact J133 1 h125.symm | exact J133 0 (by omega)
      refine p_iload d_Mo_odds_93 rfl ?_
      refine p_ic_1 d_Mo_odds_95 ?_
      refine p_iload_n d_Mo_odds_96 rfl ?_
      refine p_ishl d_Mo_odds_97 ?_
      refine p_eqI sh ?_
      refine p_icmpgeN (tgt := 212) (s) (2 ^ m) d_Mo_odds_98 (by decide) rfl rfl (by omega) (by omega) (fun h98 => ?_) (fun h98 => ?_)
      · exact absurd h98 (by omega)
      · refine p_aload_n d_Mo_odds_101 rfl ?_
        refine q_V d_Mo_odds_102 ml_Mo_148 vb_Mo_asNow kd_53 ⟨leb rfl, leb rfl⟩ (m_asNow' Γ I1 I J (hx 54 (by decide) (by decide) (by decide))) rfl rfl rfl (fun r S1 IA J1 hQ => ?_)
        obtain ⟨rfl, rfl, hJ, a1, a2⟩ := hQ
        obtain rfl := hJ.symm
        refine p_lc_1 d_Mo_odds_105 ?_
        refine p_ls_11 d_Mo_odds_106 (by decide) rfl ?_
        refine p_ic_0 d_Mo_odds_108 ?_
        refine p_is_13 d_Mo_odds_109 (by decide) rfl ?_
        exact LI m 0 _ _ IA (by omega) a1 (fun x q1 q2 q3 => by rw [a2 x q2, hx x q1 q2 q3])
  have LB : ∀ (f k : Nat), k + f = m → WP Γ M_Mo_odds (0, 0) S0 I J 70 [.ref 53, .int (nI a), .int (nI p), .int (nI m), .int d, .int (nI w), .long 0, .null, .long (lN (10 ^ k)), .null, .int (nI k), .null, .null, .null, .null, .null] [] (scQ (some (.long (odR (oaN n (I 54) a p m d (2 ^ m)) (10 ^ m) w))) I J) := by
    intro f
    induction f with
    | zero =>
      intro k hkf
      obtain rfl : k = m := by omega
      refine p_iload d_Mo_odds_70 rfl ?_
      refine p_iload_n d_Mo_odds_72 rfl ?_
      refine p_icmpgeN (tgt := 90) (k) (k) d_Mo_odds_73 (by decide) rfl rfl (by omega) (by omega) (fun h73 => ?_) (fun h73 => ?_)
      · refine p_ic_0 d_Mo_odds_90 ?_
        refine p_is_10 d_Mo_odds_91 (by decide) rfl ?_
        exact LO (2 ^ k) 0 _ _ _ _ I (Or.inl rfl) (by omega) (fun x _ _ _ => rfl)
      · exact absurd (Nat.le_refl _) h73
    | succ f ih =>
      intro k hkf
      refine p_iload d_Mo_odds_70 rfl ?_
      refine p_iload_n d_Mo_odds_72 rfl ?_
      refine p_icmpgeN (tgt := 90) (k) (m) d_Mo_odds_73 (by decide) rfl rfl (by omega) (by omega) (fun h73 => ?_) (fun h73 => ?_)
      · exact absurd h73 (by omega)
      · refine p_lload d_Mo_odds_76 rfl ?_
        refine p_ldc2 d_Mo_odds_78 kl_Mo_144 ?_
        refine p_lmul d_Mo_odds_81 ?_
        refine p_eqL (y := lN (10 ^ (k + 1))) (by rw [show (10 : Int64) = lN 10 from rfl, lN_mul, Nat.pow_succ]) ?_
        refine p_ls_8 d_Mo_odds_82 (by decide) rfl ?_
        refine p_incN_10_1 d_Mo_odds_84 (by decide) rfl ?_
        refine p_goto (tgt := 70) d_Mo_odds_87 (by decide) ?_
        exact ih (k + 1) (by omega)
  refine ct_of [.ref 53, .int (nI a), .int (nI p), .int (nI m), .int d, .int (nI w), .null, .null, .null, .null, .null, .null, .null, .null, .null, .null] (by decide +kernel) rfl (leb rfl) rfl ?_
  refine p_iload_n d_Mo_odds_0 rfl ?_
  refine p_i2l d_Mo_odds_1 ?_
  refine p_lc_0 d_Mo_odds_2 ?_
  refine p_ldc2 d_Mo_odds_3 kl_Mo_131 ?_
  refine q_S1 d_Mo_odds_6 ml_Mo_45 sb_Mo_in ⟨leb rfl, leb rfl⟩ (c_in Γ _ _ _ (nI a) 0 20 (by decide) (by decide)) rfl rfl rfl ?_
  refine p_ifeqB (tgt := 57) d_Mo_odds_9 (by decide) (fun h9 => ?_) (fun h9 => ?_)
  · first | exact absurd (i20 a ha) h9 | exact absurd (i10 p hp) h21 | exact absurd (i6 m hm) h33 | exact absurd hd h46 | exact absurd (i1 w hw) h54
  · refine p_iload_n d_Mo_odds_12 rfl ?_
    refine p_i2l d_Mo_odds_13 ?_
    refine p_lc_0 d_Mo_odds_14 ?_
    refine p_ldc2 d_Mo_odds_15 kl_Mo_144 ?_
    refine q_S1 d_Mo_odds_18 ml_Mo_45 sb_Mo_in ⟨leb rfl, leb rfl⟩ (c_in Γ _ _ _ (nI p) 0 10 (by decide) (by decide)) rfl rfl rfl ?_
    refine p_ifeqB (tgt := 57) d_Mo_odds_21 (by decide) (fun h21 => ?_) (fun h21 => ?_)
    · first | exact absurd (i20 a ha) h9 | exact absurd (i10 p hp) h21 | exact absurd (i6 m hm) h33 | exact absurd hd h46 | exact absurd (i1 w hw) h54
    · refine p_iload_n d_Mo_odds_24 rfl ?_
      refine p_i2l d_Mo_odds_25 ?_
      refine p_lc_0 d_Mo_odds_26 ?_
      refine p_ldc2 d_Mo_odds_27 kl_Mo_105 ?_
      refine q_S1 d_Mo_odds_30 ml_Mo_45 sb_Mo_in ⟨leb rfl, leb rfl⟩ (c_in Γ _ _ _ (nI m) 0 6 (by decide) (by decide)) rfl rfl rfl ?_
      refine p_ifeqB (tgt := 57) d_Mo_odds_33 (by decide) (fun h33 => ?_) (fun h33 => ?_)
      · first | exact absurd (i20 a ha) h9 | exact absurd (i10 p hp) h21 | exact absurd (i6 m hm) h33 | exact absurd hd h46 | exact absurd (i1 w hw) h54
      · refine p_iload d_Mo_odds_36 rfl ?_
        refine p_i2l d_Mo_odds_38 ?_
        refine p_lc_0 d_Mo_odds_39 ?_
        refine p_ldc2 d_Mo_odds_40 kl_Mo_166 ?_
        refine q_S1 d_Mo_odds_43 ml_Mo_45 sb_Mo_in ⟨leb rfl, leb rfl⟩ (c_in Γ _ _ _ d 0 99 (by decide) (by decide)) rfl rfl rfl ?_
        refine p_ifeqB (tgt := 57) d_Mo_odds_46 (by decide) (fun h46 => ?_) (fun h46 => ?_)
        · first | exact absurd (i20 a ha) h9 | exact absurd (i10 p hp) h21 | exact absurd (i6 m hm) h33 | exact absurd hd h46 | exact absurd (i1 w hw) h54
        · refine p_iload d_Mo_odds_49 rfl ?_
          refine q_S1 d_Mo_odds_51 ml_Mo_137 sb_Mo_isTwo ⟨leb rfl, leb rfl⟩ (c_isTwo Γ S0 I J (nI w)) rfl rfl rfl ?_
          refine p_ifneB (tgt := 61) d_Mo_odds_54 (by decide) (fun h54 => ?_) (fun h54 => ?_)
          · refine p_lc_0 d_Mo_odds_61 ?_
            refine p_ls_6 d_Mo_odds_62 (by decide) rfl ?_
            refine p_lc_1 d_Mo_odds_64 ?_
            refine p_ls_8 d_Mo_odds_65 (by decide) rfl ?_
            refine p_ic_0 d_Mo_odds_67 ?_
            refine p_is_10 d_Mo_odds_68 (by decide) rfl ?_
            exact LB m 0 (by omega)
          · first | exact absurd (i20 a ha) h9 | exact absurd (i10 p hp) h21 | exact absurd (i6 m hm) h33 | exact absurd hd h46 | exact absurd (i1 w hw) h54
theorem m_odds_bad (Γ : Cx) (I : MemI) (J : MemJ) (x1 x2 x3 x4 x5 : Int32) (hb : ¬ ((0 ≤ x1 ∧ x1 ≤ 20) ∧ (0 ≤ x2 ∧ x2 ≤ 10) ∧ (0 ≤ x3 ∧ x3 ≤ 6) ∧ (0 ≤ x4 ∧ x4 ≤ 99) ∧ (0 ≤ x5 ∧ x5 ≤ 1))) : Ct Γ M_Mo_odds [.ref 53, .int x1, .int x2, .int x3, .int x4, .int x5] S0 I J (eqQ (some (.long (-1000001))) S0 I J) := by
  refine ct_of [.ref 53, .int x1, .int x2, .int x3, .int x4, .int x5, .null, .null, .null, .null, .null, .null, .null, .null, .null, .null] (by decide +kernel) rfl (leb rfl) rfl ?_
  refine p_iload_n d_Mo_odds_0 rfl ?_
  refine p_i2l d_Mo_odds_1 ?_
  refine p_lc_0 d_Mo_odds_2 ?_
  refine p_ldc2 d_Mo_odds_3 kl_Mo_131 ?_
  refine q_S1 d_Mo_odds_6 ml_Mo_45 sb_Mo_in ⟨leb rfl, leb rfl⟩ (c_in Γ _ _ _ x1 0 20 (by decide) (by decide)) rfl rfl rfl ?_
  refine p_ifeqB (tgt := 57) d_Mo_odds_9 (by decide) (fun h9 => ?_) (fun h9 => ?_)
  · refine p_ldc2 d_Mo_odds_57 kl_Mo_178 ?_
    refine p_lret d_Mo_odds_60 rfl ?_
    exact ⟨rfl, rfl, rfl, rfl⟩
  · refine p_iload_n d_Mo_odds_12 rfl ?_
    refine p_i2l d_Mo_odds_13 ?_
    refine p_lc_0 d_Mo_odds_14 ?_
    refine p_ldc2 d_Mo_odds_15 kl_Mo_144 ?_
    refine q_S1 d_Mo_odds_18 ml_Mo_45 sb_Mo_in ⟨leb rfl, leb rfl⟩ (c_in Γ _ _ _ x2 0 10 (by decide) (by decide)) rfl rfl rfl ?_
    refine p_ifeqB (tgt := 57) d_Mo_odds_21 (by decide) (fun h21 => ?_) (fun h21 => ?_)
    · refine p_ldc2 d_Mo_odds_57 kl_Mo_178 ?_
      refine p_lret d_Mo_odds_60 rfl ?_
      exact ⟨rfl, rfl, rfl, rfl⟩
    · refine p_iload_n d_Mo_odds_24 rfl ?_
      refine p_i2l d_Mo_odds_25 ?_
      refine p_lc_0 d_Mo_odds_26 ?_
      refine p_ldc2 d_Mo_odds_27 kl_Mo_105 ?_
      refine q_S1 d_Mo_odds_30 ml_Mo_45 sb_Mo_in ⟨leb rfl, leb rfl⟩ (c_in Γ _ _ _ x3 0 6 (by decide) (by decide)) rfl rfl rfl ?_
      refine p_ifeqB (tgt := 57) d_Mo_odds_33 (by decide) (fun h33 => ?_) (fun h33 => ?_)
      · refine p_ldc2 d_Mo_odds_57 kl_Mo_178 ?_
        refine p_lret d_Mo_odds_60 rfl ?_
        exact ⟨rfl, rfl, rfl, rfl⟩
      · refine p_iload d_Mo_odds_36 rfl ?_
        refine p_i2l d_Mo_odds_38 ?_
        refine p_lc_0 d_Mo_odds_39 ?_
        refine p_ldc2 d_Mo_odds_40 kl_Mo_166 ?_
        refine q_S1 d_Mo_odds_43 ml_Mo_45 sb_Mo_in ⟨leb rfl, leb rfl⟩ (c_in Γ _ _ _ x4 0 99 (by decide) (by decide)) rfl rfl rfl ?_
        refine p_ifeqB (tgt := 57) d_Mo_odds_46 (by decide) (fun h46 => ?_) (fun h46 => ?_)
        · refine p_ldc2 d_Mo_odds_57 kl_Mo_178 ?_
          refine p_lret d_Mo_odds_60 rfl ?_
          exact ⟨rfl, rfl, rfl, rfl⟩
        · refine p_iload d_Mo_odds_49 rfl ?_
          refine q_S1 d_Mo_odds_51 ml_Mo_137 sb_Mo_isTwo ⟨leb rfl, leb rfl⟩ (c_isTwo Γ S0 I J x5) rfl rfl rfl ?_
          refine p_ifneB (tgt := 61) d_Mo_odds_54 (by decide) (fun h54 => ?_) (fun h54 => ?_)
          · exact absurd ⟨h9, h21, h33, h46, h54⟩ hb
          · refine p_ldc2 d_Mo_odds_57 kl_Mo_178 ?_
            refine p_lret d_Mo_odds_60 rfl ?_
            exact ⟨rfl, rfl, rfl, rfl⟩
