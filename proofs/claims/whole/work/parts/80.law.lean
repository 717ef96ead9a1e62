/-! ===== the law ===== -/
theorem ao_Si : Cond.arrayOver (.object RX3) ∈ tables_1 := List.mem_append_left _ (List.mem_of_getElem? (i := 156) rfl)
def laQ : PQ := fun r _ _ _ => r = some (.int 1)
/-- the loop's end, from which it goes round -/
def nxT2 (Γ : Cx) (i : Nat) : Prop := ∀ (I : MemI) (J : MemJ), Inv I J → WP Γ M_La_law (0, 0) S0 I J 900 [.ref 0, .ref 1, .ref 53, .int (nI i)] [] laQ
theorem lg_self {x : Int64} : lg_cmp x x = 0 := (lg_cmp_eq x x).mpr rfl
theorem la_cmp {L i : Nat} (hL : L ≤ 1000) (hi : i ≤ 1000) : (nI L - 6 : Int32) < nI i ↔ L < i + 6 := by
  have e6 : (6 : Int32).toInt = 6 := by decide
  rw [i32_lt, nI_toInt (by omega), Int32.toInt_sub, nI_toInt (by omega), e6, Int.bmod_eq_of_le (by omega) (by omega)]
  omega
theorem la_type (Γ : Cx) (hL : Γ.2.1.1 ≤ 1000) (i : Nat) (hi : i + 6 ≤ Γ.2.1.1) (nx : nxT2 Γ i) (I : MemI) (J : MemJ) (h : Inv I J) : WP Γ M_La_law (0, 0) S0 I J 168 [.ref 0, .ref 1, .ref 53, .int (nI i)] [] laQ := by
  obtain ⟨v, Q1, h1, h2⟩ := pr_type Γ h (Γ.2.1.2 (i + 1))
  refine p_aload_n d_La_law_168 rfl ?_
  refine p_aload_n d_La_law_169 rfl ?_
  refine p_iload_n d_La_law_170 rfl ?_
  refine p_ic_1 d_La_law_171 ?_
  refine p_iaddN (i) (1) d_La_law_172 rfl rfl ?_
  refine p_sldN (i + 1) d_La_law_173 rfl (by omega) hL ?_
  refine q_V d_La_law_174 ml_La_13 vb_Bo_type kd_1 ⟨leb rfl, leb rfl⟩ (h1) rfl rfl rfl (fun r S1 I1 J1 hQ => ?_)
  obtain ⟨rfl, rfl, Q2, h3, h4⟩ := h2 _ _ _ _ hQ
  refine p_aload_n d_La_law_177 rfl ?_
  refine p_aload_n d_La_law_178 rfl ?_
  refine p_iload_n d_La_law_179 rfl ?_
  refine p_ic_1 d_La_law_180 ?_
  refine p_iaddN (i) (1) d_La_law_181 rfl rfl ?_
  refine p_sldN (i + 1) d_La_law_182 rfl (by omega) hL ?_
  refine q_V d_La_law_183 ml_La_17 vb_Mo_type kd_53 ⟨leb rfl, leb rfl⟩ (h3) rfl rfl rfl (fun r S1 I2 J1 hQ => ?_)
  obtain ⟨rfl, rfl, h5⟩ := h4 _ _ _ _ hQ
  refine p_icmpeq (tgt := 900) d_La_law_186 (by decide) (fun h186 => ?_) (fun h186 => ?_)
  · exact nx _ _ h5
  · exact absurd rfl h186
theorem la_clear (Γ : Cx) (hL : Γ.2.1.1 ≤ 1000) (i : Nat) (hi : i + 6 ≤ Γ.2.1.1) (nx : nxT2 Γ i) (I : MemI) (J : MemJ) (h : Inv I J) : WP Γ M_La_law (0, 0) S0 I J 191 [.ref 0, .ref 1, .ref 53, .int (nI i)] [] laQ := by
  obtain ⟨v, Q1, h1, h2⟩ := pr_clear Γ h 
  refine p_aload_n d_La_law_191 rfl ?_
  refine q_V d_La_law_192 ml_La_18 vb_Bo_clear kd_1 ⟨leb rfl, leb rfl⟩ (h1) rfl rfl rfl (fun r S1 I1 J1 hQ => ?_)
  obtain ⟨rfl, rfl, Q2, h3, h4⟩ := h2 _ _ _ _ hQ
  refine p_aload_n d_La_law_195 rfl ?_
  refine q_V d_La_law_196 ml_La_22 vb_Mo_clear kd_53 ⟨leb rfl, leb rfl⟩ (h3) rfl rfl rfl (fun r S1 I2 J1 hQ => ?_)
  obtain ⟨rfl, rfl, h5⟩ := h4 _ _ _ _ hQ
  refine p_icmpeq (tgt := 900) d_La_law_199 (by decide) (fun h199 => ?_) (fun h199 => ?_)
  · exact nx _ _ h5
  · exact absurd rfl h199
theorem la_church (Γ : Cx) (hL : Γ.2.1.1 ≤ 1000) (i : Nat) (hi : i + 6 ≤ Γ.2.1.1) (nx : nxT2 Γ i) (I : MemI) (J : MemJ) (h : Inv I J) : WP Γ M_La_law (0, 0) S0 I J 204 [.ref 0, .ref 1, .ref 53, .int (nI i)] [] laQ := by
  obtain ⟨v, Q1, h1, h2⟩ := pr_church Γ h 
  refine p_aload_n d_La_law_204 rfl ?_
  refine q_V d_La_law_205 ml_La_23 vb_Bo_church kd_1 ⟨leb rfl, leb rfl⟩ (h1) rfl rfl rfl (fun r S1 I1 J1 hQ => ?_)
  obtain ⟨rfl, rfl, Q2, h3, h4⟩ := h2 _ _ _ _ hQ
  refine p_aload_n d_La_law_208 rfl ?_
  refine q_V d_La_law_209 ml_La_26 vb_Mo_church kd_53 ⟨leb rfl, leb rfl⟩ (h3) rfl rfl rfl (fun r S1 I2 J1 hQ => ?_)
  obtain ⟨rfl, rfl, h5⟩ := h4 _ _ _ _ hQ
  refine p_icmpeq (tgt := 900) d_La_law_212 (by decide) (fun h212 => ?_) (fun h212 => ?_)
  · exact nx _ _ h5
  · exact absurd rfl h212
theorem la_pew (Γ : Cx) (hL : Γ.2.1.1 ≤ 1000) (i : Nat) (hi : i + 6 ≤ Γ.2.1.1) (nx : nxT2 Γ i) (I : MemI) (J : MemJ) (h : Inv I J) : WP Γ M_La_law (0, 0) S0 I J 217 [.ref 0, .ref 1, .ref 53, .int (nI i)] [] laQ := by
  obtain ⟨v, Q1, h1, h2⟩ := pr_pew Γ h (Γ.2.1.2 (i + 1)) (Γ.2.1.2 (i + 2))
  refine p_aload_n d_La_law_217 rfl ?_
  refine p_aload_n d_La_law_218 rfl ?_
  refine p_iload_n d_La_law_219 rfl ?_
  refine p_ic_1 d_La_law_220 ?_
  refine p_iaddN (i) (1) d_La_law_221 rfl rfl ?_
  refine p_sldN (i + 1) d_La_law_222 rfl (by omega) hL ?_
  refine p_aload_n d_La_law_223 rfl ?_
  refine p_iload_n d_La_law_224 rfl ?_
  refine p_ic_2 d_La_law_225 ?_
  refine p_iaddN (i) (2) d_La_law_226 rfl rfl ?_
  refine p_sldN (i + 2) d_La_law_227 rfl (by omega) hL ?_
  refine q_V d_La_law_228 ml_La_27 vb_Bo_pew kd_1 ⟨leb rfl, leb rfl⟩ (h1) rfl rfl rfl (fun r S1 I1 J1 hQ => ?_)
  obtain ⟨rfl, rfl, Q2, h3, h4⟩ := h2 _ _ _ _ hQ
  refine p_aload_n d_La_law_231 rfl ?_
  refine p_aload_n d_La_law_232 rfl ?_
  refine p_iload_n d_La_law_233 rfl ?_
  refine p_ic_1 d_La_law_234 ?_
  refine p_iaddN (i) (1) d_La_law_235 rfl rfl ?_
  refine p_sldN (i + 1) d_La_law_236 rfl (by omega) hL ?_
  refine p_aload_n d_La_law_237 rfl ?_
  refine p_iload_n d_La_law_238 rfl ?_
  refine p_ic_2 d_La_law_239 ?_
  refine p_iaddN (i) (2) d_La_law_240 rfl rfl ?_
  refine p_sldN (i + 2) d_La_law_241 rfl (by omega) hL ?_
  refine q_V d_La_law_242 ml_La_31 vb_Mo_pew kd_53 ⟨leb rfl, leb rfl⟩ (h3) rfl rfl rfl (fun r S1 I2 J1 hQ => ?_)
  obtain ⟨rfl, rfl, h5⟩ := h4 _ _ _ _ hQ
  refine p_icmpeq (tgt := 900) d_La_law_245 (by decide) (fun h245 => ?_) (fun h245 => ?_)
  · exact nx _ _ h5
  · exact absurd rfl h245
theorem la_now (Γ : Cx) (hL : Γ.2.1.1 ≤ 1000) (i : Nat) (hi : i + 6 ≤ Γ.2.1.1) (nx : nxT2 Γ i) (I : MemI) (J : MemJ) (h : Inv I J) : WP Γ M_La_law (0, 0) S0 I J 250 [.ref 0, .ref 1, .ref 53, .int (nI i)] [] laQ := by
  obtain ⟨v, Q1, h1, h2⟩ := pr_now Γ h (Γ.2.1.2 (i + 1))
  refine p_aload_n d_La_law_250 rfl ?_
  refine p_aload_n d_La_law_251 rfl ?_
  refine p_iload_n d_La_law_252 rfl ?_
  refine p_ic_1 d_La_law_253 ?_
  refine p_iaddN (i) (1) d_La_law_254 rfl rfl ?_
  refine p_sldN (i + 1) d_La_law_255 rfl (by omega) hL ?_
  refine q_V d_La_law_256 ml_La_32 vb_Bo_now kd_1 ⟨leb rfl, leb rfl⟩ (h1) rfl rfl rfl (fun r S1 I1 J1 hQ => ?_)
  obtain ⟨rfl, rfl, Q2, h3, h4⟩ := h2 _ _ _ _ hQ
  refine p_aload_n d_La_law_259 rfl ?_
  refine p_aload_n d_La_law_260 rfl ?_
  refine p_iload_n d_La_law_261 rfl ?_
  refine p_ic_1 d_La_law_262 ?_
  refine p_iaddN (i) (1) d_La_law_263 rfl rfl ?_
  refine p_sldN (i + 1) d_La_law_264 rfl (by omega) hL ?_
  refine q_V d_La_law_265 ml_La_35 vb_Mo_now kd_53 ⟨leb rfl, leb rfl⟩ (h3) rfl rfl rfl (fun r S1 I2 J1 hQ => ?_)
  obtain ⟨rfl, rfl, h5⟩ := h4 _ _ _ _ hQ
  refine p_icmpeq (tgt := 900) d_La_law_268 (by decide) (fun h268 => ?_) (fun h268 => ?_)
  · exact nx _ _ h5
  · exact absurd rfl h268
theorem la_line (Γ : Cx) (hL : Γ.2.1.1 ≤ 1000) (i : Nat) (hi : i + 6 ≤ Γ.2.1.1) (nx : nxT2 Γ i) (I : MemI) (J : MemJ) (h : Inv I J) : WP Γ M_La_law (0, 0) S0 I J 273 [.ref 0, .ref 1, .ref 53, .int (nI i)] [] laQ := by
  obtain ⟨v, Q1, h1, h2⟩ := pr_line Γ h 
  refine p_aload_n d_La_law_273 rfl ?_
  refine q_V d_La_law_274 ml_La_36 vb_Bo_line kd_1 ⟨leb rfl, leb rfl⟩ (h1) rfl rfl rfl (fun r S1 I1 J1 hQ => ?_)
  obtain ⟨rfl, rfl, Q2, h3, h4⟩ := h2 _ _ _ _ hQ
  refine p_aload_n d_La_law_277 rfl ?_
  refine q_V d_La_law_278 ml_La_39 vb_Mo_line kd_53 ⟨leb rfl, leb rfl⟩ (h3) rfl rfl rfl (fun r S1 I2 J1 hQ => ?_)
  obtain ⟨rfl, rfl, h5⟩ := h4 _ _ _ _ hQ
  refine p_icmpeq (tgt := 900) d_La_law_281 (by decide) (fun h281 => ?_) (fun h281 => ?_)
  · exact nx _ _ h5
  · exact absurd rfl h281
theorem la_verse (Γ : Cx) (hL : Γ.2.1.1 ≤ 1000) (i : Nat) (hi : i + 6 ≤ Γ.2.1.1) (nx : nxT2 Γ i) (I : MemI) (J : MemJ) (h : Inv I J) : WP Γ M_La_law (0, 0) S0 I J 286 [.ref 0, .ref 1, .ref 53, .int (nI i)] [] laQ := by
  obtain ⟨v, Q1, h1, h2⟩ := pr_verse Γ h 
  refine p_aload_n d_La_law_286 rfl ?_
  refine q_V d_La_law_287 ml_La_40 vb_Bo_verse kd_1 ⟨leb rfl, leb rfl⟩ (h1) rfl rfl rfl (fun r S1 I1 J1 hQ => ?_)
  obtain ⟨rfl, rfl, Q2, h3, h4⟩ := h2 _ _ _ _ hQ
  refine p_aload_n d_La_law_290 rfl ?_
  refine q_V d_La_law_291 ml_La_43 vb_Mo_verse kd_53 ⟨leb rfl, leb rfl⟩ (h3) rfl rfl rfl (fun r S1 I2 J1 hQ => ?_)
  obtain ⟨rfl, rfl, h5⟩ := h4 _ _ _ _ hQ
  refine p_icmpeq (tgt := 900) d_La_law_294 (by decide) (fun h294 => ?_) (fun h294 => ?_)
  · exact nx _ _ h5
  · exact absurd rfl h294
theorem la_ahead (Γ : Cx) (hL : Γ.2.1.1 ≤ 1000) (i : Nat) (hi : i + 6 ≤ Γ.2.1.1) (nx : nxT2 Γ i) (I : MemI) (J : MemJ) (h : Inv I J) : WP Γ M_La_law (0, 0) S0 I J 299 [.ref 0, .ref 1, .ref 53, .int (nI i)] [] laQ := by
  obtain ⟨v, Q1, h1, h2⟩ := pr_ahead Γ h (Γ.2.1.2 (i + 1))
  refine p_aload_n d_La_law_299 rfl ?_
  refine p_aload_n d_La_law_300 rfl ?_
  refine p_iload_n d_La_law_301 rfl ?_
  refine p_ic_1 d_La_law_302 ?_
  refine p_iaddN (i) (1) d_La_law_303 rfl rfl ?_
  refine p_sldN (i + 1) d_La_law_304 rfl (by omega) hL ?_
  refine q_V d_La_law_305 ml_La_44 vb_Bo_ahead kd_1 ⟨leb rfl, leb rfl⟩ (h1) rfl rfl rfl (fun r S1 I1 J1 hQ => ?_)
  obtain ⟨rfl, rfl, Q2, h3, h4⟩ := h2 _ _ _ _ hQ
  refine p_aload_n d_La_law_308 rfl ?_
  refine p_aload_n d_La_law_309 rfl ?_
  refine p_iload_n d_La_law_310 rfl ?_
  refine p_ic_1 d_La_law_311 ?_
  refine p_iaddN (i) (1) d_La_law_312 rfl rfl ?_
  refine p_sldN (i + 1) d_La_law_313 rfl (by omega) hL ?_
  refine q_V d_La_law_314 ml_La_47 vb_Mo_ahead kd_53 ⟨leb rfl, leb rfl⟩ (h3) rfl rfl rfl (fun r S1 I2 J1 hQ => ?_)
  obtain ⟨rfl, rfl, h5⟩ := h4 _ _ _ _ hQ
  refine p_icmpeq (tgt := 900) d_La_law_317 (by decide) (fun h317 => ?_) (fun h317 => ?_)
  · exact nx _ _ h5
  · exact absurd rfl h317
theorem la_choir (Γ : Cx) (hL : Γ.2.1.1 ≤ 1000) (i : Nat) (hi : i + 6 ≤ Γ.2.1.1) (nx : nxT2 Γ i) (I : MemI) (J : MemJ) (h : Inv I J) : WP Γ M_La_law (0, 0) S0 I J 322 [.ref 0, .ref 1, .ref 53, .int (nI i)] [] laQ := by
  obtain ⟨v, Q1, h1, h2⟩ := pr_choir Γ h (Γ.2.1.2 (i + 1))
  refine p_aload_n d_La_law_322 rfl ?_
  refine p_aload_n d_La_law_323 rfl ?_
  refine p_iload_n d_La_law_324 rfl ?_
  refine p_ic_1 d_La_law_325 ?_
  refine p_iaddN (i) (1) d_La_law_326 rfl rfl ?_
  refine p_sldN (i + 1) d_La_law_327 rfl (by omega) hL ?_
  refine q_V d_La_law_328 ml_La_48 vb_Bo_choir kd_1 ⟨leb rfl, leb rfl⟩ (h1) rfl rfl rfl (fun r S1 I1 J1 hQ => ?_)
  obtain ⟨rfl, rfl, Q2, h3, h4⟩ := h2 _ _ _ _ hQ
  refine p_aload_n d_La_law_331 rfl ?_
  refine p_aload_n d_La_law_332 rfl ?_
  refine p_iload_n d_La_law_333 rfl ?_
  refine p_ic_1 d_La_law_334 ?_
  refine p_iaddN (i) (1) d_La_law_335 rfl rfl ?_
  refine p_sldN (i + 1) d_La_law_336 rfl (by omega) hL ?_
  refine q_V d_La_law_337 ml_La_51 vb_Mo_choir kd_53 ⟨leb rfl, leb rfl⟩ (h3) rfl rfl rfl (fun r S1 I2 J1 hQ => ?_)
  obtain ⟨rfl, rfl, h5⟩ := h4 _ _ _ _ hQ
  refine p_icmpeq (tgt := 900) d_La_law_340 (by decide) (fun h340 => ?_) (fun h340 => ?_)
  · exact nx _ _ h5
  · exact absurd rfl h340
theorem la_knows (Γ : Cx) (hL : Γ.2.1.1 ≤ 1000) (i : Nat) (hi : i + 6 ≤ Γ.2.1.1) (nx : nxT2 Γ i) (I : MemI) (J : MemJ) (h : Inv I J) : WP Γ M_La_law (0, 0) S0 I J 345 [.ref 0, .ref 1, .ref 53, .int (nI i)] [] laQ := by
  obtain ⟨v, Q1, h1, h2⟩ := pr_knows Γ h (Γ.2.1.2 (i + 1)) (Γ.2.1.2 (i + 2))
  refine p_aload_n d_La_law_345 rfl ?_
  refine p_aload_n d_La_law_346 rfl ?_
  refine p_iload_n d_La_law_347 rfl ?_
  refine p_ic_1 d_La_law_348 ?_
  refine p_iaddN (i) (1) d_La_law_349 rfl rfl ?_
  refine p_sldN (i + 1) d_La_law_350 rfl (by omega) hL ?_
  refine p_aload_n d_La_law_351 rfl ?_
  refine p_iload_n d_La_law_352 rfl ?_
  refine p_ic_2 d_La_law_353 ?_
  refine p_iaddN (i) (2) d_La_law_354 rfl rfl ?_
  refine p_sldN (i + 2) d_La_law_355 rfl (by omega) hL ?_
  refine q_V d_La_law_356 ml_La_52 vb_Bo_knows kd_1 ⟨leb rfl, leb rfl⟩ (h1) rfl rfl rfl (fun r S1 I1 J1 hQ => ?_)
  obtain ⟨rfl, rfl, Q2, h3, h4⟩ := h2 _ _ _ _ hQ
  refine p_aload_n d_La_law_359 rfl ?_
  refine p_aload_n d_La_law_360 rfl ?_
  refine p_iload_n d_La_law_361 rfl ?_
  refine p_ic_1 d_La_law_362 ?_
  refine p_iaddN (i) (1) d_La_law_363 rfl rfl ?_
  refine p_sldN (i + 1) d_La_law_364 rfl (by omega) hL ?_
  refine p_aload_n d_La_law_365 rfl ?_
  refine p_iload_n d_La_law_366 rfl ?_
  refine p_ic_2 d_La_law_367 ?_
  refine p_iaddN (i) (2) d_La_law_368 rfl rfl ?_
  refine p_sldN (i + 2) d_La_law_369 rfl (by omega) hL ?_
  refine q_V d_La_law_370 ml_La_55 vb_Mo_knows kd_53 ⟨leb rfl, leb rfl⟩ (h3) rfl rfl rfl (fun r S1 I2 J1 hQ => ?_)
  obtain ⟨rfl, rfl, h5⟩ := h4 _ _ _ _ hQ
  refine p_icmpeq (tgt := 900) d_La_law_373 (by decide) (fun h373 => ?_) (fun h373 => ?_)
  · exact nx _ _ h5
  · exact absurd rfl h373
theorem la_waits (Γ : Cx) (hL : Γ.2.1.1 ≤ 1000) (i : Nat) (hi : i + 6 ≤ Γ.2.1.1) (nx : nxT2 Γ i) (I : MemI) (J : MemJ) (h : Inv I J) : WP Γ M_La_law (0, 0) S0 I J 378 [.ref 0, .ref 1, .ref 53, .int (nI i)] [] laQ := by
  obtain ⟨v, Q1, h1, h2⟩ := pr_waits Γ h (Γ.2.1.2 (i + 1))
  refine p_aload_n d_La_law_378 rfl ?_
  refine p_aload_n d_La_law_379 rfl ?_
  refine p_iload_n d_La_law_380 rfl ?_
  refine p_ic_1 d_La_law_381 ?_
  refine p_iaddN (i) (1) d_La_law_382 rfl rfl ?_
  refine p_sldN (i + 1) d_La_law_383 rfl (by omega) hL ?_
  refine q_V d_La_law_384 ml_La_56 vb_Bo_waits kd_1 ⟨leb rfl, leb rfl⟩ (h1) rfl rfl rfl (fun r S1 I1 J1 hQ => ?_)
  obtain ⟨rfl, rfl, Q2, h3, h4⟩ := h2 _ _ _ _ hQ
  refine p_aload_n d_La_law_387 rfl ?_
  refine p_aload_n d_La_law_388 rfl ?_
  refine p_iload_n d_La_law_389 rfl ?_
  refine p_ic_1 d_La_law_390 ?_
  refine p_iaddN (i) (1) d_La_law_391 rfl rfl ?_
  refine p_sldN (i + 1) d_La_law_392 rfl (by omega) hL ?_
  refine q_V d_La_law_393 ml_La_59 vb_Mo_waits kd_53 ⟨leb rfl, leb rfl⟩ (h3) rfl rfl rfl (fun r S1 I2 J1 hQ => ?_)
  obtain ⟨rfl, rfl, h5⟩ := h4 _ _ _ _ hQ
  refine p_icmpeq (tgt := 900) d_La_law_396 (by decide) (fun h396 => ?_) (fun h396 => ?_)
  · exact nx _ _ h5
  · exact absurd rfl h396
theorem la_undo (Γ : Cx) (hL : Γ.2.1.1 ≤ 1000) (i : Nat) (hi : i + 6 ≤ Γ.2.1.1) (nx : nxT2 Γ i) (I : MemI) (J : MemJ) (h : Inv I J) : WP Γ M_La_law (0, 0) S0 I J 401 [.ref 0, .ref 1, .ref 53, .int (nI i)] [] laQ := by
  obtain ⟨v, Q1, h1, h2⟩ := pr_undo Γ h 
  refine p_aload_n d_La_law_401 rfl ?_
  refine q_V d_La_law_402 ml_La_60 vb_Bo_undo kd_1 ⟨leb rfl, leb rfl⟩ (h1) rfl rfl rfl (fun r S1 I1 J1 hQ => ?_)
  obtain ⟨rfl, rfl, Q2, h3, h4⟩ := h2 _ _ _ _ hQ
  refine p_aload_n d_La_law_405 rfl ?_
  refine q_V d_La_law_406 ml_La_63 vb_Mo_undo kd_53 ⟨leb rfl, leb rfl⟩ (h3) rfl rfl rfl (fun r S1 I2 J1 hQ => ?_)
  obtain ⟨rfl, rfl, h5⟩ := h4 _ _ _ _ hQ
  refine p_icmpeq (tgt := 900) d_La_law_409 (by decide) (fun h409 => ?_) (fun h409 => ?_)
  · exact nx _ _ h5
  · exact absurd rfl h409
theorem la_behind (Γ : Cx) (hL : Γ.2.1.1 ≤ 1000) (i : Nat) (hi : i + 6 ≤ Γ.2.1.1) (nx : nxT2 Γ i) (I : MemI) (J : MemJ) (h : Inv I J) : WP Γ M_La_law (0, 0) S0 I J 414 [.ref 0, .ref 1, .ref 53, .int (nI i)] [] laQ := by
  obtain ⟨v, Q1, h1, h2⟩ := pr_behind Γ h (Γ.2.1.2 (i + 1)) (Γ.2.1.2 (i + 2))
  refine p_aload_n d_La_law_414 rfl ?_
  refine p_aload_n d_La_law_415 rfl ?_
  refine p_iload_n d_La_law_416 rfl ?_
  refine p_ic_1 d_La_law_417 ?_
  refine p_iaddN (i) (1) d_La_law_418 rfl rfl ?_
  refine p_sldN (i + 1) d_La_law_419 rfl (by omega) hL ?_
  refine p_aload_n d_La_law_420 rfl ?_
  refine p_iload_n d_La_law_421 rfl ?_
  refine p_ic_2 d_La_law_422 ?_
  refine p_iaddN (i) (2) d_La_law_423 rfl rfl ?_
  refine p_sldN (i + 2) d_La_law_424 rfl (by omega) hL ?_
  refine q_V d_La_law_425 ml_La_64 vb_Bo_behind kd_1 ⟨leb rfl, leb rfl⟩ (h1) rfl rfl rfl (fun r S1 I1 J1 hQ => ?_)
  obtain ⟨rfl, rfl, Q2, h3, h4⟩ := h2 _ _ _ _ hQ
  refine p_aload_n d_La_law_428 rfl ?_
  refine p_aload_n d_La_law_429 rfl ?_
  refine p_iload_n d_La_law_430 rfl ?_
  refine p_ic_1 d_La_law_431 ?_
  refine p_iaddN (i) (1) d_La_law_432 rfl rfl ?_
  refine p_sldN (i + 1) d_La_law_433 rfl (by omega) hL ?_
  refine p_aload_n d_La_law_434 rfl ?_
  refine p_iload_n d_La_law_435 rfl ?_
  refine p_ic_2 d_La_law_436 ?_
  refine p_iaddN (i) (2) d_La_law_437 rfl rfl ?_
  refine p_sldN (i + 2) d_La_law_438 rfl (by omega) hL ?_
  refine q_V d_La_law_439 ml_La_67 vb_Mo_behind kd_53 ⟨leb rfl, leb rfl⟩ (h3) rfl rfl rfl (fun r S1 I2 J1 hQ => ?_)
  obtain ⟨rfl, rfl, h5⟩ := h4 _ _ _ _ hQ
  refine p_icmpeq (tgt := 900) d_La_law_442 (by decide) (fun h442 => ?_) (fun h442 => ?_)
  · exact nx _ _ h5
  · exact absurd rfl h442
theorem la_asleep (Γ : Cx) (hL : Γ.2.1.1 ≤ 1000) (i : Nat) (hi : i + 6 ≤ Γ.2.1.1) (nx : nxT2 Γ i) (I : MemI) (J : MemJ) (h : Inv I J) : WP Γ M_La_law (0, 0) S0 I J 447 [.ref 0, .ref 1, .ref 53, .int (nI i)] [] laQ := by
  obtain ⟨v, Q1, h1, h2⟩ := pr_asleep Γ h (Γ.2.1.2 (i + 1))
  refine p_aload_n d_La_law_447 rfl ?_
  refine p_aload_n d_La_law_448 rfl ?_
  refine p_iload_n d_La_law_449 rfl ?_
  refine p_ic_1 d_La_law_450 ?_
  refine p_iaddN (i) (1) d_La_law_451 rfl rfl ?_
  refine p_sldN (i + 1) d_La_law_452 rfl (by omega) hL ?_
  refine q_V d_La_law_453 ml_La_68 vb_Bo_asleep kd_1 ⟨leb rfl, leb rfl⟩ (h1) rfl rfl rfl (fun r S1 I1 J1 hQ => ?_)
  obtain ⟨rfl, rfl, Q2, h3, h4⟩ := h2 _ _ _ _ hQ
  refine p_aload_n d_La_law_456 rfl ?_
  refine p_aload_n d_La_law_457 rfl ?_
  refine p_iload_n d_La_law_458 rfl ?_
  refine p_ic_1 d_La_law_459 ?_
  refine p_iaddN (i) (1) d_La_law_460 rfl rfl ?_
  refine p_sldN (i + 1) d_La_law_461 rfl (by omega) hL ?_
  refine q_V d_La_law_462 ml_La_71 vb_Mo_asleep kd_53 ⟨leb rfl, leb rfl⟩ (h3) rfl rfl rfl (fun r S1 I2 J1 hQ => ?_)
  obtain ⟨rfl, rfl, h5⟩ := h4 _ _ _ _ hQ
  refine p_icmpeq (tgt := 900) d_La_law_465 (by decide) (fun h465 => ?_) (fun h465 => ?_)
  · exact nx _ _ h5
  · exact absurd rfl h465
theorem la_rest (Γ : Cx) (hL : Γ.2.1.1 ≤ 1000) (i : Nat) (hi : i + 6 ≤ Γ.2.1.1) (nx : nxT2 Γ i) (I : MemI) (J : MemJ) (h : Inv I J) : WP Γ M_La_law (0, 0) S0 I J 470 [.ref 0, .ref 1, .ref 53, .int (nI i)] [] laQ := by
  obtain ⟨v, Q1, h1, h2⟩ := pr_rest Γ h 
  refine p_aload_n d_La_law_470 rfl ?_
  refine q_V d_La_law_471 ml_La_72 vb_Bo_rest kd_1 ⟨leb rfl, leb rfl⟩ (h1) rfl rfl rfl (fun r S1 I1 J1 hQ => ?_)
  obtain ⟨rfl, rfl, Q2, h3, h4⟩ := h2 _ _ _ _ hQ
  refine p_aload_n d_La_law_474 rfl ?_
  refine q_V d_La_law_475 ml_La_75 vb_Mo_rest kd_53 ⟨leb rfl, leb rfl⟩ (h3) rfl rfl rfl (fun r S1 I2 J1 hQ => ?_)
  obtain ⟨rfl, rfl, h5⟩ := h4 _ _ _ _ hQ
  refine p_icmpeq (tgt := 900) d_La_law_478 (by decide) (fun h478 => ?_) (fun h478 => ?_)
  · exact nx _ _ h5
  · exact absurd rfl h478
theorem la_playAhead (Γ : Cx) (hL : Γ.2.1.1 ≤ 1000) (i : Nat) (hi : i + 6 ≤ Γ.2.1.1) (nx : nxT2 Γ i) (I : MemI) (J : MemJ) (h : Inv I J) : WP Γ M_La_law (0, 0) S0 I J 483 [.ref 0, .ref 1, .ref 53, .int (nI i)] [] laQ := by
  obtain ⟨v, Q1, h1, h2⟩ := pr_playAhead Γ h (Γ.2.1.2 (i + 1)) (Γ.2.1.2 (i + 2))
  refine p_aload_n d_La_law_483 rfl ?_
  refine p_aload_n d_La_law_484 rfl ?_
  refine p_iload_n d_La_law_485 rfl ?_
  refine p_ic_1 d_La_law_486 ?_
  refine p_iaddN (i) (1) d_La_law_487 rfl rfl ?_
  refine p_sldN (i + 1) d_La_law_488 rfl (by omega) hL ?_
  refine p_aload_n d_La_law_489 rfl ?_
  refine p_iload_n d_La_law_490 rfl ?_
  refine p_ic_2 d_La_law_491 ?_
  refine p_iaddN (i) (2) d_La_law_492 rfl rfl ?_
  refine p_sldN (i + 2) d_La_law_493 rfl (by omega) hL ?_
  refine q_V d_La_law_494 ml_La_76 vb_Bo_playAhead kd_1 ⟨leb rfl, leb rfl⟩ (h1) rfl rfl rfl (fun r S1 I1 J1 hQ => ?_)
  obtain ⟨rfl, rfl, Q2, h3, h4⟩ := h2 _ _ _ _ hQ
  refine p_aload_n d_La_law_497 rfl ?_
  refine p_aload_n d_La_law_498 rfl ?_
  refine p_iload_n d_La_law_499 rfl ?_
  refine p_ic_1 d_La_law_500 ?_
  refine p_iaddN (i) (1) d_La_law_501 rfl rfl ?_
  refine p_sldN (i + 1) d_La_law_502 rfl (by omega) hL ?_
  refine p_aload_n d_La_law_503 rfl ?_
  refine p_iload_n d_La_law_504 rfl ?_
  refine p_ic_2 d_La_law_505 ?_
  refine p_iaddN (i) (2) d_La_law_506 rfl rfl ?_
  refine p_sldN (i + 2) d_La_law_507 rfl (by omega) hL ?_
  refine q_V d_La_law_508 ml_La_79 vb_Mo_playAhead kd_53 ⟨leb rfl, leb rfl⟩ (h3) rfl rfl rfl (fun r S1 I2 J1 hQ => ?_)
  obtain ⟨rfl, rfl, h5⟩ := h4 _ _ _ _ hQ
  refine p_icmpeq (tgt := 900) d_La_law_511 (by decide) (fun h511 => ?_) (fun h511 => ?_)
  · exact nx _ _ h5
  · exact absurd rfl h511
theorem la_seat (Γ : Cx) (hL : Γ.2.1.1 ≤ 1000) (i : Nat) (hi : i + 6 ≤ Γ.2.1.1) (nx : nxT2 Γ i) (I : MemI) (J : MemJ) (h : Inv I J) : WP Γ M_La_law (0, 0) S0 I J 516 [.ref 0, .ref 1, .ref 53, .int (nI i)] [] laQ := by
  obtain ⟨v, Q1, h1, h2⟩ := pr_seat Γ h (Γ.2.1.2 (i + 1)) (Γ.2.1.2 (i + 2))
  refine p_aload_n d_La_law_516 rfl ?_
  refine p_aload_n d_La_law_517 rfl ?_
  refine p_iload_n d_La_law_518 rfl ?_
  refine p_ic_1 d_La_law_519 ?_
  refine p_iaddN (i) (1) d_La_law_520 rfl rfl ?_
  refine p_sldN (i + 1) d_La_law_521 rfl (by omega) hL ?_
  refine p_aload_n d_La_law_522 rfl ?_
  refine p_iload_n d_La_law_523 rfl ?_
  refine p_ic_2 d_La_law_524 ?_
  refine p_iaddN (i) (2) d_La_law_525 rfl rfl ?_
  refine p_sldN (i + 2) d_La_law_526 rfl (by omega) hL ?_
  refine q_V d_La_law_527 ml_La_80 vb_Bo_seat kd_1 ⟨leb rfl, leb rfl⟩ (h1) rfl rfl rfl (fun r S1 I1 J1 hQ => ?_)
  obtain ⟨rfl, rfl, Q2, h3, h4⟩ := h2 _ _ _ _ hQ
  refine p_aload_n d_La_law_530 rfl ?_
  refine p_aload_n d_La_law_531 rfl ?_
  refine p_iload_n d_La_law_532 rfl ?_
  refine p_ic_1 d_La_law_533 ?_
  refine p_iaddN (i) (1) d_La_law_534 rfl rfl ?_
  refine p_sldN (i + 1) d_La_law_535 rfl (by omega) hL ?_
  refine p_aload_n d_La_law_536 rfl ?_
  refine p_iload_n d_La_law_537 rfl ?_
  refine p_ic_2 d_La_law_538 ?_
  refine p_iaddN (i) (2) d_La_law_539 rfl rfl ?_
  refine p_sldN (i + 2) d_La_law_540 rfl (by omega) hL ?_
  refine q_V d_La_law_541 ml_La_83 vb_Mo_seat kd_53 ⟨leb rfl, leb rfl⟩ (h3) rfl rfl rfl (fun r S1 I2 J1 hQ => ?_)
  obtain ⟨rfl, rfl, h5⟩ := h4 _ _ _ _ hQ
  refine p_icmpeq (tgt := 900) d_La_law_544 (by decide) (fun h544 => ?_) (fun h544 => ?_)
  · exact nx _ _ h5
  · exact absurd rfl h544
theorem la_knowers (Γ : Cx) (hL : Γ.2.1.1 ≤ 1000) (i : Nat) (hi : i + 6 ≤ Γ.2.1.1) (nx : nxT2 Γ i) (I : MemI) (J : MemJ) (h : Inv I J) : WP Γ M_La_law (0, 0) S0 I J 549 [.ref 0, .ref 1, .ref 53, .int (nI i)] [] laQ := by
  obtain ⟨v, Q1, h1, h2⟩ := pr_knowers Γ h (Γ.2.1.2 (i + 1)) (Γ.2.1.2 (i + 2))
  refine p_aload_n d_La_law_549 rfl ?_
  refine p_aload_n d_La_law_550 rfl ?_
  refine p_iload_n d_La_law_551 rfl ?_
  refine p_ic_1 d_La_law_552 ?_
  refine p_iaddN (i) (1) d_La_law_553 rfl rfl ?_
  refine p_sldN (i + 1) d_La_law_554 rfl (by omega) hL ?_
  refine p_aload_n d_La_law_555 rfl ?_
  refine p_iload_n d_La_law_556 rfl ?_
  refine p_ic_2 d_La_law_557 ?_
  refine p_iaddN (i) (2) d_La_law_558 rfl rfl ?_
  refine p_sldN (i + 2) d_La_law_559 rfl (by omega) hL ?_
  refine q_V d_La_law_560 ml_La_84 vb_Bo_knowers kd_1 ⟨leb rfl, leb rfl⟩ (h1) rfl rfl rfl (fun r S1 I1 J1 hQ => ?_)
  obtain ⟨rfl, rfl, Q2, h3, h4⟩ := h2 _ _ _ _ hQ
  refine p_aload_n d_La_law_563 rfl ?_
  refine p_aload_n d_La_law_564 rfl ?_
  refine p_iload_n d_La_law_565 rfl ?_
  refine p_ic_1 d_La_law_566 ?_
  refine p_iaddN (i) (1) d_La_law_567 rfl rfl ?_
  refine p_sldN (i + 1) d_La_law_568 rfl (by omega) hL ?_
  refine p_aload_n d_La_law_569 rfl ?_
  refine p_iload_n d_La_law_570 rfl ?_
  refine p_ic_2 d_La_law_571 ?_
  refine p_iaddN (i) (2) d_La_law_572 rfl rfl ?_
  refine p_sldN (i + 2) d_La_law_573 rfl (by omega) hL ?_
  refine q_V d_La_law_574 ml_La_87 vb_Mo_knowers kd_53 ⟨leb rfl, leb rfl⟩ (h3) rfl rfl rfl (fun r S1 I2 J1 hQ => ?_)
  obtain ⟨rfl, rfl, h5⟩ := h4 _ _ _ _ hQ
  refine p_icmpeq (tgt := 900) d_La_law_577 (by decide) (fun h577 => ?_) (fun h577 => ?_)
  · exact nx _ _ h5
  · exact absurd rfl h577
theorem la_pulls (Γ : Cx) (hL : Γ.2.1.1 ≤ 1000) (i : Nat) (hi : i + 6 ≤ Γ.2.1.1) (nx : nxT2 Γ i) (I : MemI) (J : MemJ) (h : Inv I J) : WP Γ M_La_law (0, 0) S0 I J 582 [.ref 0, .ref 1, .ref 53, .int (nI i)] [] laQ := by
  obtain ⟨v, Q1, h1, h2⟩ := pr_pulls Γ h (Γ.2.1.2 (i + 1))
  refine p_aload_n d_La_law_582 rfl ?_
  refine p_aload_n d_La_law_583 rfl ?_
  refine p_iload_n d_La_law_584 rfl ?_
  refine p_ic_1 d_La_law_585 ?_
  refine p_iaddN (i) (1) d_La_law_586 rfl rfl ?_
  refine p_sldN (i + 1) d_La_law_587 rfl (by omega) hL ?_
  refine q_V d_La_law_588 ml_La_88 vb_Bo_pulls kd_1 ⟨leb rfl, leb rfl⟩ (h1) rfl rfl rfl (fun r S1 I1 J1 hQ => ?_)
  obtain ⟨rfl, rfl, Q2, h3, h4⟩ := h2 _ _ _ _ hQ
  refine p_aload_n d_La_law_591 rfl ?_
  refine p_aload_n d_La_law_592 rfl ?_
  refine p_iload_n d_La_law_593 rfl ?_
  refine p_ic_1 d_La_law_594 ?_
  refine p_iaddN (i) (1) d_La_law_595 rfl rfl ?_
  refine p_sldN (i + 1) d_La_law_596 rfl (by omega) hL ?_
  refine q_V d_La_law_597 ml_La_91 vb_Mo_pulls kd_53 ⟨leb rfl, leb rfl⟩ (h3) rfl rfl rfl (fun r S1 I2 J1 hQ => ?_)
  obtain ⟨rfl, rfl, h5⟩ := h4 _ _ _ _ hQ
  refine p_icmpeq (tgt := 900) d_La_law_600 (by decide) (fun h600 => ?_) (fun h600 => ?_)
  · exact nx _ _ h5
  · exact absurd rfl h600
theorem la_change (Γ : Cx) (hL : Γ.2.1.1 ≤ 1000) (i : Nat) (hi : i + 6 ≤ Γ.2.1.1) (nx : nxT2 Γ i) (I : MemI) (J : MemJ) (h : Inv I J) : WP Γ M_La_law (0, 0) S0 I J 605 [.ref 0, .ref 1, .ref 53, .int (nI i)] [] laQ := by
  obtain ⟨v, Q1, h1, h2⟩ := pr_change Γ h (Γ.2.1.2 (i + 1))
  refine p_aload_n d_La_law_605 rfl ?_
  refine p_aload_n d_La_law_606 rfl ?_
  refine p_iload_n d_La_law_607 rfl ?_
  refine p_ic_1 d_La_law_608 ?_
  refine p_iaddN (i) (1) d_La_law_609 rfl rfl ?_
  refine p_sldN (i + 1) d_La_law_610 rfl (by omega) hL ?_
  refine q_V d_La_law_611 ml_La_92 vb_Bo_change kd_1 ⟨leb rfl, leb rfl⟩ (h1) rfl rfl rfl (fun r S1 I1 J1 hQ => ?_)
  obtain ⟨rfl, rfl, Q2, h3, h4⟩ := h2 _ _ _ _ hQ
  refine p_aload_n d_La_law_614 rfl ?_
  refine p_aload_n d_La_law_615 rfl ?_
  refine p_iload_n d_La_law_616 rfl ?_
  refine p_ic_1 d_La_law_617 ?_
  refine p_iaddN (i) (1) d_La_law_618 rfl rfl ?_
  refine p_sldN (i + 1) d_La_law_619 rfl (by omega) hL ?_
  refine q_V d_La_law_620 ml_La_95 vb_Mo_change kd_53 ⟨leb rfl, leb rfl⟩ (h3) rfl rfl rfl (fun r S1 I2 J1 hQ => ?_)
  obtain ⟨rfl, rfl, h5⟩ := h4 _ _ _ _ hQ
  refine p_icmpeq (tgt := 900) d_La_law_623 (by decide) (fun h623 => ?_) (fun h623 => ?_)
  · exact nx _ _ h5
  · exact absurd rfl h623
theorem la_gaps (Γ : Cx) (hL : Γ.2.1.1 ≤ 1000) (i : Nat) (hi : i + 6 ≤ Γ.2.1.1) (nx : nxT2 Γ i) (I : MemI) (J : MemJ) (h : Inv I J) : WP Γ M_La_law (0, 0) S0 I J 628 [.ref 0, .ref 1, .ref 53, .int (nI i)] [] laQ := by
  obtain ⟨v, Q1, h1, h2⟩ := pr_gaps Γ h (Γ.2.1.2 (i + 1))
  refine p_aload_n d_La_law_628 rfl ?_
  refine p_aload_n d_La_law_629 rfl ?_
  refine p_iload_n d_La_law_630 rfl ?_
  refine p_ic_1 d_La_law_631 ?_
  refine p_iaddN (i) (1) d_La_law_632 rfl rfl ?_
  refine p_sldN (i + 1) d_La_law_633 rfl (by omega) hL ?_
  refine q_V d_La_law_634 ml_La_96 vb_Bo_gaps kd_1 ⟨leb rfl, leb rfl⟩ (h1) rfl rfl rfl (fun r S1 I1 J1 hQ => ?_)
  obtain ⟨rfl, rfl, Q2, h3, h4⟩ := h2 _ _ _ _ hQ
  refine p_aload_n d_La_law_637 rfl ?_
  refine p_aload_n d_La_law_638 rfl ?_
  refine p_iload_n d_La_law_639 rfl ?_
  refine p_ic_1 d_La_law_640 ?_
  refine p_iaddN (i) (1) d_La_law_641 rfl rfl ?_
  refine p_sldN (i + 1) d_La_law_642 rfl (by omega) hL ?_
  refine q_V d_La_law_643 ml_La_99 vb_Mo_gaps kd_53 ⟨leb rfl, leb rfl⟩ (h3) rfl rfl rfl (fun r S1 I2 J1 hQ => ?_)
  obtain ⟨rfl, rfl, h5⟩ := h4 _ _ _ _ hQ
  refine p_icmpeq (tgt := 900) d_La_law_646 (by decide) (fun h646 => ?_) (fun h646 => ?_)
  · exact nx _ _ h5
  · exact absurd rfl h646
theorem la_hear (Γ : Cx) (hL : Γ.2.1.1 ≤ 1000) (i : Nat) (hi : i + 6 ≤ Γ.2.1.1) (nx : nxT2 Γ i) (I : MemI) (J : MemJ) (h : Inv I J) : WP Γ M_La_law (0, 0) S0 I J 651 [.ref 0, .ref 1, .ref 53, .int (nI i)] [] laQ := by
  obtain ⟨v, Q1, h1, h2⟩ := pr_hear Γ h (Γ.2.1.2 (i + 1)) (Γ.2.1.2 (i + 2)) (Γ.2.1.2 (i + 3))
  refine p_aload_n d_La_law_651 rfl ?_
  refine p_aload_n d_La_law_652 rfl ?_
  refine p_iload_n d_La_law_653 rfl ?_
  refine p_ic_1 d_La_law_654 ?_
  refine p_iaddN (i) (1) d_La_law_655 rfl rfl ?_
  refine p_sldN (i + 1) d_La_law_656 rfl (by omega) hL ?_
  refine p_aload_n d_La_law_657 rfl ?_
  refine p_iload_n d_La_law_658 rfl ?_
  refine p_ic_2 d_La_law_659 ?_
  refine p_iaddN (i) (2) d_La_law_660 rfl rfl ?_
  refine p_sldN (i + 2) d_La_law_661 rfl (by omega) hL ?_
  refine p_aload_n d_La_law_662 rfl ?_
  refine p_iload_n d_La_law_663 rfl ?_
  refine p_ic_3 d_La_law_664 ?_
  refine p_iaddN (i) (3) d_La_law_665 rfl rfl ?_
  refine p_sldN (i + 3) d_La_law_666 rfl (by omega) hL ?_
  refine q_V d_La_law_667 ml_La_100 vb_Bo_hear kd_1 ⟨leb rfl, leb rfl⟩ (h1) rfl rfl rfl (fun r S1 I1 J1 hQ => ?_)
  obtain ⟨rfl, rfl, Q2, h3, h4⟩ := h2 _ _ _ _ hQ
  refine p_aload_n d_La_law_670 rfl ?_
  refine p_aload_n d_La_law_671 rfl ?_
  refine p_iload_n d_La_law_672 rfl ?_
  refine p_ic_1 d_La_law_673 ?_
  refine p_iaddN (i) (1) d_La_law_674 rfl rfl ?_
  refine p_sldN (i + 1) d_La_law_675 rfl (by omega) hL ?_
  refine p_aload_n d_La_law_676 rfl ?_
  refine p_iload_n d_La_law_677 rfl ?_
  refine p_ic_2 d_La_law_678 ?_
  refine p_iaddN (i) (2) d_La_law_679 rfl rfl ?_
  refine p_sldN (i + 2) d_La_law_680 rfl (by omega) hL ?_
  refine p_aload_n d_La_law_681 rfl ?_
  refine p_iload_n d_La_law_682 rfl ?_
  refine p_ic_3 d_La_law_683 ?_
  refine p_iaddN (i) (3) d_La_law_684 rfl rfl ?_
  refine p_sldN (i + 3) d_La_law_685 rfl (by omega) hL ?_
  refine q_V d_La_law_686 ml_La_104 vb_Mo_hear kd_53 ⟨leb rfl, leb rfl⟩ (h3) rfl rfl rfl (fun r S1 I2 J1 hQ => ?_)
  obtain ⟨rfl, rfl, h5⟩ := h4 _ _ _ _ hQ
  refine p_icmpeq (tgt := 900) d_La_law_689 (by decide) (fun h689 => ?_) (fun h689 => ?_)
  · exact nx _ _ h5
  · exact absurd rfl h689
theorem la_forget (Γ : Cx) (hL : Γ.2.1.1 ≤ 1000) (i : Nat) (hi : i + 6 ≤ Γ.2.1.1) (nx : nxT2 Γ i) (I : MemI) (J : MemJ) (h : Inv I J) : WP Γ M_La_law (0, 0) S0 I J 694 [.ref 0, .ref 1, .ref 53, .int (nI i)] [] laQ := by
  obtain ⟨v, Q1, h1, h2⟩ := pr_forget Γ h 
  refine p_aload_n d_La_law_694 rfl ?_
  refine q_V d_La_law_695 ml_La_105 vb_Bo_forget kd_1 ⟨leb rfl, leb rfl⟩ (h1) rfl rfl rfl (fun r S1 I1 J1 hQ => ?_)
  obtain ⟨rfl, rfl, Q2, h3, h4⟩ := h2 _ _ _ _ hQ
  refine p_aload_n d_La_law_698 rfl ?_
  refine q_V d_La_law_699 ml_La_108 vb_Mo_forget kd_53 ⟨leb rfl, leb rfl⟩ (h3) rfl rfl rfl (fun r S1 I2 J1 hQ => ?_)
  obtain ⟨rfl, rfl, h5⟩ := h4 _ _ _ _ hQ
  refine p_icmpeq (tgt := 900) d_La_law_702 (by decide) (fun h702 => ?_) (fun h702 => ?_)
  · exact nx _ _ h5
  · exact absurd rfl h702
theorem la_waited (Γ : Cx) (hL : Γ.2.1.1 ≤ 1000) (i : Nat) (hi : i + 6 ≤ Γ.2.1.1) (nx : nxT2 Γ i) (I : MemI) (J : MemJ) (h : Inv I J) : WP Γ M_La_law (0, 0) S0 I J 707 [.ref 0, .ref 1, .ref 53, .int (nI i)] [] laQ := by
  obtain ⟨v, Q1, h1, h2⟩ := pr_waited Γ h 
  refine p_aload_n d_La_law_707 rfl ?_
  refine q_V d_La_law_708 ml_La_109 vb_Bo_waited kd_1 ⟨leb rfl, leb rfl⟩ (h1) rfl rfl rfl (fun r S1 I1 J1 hQ => ?_)
  obtain ⟨rfl, rfl, Q2, h3, h4⟩ := h2 _ _ _ _ hQ
  refine p_aload_n d_La_law_711 rfl ?_
  refine q_V d_La_law_712 ml_La_112 vb_Mo_waited kd_53 ⟨leb rfl, leb rfl⟩ (h3) rfl rfl rfl (fun r S1 I2 J1 hQ => ?_)
  obtain ⟨rfl, rfl, h5⟩ := h4 _ _ _ _ hQ
  refine p_icmpeq (tgt := 900) d_La_law_715 (by decide) (fun h715 => ?_) (fun h715 => ?_)
  · exact nx _ _ h5
  · exact absurd rfl h715
theorem la_odds (Γ : Cx) (hL : Γ.2.1.1 ≤ 1000) (i : Nat) (hi : i + 6 ≤ Γ.2.1.1) (nx : nxT2 Γ i) (I : MemI) (J : MemJ) (h : Inv I J) : WP Γ M_La_law (0, 0) S0 I J 720 [.ref 0, .ref 1, .ref 53, .int (nI i)] [] laQ := by
  obtain ⟨v, Q1, h1, h2⟩ := pr_odds Γ h (Γ.2.1.2 (i + 1)) (Γ.2.1.2 (i + 2)) (Γ.2.1.2 (i + 3)) (Γ.2.1.2 (i + 4)) (Γ.2.1.2 (i + 5))
  refine p_aload_n d_La_law_720 rfl ?_
  refine p_aload_n d_La_law_721 rfl ?_
  refine p_iload_n d_La_law_722 rfl ?_
  refine p_ic_1 d_La_law_723 ?_
  refine p_iaddN (i) (1) d_La_law_724 rfl rfl ?_
  refine p_sldN (i + 1) d_La_law_725 rfl (by omega) hL ?_
  refine p_aload_n d_La_law_726 rfl ?_
  refine p_iload_n d_La_law_727 rfl ?_
  refine p_ic_2 d_La_law_728 ?_
  refine p_iaddN (i) (2) d_La_law_729 rfl rfl ?_
  refine p_sldN (i + 2) d_La_law_730 rfl (by omega) hL ?_
  refine p_aload_n d_La_law_731 rfl ?_
  refine p_iload_n d_La_law_732 rfl ?_
  refine p_ic_3 d_La_law_733 ?_
  refine p_iaddN (i) (3) d_La_law_734 rfl rfl ?_
  refine p_sldN (i + 3) d_La_law_735 rfl (by omega) hL ?_
  refine p_aload_n d_La_law_736 rfl ?_
  refine p_iload_n d_La_law_737 rfl ?_
  refine p_ic_4 d_La_law_738 ?_
  refine p_iaddN (i) (4) d_La_law_739 rfl rfl ?_
  refine p_sldN (i + 4) d_La_law_740 rfl (by omega) hL ?_
  refine p_aload_n d_La_law_741 rfl ?_
  refine p_iload_n d_La_law_742 rfl ?_
  refine p_ic_5 d_La_law_743 ?_
  refine p_iaddN (i) (5) d_La_law_744 rfl rfl ?_
  refine p_sldN (i + 5) d_La_law_745 rfl (by omega) hL ?_
  refine q_V d_La_law_746 ml_La_113 vb_Bo_odds kd_1 ⟨leb rfl, leb rfl⟩ (h1) rfl rfl rfl (fun r S1 I1 J1 hQ => ?_)
  obtain ⟨rfl, rfl, Q2, h3, h4⟩ := h2 _ _ _ _ hQ
  refine p_aload_n d_La_law_749 rfl ?_
  refine p_aload_n d_La_law_750 rfl ?_
  refine p_iload_n d_La_law_751 rfl ?_
  refine p_ic_1 d_La_law_752 ?_
  refine p_iaddN (i) (1) d_La_law_753 rfl rfl ?_
  refine p_sldN (i + 1) d_La_law_754 rfl (by omega) hL ?_
  refine p_aload_n d_La_law_755 rfl ?_
  refine p_iload_n d_La_law_756 rfl ?_
  refine p_ic_2 d_La_law_757 ?_
  refine p_iaddN (i) (2) d_La_law_758 rfl rfl ?_
  refine p_sldN (i + 2) d_La_law_759 rfl (by omega) hL ?_
  refine p_aload_n d_La_law_760 rfl ?_
  refine p_iload_n d_La_law_761 rfl ?_
  refine p_ic_3 d_La_law_762 ?_
  refine p_iaddN (i) (3) d_La_law_763 rfl rfl ?_
  refine p_sldN (i + 3) d_La_law_764 rfl (by omega) hL ?_
  refine p_aload_n d_La_law_765 rfl ?_
  refine p_iload_n d_La_law_766 rfl ?_
  refine p_ic_4 d_La_law_767 ?_
  refine p_iaddN (i) (4) d_La_law_768 rfl rfl ?_
  refine p_sldN (i + 4) d_La_law_769 rfl (by omega) hL ?_
  refine p_aload_n d_La_law_770 rfl ?_
  refine p_iload_n d_La_law_771 rfl ?_
  refine p_ic_5 d_La_law_772 ?_
  refine p_iaddN (i) (5) d_La_law_773 rfl rfl ?_
  refine p_sldN (i + 5) d_La_law_774 rfl (by omega) hL ?_
  refine q_V d_La_law_775 ml_La_117 vb_Mo_odds kd_53 ⟨leb rfl, leb rfl⟩ (h3) rfl rfl rfl (fun r S1 I2 J1 hQ => ?_)
  obtain ⟨rfl, rfl, h5⟩ := h4 _ _ _ _ hQ
  refine p_lcmp d_La_law_778 ?_
  refine p_ifeq (tgt := 900) d_La_law_779 (by decide) (fun h779 => ?_) (fun h779 => ?_)
  · exact nx _ _ h5
  · exact absurd lg_self h779
theorem la_rate (Γ : Cx) (hL : Γ.2.1.1 ≤ 1000) (i : Nat) (hi : i + 6 ≤ Γ.2.1.1) (nx : nxT2 Γ i) (I : MemI) (J : MemJ) (h : Inv I J) : WP Γ M_La_law (0, 0) S0 I J 784 [.ref 0, .ref 1, .ref 53, .int (nI i)] [] laQ := by
  obtain ⟨v, Q1, h1, h2⟩ := pr_rate Γ h (Γ.2.1.2 (i + 1)) (Γ.2.1.2 (i + 2))
  refine p_aload_n d_La_law_784 rfl ?_
  refine p_aload_n d_La_law_785 rfl ?_
  refine p_iload_n d_La_law_786 rfl ?_
  refine p_ic_1 d_La_law_787 ?_
  refine p_iaddN (i) (1) d_La_law_788 rfl rfl ?_
  refine p_sldN (i + 1) d_La_law_789 rfl (by omega) hL ?_
  refine p_aload_n d_La_law_790 rfl ?_
  refine p_iload_n d_La_law_791 rfl ?_
  refine p_ic_2 d_La_law_792 ?_
  refine p_iaddN (i) (2) d_La_law_793 rfl rfl ?_
  refine p_sldN (i + 2) d_La_law_794 rfl (by omega) hL ?_
  refine q_V d_La_law_795 ml_La_118 vb_Bo_rate kd_1 ⟨leb rfl, leb rfl⟩ (h1) rfl rfl rfl (fun r S1 I1 J1 hQ => ?_)
  obtain ⟨rfl, rfl, Q2, h3, h4⟩ := h2 _ _ _ _ hQ
  refine p_aload_n d_La_law_798 rfl ?_
  refine p_aload_n d_La_law_799 rfl ?_
  refine p_iload_n d_La_law_800 rfl ?_
  refine p_ic_1 d_La_law_801 ?_
  refine p_iaddN (i) (1) d_La_law_802 rfl rfl ?_
  refine p_sldN (i + 1) d_La_law_803 rfl (by omega) hL ?_
  refine p_aload_n d_La_law_804 rfl ?_
  refine p_iload_n d_La_law_805 rfl ?_
  refine p_ic_2 d_La_law_806 ?_
  refine p_iaddN (i) (2) d_La_law_807 rfl rfl ?_
  refine p_sldN (i + 2) d_La_law_808 rfl (by omega) hL ?_
  refine q_V d_La_law_809 ml_La_121 vb_Mo_rate kd_53 ⟨leb rfl, leb rfl⟩ (h3) rfl rfl rfl (fun r S1 I2 J1 hQ => ?_)
  obtain ⟨rfl, rfl, h5⟩ := h4 _ _ _ _ hQ
  refine p_icmpeq (tgt := 900) d_La_law_812 (by decide) (fun h812 => ?_) (fun h812 => ?_)
  · exact nx _ _ h5
  · exact absurd rfl h812
theorem la_keep (Γ : Cx) (hL : Γ.2.1.1 ≤ 1000) (i : Nat) (hi : i + 6 ≤ Γ.2.1.1) (nx : nxT2 Γ i) (I : MemI) (J : MemJ) (h : Inv I J) : WP Γ M_La_law (0, 0) S0 I J 817 [.ref 0, .ref 1, .ref 53, .int (nI i)] [] laQ := by
  obtain ⟨v, Q1, h1, h2⟩ := pr_keep Γ h (Γ.2.1.2 (i + 1))
  refine p_aload_n d_La_law_817 rfl ?_
  refine p_aload_n d_La_law_818 rfl ?_
  refine p_iload_n d_La_law_819 rfl ?_
  refine p_ic_1 d_La_law_820 ?_
  refine p_iaddN (i) (1) d_La_law_821 rfl rfl ?_
  refine p_sldN (i + 1) d_La_law_822 rfl (by omega) hL ?_
  refine q_V d_La_law_823 ml_La_122 vb_Bo_keep kd_1 ⟨leb rfl, leb rfl⟩ (h1) rfl rfl rfl (fun r S1 I1 J1 hQ => ?_)
  obtain ⟨rfl, rfl, Q2, h3, h4⟩ := h2 _ _ _ _ hQ
  refine p_aload_n d_La_law_826 rfl ?_
  refine p_aload_n d_La_law_827 rfl ?_
  refine p_iload_n d_La_law_828 rfl ?_
  refine p_ic_1 d_La_law_829 ?_
  refine p_iaddN (i) (1) d_La_law_830 rfl rfl ?_
  refine p_sldN (i + 1) d_La_law_831 rfl (by omega) hL ?_
  refine q_V d_La_law_832 ml_La_125 vb_Mo_keep kd_53 ⟨leb rfl, leb rfl⟩ (h3) rfl rfl rfl (fun r S1 I2 J1 hQ => ?_)
  obtain ⟨rfl, rfl, h5⟩ := h4 _ _ _ _ hQ
  refine p_icmpeq (tgt := 900) d_La_law_835 (by decide) (fun h835 => ?_) (fun h835 => ?_)
  · exact nx _ _ h5
  · exact absurd rfl h835
theorem la_back (Γ : Cx) (hL : Γ.2.1.1 ≤ 1000) (i : Nat) (hi : i + 6 ≤ Γ.2.1.1) (nx : nxT2 Γ i) (I : MemI) (J : MemJ) (h : Inv I J) : WP Γ M_La_law (0, 0) S0 I J 840 [.ref 0, .ref 1, .ref 53, .int (nI i)] [] laQ := by
  obtain ⟨v, Q1, h1, h2⟩ := pr_back Γ h (Γ.2.1.2 (i + 1))
  refine p_aload_n d_La_law_840 rfl ?_
  refine p_aload_n d_La_law_841 rfl ?_
  refine p_iload_n d_La_law_842 rfl ?_
  refine p_ic_1 d_La_law_843 ?_
  refine p_iaddN (i) (1) d_La_law_844 rfl rfl ?_
  refine p_sldN (i + 1) d_La_law_845 rfl (by omega) hL ?_
  refine q_V d_La_law_846 ml_La_126 vb_Bo_back kd_1 ⟨leb rfl, leb rfl⟩ (h1) rfl rfl rfl (fun r S1 I1 J1 hQ => ?_)
  obtain ⟨rfl, rfl, Q2, h3, h4⟩ := h2 _ _ _ _ hQ
  refine p_aload_n d_La_law_849 rfl ?_
  refine p_aload_n d_La_law_850 rfl ?_
  refine p_iload_n d_La_law_851 rfl ?_
  refine p_ic_1 d_La_law_852 ?_
  refine p_iaddN (i) (1) d_La_law_853 rfl rfl ?_
  refine p_sldN (i + 1) d_La_law_854 rfl (by omega) hL ?_
  refine q_V d_La_law_855 ml_La_129 vb_Mo_back kd_53 ⟨leb rfl, leb rfl⟩ (h3) rfl rfl rfl (fun r S1 I2 J1 hQ => ?_)
  obtain ⟨rfl, rfl, h5⟩ := h4 _ _ _ _ hQ
  refine p_icmpeq (tgt := 900) d_La_law_858 (by decide) (fun h858 => ?_) (fun h858 => ?_)
  · exact nx _ _ h5
  · exact absurd rfl h858
theorem la_count (Γ : Cx) (hL : Γ.2.1.1 ≤ 1000) (i : Nat) (hi : i + 6 ≤ Γ.2.1.1) (nx : nxT2 Γ i) (I : MemI) (J : MemJ) (h : Inv I J) : WP Γ M_La_law (0, 0) S0 I J 863 [.ref 0, .ref 1, .ref 53, .int (nI i)] [] laQ := by
  obtain ⟨v, Q1, h1, h2⟩ := pr_count Γ h (Γ.2.1.2 (i + 1))
  refine p_aload_n d_La_law_863 rfl ?_
  refine p_aload_n d_La_law_864 rfl ?_
  refine p_iload_n d_La_law_865 rfl ?_
  refine p_ic_1 d_La_law_866 ?_
  refine p_iaddN (i) (1) d_La_law_867 rfl rfl ?_
  refine p_sldN (i + 1) d_La_law_868 rfl (by omega) hL ?_
  refine q_V d_La_law_869 ml_La_130 vb_Bo_count kd_1 ⟨leb rfl, leb rfl⟩ (h1) rfl rfl rfl (fun r S1 I1 J1 hQ => ?_)
  obtain ⟨rfl, rfl, Q2, h3, h4⟩ := h2 _ _ _ _ hQ
  refine p_aload_n d_La_law_872 rfl ?_
  refine p_aload_n d_La_law_873 rfl ?_
  refine p_iload_n d_La_law_874 rfl ?_
  refine p_ic_1 d_La_law_875 ?_
  refine p_iaddN (i) (1) d_La_law_876 rfl rfl ?_
  refine p_sldN (i + 1) d_La_law_877 rfl (by omega) hL ?_
  refine q_V d_La_law_878 ml_La_133 vb_Mo_count kd_53 ⟨leb rfl, leb rfl⟩ (h3) rfl rfl rfl (fun r S1 I2 J1 hQ => ?_)
  obtain ⟨rfl, rfl, h5⟩ := h4 _ _ _ _ hQ
  refine p_icmpeq (tgt := 900) d_La_law_881 (by decide) (fun h881 => ?_) (fun h881 => ?_)
  · exact nx _ _ h5
  · exact absurd rfl h881
theorem la_trace (Γ : Cx) (hL : Γ.2.1.1 ≤ 1000) (i : Nat) (hi : i + 6 ≤ Γ.2.1.1) (nx : nxT2 Γ i) (I : MemI) (J : MemJ) (h : Inv I J) : WP Γ M_La_law (0, 0) S0 I J 886 [.ref 0, .ref 1, .ref 53, .int (nI i)] [] laQ := by
  obtain ⟨v, Q1, h1, h2⟩ := pr_trace Γ h 
  refine p_aload_n d_La_law_886 rfl ?_
  refine q_V d_La_law_887 ml_La_134 vb_Bo_trace kd_1 ⟨leb rfl, leb rfl⟩ (h1) rfl rfl rfl (fun r S1 I1 J1 hQ => ?_)
  obtain ⟨rfl, rfl, Q2, h3, h4⟩ := h2 _ _ _ _ hQ
  refine p_aload_n d_La_law_890 rfl ?_
  refine q_V d_La_law_891 ml_La_138 vb_Mo_trace kd_53 ⟨leb rfl, leb rfl⟩ (h3) rfl rfl rfl (fun r S1 I2 J1 hQ => ?_)
  obtain ⟨rfl, rfl, h5⟩ := h4 _ _ _ _ hQ
  refine p_lcmp d_La_law_894 ?_
  refine p_ifeq (tgt := 900) d_La_law_895 (by decide) (fun h895 => ?_) (fun h895 => ?_)
  · exact nx _ _ h5
  · exact absurd lg_self h895
theorem la_loop (Γ : Cx) (hL : Γ.2.1.1 ≤ 1000) : ∀ (f i : Nat) (I : MemI) (J : MemJ), Γ.2.1.1 ≤ i + 6 * f + 5 → i ≤ Γ.2.1.1 → Inv I J → WP Γ M_La_law (0, 0) S0 I J 18 [.ref 0, .ref 1, .ref 53, .int (nI i)] [] laQ := by
  intro f
  induction f with
  | zero =>
    intro i I J hf hi h
    refine p_iload_n d_La_law_18 rfl ?_
    refine p_aload_n d_La_law_19 rfl ?_
    refine p_slen d_La_law_20 ?_
    refine p_bi_6 d_La_law_21 ?_
    refine p_isub d_La_law_23 ?_
    refine p_icmpgt (tgt := 906) d_La_law_24 (by decide) (fun _ => ?_) (fun q => absurd ((la_cmp hL (by omega)).mpr (by omega)) q)
    refine p_ic_1 d_La_law_906 ?_
    exact p_iret d_La_law_907 rfl rfl rfl
  | succ f ih =>
    intro i I J hf hi h
    refine p_iload_n d_La_law_18 rfl ?_
    refine p_aload_n d_La_law_19 rfl ?_
    refine p_slen d_La_law_20 ?_
    refine p_bi_6 d_La_law_21 ?_
    refine p_isub d_La_law_23 ?_
    refine p_icmpgt (tgt := 906) d_La_law_24 (by decide) (fun _ => ?_) (fun q => ?_)
    · refine p_ic_1 d_La_law_906 ?_
      exact p_iret d_La_law_907 rfl rfl rfl
    · have hi6 : i + 6 ≤ Γ.2.1.1 := Nat.not_lt.mp (fun z => q ((la_cmp hL (by omega)).mpr z))
      have nx : nxT2 Γ i := by
        intro I1 J1 h1
        refine p_incN_3_6 d_La_law_900 (by decide) rfl ?_
        refine p_goto (tgt := 18) d_La_law_903 (by decide) ?_
        exact ih (i + 6) I1 J1 (by omega) hi6 h1
      refine p_aload_n d_La_law_27 rfl ?_
      refine p_iload_n d_La_law_28 rfl ?_
      refine p_sldN (i) d_La_law_29 rfl (by omega) hL ?_
      refine p_bi_31 d_La_law_30 ?_
      refine p_iand d_La_law_32 ?_
      obtain ⟨k, hk, ek⟩ := pk_andE (Γ.2.1.2 i) (m := 31) 5 (by decide)
      rw [ek]
      clear ek
      match k, hk with
      | 0, _ => exact p_tabIn (off := 135) (tgt := 168) d_La_law_33 (by decide) (by decide) (by decide) (by decide) (la_type Γ hL i hi6 nx I J h)
      | 1, _ => exact p_tabIn (off := 158) (tgt := 191) d_La_law_33 (by decide) (by decide) (by decide) (by decide) (la_clear Γ hL i hi6 nx I J h)
      | 2, _ => exact p_tabIn (off := 171) (tgt := 204) d_La_law_33 (by decide) (by decide) (by decide) (by decide) (la_church Γ hL i hi6 nx I J h)
      | 3, _ => exact p_tabIn (off := 184) (tgt := 217) d_La_law_33 (by decide) (by decide) (by decide) (by decide) (la_pew Γ hL i hi6 nx I J h)
      | 4, _ => exact p_tabIn (off := 217) (tgt := 250) d_La_law_33 (by decide) (by decide) (by decide) (by decide) (la_now Γ hL i hi6 nx I J h)
      | 5, _ => exact p_tabIn (off := 240) (tgt := 273) d_La_law_33 (by decide) (by decide) (by decide) (by decide) (la_line Γ hL i hi6 nx I J h)
      | 6, _ => exact p_tabIn (off := 253) (tgt := 286) d_La_law_33 (by decide) (by decide) (by decide) (by decide) (la_verse Γ hL i hi6 nx I J h)
      | 7, _ => exact p_tabIn (off := 266) (tgt := 299) d_La_law_33 (by decide) (by decide) (by decide) (by decide) (la_ahead Γ hL i hi6 nx I J h)
      | 8, _ => exact p_tabIn (off := 289) (tgt := 322) d_La_law_33 (by decide) (by decide) (by decide) (by decide) (la_choir Γ hL i hi6 nx I J h)
      | 9, _ => exact p_tabIn (off := 312) (tgt := 345) d_La_law_33 (by decide) (by decide) (by decide) (by decide) (la_knows Γ hL i hi6 nx I J h)
      | 10, _ => exact p_tabIn (off := 345) (tgt := 378) d_La_law_33 (by decide) (by decide) (by decide) (by decide) (la_waits Γ hL i hi6 nx I J h)
      | 11, _ => exact p_tabIn (off := 368) (tgt := 401) d_La_law_33 (by decide) (by decide) (by decide) (by decide) (la_undo Γ hL i hi6 nx I J h)
      | 12, _ => exact p_tabIn (off := 381) (tgt := 414) d_La_law_33 (by decide) (by decide) (by decide) (by decide) (la_behind Γ hL i hi6 nx I J h)
      | 13, _ => exact p_tabIn (off := 414) (tgt := 447) d_La_law_33 (by decide) (by decide) (by decide) (by decide) (la_asleep Γ hL i hi6 nx I J h)
      | 14, _ => exact p_tabIn (off := 437) (tgt := 470) d_La_law_33 (by decide) (by decide) (by decide) (by decide) (la_rest Γ hL i hi6 nx I J h)
      | 15, _ => exact p_tabIn (off := 450) (tgt := 483) d_La_law_33 (by decide) (by decide) (by decide) (by decide) (la_playAhead Γ hL i hi6 nx I J h)
      | 16, _ => exact p_tabIn (off := 483) (tgt := 516) d_La_law_33 (by decide) (by decide) (by decide) (by decide) (la_seat Γ hL i hi6 nx I J h)
      | 17, _ => exact p_tabIn (off := 516) (tgt := 549) d_La_law_33 (by decide) (by decide) (by decide) (by decide) (la_knowers Γ hL i hi6 nx I J h)
      | 18, _ => exact p_tabIn (off := 549) (tgt := 582) d_La_law_33 (by decide) (by decide) (by decide) (by decide) (la_pulls Γ hL i hi6 nx I J h)
      | 19, _ => exact p_tabIn (off := 572) (tgt := 605) d_La_law_33 (by decide) (by decide) (by decide) (by decide) (la_change Γ hL i hi6 nx I J h)
      | 20, _ => exact p_tabIn (off := 595) (tgt := 628) d_La_law_33 (by decide) (by decide) (by decide) (by decide) (la_gaps Γ hL i hi6 nx I J h)
      | 21, _ => exact p_tabIn (off := 618) (tgt := 651) d_La_law_33 (by decide) (by decide) (by decide) (by decide) (la_hear Γ hL i hi6 nx I J h)
      | 22, _ => exact p_tabIn (off := 661) (tgt := 694) d_La_law_33 (by decide) (by decide) (by decide) (by decide) (la_forget Γ hL i hi6 nx I J h)
      | 23, _ => exact p_tabIn (off := 674) (tgt := 707) d_La_law_33 (by decide) (by decide) (by decide) (by decide) (la_waited Γ hL i hi6 nx I J h)
      | 24, _ => exact p_tabIn (off := 687) (tgt := 720) d_La_law_33 (by decide) (by decide) (by decide) (by decide) (la_odds Γ hL i hi6 nx I J h)
      | 25, _ => exact p_tabIn (off := 751) (tgt := 784) d_La_law_33 (by decide) (by decide) (by decide) (by decide) (la_rate Γ hL i hi6 nx I J h)
      | 26, _ => exact p_tabIn (off := 784) (tgt := 817) d_La_law_33 (by decide) (by decide) (by decide) (by decide) (la_keep Γ hL i hi6 nx I J h)
      | 27, _ => exact p_tabIn (off := 807) (tgt := 840) d_La_law_33 (by decide) (by decide) (by decide) (by decide) (la_back Γ hL i hi6 nx I J h)
      | 28, _ => exact p_tabIn (off := 830) (tgt := 863) d_La_law_33 (by decide) (by decide) (by decide) (by decide) (la_count Γ hL i hi6 nx I J h)
      | 29, _ => exact p_tabIn (off := 853) (tgt := 886) d_La_law_33 (by decide) (by decide) (by decide) (by decide) (la_trace Γ hL i hi6 nx I J h)
      | 30, _ => exact p_tabOut (tgt := 900) d_La_law_33 (Or.inr (by decide)) (by decide) (nx I J h)
      | 31, _ => exact p_tabOut (tgt := 900) d_La_law_33 (Or.inr (by decide)) (by decide) (nx I J h)
      | k + 32, hk => exact absurd hk (by omega)
theorem z_b : zs 53 I_b := (zU (by decide) (zU (by decide) (zU (by decide) (zU (by decide) (zU (by decide) (zU (by decide) (zU (by decide) (zU (by decide) (zU (by decide) (zU (by decide) (zU (by decide) (zU (by decide) (zU (by decide) (zU (by decide) (zU (by decide) (zU (by decide) (zU (by decide) (zU (by decide) (zU (by decide) (zU (by decide) (zU (by decide) (zU (by decide) (zU (by decide) zZ)))))))))))))))))))))))
theorem inv0 {I : MemI} (h1 : I 54 = clR) (h2 : ∀ x, x ≠ 54 → I x = I_b x) : Inv I Zj := by
  refine ⟨0, 0, 0, 0, 0, ⟨⟨by omega, ?_, ⟨?_, fun k hk => absurd hk (by omega)⟩, ⟨fun k hk => absurd hk (by omega), ?_, ?_, ?_, ?_, ?_⟩, ?_, ?_, ?_⟩, fun k hk => absurd hk (by omega), ⟨⟨0, by omega, ?_⟩, ⟨0, by omega, ?_⟩, ?_, fun k hk => absurd hk (by omega), ?_⟩, ⟨4, by omega, ?_⟩, ⟨2, by omega, ?_⟩⟩, ⟨by omega, by omega, ?_, ?_, ?_, fun e he => absurd he (by omega)⟩, fun i hi => ?_, ⟨?_, ?_, by omega, ?_, fun y hy => absurd hy (by omega)⟩, ⟨?_, ?_, by omega, fun e he => absurd he (by omega)⟩, rfl⟩
  · rw [h1]; rfl
  · rw [h2 4 (by omega)]; rfl
  · rw [h1, h2 16 (by omega)]; rfl
  · rw [h1, h2 16 (by omega)]; exact Or.inl ⟨rfl, rfl⟩
  · rw [h1, h2 16 (by omega)]; rfl
  · rw [h1, h2 16 (by omega)]; rfl
  · rw [h1, h2 16 (by omega)]; rfl
  · rw [h1, h2 16 (by omega)]; rfl
  · rw [h1, h2 4 (by omega)]; rfl
  · rw [h1, h2 4 (by omega)]; rfl
  · rw [h1]; rfl
  · rw [h1]; rfl
  · rw [h1]; decide
  · rw [h1]; decide
  · rw [h1]; rfl
  · rw [h1]; rfl
  · rw [h2 22 (by omega)]; rfl
  · rw [h2 22 (by omega)]; rfl
  · rw [h2 53 (by omega)]; rfl
  · rw [h2 49 (by omega), h2 57 (by omega)]
    exact ⟨rfl, fun q => absurd rfl q⟩
  · rw [h2 2 (by omega)]; rfl
  · rw [h2 53 (by omega)]; rfl
  · rw [h2 3 (by omega), h2 58 (by omega)]; rfl
  · rw [h2 1 (by omega)]; rfl
  · rw [h2 53 (by omega)]; rfl
def Sh0 : Sh := (0, fun _ => (0, 0), fun _ _ => none)
theorem law_wp (Γ : Cx) (hL : Γ.2.1.1 ≤ 384) : WP Γ M_La_law (600000, 7302250) Sh0 (fun _ _ => 0) (fun _ _ => 0) 0 [.ref 0, .null, .null, .null] [] laQ := by
  refine p_conv (S' := shL [(0, 0)] [[]]) (I' := Zi) (J' := Zj) rfl (fun Γ b q1 q2 => absurd q2 (by show ¬ b ≤ 0; omega)) ?_
  refine l_new (B' := (599999, 7302236)) (K' := [(0, 0), (4, 0)]) (P' := [[], []]) (ci := 4) (m := 1) d_La_law_0 (rfl : vwCl[4]? = some (RX4, TX4, 14)) cl_La_7 in_Bo ii_Bo rfl ⟨leb rfl, leb rfl⟩ (by decide) rfl rfl zZ rfl rfl ?_
  refine p_dup d_La_law_3 rfl ?_
  refine l_init (B' := (599948, 7301719)) (K' := [(0, 0), (4, 0), (2, 0), (10, 200), (0, 0), (10, 6), (10, 6), (10, 6), (10, 6), (10, 6), (0, 0), (10, 6), (10, 6), (10, 6), (10, 6), (10, 6), (3, 0), (10, 6), (3, 0), (10, 6), (3, 0), (10, 6), (1, 0), (12, 10), (3, 0), (10, 6), (3, 0), (10, 6), (3, 0), (10, 6), (3, 0), (10, 6), (3, 0), (10, 6), (3, 0), (10, 6), (3, 0), (10, 6), (3, 0), (10, 6), (3, 0), (10, 6), (3, 0), (10, 6), (12, 2), (3, 0), (10, 6), (3, 0), (10, 6), (11, 2), (10, 6), (10, 6), (10, 6)]) (P' := [[], [some 2, some 4, some 10, some 16, some 18, some 20, some 22, some 44, some 49, some 50, some 51, some 52], [some 3], [], [some 5, some 6, some 7, some 8, none, none, none, none, some 9], [], [], [], [], [], [some 11, some 12, some 13, some 14, none, none, none, none, some 15], [], [], [], [], [], [some 17], [], [some 19], [], [some 21], [], [some 23], [some 24, some 26, some 28, some 30, some 32, some 34, some 36, some 38, some 40, some 42], [some 25], [], [some 27], [], [some 29], [], [some 31], [], [some 33], [], [some 35], [], [some 37], [], [some 39], [], [some 41], [], [some 43], [], [some 45, some 47], [some 46], [], [some 48], [], [], [], [], []]) d_La_law_4 ml_La_9 ok_Bo_init im_Bo_init rfl rfl ⟨leb rfl, leb rfl⟩ (leb rfl) ⟨leb rfl, leb rfl⟩ (c_Bo_init Γ) rfl rfl ?_
  refine p_as_1 d_La_law_7 (by decide) rfl ?_
  refine l_new (B' := (599947, 7301702)) (K' := [(0, 0), (4, 0), (2, 0), (10, 200), (0, 0), (10, 6), (10, 6), (10, 6), (10, 6), (10, 6), (0, 0), (10, 6), (10, 6), (10, 6), (10, 6), (10, 6), (3, 0), (10, 6), (3, 0), (10, 6), (3, 0), (10, 6), (1, 0), (12, 10), (3, 0), (10, 6), (3, 0), (10, 6), (3, 0), (10, 6), (3, 0), (10, 6), (3, 0), (10, 6), (3, 0), (10, 6), (3, 0), (10, 6), (3, 0), (10, 6), (3, 0), (10, 6), (3, 0), (10, 6), (12, 2), (3, 0), (10, 6), (3, 0), (10, 6), (11, 2), (10, 6), (10, 6), (10, 6), (5, 0)]) (P' := [[], [some 2, some 4, some 10, some 16, some 18, some 20, some 22, some 44, some 49, some 50, some 51, some 52], [some 3], [], [some 5, some 6, some 7, some 8, none, none, none, none, some 9], [], [], [], [], [], [some 11, some 12, some 13, some 14, none, none, none, none, some 15], [], [], [], [], [], [some 17], [], [some 19], [], [some 21], [], [some 23], [some 24, some 26, some 28, some 30, some 32, some 34, some 36, some 38, some 40, some 42], [some 25], [], [some 27], [], [some 29], [], [some 31], [], [some 33], [], [some 35], [], [some 37], [], [some 39], [], [some 41], [], [some 43], [], [some 45, some 47], [some 46], [], [some 48], [], [], [], [], [], []]) (ci := 5) (m := 53) d_La_law_8 (rfl : vwCl[5]? = some (RX5, TX5, 17)) cl_La_10 in_Mo ii_Mo rfl ⟨leb rfl, leb rfl⟩ (by decide) rfl rfl z_b rfl rfl ?_
  refine p_dup d_La_law_11 rfl ?_
  refine p_invI (B' := (599937, 7300885)) (av := []) (rest := [.ref 53]) d_La_law_12 ml_La_12 ok_Mo_init im_Mo_init rfl rfl rfl ⟨leb rfl, leb rfl⟩ (leb rfl) ⟨leb rfl, leb rfl⟩ (c_Mo_init Γ I_b (zM (by decide) z_b)) (fun r S1 I1 J1 q => ?_)
  obtain ⟨rfl, rfl, rfl, q1, q2⟩ := q
  refine p_as_2 d_La_law_15 (by decide) rfl ?_
  refine p_ic_0 d_La_law_16 ?_
  refine p_is_3 d_La_law_17 (by decide) rfl ?_
  refine p_B (B' := (0, 0)) (Nat.zero_le _) (Nat.zero_le _) ?_
  exact la_loop Γ (by omega) 64 0 I1 Zj (by omega) (by omega) (inv0 q1 q2)
