/-! the law's loop -/
section
variable {pr : am_Pr} {d k : Nat} {S S' : List (Nat × Nat)} {I : Nat → Nat → Int32} {J : Nat → Nat → Int64} {P : Nat → Nat → Option Nat} {Q : Option Value → am_H → Prop} {n l s u tp : Nat}
theorem am_ev_pre {mi : Nat} {vs : List Value} {σ : am_H} (h : am_ev pr d mi vs σ Q) : am_ev pr d mi vs σ (fun r τ => Q r τ ∧ σ.1 <+: τ.1) := by
  obtain ⟨f, r, τ, h1, h2⟩ := h
  exact ⟨f, r, τ, h1, h2, am_run_mono _ _ _ _ _ _ _ _ _ h1⟩
theorem am_sh_pre {a : Nat} {q : Nat × Nat} (h : am_sh S a q) (p : S <+: S') : am_sh S' a q := by
  obtain ⟨W, rfl⟩ := p
  exact am_sh_app h
theorem am_op_sh {mc mm : Nat} {ac am : List Value} (hs : am_sh S 124 (9, 50)) (h : am_op pr d S I J P mc ac mm am) : am_ev pr d mc ac (S, I, J, P) (fun r τ => ∃ v, r = some (.int v) ∧ am_sh τ.1 124 (9, 50) ∧ am_ev pr d mm am τ (am_oi S (.int v))) := am_ev_mono (am_ev_pre h) (fun r τ ⟨⟨v, h1, h2⟩, h3⟩ => ⟨v, h1, am_sh_pre hs h3, h2⟩)
theorem am_opL_sh {mc mm : Nat} {ac am : List Value} (hs : am_sh S 124 (9, 50)) (h : am_opL pr d S I J P mc ac mm am) : am_ev pr d mc ac (S, I, J, P) (fun r τ => ∃ v, r = some (.long v) ∧ am_sh τ.1 124 (9, 50) ∧ am_ev pr d mm am τ (am_oi S (.long v))) := am_ev_mono (am_ev_pre h) (fun r τ ⟨⟨v, h1, h2⟩, h3⟩ => ⟨v, h1, am_sh_pre hs h3, h2⟩)
theorem am_lcmp0 (v : Int64) : lg_cmp v v = 0 := by
  unfold lg_cmp
  simp
/-- what is asked behind a call -/
def cs_k (pr : am_Pr) (k : Nat) (S : List (Nat × Nat)) (Q : Option Value → am_H → Prop) : Prop := ∀ S' I' J' P' n l s u tp, am_gr S S' → am_R S' I' P' n l s u tp → ∀ lvv, am_ld1 lvv 0 = some (.ref 0) → am_ld1 lvv 1 = some (.ref 64) → am_ld1 lvv 2 = some (.ref 124) → am_ld1 lvv 3 = some (.int (nI (6 * k))) → am_wp pr (1000) 304 1246 lvv [] (S', I', J', P') Q
theorem cs_0 (r : am_R S I P n l s u tp) (hk : 6 * k + 6 ≤ pr.1) (h3 : pr.1 ≤ 3072) (kk : cs_k pr k S Q) : ∀ lvv, am_ld1 lvv 0 = some (.ref 0) → am_ld1 lvv 1 = some (.ref 64) → am_ld1 lvv 2 = some (.ref 124) → am_ld1 lvv 3 = some (.int (nI (6 * k))) → am_wp pr (1000) 304 212 lvv [] (S, I, J, P) Q := by
  intro lv l0 l1 l2' l3
  have L := r.L
  refine w304_212 l1 ?_
  refine w304_213 l0 ?_
  refine w304_214 l3 ?_
  refine w304_215 ?_
  refine w304_216 ?_
  rw [show nI (6 * k) + 1 = nI (6 * k + 1) from nI_add _ 1]
  refine w304_217S (by decide) rfl (am_in_nI (by omega) (by omega)) ?_
  rw [am_clN (by omega)]
  refine w304_218 l0 ?_
  refine w304_219 l3 ?_
  refine w304_220 ?_
  refine w304_221 ?_
  rw [show nI (6 * k) + 2 = nI (6 * k + 2) from nI_add _ 2]
  refine w304_222S (by decide) rfl (am_in_nI (by omega) (by omega)) ?_
  rw [am_clN (by omega)]
  refine w304_223 (k := am_ev_mono (am_op_sh (r.L.sh rfl) (op_0 r)) (fun q τ h => ?_))
  obtain ⟨S1, I1, J1, P1⟩ := τ
  obtain ⟨v, rfl, hs, h2⟩ := h
  refine w304_226 l2' ?_
  refine w304_227 l0 ?_
  refine w304_228 l3 ?_
  refine w304_229 ?_
  refine w304_230 ?_
  rw [show nI (6 * k) + 1 = nI (6 * k + 1) from nI_add _ 1]
  refine w304_231S (by decide) rfl (am_in_nI (by omega) (by omega)) ?_
  rw [am_clN (by omega)]
  refine w304_232 l0 ?_
  refine w304_233 l3 ?_
  refine w304_234 ?_
  refine w304_235 ?_
  rw [show nI (6 * k) + 2 = nI (6 * k + 2) from nI_add _ 2]
  refine w304_236S (by decide) rfl (am_in_nI (by omega) (by omega)) ?_
  rw [am_clN (by omega)]
  refine w304_237 (k := am_ev_mono h2 (fun q τ h => ?_)) hs
  obtain ⟨S2, I2, J2, P2⟩ := τ
  obtain ⟨rfl, gr, n2, l2, s2, u2, tp2, r2⟩ := h
  refine w304_240 (fun _ => ?_) (fun w => absurd rfl w)
  exact kk S2 I2 J2 P2 n2 l2 s2 u2 tp2 gr r2 _ l0 l1 l2' l3
theorem cs_1 (r : am_R S I P n l s u tp) (hk : 6 * k + 6 ≤ pr.1) (h3 : pr.1 ≤ 3072) (kk : cs_k pr k S Q) : ∀ lvv, am_ld1 lvv 0 = some (.ref 0) → am_ld1 lvv 1 = some (.ref 64) → am_ld1 lvv 2 = some (.ref 124) → am_ld1 lvv 3 = some (.int (nI (6 * k))) → am_wp pr (1000) 304 245 lvv [] (S, I, J, P) Q := by
  intro lv l0 l1 l2' l3
  have L := r.L
  refine w304_245 l1 ?_
  refine w304_246 l0 ?_
  refine w304_247 l3 ?_
  refine w304_248 ?_
  refine w304_249 ?_
  rw [show nI (6 * k) + 1 = nI (6 * k + 1) from nI_add _ 1]
  refine w304_250S (by decide) rfl (am_in_nI (by omega) (by omega)) ?_
  rw [am_clN (by omega)]
  refine w304_251 l0 ?_
  refine w304_252 l3 ?_
  refine w304_253 ?_
  refine w304_254 ?_
  rw [show nI (6 * k) + 2 = nI (6 * k + 2) from nI_add _ 2]
  refine w304_255S (by decide) rfl (am_in_nI (by omega) (by omega)) ?_
  rw [am_clN (by omega)]
  refine w304_256 (k := am_ev_mono (am_op_sh (r.L.sh rfl) (op_1 r)) (fun q τ h => ?_))
  obtain ⟨S1, I1, J1, P1⟩ := τ
  obtain ⟨v, rfl, hs, h2⟩ := h
  refine w304_259 l2' ?_
  refine w304_260 l0 ?_
  refine w304_261 l3 ?_
  refine w304_262 ?_
  refine w304_263 ?_
  rw [show nI (6 * k) + 1 = nI (6 * k + 1) from nI_add _ 1]
  refine w304_264S (by decide) rfl (am_in_nI (by omega) (by omega)) ?_
  rw [am_clN (by omega)]
  refine w304_265 l0 ?_
  refine w304_266 l3 ?_
  refine w304_267 ?_
  refine w304_268 ?_
  rw [show nI (6 * k) + 2 = nI (6 * k + 2) from nI_add _ 2]
  refine w304_269S (by decide) rfl (am_in_nI (by omega) (by omega)) ?_
  rw [am_clN (by omega)]
  refine w304_270 (k := am_ev_mono h2 (fun q τ h => ?_)) hs
  obtain ⟨S2, I2, J2, P2⟩ := τ
  obtain ⟨rfl, gr, n2, l2, s2, u2, tp2, r2⟩ := h
  refine w304_273 (fun _ => ?_) (fun w => absurd rfl w)
  exact kk S2 I2 J2 P2 n2 l2 s2 u2 tp2 gr r2 _ l0 l1 l2' l3
theorem cs_2 (r : am_R S I P n l s u tp) (hk : 6 * k + 6 ≤ pr.1) (h3 : pr.1 ≤ 3072) (kk : cs_k pr k S Q) : ∀ lvv, am_ld1 lvv 0 = some (.ref 0) → am_ld1 lvv 1 = some (.ref 64) → am_ld1 lvv 2 = some (.ref 124) → am_ld1 lvv 3 = some (.int (nI (6 * k))) → am_wp pr (1000) 304 278 lvv [] (S, I, J, P) Q := by
  intro lv l0 l1 l2' l3
  have L := r.L
  refine w304_278 l1 ?_
  refine w304_279 l0 ?_
  refine w304_280 l3 ?_
  refine w304_281 ?_
  refine w304_282 ?_
  rw [show nI (6 * k) + 1 = nI (6 * k + 1) from nI_add _ 1]
  refine w304_283S (by decide) rfl (am_in_nI (by omega) (by omega)) ?_
  rw [am_clN (by omega)]
  refine w304_284 l0 ?_
  refine w304_285 l3 ?_
  refine w304_286 ?_
  refine w304_287 ?_
  rw [show nI (6 * k) + 2 = nI (6 * k + 2) from nI_add _ 2]
  refine w304_288S (by decide) rfl (am_in_nI (by omega) (by omega)) ?_
  rw [am_clN (by omega)]
  refine w304_289 l0 ?_
  refine w304_290 l3 ?_
  refine w304_291 ?_
  refine w304_292 ?_
  rw [show nI (6 * k) + 3 = nI (6 * k + 3) from nI_add _ 3]
  refine w304_293S (by decide) rfl (am_in_nI (by omega) (by omega)) ?_
  rw [am_clN (by omega)]
  refine w304_294 (k := am_ev_mono (am_op_sh (r.L.sh rfl) (op_2 r)) (fun q τ h => ?_))
  obtain ⟨S1, I1, J1, P1⟩ := τ
  obtain ⟨v, rfl, hs, h2⟩ := h
  refine w304_297 l2' ?_
  refine w304_298 l0 ?_
  refine w304_299 l3 ?_
  refine w304_300 ?_
  refine w304_301 ?_
  rw [show nI (6 * k) + 1 = nI (6 * k + 1) from nI_add _ 1]
  refine w304_302S (by decide) rfl (am_in_nI (by omega) (by omega)) ?_
  rw [am_clN (by omega)]
  refine w304_303 l0 ?_
  refine w304_304 l3 ?_
  refine w304_305 ?_
  refine w304_306 ?_
  rw [show nI (6 * k) + 2 = nI (6 * k + 2) from nI_add _ 2]
  refine w304_307S (by decide) rfl (am_in_nI (by omega) (by omega)) ?_
  rw [am_clN (by omega)]
  refine w304_308 l0 ?_
  refine w304_309 l3 ?_
  refine w304_310 ?_
  refine w304_311 ?_
  rw [show nI (6 * k) + 3 = nI (6 * k + 3) from nI_add _ 3]
  refine w304_312S (by decide) rfl (am_in_nI (by omega) (by omega)) ?_
  rw [am_clN (by omega)]
  refine w304_313 (k := am_ev_mono h2 (fun q τ h => ?_)) hs
  obtain ⟨S2, I2, J2, P2⟩ := τ
  obtain ⟨rfl, gr, n2, l2, s2, u2, tp2, r2⟩ := h
  refine w304_316 (fun _ => ?_) (fun w => absurd rfl w)
  exact kk S2 I2 J2 P2 n2 l2 s2 u2 tp2 gr r2 _ l0 l1 l2' l3
theorem cs_3 (r : am_R S I P n l s u tp) (hk : 6 * k + 6 ≤ pr.1) (h3 : pr.1 ≤ 3072) (kk : cs_k pr k S Q) : ∀ lvv, am_ld1 lvv 0 = some (.ref 0) → am_ld1 lvv 1 = some (.ref 64) → am_ld1 lvv 2 = some (.ref 124) → am_ld1 lvv 3 = some (.int (nI (6 * k))) → am_wp pr (1000) 304 321 lvv [] (S, I, J, P) Q := by
  intro lv l0 l1 l2' l3
  have L := r.L
  refine w304_321 l1 ?_
  refine w304_322 l0 ?_
  refine w304_323 l3 ?_
  refine w304_324 ?_
  refine w304_325 ?_
  rw [show nI (6 * k) + 1 = nI (6 * k + 1) from nI_add _ 1]
  refine w304_326S (by decide) rfl (am_in_nI (by omega) (by omega)) ?_
  rw [am_clN (by omega)]
  refine w304_327 l0 ?_
  refine w304_328 l3 ?_
  refine w304_329 ?_
  refine w304_330 ?_
  rw [show nI (6 * k) + 2 = nI (6 * k + 2) from nI_add _ 2]
  refine w304_331S (by decide) rfl (am_in_nI (by omega) (by omega)) ?_
  rw [am_clN (by omega)]
  refine w304_332 (k := am_ev_mono (am_op_sh (r.L.sh rfl) (op_3 r)) (fun q τ h => ?_))
  obtain ⟨S1, I1, J1, P1⟩ := τ
  obtain ⟨v, rfl, hs, h2⟩ := h
  refine w304_335 l2' ?_
  refine w304_336 l0 ?_
  refine w304_337 l3 ?_
  refine w304_338 ?_
  refine w304_339 ?_
  rw [show nI (6 * k) + 1 = nI (6 * k + 1) from nI_add _ 1]
  refine w304_340S (by decide) rfl (am_in_nI (by omega) (by omega)) ?_
  rw [am_clN (by omega)]
  refine w304_341 l0 ?_
  refine w304_342 l3 ?_
  refine w304_343 ?_
  refine w304_344 ?_
  rw [show nI (6 * k) + 2 = nI (6 * k + 2) from nI_add _ 2]
  refine w304_345S (by decide) rfl (am_in_nI (by omega) (by omega)) ?_
  rw [am_clN (by omega)]
  refine w304_346 (k := am_ev_mono h2 (fun q τ h => ?_)) hs
  obtain ⟨S2, I2, J2, P2⟩ := τ
  obtain ⟨rfl, gr, n2, l2, s2, u2, tp2, r2⟩ := h
  refine w304_349 (fun _ => ?_) (fun w => absurd rfl w)
  exact kk S2 I2 J2 P2 n2 l2 s2 u2 tp2 gr r2 _ l0 l1 l2' l3
theorem cs_4 (r : am_R S I P n l s u tp) (hk : 6 * k + 6 ≤ pr.1) (h3 : pr.1 ≤ 3072) (kk : cs_k pr k S Q) : ∀ lvv, am_ld1 lvv 0 = some (.ref 0) → am_ld1 lvv 1 = some (.ref 64) → am_ld1 lvv 2 = some (.ref 124) → am_ld1 lvv 3 = some (.int (nI (6 * k))) → am_wp pr (1000) 304 354 lvv [] (S, I, J, P) Q := by
  intro lv l0 l1 l2' l3
  have L := r.L
  refine w304_354 l1 ?_
  refine w304_355 l0 ?_
  refine w304_356 l3 ?_
  refine w304_357 ?_
  refine w304_358 ?_
  rw [show nI (6 * k) + 1 = nI (6 * k + 1) from nI_add _ 1]
  refine w304_359S (by decide) rfl (am_in_nI (by omega) (by omega)) ?_
  rw [am_clN (by omega)]
  refine w304_360 l0 ?_
  refine w304_361 l3 ?_
  refine w304_362 ?_
  refine w304_363 ?_
  rw [show nI (6 * k) + 2 = nI (6 * k + 2) from nI_add _ 2]
  refine w304_364S (by decide) rfl (am_in_nI (by omega) (by omega)) ?_
  rw [am_clN (by omega)]
  refine w304_365 (k := am_ev_mono (am_op_sh (r.L.sh rfl) (op_4 r)) (fun q τ h => ?_))
  obtain ⟨S1, I1, J1, P1⟩ := τ
  obtain ⟨v, rfl, hs, h2⟩ := h
  refine w304_368 l2' ?_
  refine w304_369 l0 ?_
  refine w304_370 l3 ?_
  refine w304_371 ?_
  refine w304_372 ?_
  rw [show nI (6 * k) + 1 = nI (6 * k + 1) from nI_add _ 1]
  refine w304_373S (by decide) rfl (am_in_nI (by omega) (by omega)) ?_
  rw [am_clN (by omega)]
  refine w304_374 l0 ?_
  refine w304_375 l3 ?_
  refine w304_376 ?_
  refine w304_377 ?_
  rw [show nI (6 * k) + 2 = nI (6 * k + 2) from nI_add _ 2]
  refine w304_378S (by decide) rfl (am_in_nI (by omega) (by omega)) ?_
  rw [am_clN (by omega)]
  refine w304_379 (k := am_ev_mono h2 (fun q τ h => ?_)) hs
  obtain ⟨S2, I2, J2, P2⟩ := τ
  obtain ⟨rfl, gr, n2, l2, s2, u2, tp2, r2⟩ := h
  refine w304_382 (fun _ => ?_) (fun w => absurd rfl w)
  exact kk S2 I2 J2 P2 n2 l2 s2 u2 tp2 gr r2 _ l0 l1 l2' l3
theorem cs_5 (r : am_R S I P n l s u tp) (hk : 6 * k + 6 ≤ pr.1) (h3 : pr.1 ≤ 3072) (kk : cs_k pr k S Q) : ∀ lvv, am_ld1 lvv 0 = some (.ref 0) → am_ld1 lvv 1 = some (.ref 64) → am_ld1 lvv 2 = some (.ref 124) → am_ld1 lvv 3 = some (.int (nI (6 * k))) → am_wp pr (1000) 304 387 lvv [] (S, I, J, P) Q := by
  intro lv l0 l1 l2' l3
  have L := r.L
  refine w304_387 l1 ?_
  refine w304_388 l0 ?_
  refine w304_389 l3 ?_
  refine w304_390 ?_
  refine w304_391 ?_
  rw [show nI (6 * k) + 1 = nI (6 * k + 1) from nI_add _ 1]
  refine w304_392S (by decide) rfl (am_in_nI (by omega) (by omega)) ?_
  rw [am_clN (by omega)]
  refine w304_393 l0 ?_
  refine w304_394 l3 ?_
  refine w304_395 ?_
  refine w304_396 ?_
  rw [show nI (6 * k) + 2 = nI (6 * k + 2) from nI_add _ 2]
  refine w304_397S (by decide) rfl (am_in_nI (by omega) (by omega)) ?_
  rw [am_clN (by omega)]
  refine w304_398 l0 ?_
  refine w304_399 l3 ?_
  refine w304_400 ?_
  refine w304_401 ?_
  rw [show nI (6 * k) + 3 = nI (6 * k + 3) from nI_add _ 3]
  refine w304_402S (by decide) rfl (am_in_nI (by omega) (by omega)) ?_
  rw [am_clN (by omega)]
  refine w304_403 l0 ?_
  refine w304_404 l3 ?_
  refine w304_405 ?_
  refine w304_406 ?_
  rw [show nI (6 * k) + 4 = nI (6 * k + 4) from nI_add _ 4]
  refine w304_407S (by decide) rfl (am_in_nI (by omega) (by omega)) ?_
  rw [am_clN (by omega)]
  refine w304_408 l0 ?_
  refine w304_409 l3 ?_
  refine w304_410 ?_
  refine w304_411 ?_
  rw [show nI (6 * k) + 5 = nI (6 * k + 5) from nI_add _ 5]
  refine w304_412S (by decide) rfl (am_in_nI (by omega) (by omega)) ?_
  rw [am_clN (by omega)]
  refine w304_413 (k := am_ev_mono (am_op_sh (r.L.sh rfl) (op_5 r)) (fun q τ h => ?_))
  obtain ⟨S1, I1, J1, P1⟩ := τ
  obtain ⟨v, rfl, hs, h2⟩ := h
  refine w304_416 l2' ?_
  refine w304_417 l0 ?_
  refine w304_418 l3 ?_
  refine w304_419 ?_
  refine w304_420 ?_
  rw [show nI (6 * k) + 1 = nI (6 * k + 1) from nI_add _ 1]
  refine w304_421S (by decide) rfl (am_in_nI (by omega) (by omega)) ?_
  rw [am_clN (by omega)]
  refine w304_422 l0 ?_
  refine w304_423 l3 ?_
  refine w304_424 ?_
  refine w304_425 ?_
  rw [show nI (6 * k) + 2 = nI (6 * k + 2) from nI_add _ 2]
  refine w304_426S (by decide) rfl (am_in_nI (by omega) (by omega)) ?_
  rw [am_clN (by omega)]
  refine w304_427 l0 ?_
  refine w304_428 l3 ?_
  refine w304_429 ?_
  refine w304_430 ?_
  rw [show nI (6 * k) + 3 = nI (6 * k + 3) from nI_add _ 3]
  refine w304_431S (by decide) rfl (am_in_nI (by omega) (by omega)) ?_
  rw [am_clN (by omega)]
  refine w304_432 l0 ?_
  refine w304_433 l3 ?_
  refine w304_434 ?_
  refine w304_435 ?_
  rw [show nI (6 * k) + 4 = nI (6 * k + 4) from nI_add _ 4]
  refine w304_436S (by decide) rfl (am_in_nI (by omega) (by omega)) ?_
  rw [am_clN (by omega)]
  refine w304_437 l0 ?_
  refine w304_438 l3 ?_
  refine w304_439 ?_
  refine w304_440 ?_
  rw [show nI (6 * k) + 5 = nI (6 * k + 5) from nI_add _ 5]
  refine w304_441S (by decide) rfl (am_in_nI (by omega) (by omega)) ?_
  rw [am_clN (by omega)]
  refine w304_442 (k := am_ev_mono h2 (fun q τ h => ?_)) hs
  obtain ⟨S2, I2, J2, P2⟩ := τ
  obtain ⟨rfl, gr, n2, l2, s2, u2, tp2, r2⟩ := h
  refine w304_445 (fun _ => ?_) (fun w => absurd rfl w)
  exact kk S2 I2 J2 P2 n2 l2 s2 u2 tp2 gr r2 _ l0 l1 l2' l3
theorem cs_6 (r : am_R S I P n l s u tp) (hk : 6 * k + 6 ≤ pr.1) (h3 : pr.1 ≤ 3072) (kk : cs_k pr k S Q) : ∀ lvv, am_ld1 lvv 0 = some (.ref 0) → am_ld1 lvv 1 = some (.ref 64) → am_ld1 lvv 2 = some (.ref 124) → am_ld1 lvv 3 = some (.int (nI (6 * k))) → am_wp pr (1000) 304 450 lvv [] (S, I, J, P) Q := by
  intro lv l0 l1 l2' l3
  have L := r.L
  refine w304_450 l1 ?_
  refine w304_451 l0 ?_
  refine w304_452 l3 ?_
  refine w304_453 ?_
  refine w304_454 ?_
  rw [show nI (6 * k) + 1 = nI (6 * k + 1) from nI_add _ 1]
  refine w304_455S (by decide) rfl (am_in_nI (by omega) (by omega)) ?_
  rw [am_clN (by omega)]
  refine w304_456 (k := am_ev_mono (am_op_sh (r.L.sh rfl) (op_6 r)) (fun q τ h => ?_))
  obtain ⟨S1, I1, J1, P1⟩ := τ
  obtain ⟨v, rfl, hs, h2⟩ := h
  refine w304_459 l2' ?_
  refine w304_460 l0 ?_
  refine w304_461 l3 ?_
  refine w304_462 ?_
  refine w304_463 ?_
  rw [show nI (6 * k) + 1 = nI (6 * k + 1) from nI_add _ 1]
  refine w304_464S (by decide) rfl (am_in_nI (by omega) (by omega)) ?_
  rw [am_clN (by omega)]
  refine w304_465 (k := am_ev_mono h2 (fun q τ h => ?_)) hs
  obtain ⟨S2, I2, J2, P2⟩ := τ
  obtain ⟨rfl, gr, n2, l2, s2, u2, tp2, r2⟩ := h
  refine w304_468 (fun _ => ?_) (fun w => absurd rfl w)
  exact kk S2 I2 J2 P2 n2 l2 s2 u2 tp2 gr r2 _ l0 l1 l2' l3
theorem cs_7 (r : am_R S I P n l s u tp) (hk : 6 * k + 6 ≤ pr.1) (h3 : pr.1 ≤ 3072) (kk : cs_k pr k S Q) : ∀ lvv, am_ld1 lvv 0 = some (.ref 0) → am_ld1 lvv 1 = some (.ref 64) → am_ld1 lvv 2 = some (.ref 124) → am_ld1 lvv 3 = some (.int (nI (6 * k))) → am_wp pr (1000) 304 473 lvv [] (S, I, J, P) Q := by
  intro lv l0 l1 l2' l3
  have L := r.L
  refine w304_473 l1 ?_
  refine w304_474 (k := am_ev_mono (am_op_sh (r.L.sh rfl) (op_7 r)) (fun q τ h => ?_))
  obtain ⟨S1, I1, J1, P1⟩ := τ
  obtain ⟨v, rfl, hs, h2⟩ := h
  refine w304_477 l2' ?_
  refine w304_478 (k := am_ev_mono h2 (fun q τ h => ?_)) hs
  obtain ⟨S2, I2, J2, P2⟩ := τ
  obtain ⟨rfl, gr, n2, l2, s2, u2, tp2, r2⟩ := h
  refine w304_481 (fun _ => ?_) (fun w => absurd rfl w)
  exact kk S2 I2 J2 P2 n2 l2 s2 u2 tp2 gr r2 _ l0 l1 l2' l3
theorem cs_8 (r : am_R S I P n l s u tp) (hk : 6 * k + 6 ≤ pr.1) (h3 : pr.1 ≤ 3072) (kk : cs_k pr k S Q) : ∀ lvv, am_ld1 lvv 0 = some (.ref 0) → am_ld1 lvv 1 = some (.ref 64) → am_ld1 lvv 2 = some (.ref 124) → am_ld1 lvv 3 = some (.int (nI (6 * k))) → am_wp pr (1000) 304 486 lvv [] (S, I, J, P) Q := by
  intro lv l0 l1 l2' l3
  have L := r.L
  refine w304_486 l1 ?_
  refine w304_487 (k := am_ev_mono (am_op_sh (r.L.sh rfl) (op_8 r)) (fun q τ h => ?_))
  obtain ⟨S1, I1, J1, P1⟩ := τ
  obtain ⟨v, rfl, hs, h2⟩ := h
  refine w304_490 l2' ?_
  refine w304_491 (k := am_ev_mono h2 (fun q τ h => ?_)) hs
  obtain ⟨S2, I2, J2, P2⟩ := τ
  obtain ⟨rfl, gr, n2, l2, s2, u2, tp2, r2⟩ := h
  refine w304_494 (fun _ => ?_) (fun w => absurd rfl w)
  exact kk S2 I2 J2 P2 n2 l2 s2 u2 tp2 gr r2 _ l0 l1 l2' l3
theorem cs_9 (r : am_R S I P n l s u tp) (hk : 6 * k + 6 ≤ pr.1) (h3 : pr.1 ≤ 3072) (kk : cs_k pr k S Q) : ∀ lvv, am_ld1 lvv 0 = some (.ref 0) → am_ld1 lvv 1 = some (.ref 64) → am_ld1 lvv 2 = some (.ref 124) → am_ld1 lvv 3 = some (.int (nI (6 * k))) → am_wp pr (1000) 304 499 lvv [] (S, I, J, P) Q := by
  intro lv l0 l1 l2' l3
  have L := r.L
  refine w304_499 l1 ?_
  refine w304_500 (k := am_ev_mono (am_op_sh (r.L.sh rfl) (op_9 r)) (fun q τ h => ?_))
  obtain ⟨S1, I1, J1, P1⟩ := τ
  obtain ⟨v, rfl, hs, h2⟩ := h
  refine w304_503 l2' ?_
  refine w304_504 (k := am_ev_mono h2 (fun q τ h => ?_)) hs
  obtain ⟨S2, I2, J2, P2⟩ := τ
  obtain ⟨rfl, gr, n2, l2, s2, u2, tp2, r2⟩ := h
  refine w304_507 (fun _ => ?_) (fun w => absurd rfl w)
  exact kk S2 I2 J2 P2 n2 l2 s2 u2 tp2 gr r2 _ l0 l1 l2' l3
theorem cs_10 (r : am_R S I P n l s u tp) (hk : 6 * k + 6 ≤ pr.1) (h3 : pr.1 ≤ 3072) (kk : cs_k pr k S Q) : ∀ lvv, am_ld1 lvv 0 = some (.ref 0) → am_ld1 lvv 1 = some (.ref 64) → am_ld1 lvv 2 = some (.ref 124) → am_ld1 lvv 3 = some (.int (nI (6 * k))) → am_wp pr (1000) 304 512 lvv [] (S, I, J, P) Q := by
  intro lv l0 l1 l2' l3
  have L := r.L
  refine w304_512 l1 ?_
  refine w304_513 (k := am_ev_mono (am_op_sh (r.L.sh rfl) (op_10 r)) (fun q τ h => ?_))
  obtain ⟨S1, I1, J1, P1⟩ := τ
  obtain ⟨v, rfl, hs, h2⟩ := h
  refine w304_516 l2' ?_
  refine w304_517 (k := am_ev_mono h2 (fun q τ h => ?_)) hs
  obtain ⟨S2, I2, J2, P2⟩ := τ
  obtain ⟨rfl, gr, n2, l2, s2, u2, tp2, r2⟩ := h
  refine w304_520 (fun _ => ?_) (fun w => absurd rfl w)
  exact kk S2 I2 J2 P2 n2 l2 s2 u2 tp2 gr r2 _ l0 l1 l2' l3
theorem cs_11 (r : am_R S I P n l s u tp) (hk : 6 * k + 6 ≤ pr.1) (h3 : pr.1 ≤ 3072) (kk : cs_k pr k S Q) : ∀ lvv, am_ld1 lvv 0 = some (.ref 0) → am_ld1 lvv 1 = some (.ref 64) → am_ld1 lvv 2 = some (.ref 124) → am_ld1 lvv 3 = some (.int (nI (6 * k))) → am_wp pr (1000) 304 525 lvv [] (S, I, J, P) Q := by
  intro lv l0 l1 l2' l3
  have L := r.L
  refine w304_525 l1 ?_
  refine w304_526 (k := am_ev_mono (am_op_sh (r.L.sh rfl) (op_11 r)) (fun q τ h => ?_))
  obtain ⟨S1, I1, J1, P1⟩ := τ
  obtain ⟨v, rfl, hs, h2⟩ := h
  refine w304_529 l2' ?_
  refine w304_530 (k := am_ev_mono h2 (fun q τ h => ?_)) hs
  obtain ⟨S2, I2, J2, P2⟩ := τ
  obtain ⟨rfl, gr, n2, l2, s2, u2, tp2, r2⟩ := h
  refine w304_533 (fun _ => ?_) (fun w => absurd rfl w)
  exact kk S2 I2 J2 P2 n2 l2 s2 u2 tp2 gr r2 _ l0 l1 l2' l3
theorem cs_12 (r : am_R S I P n l s u tp) (hk : 6 * k + 6 ≤ pr.1) (h3 : pr.1 ≤ 3072) (kk : cs_k pr k S Q) : ∀ lvv, am_ld1 lvv 0 = some (.ref 0) → am_ld1 lvv 1 = some (.ref 64) → am_ld1 lvv 2 = some (.ref 124) → am_ld1 lvv 3 = some (.int (nI (6 * k))) → am_wp pr (1000) 304 538 lvv [] (S, I, J, P) Q := by
  intro lv l0 l1 l2' l3
  have L := r.L
  refine w304_538 l1 ?_
  refine w304_539 (k := am_ev_mono (am_op_sh (r.L.sh rfl) (op_12 r)) (fun q τ h => ?_))
  obtain ⟨S1, I1, J1, P1⟩ := τ
  obtain ⟨v, rfl, hs, h2⟩ := h
  refine w304_542 l2' ?_
  refine w304_543 (k := am_ev_mono h2 (fun q τ h => ?_)) hs
  obtain ⟨S2, I2, J2, P2⟩ := τ
  obtain ⟨rfl, gr, n2, l2, s2, u2, tp2, r2⟩ := h
  refine w304_546 (fun _ => ?_) (fun w => absurd rfl w)
  exact kk S2 I2 J2 P2 n2 l2 s2 u2 tp2 gr r2 _ l0 l1 l2' l3
theorem cs_13 (r : am_R S I P n l s u tp) (hk : 6 * k + 6 ≤ pr.1) (h3 : pr.1 ≤ 3072) (kk : cs_k pr k S Q) : ∀ lvv, am_ld1 lvv 0 = some (.ref 0) → am_ld1 lvv 1 = some (.ref 64) → am_ld1 lvv 2 = some (.ref 124) → am_ld1 lvv 3 = some (.int (nI (6 * k))) → am_wp pr (1000) 304 551 lvv [] (S, I, J, P) Q := by
  intro lv l0 l1 l2' l3
  have L := r.L
  refine w304_551 l1 ?_
  refine w304_552 l0 ?_
  refine w304_553 l3 ?_
  refine w304_554 ?_
  refine w304_555 ?_
  rw [show nI (6 * k) + 1 = nI (6 * k + 1) from nI_add _ 1]
  refine w304_556S (by decide) rfl (am_in_nI (by omega) (by omega)) ?_
  rw [am_clN (by omega)]
  refine w304_557 (k := am_ev_mono (am_op_sh (r.L.sh rfl) (op_13 r)) (fun q τ h => ?_))
  obtain ⟨S1, I1, J1, P1⟩ := τ
  obtain ⟨v, rfl, hs, h2⟩ := h
  refine w304_560 l2' ?_
  refine w304_561 l0 ?_
  refine w304_562 l3 ?_
  refine w304_563 ?_
  refine w304_564 ?_
  rw [show nI (6 * k) + 1 = nI (6 * k + 1) from nI_add _ 1]
  refine w304_565S (by decide) rfl (am_in_nI (by omega) (by omega)) ?_
  rw [am_clN (by omega)]
  refine w304_566 (k := am_ev_mono h2 (fun q τ h => ?_)) hs
  obtain ⟨S2, I2, J2, P2⟩ := τ
  obtain ⟨rfl, gr, n2, l2, s2, u2, tp2, r2⟩ := h
  refine w304_569 (fun _ => ?_) (fun w => absurd rfl w)
  exact kk S2 I2 J2 P2 n2 l2 s2 u2 tp2 gr r2 _ l0 l1 l2' l3
theorem cs_14 (r : am_R S I P n l s u tp) (hk : 6 * k + 6 ≤ pr.1) (h3 : pr.1 ≤ 3072) (kk : cs_k pr k S Q) : ∀ lvv, am_ld1 lvv 0 = some (.ref 0) → am_ld1 lvv 1 = some (.ref 64) → am_ld1 lvv 2 = some (.ref 124) → am_ld1 lvv 3 = some (.int (nI (6 * k))) → am_wp pr (1000) 304 574 lvv [] (S, I, J, P) Q := by
  intro lv l0 l1 l2' l3
  have L := r.L
  refine w304_574 l1 ?_
  refine w304_575 l0 ?_
  refine w304_576 l3 ?_
  refine w304_577 ?_
  refine w304_578 ?_
  rw [show nI (6 * k) + 1 = nI (6 * k + 1) from nI_add _ 1]
  refine w304_579S (by decide) rfl (am_in_nI (by omega) (by omega)) ?_
  rw [am_clN (by omega)]
  refine w304_580 (k := am_ev_mono (am_op_sh (r.L.sh rfl) (op_14 r)) (fun q τ h => ?_))
  obtain ⟨S1, I1, J1, P1⟩ := τ
  obtain ⟨v, rfl, hs, h2⟩ := h
  refine w304_583 l2' ?_
  refine w304_584 l0 ?_
  refine w304_585 l3 ?_
  refine w304_586 ?_
  refine w304_587 ?_
  rw [show nI (6 * k) + 1 = nI (6 * k + 1) from nI_add _ 1]
  refine w304_588S (by decide) rfl (am_in_nI (by omega) (by omega)) ?_
  rw [am_clN (by omega)]
  refine w304_589 (k := am_ev_mono h2 (fun q τ h => ?_)) hs
  obtain ⟨S2, I2, J2, P2⟩ := τ
  obtain ⟨rfl, gr, n2, l2, s2, u2, tp2, r2⟩ := h
  refine w304_592 (fun _ => ?_) (fun w => absurd rfl w)
  exact kk S2 I2 J2 P2 n2 l2 s2 u2 tp2 gr r2 _ l0 l1 l2' l3
theorem cs_15 (r : am_R S I P n l s u tp) (hk : 6 * k + 6 ≤ pr.1) (h3 : pr.1 ≤ 3072) (kk : cs_k pr k S Q) : ∀ lvv, am_ld1 lvv 0 = some (.ref 0) → am_ld1 lvv 1 = some (.ref 64) → am_ld1 lvv 2 = some (.ref 124) → am_ld1 lvv 3 = some (.int (nI (6 * k))) → am_wp pr (1000) 304 597 lvv [] (S, I, J, P) Q := by
  intro lv l0 l1 l2' l3
  have L := r.L
  refine w304_597 l1 ?_
  refine w304_598 l0 ?_
  refine w304_599 l3 ?_
  refine w304_600 ?_
  refine w304_601 ?_
  rw [show nI (6 * k) + 1 = nI (6 * k + 1) from nI_add _ 1]
  refine w304_602S (by decide) rfl (am_in_nI (by omega) (by omega)) ?_
  rw [am_clN (by omega)]
  refine w304_603 (k := am_ev_mono (am_op_sh (r.L.sh rfl) (op_15 r)) (fun q τ h => ?_))
  obtain ⟨S1, I1, J1, P1⟩ := τ
  obtain ⟨v, rfl, hs, h2⟩ := h
  refine w304_606 l2' ?_
  refine w304_607 l0 ?_
  refine w304_608 l3 ?_
  refine w304_609 ?_
  refine w304_610 ?_
  rw [show nI (6 * k) + 1 = nI (6 * k + 1) from nI_add _ 1]
  refine w304_611S (by decide) rfl (am_in_nI (by omega) (by omega)) ?_
  rw [am_clN (by omega)]
  refine w304_612 (k := am_ev_mono h2 (fun q τ h => ?_)) hs
  obtain ⟨S2, I2, J2, P2⟩ := τ
  obtain ⟨rfl, gr, n2, l2, s2, u2, tp2, r2⟩ := h
  refine w304_615 (fun _ => ?_) (fun w => absurd rfl w)
  exact kk S2 I2 J2 P2 n2 l2 s2 u2 tp2 gr r2 _ l0 l1 l2' l3
theorem cs_16 (r : am_R S I P n l s u tp) (hk : 6 * k + 6 ≤ pr.1) (h3 : pr.1 ≤ 3072) (kk : cs_k pr k S Q) : ∀ lvv, am_ld1 lvv 0 = some (.ref 0) → am_ld1 lvv 1 = some (.ref 64) → am_ld1 lvv 2 = some (.ref 124) → am_ld1 lvv 3 = some (.int (nI (6 * k))) → am_wp pr (1000) 304 620 lvv [] (S, I, J, P) Q := by
  intro lv l0 l1 l2' l3
  have L := r.L
  refine w304_620 l1 ?_
  refine w304_621 l0 ?_
  refine w304_622 l3 ?_
  refine w304_623 ?_
  refine w304_624 ?_
  rw [show nI (6 * k) + 1 = nI (6 * k + 1) from nI_add _ 1]
  refine w304_625S (by decide) rfl (am_in_nI (by omega) (by omega)) ?_
  rw [am_clN (by omega)]
  refine w304_626 l0 ?_
  refine w304_627 l3 ?_
  refine w304_628 ?_
  refine w304_629 ?_
  rw [show nI (6 * k) + 2 = nI (6 * k + 2) from nI_add _ 2]
  refine w304_630S (by decide) rfl (am_in_nI (by omega) (by omega)) ?_
  rw [am_clN (by omega)]
  refine w304_631 l0 ?_
  refine w304_632 l3 ?_
  refine w304_633 ?_
  refine w304_634 ?_
  rw [show nI (6 * k) + 3 = nI (6 * k + 3) from nI_add _ 3]
  refine w304_635S (by decide) rfl (am_in_nI (by omega) (by omega)) ?_
  rw [am_clN (by omega)]
  refine w304_636 (k := am_ev_mono (am_op_sh (r.L.sh rfl) (op_16 r)) (fun q τ h => ?_))
  obtain ⟨S1, I1, J1, P1⟩ := τ
  obtain ⟨v, rfl, hs, h2⟩ := h
  refine w304_639 l2' ?_
  refine w304_640 l0 ?_
  refine w304_641 l3 ?_
  refine w304_642 ?_
  refine w304_643 ?_
  rw [show nI (6 * k) + 1 = nI (6 * k + 1) from nI_add _ 1]
  refine w304_644S (by decide) rfl (am_in_nI (by omega) (by omega)) ?_
  rw [am_clN (by omega)]
  refine w304_645 l0 ?_
  refine w304_646 l3 ?_
  refine w304_647 ?_
  refine w304_648 ?_
  rw [show nI (6 * k) + 2 = nI (6 * k + 2) from nI_add _ 2]
  refine w304_649S (by decide) rfl (am_in_nI (by omega) (by omega)) ?_
  rw [am_clN (by omega)]
  refine w304_650 l0 ?_
  refine w304_651 l3 ?_
  refine w304_652 ?_
  refine w304_653 ?_
  rw [show nI (6 * k) + 3 = nI (6 * k + 3) from nI_add _ 3]
  refine w304_654S (by decide) rfl (am_in_nI (by omega) (by omega)) ?_
  rw [am_clN (by omega)]
  refine w304_655 (k := am_ev_mono h2 (fun q τ h => ?_)) hs
  obtain ⟨S2, I2, J2, P2⟩ := τ
  obtain ⟨rfl, gr, n2, l2, s2, u2, tp2, r2⟩ := h
  refine w304_658 (fun _ => ?_) (fun w => absurd rfl w)
  exact kk S2 I2 J2 P2 n2 l2 s2 u2 tp2 gr r2 _ l0 l1 l2' l3
theorem cs_17 (r : am_R S I P n l s u tp) (hk : 6 * k + 6 ≤ pr.1) (h3 : pr.1 ≤ 3072) (kk : cs_k pr k S Q) : ∀ lvv, am_ld1 lvv 0 = some (.ref 0) → am_ld1 lvv 1 = some (.ref 64) → am_ld1 lvv 2 = some (.ref 124) → am_ld1 lvv 3 = some (.int (nI (6 * k))) → am_wp pr (1000) 304 663 lvv [] (S, I, J, P) Q := by
  intro lv l0 l1 l2' l3
  have L := r.L
  refine w304_663 l1 ?_
  refine w304_664 (k := am_ev_mono (am_op_sh (r.L.sh rfl) (op_17 r)) (fun q τ h => ?_))
  obtain ⟨S1, I1, J1, P1⟩ := τ
  obtain ⟨v, rfl, hs, h2⟩ := h
  refine w304_667 l2' ?_
  refine w304_668 (k := am_ev_mono h2 (fun q τ h => ?_)) hs
  obtain ⟨S2, I2, J2, P2⟩ := τ
  obtain ⟨rfl, gr, n2, l2, s2, u2, tp2, r2⟩ := h
  refine w304_671 (fun _ => ?_) (fun w => absurd rfl w)
  exact kk S2 I2 J2 P2 n2 l2 s2 u2 tp2 gr r2 _ l0 l1 l2' l3
theorem cs_18 (r : am_R S I P n l s u tp) (hk : 6 * k + 6 ≤ pr.1) (h3 : pr.1 ≤ 3072) (kk : cs_k pr k S Q) : ∀ lvv, am_ld1 lvv 0 = some (.ref 0) → am_ld1 lvv 1 = some (.ref 64) → am_ld1 lvv 2 = some (.ref 124) → am_ld1 lvv 3 = some (.int (nI (6 * k))) → am_wp pr (1000) 304 676 lvv [] (S, I, J, P) Q := by
  intro lv l0 l1 l2' l3
  have L := r.L
  refine w304_676 l1 ?_
  refine w304_677 (k := am_ev_mono (am_op_sh (r.L.sh rfl) (op_18 r)) (fun q τ h => ?_))
  obtain ⟨S1, I1, J1, P1⟩ := τ
  obtain ⟨v, rfl, hs, h2⟩ := h
  refine w304_680 l2' ?_
  refine w304_681 (k := am_ev_mono h2 (fun q τ h => ?_)) hs
  obtain ⟨S2, I2, J2, P2⟩ := τ
  obtain ⟨rfl, gr, n2, l2, s2, u2, tp2, r2⟩ := h
  refine w304_684 (fun _ => ?_) (fun w => absurd rfl w)
  exact kk S2 I2 J2 P2 n2 l2 s2 u2 tp2 gr r2 _ l0 l1 l2' l3
theorem cs_19 (r : am_R S I P n l s u tp) (hk : 6 * k + 6 ≤ pr.1) (h3 : pr.1 ≤ 3072) (kk : cs_k pr k S Q) : ∀ lvv, am_ld1 lvv 0 = some (.ref 0) → am_ld1 lvv 1 = some (.ref 64) → am_ld1 lvv 2 = some (.ref 124) → am_ld1 lvv 3 = some (.int (nI (6 * k))) → am_wp pr (1000) 304 689 lvv [] (S, I, J, P) Q := by
  intro lv l0 l1 l2' l3
  have L := r.L
  refine w304_689 l1 ?_
  refine w304_690 l0 ?_
  refine w304_691 l3 ?_
  refine w304_692 ?_
  refine w304_693 ?_
  rw [show nI (6 * k) + 1 = nI (6 * k + 1) from nI_add _ 1]
  refine w304_694S (by decide) rfl (am_in_nI (by omega) (by omega)) ?_
  rw [am_clN (by omega)]
  refine w304_695 l0 ?_
  refine w304_696 l3 ?_
  refine w304_697 ?_
  refine w304_698 ?_
  rw [show nI (6 * k) + 2 = nI (6 * k + 2) from nI_add _ 2]
  refine w304_699S (by decide) rfl (am_in_nI (by omega) (by omega)) ?_
  rw [am_clN (by omega)]
  refine w304_700 (k := am_ev_mono (am_op_sh (r.L.sh rfl) (op_19 r)) (fun q τ h => ?_))
  obtain ⟨S1, I1, J1, P1⟩ := τ
  obtain ⟨v, rfl, hs, h2⟩ := h
  refine w304_703 l2' ?_
  refine w304_704 l0 ?_
  refine w304_705 l3 ?_
  refine w304_706 ?_
  refine w304_707 ?_
  rw [show nI (6 * k) + 1 = nI (6 * k + 1) from nI_add _ 1]
  refine w304_708S (by decide) rfl (am_in_nI (by omega) (by omega)) ?_
  rw [am_clN (by omega)]
  refine w304_709 l0 ?_
  refine w304_710 l3 ?_
  refine w304_711 ?_
  refine w304_712 ?_
  rw [show nI (6 * k) + 2 = nI (6 * k + 2) from nI_add _ 2]
  refine w304_713S (by decide) rfl (am_in_nI (by omega) (by omega)) ?_
  rw [am_clN (by omega)]
  refine w304_714 (k := am_ev_mono h2 (fun q τ h => ?_)) hs
  obtain ⟨S2, I2, J2, P2⟩ := τ
  obtain ⟨rfl, gr, n2, l2, s2, u2, tp2, r2⟩ := h
  refine w304_717 (fun _ => ?_) (fun w => absurd rfl w)
  exact kk S2 I2 J2 P2 n2 l2 s2 u2 tp2 gr r2 _ l0 l1 l2' l3
theorem cs_20 (r : am_R S I P n l s u tp) (hk : 6 * k + 6 ≤ pr.1) (h3 : pr.1 ≤ 3072) (kk : cs_k pr k S Q) : ∀ lvv, am_ld1 lvv 0 = some (.ref 0) → am_ld1 lvv 1 = some (.ref 64) → am_ld1 lvv 2 = some (.ref 124) → am_ld1 lvv 3 = some (.int (nI (6 * k))) → am_wp pr (1000) 304 722 lvv [] (S, I, J, P) Q := by
  intro lv l0 l1 l2' l3
  have L := r.L
  refine w304_722 l1 ?_
  refine w304_723 (k := am_ev_mono (am_op_sh (r.L.sh rfl) (op_20 r)) (fun q τ h => ?_))
  obtain ⟨S1, I1, J1, P1⟩ := τ
  obtain ⟨v, rfl, hs, h2⟩ := h
  refine w304_726 l2' ?_
  refine w304_727 (k := am_ev_mono h2 (fun q τ h => ?_)) hs
  obtain ⟨S2, I2, J2, P2⟩ := τ
  obtain ⟨rfl, gr, n2, l2, s2, u2, tp2, r2⟩ := h
  refine w304_730 (fun _ => ?_) (fun w => absurd rfl w)
  exact kk S2 I2 J2 P2 n2 l2 s2 u2 tp2 gr r2 _ l0 l1 l2' l3
theorem cs_21 (r : am_R S I P n l s u tp) (hk : 6 * k + 6 ≤ pr.1) (h3 : pr.1 ≤ 3072) (kk : cs_k pr k S Q) : ∀ lvv, am_ld1 lvv 0 = some (.ref 0) → am_ld1 lvv 1 = some (.ref 64) → am_ld1 lvv 2 = some (.ref 124) → am_ld1 lvv 3 = some (.int (nI (6 * k))) → am_wp pr (1000) 304 735 lvv [] (S, I, J, P) Q := by
  intro lv l0 l1 l2' l3
  have L := r.L
  refine w304_735 l1 ?_
  refine w304_736 (k := am_ev_mono (am_op_sh (r.L.sh rfl) (op_21 r)) (fun q τ h => ?_))
  obtain ⟨S1, I1, J1, P1⟩ := τ
  obtain ⟨v, rfl, hs, h2⟩ := h
  refine w304_739 l2' ?_
  refine w304_740 (k := am_ev_mono h2 (fun q τ h => ?_)) hs
  obtain ⟨S2, I2, J2, P2⟩ := τ
  obtain ⟨rfl, gr, n2, l2, s2, u2, tp2, r2⟩ := h
  refine w304_743 (fun _ => ?_) (fun w => absurd rfl w)
  exact kk S2 I2 J2 P2 n2 l2 s2 u2 tp2 gr r2 _ l0 l1 l2' l3
theorem cs_22 (r : am_R S I P n l s u tp) (hk : 6 * k + 6 ≤ pr.1) (h3 : pr.1 ≤ 3072) (kk : cs_k pr k S Q) : ∀ lvv, am_ld1 lvv 0 = some (.ref 0) → am_ld1 lvv 1 = some (.ref 64) → am_ld1 lvv 2 = some (.ref 124) → am_ld1 lvv 3 = some (.int (nI (6 * k))) → am_wp pr (1000) 304 748 lvv [] (S, I, J, P) Q := by
  intro lv l0 l1 l2' l3
  have L := r.L
  refine w304_748 l1 ?_
  refine w304_749 l0 ?_
  refine w304_750 l3 ?_
  refine w304_751 ?_
  refine w304_752 ?_
  rw [show nI (6 * k) + 1 = nI (6 * k + 1) from nI_add _ 1]
  refine w304_753S (by decide) rfl (am_in_nI (by omega) (by omega)) ?_
  rw [am_clN (by omega)]
  refine w304_754 l0 ?_
  refine w304_755 l3 ?_
  refine w304_756 ?_
  refine w304_757 ?_
  rw [show nI (6 * k) + 2 = nI (6 * k + 2) from nI_add _ 2]
  refine w304_758S (by decide) rfl (am_in_nI (by omega) (by omega)) ?_
  rw [am_clN (by omega)]
  refine w304_759 (k := am_ev_mono (am_op_sh (r.L.sh rfl) (op_22 r)) (fun q τ h => ?_))
  obtain ⟨S1, I1, J1, P1⟩ := τ
  obtain ⟨v, rfl, hs, h2⟩ := h
  refine w304_762 l2' ?_
  refine w304_763 l0 ?_
  refine w304_764 l3 ?_
  refine w304_765 ?_
  refine w304_766 ?_
  rw [show nI (6 * k) + 1 = nI (6 * k + 1) from nI_add _ 1]
  refine w304_767S (by decide) rfl (am_in_nI (by omega) (by omega)) ?_
  rw [am_clN (by omega)]
  refine w304_768 l0 ?_
  refine w304_769 l3 ?_
  refine w304_770 ?_
  refine w304_771 ?_
  rw [show nI (6 * k) + 2 = nI (6 * k + 2) from nI_add _ 2]
  refine w304_772S (by decide) rfl (am_in_nI (by omega) (by omega)) ?_
  rw [am_clN (by omega)]
  refine w304_773 (k := am_ev_mono h2 (fun q τ h => ?_)) hs
  obtain ⟨S2, I2, J2, P2⟩ := τ
  obtain ⟨rfl, gr, n2, l2, s2, u2, tp2, r2⟩ := h
  refine w304_776 (fun _ => ?_) (fun w => absurd rfl w)
  exact kk S2 I2 J2 P2 n2 l2 s2 u2 tp2 gr r2 _ l0 l1 l2' l3
theorem cs_23 (r : am_R S I P n l s u tp) (hk : 6 * k + 6 ≤ pr.1) (h3 : pr.1 ≤ 3072) (kk : cs_k pr k S Q) : ∀ lvv, am_ld1 lvv 0 = some (.ref 0) → am_ld1 lvv 1 = some (.ref 64) → am_ld1 lvv 2 = some (.ref 124) → am_ld1 lvv 3 = some (.int (nI (6 * k))) → am_wp pr (1000) 304 781 lvv [] (S, I, J, P) Q := by
  intro lv l0 l1 l2' l3
  have L := r.L
  refine w304_781 l1 ?_
  refine w304_782 l0 ?_
  refine w304_783 l3 ?_
  refine w304_784 ?_
  refine w304_785 ?_
  rw [show nI (6 * k) + 1 = nI (6 * k + 1) from nI_add _ 1]
  refine w304_786S (by decide) rfl (am_in_nI (by omega) (by omega)) ?_
  rw [am_clN (by omega)]
  refine w304_787 l0 ?_
  refine w304_788 l3 ?_
  refine w304_789 ?_
  refine w304_790 ?_
  rw [show nI (6 * k) + 2 = nI (6 * k + 2) from nI_add _ 2]
  refine w304_791S (by decide) rfl (am_in_nI (by omega) (by omega)) ?_
  rw [am_clN (by omega)]
  refine w304_792 (k := am_ev_mono (am_op_sh (r.L.sh rfl) (op_23 r)) (fun q τ h => ?_))
  obtain ⟨S1, I1, J1, P1⟩ := τ
  obtain ⟨v, rfl, hs, h2⟩ := h
  refine w304_795 l2' ?_
  refine w304_796 l0 ?_
  refine w304_797 l3 ?_
  refine w304_798 ?_
  refine w304_799 ?_
  rw [show nI (6 * k) + 1 = nI (6 * k + 1) from nI_add _ 1]
  refine w304_800S (by decide) rfl (am_in_nI (by omega) (by omega)) ?_
  rw [am_clN (by omega)]
  refine w304_801 l0 ?_
  refine w304_802 l3 ?_
  refine w304_803 ?_
  refine w304_804 ?_
  rw [show nI (6 * k) + 2 = nI (6 * k + 2) from nI_add _ 2]
  refine w304_805S (by decide) rfl (am_in_nI (by omega) (by omega)) ?_
  rw [am_clN (by omega)]
  refine w304_806 (k := am_ev_mono h2 (fun q τ h => ?_)) hs
  obtain ⟨S2, I2, J2, P2⟩ := τ
  obtain ⟨rfl, gr, n2, l2, s2, u2, tp2, r2⟩ := h
  refine w304_809 (fun _ => ?_) (fun w => absurd rfl w)
  exact kk S2 I2 J2 P2 n2 l2 s2 u2 tp2 gr r2 _ l0 l1 l2' l3
theorem cs_24 (r : am_R S I P n l s u tp) (hk : 6 * k + 6 ≤ pr.1) (h3 : pr.1 ≤ 3072) (kk : cs_k pr k S Q) : ∀ lvv, am_ld1 lvv 0 = some (.ref 0) → am_ld1 lvv 1 = some (.ref 64) → am_ld1 lvv 2 = some (.ref 124) → am_ld1 lvv 3 = some (.int (nI (6 * k))) → am_wp pr (1000) 304 814 lvv [] (S, I, J, P) Q := by
  intro lv l0 l1 l2' l3
  have L := r.L
  refine w304_814 l1 ?_
  refine w304_815 l0 ?_
  refine w304_816 l3 ?_
  refine w304_817 ?_
  refine w304_818 ?_
  rw [show nI (6 * k) + 1 = nI (6 * k + 1) from nI_add _ 1]
  refine w304_819S (by decide) rfl (am_in_nI (by omega) (by omega)) ?_
  rw [am_clN (by omega)]
  refine w304_820 l0 ?_
  refine w304_821 l3 ?_
  refine w304_822 ?_
  refine w304_823 ?_
  rw [show nI (6 * k) + 2 = nI (6 * k + 2) from nI_add _ 2]
  refine w304_824S (by decide) rfl (am_in_nI (by omega) (by omega)) ?_
  rw [am_clN (by omega)]
  refine w304_825 (k := am_ev_mono (am_op_sh (r.L.sh rfl) (op_24 r)) (fun q τ h => ?_))
  obtain ⟨S1, I1, J1, P1⟩ := τ
  obtain ⟨v, rfl, hs, h2⟩ := h
  refine w304_828 l2' ?_
  refine w304_829 l0 ?_
  refine w304_830 l3 ?_
  refine w304_831 ?_
  refine w304_832 ?_
  rw [show nI (6 * k) + 1 = nI (6 * k + 1) from nI_add _ 1]
  refine w304_833S (by decide) rfl (am_in_nI (by omega) (by omega)) ?_
  rw [am_clN (by omega)]
  refine w304_834 l0 ?_
  refine w304_835 l3 ?_
  refine w304_836 ?_
  refine w304_837 ?_
  rw [show nI (6 * k) + 2 = nI (6 * k + 2) from nI_add _ 2]
  refine w304_838S (by decide) rfl (am_in_nI (by omega) (by omega)) ?_
  rw [am_clN (by omega)]
  refine w304_839 (k := am_ev_mono h2 (fun q τ h => ?_)) hs
  obtain ⟨S2, I2, J2, P2⟩ := τ
  obtain ⟨rfl, gr, n2, l2, s2, u2, tp2, r2⟩ := h
  refine w304_842 (fun _ => ?_) (fun w => absurd rfl w)
  exact kk S2 I2 J2 P2 n2 l2 s2 u2 tp2 gr r2 _ l0 l1 l2' l3
theorem cs_25 (r : am_R S I P n l s u tp) (hk : 6 * k + 6 ≤ pr.1) (h3 : pr.1 ≤ 3072) (kk : cs_k pr k S Q) : ∀ lvv, am_ld1 lvv 0 = some (.ref 0) → am_ld1 lvv 1 = some (.ref 64) → am_ld1 lvv 2 = some (.ref 124) → am_ld1 lvv 3 = some (.int (nI (6 * k))) → am_wp pr (1000) 304 847 lvv [] (S, I, J, P) Q := by
  intro lv l0 l1 l2' l3
  have L := r.L
  refine w304_847 l1 ?_
  refine w304_848 l0 ?_
  refine w304_849 l3 ?_
  refine w304_850 ?_
  refine w304_851 ?_
  rw [show nI (6 * k) + 1 = nI (6 * k + 1) from nI_add _ 1]
  refine w304_852S (by decide) rfl (am_in_nI (by omega) (by omega)) ?_
  rw [am_clN (by omega)]
  refine w304_853 l0 ?_
  refine w304_854 l3 ?_
  refine w304_855 ?_
  refine w304_856 ?_
  rw [show nI (6 * k) + 2 = nI (6 * k + 2) from nI_add _ 2]
  refine w304_857S (by decide) rfl (am_in_nI (by omega) (by omega)) ?_
  rw [am_clN (by omega)]
  refine w304_858 (k := am_ev_mono (am_op_sh (r.L.sh rfl) (op_25 r)) (fun q τ h => ?_))
  obtain ⟨S1, I1, J1, P1⟩ := τ
  obtain ⟨v, rfl, hs, h2⟩ := h
  refine w304_861 l2' ?_
  refine w304_862 l0 ?_
  refine w304_863 l3 ?_
  refine w304_864 ?_
  refine w304_865 ?_
  rw [show nI (6 * k) + 1 = nI (6 * k + 1) from nI_add _ 1]
  refine w304_866S (by decide) rfl (am_in_nI (by omega) (by omega)) ?_
  rw [am_clN (by omega)]
  refine w304_867 l0 ?_
  refine w304_868 l3 ?_
  refine w304_869 ?_
  refine w304_870 ?_
  rw [show nI (6 * k) + 2 = nI (6 * k + 2) from nI_add _ 2]
  refine w304_871S (by decide) rfl (am_in_nI (by omega) (by omega)) ?_
  rw [am_clN (by omega)]
  refine w304_872 (k := am_ev_mono h2 (fun q τ h => ?_)) hs
  obtain ⟨S2, I2, J2, P2⟩ := τ
  obtain ⟨rfl, gr, n2, l2, s2, u2, tp2, r2⟩ := h
  refine w304_875 (fun _ => ?_) (fun w => absurd rfl w)
  exact kk S2 I2 J2 P2 n2 l2 s2 u2 tp2 gr r2 _ l0 l1 l2' l3
theorem cs_26 (r : am_R S I P n l s u tp) (hk : 6 * k + 6 ≤ pr.1) (h3 : pr.1 ≤ 3072) (kk : cs_k pr k S Q) : ∀ lvv, am_ld1 lvv 0 = some (.ref 0) → am_ld1 lvv 1 = some (.ref 64) → am_ld1 lvv 2 = some (.ref 124) → am_ld1 lvv 3 = some (.int (nI (6 * k))) → am_wp pr (1000) 304 880 lvv [] (S, I, J, P) Q := by
  intro lv l0 l1 l2' l3
  have L := r.L
  refine w304_880 l1 ?_
  refine w304_881 l0 ?_
  refine w304_882 l3 ?_
  refine w304_883 ?_
  refine w304_884 ?_
  rw [show nI (6 * k) + 1 = nI (6 * k + 1) from nI_add _ 1]
  refine w304_885S (by decide) rfl (am_in_nI (by omega) (by omega)) ?_
  rw [am_clN (by omega)]
  refine w304_886 l0 ?_
  refine w304_887 l3 ?_
  refine w304_888 ?_
  refine w304_889 ?_
  rw [show nI (6 * k) + 2 = nI (6 * k + 2) from nI_add _ 2]
  refine w304_890S (by decide) rfl (am_in_nI (by omega) (by omega)) ?_
  rw [am_clN (by omega)]
  refine w304_891 (k := am_ev_mono (am_op_sh (r.L.sh rfl) (op_26 r)) (fun q τ h => ?_))
  obtain ⟨S1, I1, J1, P1⟩ := τ
  obtain ⟨v, rfl, hs, h2⟩ := h
  refine w304_894 l2' ?_
  refine w304_895 l0 ?_
  refine w304_896 l3 ?_
  refine w304_897 ?_
  refine w304_898 ?_
  rw [show nI (6 * k) + 1 = nI (6 * k + 1) from nI_add _ 1]
  refine w304_899S (by decide) rfl (am_in_nI (by omega) (by omega)) ?_
  rw [am_clN (by omega)]
  refine w304_900 l0 ?_
  refine w304_901 l3 ?_
  refine w304_902 ?_
  refine w304_903 ?_
  rw [show nI (6 * k) + 2 = nI (6 * k + 2) from nI_add _ 2]
  refine w304_904S (by decide) rfl (am_in_nI (by omega) (by omega)) ?_
  rw [am_clN (by omega)]
  refine w304_905 (k := am_ev_mono h2 (fun q τ h => ?_)) hs
  obtain ⟨S2, I2, J2, P2⟩ := τ
  obtain ⟨rfl, gr, n2, l2, s2, u2, tp2, r2⟩ := h
  refine w304_908 (fun _ => ?_) (fun w => absurd rfl w)
  exact kk S2 I2 J2 P2 n2 l2 s2 u2 tp2 gr r2 _ l0 l1 l2' l3
theorem cs_27 (r : am_R S I P n l s u tp) (hk : 6 * k + 6 ≤ pr.1) (h3 : pr.1 ≤ 3072) (kk : cs_k pr k S Q) : ∀ lvv, am_ld1 lvv 0 = some (.ref 0) → am_ld1 lvv 1 = some (.ref 64) → am_ld1 lvv 2 = some (.ref 124) → am_ld1 lvv 3 = some (.int (nI (6 * k))) → am_wp pr (1000) 304 913 lvv [] (S, I, J, P) Q := by
  intro lv l0 l1 l2' l3
  have L := r.L
  refine w304_913 l1 ?_
  refine w304_914 (k := am_ev_mono (am_op_sh (r.L.sh rfl) (op_27 r)) (fun q τ h => ?_))
  obtain ⟨S1, I1, J1, P1⟩ := τ
  obtain ⟨v, rfl, hs, h2⟩ := h
  refine w304_917 l2' ?_
  refine w304_918 (k := am_ev_mono h2 (fun q τ h => ?_)) hs
  obtain ⟨S2, I2, J2, P2⟩ := τ
  obtain ⟨rfl, gr, n2, l2, s2, u2, tp2, r2⟩ := h
  refine w304_921 (fun _ => ?_) (fun w => absurd rfl w)
  exact kk S2 I2 J2 P2 n2 l2 s2 u2 tp2 gr r2 _ l0 l1 l2' l3
theorem cs_28 (r : am_R S I P n l s u tp) (hk : 6 * k + 6 ≤ pr.1) (h3 : pr.1 ≤ 3072) (kk : cs_k pr k S Q) : ∀ lvv, am_ld1 lvv 0 = some (.ref 0) → am_ld1 lvv 1 = some (.ref 64) → am_ld1 lvv 2 = some (.ref 124) → am_ld1 lvv 3 = some (.int (nI (6 * k))) → am_wp pr (1000) 304 926 lvv [] (S, I, J, P) Q := by
  intro lv l0 l1 l2' l3
  have L := r.L
  refine w304_926 l1 ?_
  refine w304_927 l0 ?_
  refine w304_928 l3 ?_
  refine w304_929 ?_
  refine w304_930 ?_
  rw [show nI (6 * k) + 1 = nI (6 * k + 1) from nI_add _ 1]
  refine w304_931S (by decide) rfl (am_in_nI (by omega) (by omega)) ?_
  rw [am_clN (by omega)]
  refine w304_932 l0 ?_
  refine w304_933 l3 ?_
  refine w304_934 ?_
  refine w304_935 ?_
  rw [show nI (6 * k) + 2 = nI (6 * k + 2) from nI_add _ 2]
  refine w304_936S (by decide) rfl (am_in_nI (by omega) (by omega)) ?_
  rw [am_clN (by omega)]
  refine w304_937 (k := am_ev_mono (am_op_sh (r.L.sh rfl) (op_28 r)) (fun q τ h => ?_))
  obtain ⟨S1, I1, J1, P1⟩ := τ
  obtain ⟨v, rfl, hs, h2⟩ := h
  refine w304_940 l2' ?_
  refine w304_941 l0 ?_
  refine w304_942 l3 ?_
  refine w304_943 ?_
  refine w304_944 ?_
  rw [show nI (6 * k) + 1 = nI (6 * k + 1) from nI_add _ 1]
  refine w304_945S (by decide) rfl (am_in_nI (by omega) (by omega)) ?_
  rw [am_clN (by omega)]
  refine w304_946 l0 ?_
  refine w304_947 l3 ?_
  refine w304_948 ?_
  refine w304_949 ?_
  rw [show nI (6 * k) + 2 = nI (6 * k + 2) from nI_add _ 2]
  refine w304_950S (by decide) rfl (am_in_nI (by omega) (by omega)) ?_
  rw [am_clN (by omega)]
  refine w304_951 (k := am_ev_mono h2 (fun q τ h => ?_)) hs
  obtain ⟨S2, I2, J2, P2⟩ := τ
  obtain ⟨rfl, gr, n2, l2, s2, u2, tp2, r2⟩ := h
  refine w304_954 (fun _ => ?_) (fun w => absurd rfl w)
  exact kk S2 I2 J2 P2 n2 l2 s2 u2 tp2 gr r2 _ l0 l1 l2' l3
theorem cs_29 (r : am_R S I P n l s u tp) (hk : 6 * k + 6 ≤ pr.1) (h3 : pr.1 ≤ 3072) (kk : cs_k pr k S Q) : ∀ lvv, am_ld1 lvv 0 = some (.ref 0) → am_ld1 lvv 1 = some (.ref 64) → am_ld1 lvv 2 = some (.ref 124) → am_ld1 lvv 3 = some (.int (nI (6 * k))) → am_wp pr (1000) 304 959 lvv [] (S, I, J, P) Q := by
  intro lv l0 l1 l2' l3
  have L := r.L
  refine w304_959 l1 ?_
  refine w304_960 l0 ?_
  refine w304_961 l3 ?_
  refine w304_962 ?_
  refine w304_963 ?_
  rw [show nI (6 * k) + 1 = nI (6 * k + 1) from nI_add _ 1]
  refine w304_964S (by decide) rfl (am_in_nI (by omega) (by omega)) ?_
  rw [am_clN (by omega)]
  refine w304_965 l0 ?_
  refine w304_966 l3 ?_
  refine w304_967 ?_
  refine w304_968 ?_
  rw [show nI (6 * k) + 2 = nI (6 * k + 2) from nI_add _ 2]
  refine w304_969S (by decide) rfl (am_in_nI (by omega) (by omega)) ?_
  rw [am_clN (by omega)]
  refine w304_970 (k := am_ev_mono (am_op_sh (r.L.sh rfl) (op_29 r)) (fun q τ h => ?_))
  obtain ⟨S1, I1, J1, P1⟩ := τ
  obtain ⟨v, rfl, hs, h2⟩ := h
  refine w304_973 l2' ?_
  refine w304_974 l0 ?_
  refine w304_975 l3 ?_
  refine w304_976 ?_
  refine w304_977 ?_
  rw [show nI (6 * k) + 1 = nI (6 * k + 1) from nI_add _ 1]
  refine w304_978S (by decide) rfl (am_in_nI (by omega) (by omega)) ?_
  rw [am_clN (by omega)]
  refine w304_979 l0 ?_
  refine w304_980 l3 ?_
  refine w304_981 ?_
  refine w304_982 ?_
  rw [show nI (6 * k) + 2 = nI (6 * k + 2) from nI_add _ 2]
  refine w304_983S (by decide) rfl (am_in_nI (by omega) (by omega)) ?_
  rw [am_clN (by omega)]
  refine w304_984 (k := am_ev_mono h2 (fun q τ h => ?_)) hs
  obtain ⟨S2, I2, J2, P2⟩ := τ
  obtain ⟨rfl, gr, n2, l2, s2, u2, tp2, r2⟩ := h
  refine w304_987 (fun _ => ?_) (fun w => absurd rfl w)
  exact kk S2 I2 J2 P2 n2 l2 s2 u2 tp2 gr r2 _ l0 l1 l2' l3
theorem cs_30 (r : am_R S I P n l s u tp) (hk : 6 * k + 6 ≤ pr.1) (h3 : pr.1 ≤ 3072) (kk : cs_k pr k S Q) : ∀ lvv, am_ld1 lvv 0 = some (.ref 0) → am_ld1 lvv 1 = some (.ref 64) → am_ld1 lvv 2 = some (.ref 124) → am_ld1 lvv 3 = some (.int (nI (6 * k))) → am_wp pr (1000) 304 992 lvv [] (S, I, J, P) Q := by
  intro lv l0 l1 l2' l3
  have L := r.L
  refine w304_992 l1 ?_
  refine w304_993 (k := am_ev_mono (am_op_sh (r.L.sh rfl) (op_30 r)) (fun q τ h => ?_))
  obtain ⟨S1, I1, J1, P1⟩ := τ
  obtain ⟨v, rfl, hs, h2⟩ := h
  refine w304_996 l2' ?_
  refine w304_997 (k := am_ev_mono h2 (fun q τ h => ?_)) hs
  obtain ⟨S2, I2, J2, P2⟩ := τ
  obtain ⟨rfl, gr, n2, l2, s2, u2, tp2, r2⟩ := h
  refine w304_1000 (fun _ => ?_) (fun w => absurd rfl w)
  exact kk S2 I2 J2 P2 n2 l2 s2 u2 tp2 gr r2 _ l0 l1 l2' l3
theorem cs_31 (r : am_R S I P n l s u tp) (hk : 6 * k + 6 ≤ pr.1) (h3 : pr.1 ≤ 3072) (kk : cs_k pr k S Q) : ∀ lvv, am_ld1 lvv 0 = some (.ref 0) → am_ld1 lvv 1 = some (.ref 64) → am_ld1 lvv 2 = some (.ref 124) → am_ld1 lvv 3 = some (.int (nI (6 * k))) → am_wp pr (1000) 304 1005 lvv [] (S, I, J, P) Q := by
  intro lv l0 l1 l2' l3
  have L := r.L
  refine w304_1005 l1 ?_
  refine w304_1006 (k := am_ev_mono (am_op_sh (r.L.sh rfl) (op_31 r)) (fun q τ h => ?_))
  obtain ⟨S1, I1, J1, P1⟩ := τ
  obtain ⟨v, rfl, hs, h2⟩ := h
  refine w304_1009 l2' ?_
  refine w304_1010 (k := am_ev_mono h2 (fun q τ h => ?_)) hs
  obtain ⟨S2, I2, J2, P2⟩ := τ
  obtain ⟨rfl, gr, n2, l2, s2, u2, tp2, r2⟩ := h
  refine w304_1013 (fun _ => ?_) (fun w => absurd rfl w)
  exact kk S2 I2 J2 P2 n2 l2 s2 u2 tp2 gr r2 _ l0 l1 l2' l3
theorem cs_32 (r : am_R S I P n l s u tp) (hk : 6 * k + 6 ≤ pr.1) (h3 : pr.1 ≤ 3072) (kk : cs_k pr k S Q) : ∀ lvv, am_ld1 lvv 0 = some (.ref 0) → am_ld1 lvv 1 = some (.ref 64) → am_ld1 lvv 2 = some (.ref 124) → am_ld1 lvv 3 = some (.int (nI (6 * k))) → am_wp pr (1000) 304 1018 lvv [] (S, I, J, P) Q := by
  intro lv l0 l1 l2' l3
  have L := r.L
  refine w304_1018 l1 ?_
  refine w304_1019 l0 ?_
  refine w304_1020 l3 ?_
  refine w304_1021 ?_
  refine w304_1022 ?_
  rw [show nI (6 * k) + 1 = nI (6 * k + 1) from nI_add _ 1]
  refine w304_1023S (by decide) rfl (am_in_nI (by omega) (by omega)) ?_
  rw [am_clN (by omega)]
  refine w304_1024 (k := am_ev_mono (am_op_sh (r.L.sh rfl) (op_32 r)) (fun q τ h => ?_))
  obtain ⟨S1, I1, J1, P1⟩ := τ
  obtain ⟨v, rfl, hs, h2⟩ := h
  refine w304_1027 l2' ?_
  refine w304_1028 l0 ?_
  refine w304_1029 l3 ?_
  refine w304_1030 ?_
  refine w304_1031 ?_
  rw [show nI (6 * k) + 1 = nI (6 * k + 1) from nI_add _ 1]
  refine w304_1032S (by decide) rfl (am_in_nI (by omega) (by omega)) ?_
  rw [am_clN (by omega)]
  refine w304_1033 (k := am_ev_mono h2 (fun q τ h => ?_)) hs
  obtain ⟨S2, I2, J2, P2⟩ := τ
  obtain ⟨rfl, gr, n2, l2, s2, u2, tp2, r2⟩ := h
  refine w304_1036 (fun _ => ?_) (fun w => absurd rfl w)
  exact kk S2 I2 J2 P2 n2 l2 s2 u2 tp2 gr r2 _ l0 l1 l2' l3
theorem cs_33 (r : am_R S I P n l s u tp) (hk : 6 * k + 6 ≤ pr.1) (h3 : pr.1 ≤ 3072) (kk : cs_k pr k S Q) : ∀ lvv, am_ld1 lvv 0 = some (.ref 0) → am_ld1 lvv 1 = some (.ref 64) → am_ld1 lvv 2 = some (.ref 124) → am_ld1 lvv 3 = some (.int (nI (6 * k))) → am_wp pr (1000) 304 1041 lvv [] (S, I, J, P) Q := by
  intro lv l0 l1 l2' l3
  have L := r.L
  refine w304_1041 l1 ?_
  refine w304_1042 l0 ?_
  refine w304_1043 l3 ?_
  refine w304_1044 ?_
  refine w304_1045 ?_
  rw [show nI (6 * k) + 1 = nI (6 * k + 1) from nI_add _ 1]
  refine w304_1046S (by decide) rfl (am_in_nI (by omega) (by omega)) ?_
  rw [am_clN (by omega)]
  refine w304_1047 l0 ?_
  refine w304_1048 l3 ?_
  refine w304_1049 ?_
  refine w304_1050 ?_
  rw [show nI (6 * k) + 2 = nI (6 * k + 2) from nI_add _ 2]
  refine w304_1051S (by decide) rfl (am_in_nI (by omega) (by omega)) ?_
  rw [am_clN (by omega)]
  refine w304_1052 (k := am_ev_mono (am_opL_sh (r.L.sh rfl) (op_33 r)) (fun q τ h => ?_))
  obtain ⟨S1, I1, J1, P1⟩ := τ
  obtain ⟨v, rfl, hs, h2⟩ := h
  refine w304_1055 l2' ?_
  refine w304_1056 l0 ?_
  refine w304_1057 l3 ?_
  refine w304_1058 ?_
  refine w304_1059 ?_
  rw [show nI (6 * k) + 1 = nI (6 * k + 1) from nI_add _ 1]
  refine w304_1060S (by decide) rfl (am_in_nI (by omega) (by omega)) ?_
  rw [am_clN (by omega)]
  refine w304_1061 l0 ?_
  refine w304_1062 l3 ?_
  refine w304_1063 ?_
  refine w304_1064 ?_
  rw [show nI (6 * k) + 2 = nI (6 * k + 2) from nI_add _ 2]
  refine w304_1065S (by decide) rfl (am_in_nI (by omega) (by omega)) ?_
  rw [am_clN (by omega)]
  refine w304_1066 (k := am_ev_mono h2 (fun q τ h => ?_)) hs
  obtain ⟨S2, I2, J2, P2⟩ := τ
  obtain ⟨rfl, gr, n2, l2, s2, u2, tp2, r2⟩ := h
  refine w304_1069 ?_
  rw [am_lcmp0]
  refine w304_1070 (fun _ => ?_) (fun w => absurd rfl w)
  exact kk S2 I2 J2 P2 n2 l2 s2 u2 tp2 gr r2 _ l0 l1 l2' l3
theorem cs_34 (r : am_R S I P n l s u tp) (hk : 6 * k + 6 ≤ pr.1) (h3 : pr.1 ≤ 3072) (kk : cs_k pr k S Q) : ∀ lvv, am_ld1 lvv 0 = some (.ref 0) → am_ld1 lvv 1 = some (.ref 64) → am_ld1 lvv 2 = some (.ref 124) → am_ld1 lvv 3 = some (.int (nI (6 * k))) → am_wp pr (1000) 304 1075 lvv [] (S, I, J, P) Q := by
  intro lv l0 l1 l2' l3
  have L := r.L
  refine w304_1075 l1 ?_
  refine w304_1076 l0 ?_
  refine w304_1077 l3 ?_
  refine w304_1078 ?_
  refine w304_1079 ?_
  rw [show nI (6 * k) + 1 = nI (6 * k + 1) from nI_add _ 1]
  refine w304_1080S (by decide) rfl (am_in_nI (by omega) (by omega)) ?_
  rw [am_clN (by omega)]
  refine w304_1081 (k := am_ev_mono (am_op_sh (r.L.sh rfl) (op_34 r)) (fun q τ h => ?_))
  obtain ⟨S1, I1, J1, P1⟩ := τ
  obtain ⟨v, rfl, hs, h2⟩ := h
  refine w304_1084 l2' ?_
  refine w304_1085 l0 ?_
  refine w304_1086 l3 ?_
  refine w304_1087 ?_
  refine w304_1088 ?_
  rw [show nI (6 * k) + 1 = nI (6 * k + 1) from nI_add _ 1]
  refine w304_1089S (by decide) rfl (am_in_nI (by omega) (by omega)) ?_
  rw [am_clN (by omega)]
  refine w304_1090 (k := am_ev_mono h2 (fun q τ h => ?_)) hs
  obtain ⟨S2, I2, J2, P2⟩ := τ
  obtain ⟨rfl, gr, n2, l2, s2, u2, tp2, r2⟩ := h
  refine w304_1093 (fun _ => ?_) (fun w => absurd rfl w)
  exact kk S2 I2 J2 P2 n2 l2 s2 u2 tp2 gr r2 _ l0 l1 l2' l3
theorem cs_35 (r : am_R S I P n l s u tp) (hk : 6 * k + 6 ≤ pr.1) (h3 : pr.1 ≤ 3072) (kk : cs_k pr k S Q) : ∀ lvv, am_ld1 lvv 0 = some (.ref 0) → am_ld1 lvv 1 = some (.ref 64) → am_ld1 lvv 2 = some (.ref 124) → am_ld1 lvv 3 = some (.int (nI (6 * k))) → am_wp pr (1000) 304 1098 lvv [] (S, I, J, P) Q := by
  intro lv l0 l1 l2' l3
  have L := r.L
  refine w304_1098 l1 ?_
  refine w304_1099 l0 ?_
  refine w304_1100 l3 ?_
  refine w304_1101 ?_
  refine w304_1102 ?_
  rw [show nI (6 * k) + 1 = nI (6 * k + 1) from nI_add _ 1]
  refine w304_1103S (by decide) rfl (am_in_nI (by omega) (by omega)) ?_
  rw [am_clN (by omega)]
  refine w304_1104 l0 ?_
  refine w304_1105 l3 ?_
  refine w304_1106 ?_
  refine w304_1107 ?_
  rw [show nI (6 * k) + 2 = nI (6 * k + 2) from nI_add _ 2]
  refine w304_1108S (by decide) rfl (am_in_nI (by omega) (by omega)) ?_
  rw [am_clN (by omega)]
  refine w304_1109 (k := am_ev_mono (am_op_sh (r.L.sh rfl) (op_35 r)) (fun q τ h => ?_))
  obtain ⟨S1, I1, J1, P1⟩ := τ
  obtain ⟨v, rfl, hs, h2⟩ := h
  refine w304_1112 l2' ?_
  refine w304_1113 l0 ?_
  refine w304_1114 l3 ?_
  refine w304_1115 ?_
  refine w304_1116 ?_
  rw [show nI (6 * k) + 1 = nI (6 * k + 1) from nI_add _ 1]
  refine w304_1117S (by decide) rfl (am_in_nI (by omega) (by omega)) ?_
  rw [am_clN (by omega)]
  refine w304_1118 l0 ?_
  refine w304_1119 l3 ?_
  refine w304_1120 ?_
  refine w304_1121 ?_
  rw [show nI (6 * k) + 2 = nI (6 * k + 2) from nI_add _ 2]
  refine w304_1122S (by decide) rfl (am_in_nI (by omega) (by omega)) ?_
  rw [am_clN (by omega)]
  refine w304_1123 (k := am_ev_mono h2 (fun q τ h => ?_)) hs
  obtain ⟨S2, I2, J2, P2⟩ := τ
  obtain ⟨rfl, gr, n2, l2, s2, u2, tp2, r2⟩ := h
  refine w304_1126 (fun _ => ?_) (fun w => absurd rfl w)
  exact kk S2 I2 J2 P2 n2 l2 s2 u2 tp2 gr r2 _ l0 l1 l2' l3
theorem cs_36 (r : am_R S I P n l s u tp) (hk : 6 * k + 6 ≤ pr.1) (h3 : pr.1 ≤ 3072) (kk : cs_k pr k S Q) : ∀ lvv, am_ld1 lvv 0 = some (.ref 0) → am_ld1 lvv 1 = some (.ref 64) → am_ld1 lvv 2 = some (.ref 124) → am_ld1 lvv 3 = some (.int (nI (6 * k))) → am_wp pr (1000) 304 1131 lvv [] (S, I, J, P) Q := by
  intro lv l0 l1 l2' l3
  have L := r.L
  refine w304_1131 l1 ?_
  refine w304_1132 l0 ?_
  refine w304_1133 l3 ?_
  refine w304_1134 ?_
  refine w304_1135 ?_
  rw [show nI (6 * k) + 1 = nI (6 * k + 1) from nI_add _ 1]
  refine w304_1136S (by decide) rfl (am_in_nI (by omega) (by omega)) ?_
  rw [am_clN (by omega)]
  refine w304_1137 l0 ?_
  refine w304_1138 l3 ?_
  refine w304_1139 ?_
  refine w304_1140 ?_
  rw [show nI (6 * k) + 2 = nI (6 * k + 2) from nI_add _ 2]
  refine w304_1141S (by decide) rfl (am_in_nI (by omega) (by omega)) ?_
  rw [am_clN (by omega)]
  refine w304_1142 (k := am_ev_mono (am_op_sh (r.L.sh rfl) (op_36 r)) (fun q τ h => ?_))
  obtain ⟨S1, I1, J1, P1⟩ := τ
  obtain ⟨v, rfl, hs, h2⟩ := h
  refine w304_1145 l2' ?_
  refine w304_1146 l0 ?_
  refine w304_1147 l3 ?_
  refine w304_1148 ?_
  refine w304_1149 ?_
  rw [show nI (6 * k) + 1 = nI (6 * k + 1) from nI_add _ 1]
  refine w304_1150S (by decide) rfl (am_in_nI (by omega) (by omega)) ?_
  rw [am_clN (by omega)]
  refine w304_1151 l0 ?_
  refine w304_1152 l3 ?_
  refine w304_1153 ?_
  refine w304_1154 ?_
  rw [show nI (6 * k) + 2 = nI (6 * k + 2) from nI_add _ 2]
  refine w304_1155S (by decide) rfl (am_in_nI (by omega) (by omega)) ?_
  rw [am_clN (by omega)]
  refine w304_1156 (k := am_ev_mono h2 (fun q τ h => ?_)) hs
  obtain ⟨S2, I2, J2, P2⟩ := τ
  obtain ⟨rfl, gr, n2, l2, s2, u2, tp2, r2⟩ := h
  refine w304_1159 (fun _ => ?_) (fun w => absurd rfl w)
  exact kk S2 I2 J2 P2 n2 l2 s2 u2 tp2 gr r2 _ l0 l1 l2' l3
theorem cs_37 (r : am_R S I P n l s u tp) (hk : 6 * k + 6 ≤ pr.1) (h3 : pr.1 ≤ 3072) (kk : cs_k pr k S Q) : ∀ lvv, am_ld1 lvv 0 = some (.ref 0) → am_ld1 lvv 1 = some (.ref 64) → am_ld1 lvv 2 = some (.ref 124) → am_ld1 lvv 3 = some (.int (nI (6 * k))) → am_wp pr (1000) 304 1164 lvv [] (S, I, J, P) Q := by
  intro lv l0 l1 l2' l3
  have L := r.L
  refine w304_1164 l1 ?_
  refine w304_1165 l0 ?_
  refine w304_1166 l3 ?_
  refine w304_1167 ?_
  refine w304_1168 ?_
  rw [show nI (6 * k) + 1 = nI (6 * k + 1) from nI_add _ 1]
  refine w304_1169S (by decide) rfl (am_in_nI (by omega) (by omega)) ?_
  rw [am_clN (by omega)]
  refine w304_1170 (k := am_ev_mono (am_op_sh (r.L.sh rfl) (op_37 r)) (fun q τ h => ?_))
  obtain ⟨S1, I1, J1, P1⟩ := τ
  obtain ⟨v, rfl, hs, h2⟩ := h
  refine w304_1173 l2' ?_
  refine w304_1174 l0 ?_
  refine w304_1175 l3 ?_
  refine w304_1176 ?_
  refine w304_1177 ?_
  rw [show nI (6 * k) + 1 = nI (6 * k + 1) from nI_add _ 1]
  refine w304_1178S (by decide) rfl (am_in_nI (by omega) (by omega)) ?_
  rw [am_clN (by omega)]
  refine w304_1179 (k := am_ev_mono h2 (fun q τ h => ?_)) hs
  obtain ⟨S2, I2, J2, P2⟩ := τ
  obtain ⟨rfl, gr, n2, l2, s2, u2, tp2, r2⟩ := h
  refine w304_1182 (fun _ => ?_) (fun w => absurd rfl w)
  exact kk S2 I2 J2 P2 n2 l2 s2 u2 tp2 gr r2 _ l0 l1 l2' l3
theorem cs_38 (r : am_R S I P n l s u tp) (hk : 6 * k + 6 ≤ pr.1) (h3 : pr.1 ≤ 3072) (kk : cs_k pr k S Q) : ∀ lvv, am_ld1 lvv 0 = some (.ref 0) → am_ld1 lvv 1 = some (.ref 64) → am_ld1 lvv 2 = some (.ref 124) → am_ld1 lvv 3 = some (.int (nI (6 * k))) → am_wp pr (1000) 304 1187 lvv [] (S, I, J, P) Q := by
  intro lv l0 l1 l2' l3
  have L := r.L
  refine w304_1187 l1 ?_
  refine w304_1188 l0 ?_
  refine w304_1189 l3 ?_
  refine w304_1190 ?_
  refine w304_1191 ?_
  rw [show nI (6 * k) + 1 = nI (6 * k + 1) from nI_add _ 1]
  refine w304_1192S (by decide) rfl (am_in_nI (by omega) (by omega)) ?_
  rw [am_clN (by omega)]
  refine w304_1193 (k := am_ev_mono (am_op_sh (r.L.sh rfl) (op_38 r)) (fun q τ h => ?_))
  obtain ⟨S1, I1, J1, P1⟩ := τ
  obtain ⟨v, rfl, hs, h2⟩ := h
  refine w304_1196 l2' ?_
  refine w304_1197 l0 ?_
  refine w304_1198 l3 ?_
  refine w304_1199 ?_
  refine w304_1200 ?_
  rw [show nI (6 * k) + 1 = nI (6 * k + 1) from nI_add _ 1]
  refine w304_1201S (by decide) rfl (am_in_nI (by omega) (by omega)) ?_
  rw [am_clN (by omega)]
  refine w304_1202 (k := am_ev_mono h2 (fun q τ h => ?_)) hs
  obtain ⟨S2, I2, J2, P2⟩ := τ
  obtain ⟨rfl, gr, n2, l2, s2, u2, tp2, r2⟩ := h
  refine w304_1205 (fun _ => ?_) (fun w => absurd rfl w)
  exact kk S2 I2 J2 P2 n2 l2 s2 u2 tp2 gr r2 _ l0 l1 l2' l3
theorem cs_39 (r : am_R S I P n l s u tp) (hk : 6 * k + 6 ≤ pr.1) (h3 : pr.1 ≤ 3072) (kk : cs_k pr k S Q) : ∀ lvv, am_ld1 lvv 0 = some (.ref 0) → am_ld1 lvv 1 = some (.ref 64) → am_ld1 lvv 2 = some (.ref 124) → am_ld1 lvv 3 = some (.int (nI (6 * k))) → am_wp pr (1000) 304 1210 lvv [] (S, I, J, P) Q := by
  intro lv l0 l1 l2' l3
  have L := r.L
  refine w304_1210 l1 ?_
  refine w304_1211 l0 ?_
  refine w304_1212 l3 ?_
  refine w304_1213 ?_
  refine w304_1214 ?_
  rw [show nI (6 * k) + 1 = nI (6 * k + 1) from nI_add _ 1]
  refine w304_1215S (by decide) rfl (am_in_nI (by omega) (by omega)) ?_
  rw [am_clN (by omega)]
  refine w304_1216 (k := am_ev_mono (am_op_sh (r.L.sh rfl) (op_39 r)) (fun q τ h => ?_))
  obtain ⟨S1, I1, J1, P1⟩ := τ
  obtain ⟨v, rfl, hs, h2⟩ := h
  refine w304_1219 l2' ?_
  refine w304_1220 l0 ?_
  refine w304_1221 l3 ?_
  refine w304_1222 ?_
  refine w304_1223 ?_
  rw [show nI (6 * k) + 1 = nI (6 * k + 1) from nI_add _ 1]
  refine w304_1224S (by decide) rfl (am_in_nI (by omega) (by omega)) ?_
  rw [am_clN (by omega)]
  refine w304_1225 (k := am_ev_mono h2 (fun q τ h => ?_)) hs
  obtain ⟨S2, I2, J2, P2⟩ := τ
  obtain ⟨rfl, gr, n2, l2, s2, u2, tp2, r2⟩ := h
  refine w304_1228 (fun _ => ?_) (fun w => absurd rfl w)
  exact kk S2 I2 J2 P2 n2 l2 s2 u2 tp2 gr r2 _ l0 l1 l2' l3
theorem cs_40 (r : am_R S I P n l s u tp) (hk : 6 * k + 6 ≤ pr.1) (h3 : pr.1 ≤ 3072) (kk : cs_k pr k S Q) : ∀ lvv, am_ld1 lvv 0 = some (.ref 0) → am_ld1 lvv 1 = some (.ref 64) → am_ld1 lvv 2 = some (.ref 124) → am_ld1 lvv 3 = some (.int (nI (6 * k))) → am_wp pr (1000) 304 1233 lvv [] (S, I, J, P) Q := by
  intro lv l0 l1 l2' l3
  have L := r.L
  refine w304_1233 l1 ?_
  refine w304_1234 (k := am_ev_mono (am_op_sh (r.L.sh rfl) (op_40 r)) (fun q τ h => ?_))
  obtain ⟨S1, I1, J1, P1⟩ := τ
  obtain ⟨v, rfl, hs, h2⟩ := h
  refine w304_1237 l2' ?_
  refine w304_1238 (k := am_ev_mono h2 (fun q τ h => ?_)) hs
  obtain ⟨S2, I2, J2, P2⟩ := τ
  obtain ⟨rfl, gr, n2, l2, s2, u2, tp2, r2⟩ := h
  refine w304_1241 (fun _ => ?_) (fun w => absurd rfl w)
  exact kk S2 I2 J2 P2 n2 l2 s2 u2 tp2 gr r2 _ l0 l1 l2' l3
theorem am_gt6 {L k : Nat} (hL : L ≤ 3072) (hk : k ≤ 512) : (Int32.ofNat L - 6 < nI (6 * k)) ↔ L < 6 * k + 6 := by
  by_cases h : 6 ≤ L
  · rw [show Int32.ofNat L - 6 = nI (L - 6) from am_nsub (b := 6) h, nI_ltI (by omega) (by omega)]
    omega
  · have q : ∀ L, L < 6 → Int32.ofNat L - 6 < 0 := by decide +kernel
    refine ⟨fun _ => by omega, fun _ => ?_⟩
    rcases Nat.eq_zero_or_pos k with rfl | z
    · exact q L (by omega)
    · exact Int32.lt_trans (q L (by omega)) (nI_lt (a := 0) (by omega) (by omega))
def am_Qf : Option Value → am_H → Prop := fun r τ => r = some (.int 1) ∧ τ.1.length ≤ 600064 ∧ am_sl τ ≤ 7302249
/-- from the first state on -/
theorem am_loop304 (h3 : pr.1 ≤ 3072) : ∀ (r k : Nat) (S : List (Nat × Nat)) (I : Nat → Nat → Int32) (J : Nat → Nat → Int64) (P : Nat → Nat → Option Nat) (n l s u tp : Nat), k + r = 512 → am_R S I P n l s u tp → S.length ≤ 149 + 8 * k → (S.map (fun q => q.2)).sum ≤ 100000 + 1200 * k → ∀ lv, am_ld1 lv 0 = some (.ref 0) → am_ld1 lv 1 = some (.ref 64) → am_ld1 lv 2 = some (.ref 124) → am_ld1 lv 3 = some (.int (nI (6 * k))) → am_wp pr 1000 304 18 lv [] (S, I, J, P) am_Qf := by
  intro r
  induction r with
  | zero =>
    intro k S I J P n l s u tp hkr r hlen hsum lv l0 l1 l2 l3
    refine w304_18 l3 ?_
    refine w304_19 l0 ?_
    refine w304_20S (by decide) rfl (by decide) ?_
    refine w304_21 ?_
    refine w304_23 ?_
    refine w304_24 (fun _ => ?_) (fun w => absurd ((am_gt6 h3 (by omega)).mpr (by omega)) w)
    refine w304_1252 ?_
    refine w304_1253 rfl ?_
    exact ⟨rfl, by show S.length ≤ 600064; omega, by show (S.map (fun q => q.2)).sum ≤ 7302249; omega⟩
  | succ q IH =>
    intro k S I J P n l s u tp hkr r hlen hsum lv l0 l1 l2 l3
    refine w304_18 l3 ?_
    refine w304_19 l0 ?_
    refine w304_20S (by decide) rfl (by decide) ?_
    refine w304_21 ?_
    refine w304_23 ?_
    by_cases hx : pr.1 < 6 * k + 6
    · refine w304_24 (fun _ => ?_) (fun w => absurd ((am_gt6 h3 (by omega)).mpr hx) w)
      refine w304_1252 ?_
      refine w304_1253 rfl ?_
      exact ⟨rfl, by show S.length ≤ 600064; omega, by show (S.map (fun q => q.2)).sum ≤ 7302249; omega⟩
    have hk : 6 * k + 6 ≤ pr.1 := by omega
    refine w304_24 (fun w => absurd ((am_gt6 h3 (by omega)).mp w) hx) (fun _ => ?_)
    have kk : cs_k pr k S am_Qf := by
      intro S' I' J' P' n' l' s' u' tp' gr r' lv l0 l1 l2 l3
      obtain ⟨W, rfl, w1, w2⟩ := gr
      refine w304_1246 l3 ?_
      refine w304_1249 ?_
      refine IH (k + 1) _ I' J' P' n' l' s' u' tp' (by omega) r' (by rw [List.length_append]; omega) (by rw [List.map_append, List.sum_append]; omega) _ l0 l1 l2 ?_
      show some (Value.int (nI (6 * k) + 6)) = some (Value.int (nI (6 * (k + 1))))
      rw [show nI (6 * k) + 6 = nI (6 * k + 6) from nI_add _ 6]
      rfl
    refine w304_27 l0 ?_
    refine w304_28 l3 ?_
    refine w304_29S (by decide) rfl (am_in_nI (by omega) (by omega)) ?_
    rw [am_clN (by omega)]
    refine w304_30 ?_
    refine w304_32 ?_
    generalize pr.2.1 (6 * k) &&& 63 = x
    rcases am_sw0_40 x with rfl | rfl | rfl | rfl | rfl | rfl | rfl | rfl | rfl | rfl | rfl | rfl | rfl | rfl | rfl | rfl | rfl | rfl | rfl | rfl | rfl | rfl | rfl | rfl | rfl | rfl | rfl | rfl | rfl | rfl | rfl | rfl | rfl | rfl | rfl | rfl | rfl | rfl | rfl | rfl | rfl | hd
    · refine w304_33_0 ?_
      exact cs_0 r hk h3 kk _ l0 l1 l2 l3
    · refine w304_33_1 ?_
      exact cs_1 r hk h3 kk _ l0 l1 l2 l3
    · refine w304_33_2 ?_
      exact cs_2 r hk h3 kk _ l0 l1 l2 l3
    · refine w304_33_3 ?_
      exact cs_3 r hk h3 kk _ l0 l1 l2 l3
    · refine w304_33_4 ?_
      exact cs_4 r hk h3 kk _ l0 l1 l2 l3
    · refine w304_33_5 ?_
      exact cs_5 r hk h3 kk _ l0 l1 l2 l3
    · refine w304_33_6 ?_
      exact cs_6 r hk h3 kk _ l0 l1 l2 l3
    · refine w304_33_7 ?_
      exact cs_7 r hk h3 kk _ l0 l1 l2 l3
    · refine w304_33_8 ?_
      exact cs_8 r hk h3 kk _ l0 l1 l2 l3
    · refine w304_33_9 ?_
      exact cs_9 r hk h3 kk _ l0 l1 l2 l3
    · refine w304_33_10 ?_
      exact cs_10 r hk h3 kk _ l0 l1 l2 l3
    · refine w304_33_11 ?_
      exact cs_11 r hk h3 kk _ l0 l1 l2 l3
    · refine w304_33_12 ?_
      exact cs_12 r hk h3 kk _ l0 l1 l2 l3
    · refine w304_33_13 ?_
      exact cs_13 r hk h3 kk _ l0 l1 l2 l3
    · refine w304_33_14 ?_
      exact cs_14 r hk h3 kk _ l0 l1 l2 l3
    · refine w304_33_15 ?_
      exact cs_15 r hk h3 kk _ l0 l1 l2 l3
    · refine w304_33_16 ?_
      exact cs_16 r hk h3 kk _ l0 l1 l2 l3
    · refine w304_33_17 ?_
      exact cs_17 r hk h3 kk _ l0 l1 l2 l3
    · refine w304_33_18 ?_
      exact cs_18 r hk h3 kk _ l0 l1 l2 l3
    · refine w304_33_19 ?_
      exact cs_19 r hk h3 kk _ l0 l1 l2 l3
    · refine w304_33_20 ?_
      exact cs_20 r hk h3 kk _ l0 l1 l2 l3
    · refine w304_33_21 ?_
      exact cs_21 r hk h3 kk _ l0 l1 l2 l3
    · refine w304_33_22 ?_
      exact cs_22 r hk h3 kk _ l0 l1 l2 l3
    · refine w304_33_23 ?_
      exact cs_23 r hk h3 kk _ l0 l1 l2 l3
    · refine w304_33_24 ?_
      exact cs_24 r hk h3 kk _ l0 l1 l2 l3
    · refine w304_33_25 ?_
      exact cs_25 r hk h3 kk _ l0 l1 l2 l3
    · refine w304_33_26 ?_
      exact cs_26 r hk h3 kk _ l0 l1 l2 l3
    · refine w304_33_27 ?_
      exact cs_27 r hk h3 kk _ l0 l1 l2 l3
    · refine w304_33_28 ?_
      exact cs_28 r hk h3 kk _ l0 l1 l2 l3
    · refine w304_33_29 ?_
      exact cs_29 r hk h3 kk _ l0 l1 l2 l3
    · refine w304_33_30 ?_
      exact cs_30 r hk h3 kk _ l0 l1 l2 l3
    · refine w304_33_31 ?_
      exact cs_31 r hk h3 kk _ l0 l1 l2 l3
    · refine w304_33_32 ?_
      exact cs_32 r hk h3 kk _ l0 l1 l2 l3
    · refine w304_33_33 ?_
      exact cs_33 r hk h3 kk _ l0 l1 l2 l3
    · refine w304_33_34 ?_
      exact cs_34 r hk h3 kk _ l0 l1 l2 l3
    · refine w304_33_35 ?_
      exact cs_35 r hk h3 kk _ l0 l1 l2 l3
    · refine w304_33_36 ?_
      exact cs_36 r hk h3 kk _ l0 l1 l2 l3
    · refine w304_33_37 ?_
      exact cs_37 r hk h3 kk _ l0 l1 l2 l3
    · refine w304_33_38 ?_
      exact cs_38 r hk h3 kk _ l0 l1 l2 l3
    · refine w304_33_39 ?_
      exact cs_39 r hk h3 kk _ l0 l1 l2 l3
    · refine w304_33_40 ?_
      exact cs_40 r hk h3 kk _ l0 l1 l2 l3
    · refine w304_33_d hd ?_
      exact kk S I J P n l s u tp (am_gr_0 S) r _ l0 l1 l2 l3
theorem bd_R (B : bd 85 83 148 S I P) : am_R S I P 0 0 0 0 0 := by
  obtain ⟨hS, -, hI, hP⟩ := id B
  have z : ∀ {a j : Nat} {v : Int32}, fI 148 a j = v → 64 ≤ a ∧ a < 149 → I a j = v := fun h1 h2 => (hI _ _ h2.1 h2.2).trans h1
  have zn : ∀ {a : Nat}, (bE.take 83).all (fun e => decide (a ≠ e.1)) = true → 64 ≤ a ∧ a < 149 → ∀ j, P a j = none := fun h1 h2 j => (hP _ _ h2.1 h2.2).trans (fP_no h1 j)
  intro c
  match c with
  | 0 =>
    refine ⟨fun a q h => ?_, fun a j b h => ?_⟩
    · unfold am_lay at h
      split at h
      · cases h
      · have := (List.getElem?_eq_some_iff.mp h).1
        have : am_lays.length = 85 := rfl
        exact (B.at' (by omega) (by omega) h).2
    · obtain ⟨h1, h2⟩ := am_ptr_50 h
      have h3 := (am_ptr_lt h).1
      have q := of_decide_eq_true (List.all_eq_true.mp (List.all_eq_true.mp bd_ptr (a - 64) (List.mem_range.mpr (by omega))) j (List.mem_range.mpr h2))
      rw [show 64 + (a - 64) = a by omega] at q
      rw [hP a j h1 (by omega), ← q]
      exact h
  | 1 =>
    show am_HR I 65 (I 126) 0 0 0
    refine am_HR_mk ?_ ?_ ?_ ?_ ?_ ?_ ?_ ?_ ?_ ?_ ?_ ?_ ?_ ?_ ?_ ?_
    · exact ⟨by omega, by omega, by omega⟩
    · exact ⟨z (by decide +kernel) (by decide), z (by decide +kernel) (by decide)⟩
    · intro m hm
      show am_bit (I 65 1) m = 1 ↔ m < 0 ∧ _
      rw [z (a := 65) (j := 1) (v := 0) (by decide +kernel) (by decide), am_bit_0]
      exact ⟨fun w => absurd w (by decide), fun w => absurd w.1 (Nat.not_lt_zero m)⟩
    · intro m hm
      exact absurd hm (Nat.not_lt_zero m)
    · show I 65 2 = I 126 42 ∧ ∃ x, x < 32 ∧ I 126 42 = nI x
      rw [z (a := 65) (j := 2) (v := 0) (by decide +kernel) (by decide), z (a := 126) (j := 42) (v := 0) (by decide +kernel) (by decide)]
      exact ⟨rfl, 0, by decide, rfl⟩
    · exact ⟨z (by decide +kernel) (by decide), z (by decide +kernel) (by decide)⟩
    · show I 65 4 = I 126 76 ∧ (I 126 76 = -1 ∨ ∃ f, f < 0 ∧ I 126 76 = nI f)
      rw [z (a := 65) (j := 4) (v := -1) (by decide +kernel) (by decide), z (a := 126) (j := 76) (v := -1) (by decide +kernel) (by decide)]
      exact ⟨rfl, Or.inl rfl⟩
    · exact ⟨z (by decide +kernel) (by decide), z (by decide +kernel) (by decide)⟩
    · intro m hm
      exact absurd hm (Nat.not_lt_zero m)
    · intro m hm
      exact absurd hm (Nat.not_lt_zero m)
    · intro j hj
      exact absurd hj (by omega)
    · show I 69 0 = I 126 43 ∧ ∃ x, x ≤ 999 ∧ I 126 43 = nI x
      rw [z (a := 69) (j := 0) (v := 0) (by decide +kernel) (by decide), z (a := 126) (j := 43) (v := 0) (by decide +kernel) (by decide)]
      exact ⟨rfl, 0, by decide, rfl⟩
    · show I 69 1 = I 126 70 ∧ ∃ x, x ≤ 10 ∧ I 126 70 = nI x
      rw [z (a := 69) (j := 1) (v := 1) (by decide +kernel) (by decide), z (a := 126) (j := 70) (v := 1) (by decide +kernel) (by decide)]
      exact ⟨rfl, 1, by decide, rfl⟩
    · show I 69 2 = I 126 71
      rw [z (a := 69) (j := 2) (v := 0) (by decide +kernel) (by decide), z (a := 126) (j := 71) (v := 0) (by decide +kernel) (by decide)]
    · show I 69 3 = I 126 72 ∧ ∃ x, x ≤ 99 ∧ I 126 72 = nI x
      rw [z (a := 69) (j := 3) (v := 0) (by decide +kernel) (by decide), z (a := 126) (j := 72) (v := 0) (by decide +kernel) (by decide)]
      exact ⟨rfl, 0, by decide, rfl⟩
    · intro i hi
      exact absurd hi (Nat.not_lt_zero i)
  | 2 => exact fun i hi => absurd hi (Nat.not_lt_zero i)
  | 3 =>
    intro i t h
    rw [zn (by decide) (by decide) i] at h
    cases h
  | 4 =>
    intro q hq
    refine Or.inl ⟨?_, zn (by decide) (by decide) q⟩
    exact (hI 128 q (by decide) (by decide)).trans (fI_no (by decide +kernel) q)
  | 5 =>
    intro h0 h1 e0 _
    rw [zn (by decide) (by decide) 0] at e0
    cases e0
  | 6 => exact ⟨by omega, z (by decide +kernel) (by decide), z (by decide +kernel) (by decide), am_PA_0⟩
  | 7 => exact ⟨by omega, z (by decide +kernel) (by decide), z (by decide +kernel) (by decide), fun k hk => absurd hk (Nat.not_lt_zero k)⟩
  | 8 =>
    show I 96 3 = I 124 14 ∧ I 64 13 = I 124 40 ∧ I 64 14 = I 124 6 ∧ I 64 16 = I 124 0
    rw [z (a := 96) (j := 3) (v := -1) (by decide +kernel) (by decide), z (a := 124) (j := 14) (v := -1) (by decide +kernel) (by decide), z (a := 64) (j := 13) (v := -1) (by decide +kernel) (by decide), z (a := 124) (j := 40) (v := -1) (by decide +kernel) (by decide), z (a := 64) (j := 14) (v := 0) (by decide +kernel) (by decide), z (a := 124) (j := 6) (v := 0) (by decide +kernel) (by decide), z (a := 64) (j := 16) (v := 0) (by decide +kernel) (by decide), z (a := 124) (j := 0) (v := 0) (by decide +kernel) (by decide)]
    exact ⟨rfl, rfl, rfl, rfl⟩
  | 9 =>
    intro k _
    exact (hI 123 k (by decide) (by decide)).trans ((fI_no (by decide +kernel) k).trans ((hI 125 k (by decide) (by decide)).trans (fI_no (by decide +kernel) k)).symm)
  | 10 => exact Or.inl ⟨z (by decide +kernel) (by decide), z (by decide +kernel) (by decide)⟩
  | 11 =>
    intro k x h
    have hk : k < am_wds.length := (List.getElem?_eq_some_iff.mp h).1
    have : am_wds.length = 135 := rfl
    have q := of_decide_eq_true (List.all_eq_true.mp bd_wds k (List.mem_range.mpr (by omega)))
    rw [hI 130 k (by decide) (by decide), q, List.getD_eq_getElem?_getD, h]
    rfl
  | c + 12 => exact trivial
set_option maxRecDepth 20000 in
theorem am_final : am_claim := by
  intro pr h3
  have main : am_wp pr 1000 304 0 [(0, .ref 0)] [] am_H0 am_Qf := by
    have B : bd 0 0 0 (List.replicate 64 (99, 0)) (fun _ _ => 0) (fun _ _ => none) := ⟨by rw [List.take_zero, List.append_nil], by omega, fun a j h1 h2 => absurd h2 (by omega), fun a j h1 h2 => absurd h2 (by omega)⟩
    show am_wp pr 1000 304 0 [(0, .ref 0)] [] (List.replicate 64 (99, 0), fun _ _ => 0, fun _ _ => 0, fun _ _ => none) am_Qf
    refine w304_0 ?_
    rw [B.len (L := 64) rfl]
    refine bd_new (q := (8, 17)) B rfl (by decide) (by decide) (fun S I J P B => ?_)
    refine w304_3 rfl ?_
    refine w304_4 (k := c0 B (fun S I J P B => ?_))
    refine w304_7 ?_
    refine w304_8 ?_
    rw [B.len (L := 124) rfl]
    refine bd_new (q := (9, 50)) B rfl (by decide) (by decide) (fun S I J P B => ?_)
    refine w304_11 rfl ?_
    refine w304_12 (k := c162 B (fun S I J P B => ?_))
    refine w304_15 ?_
    refine w304_16 ?_
    refine w304_17 ?_
    have hS := B.1
    refine am_loop304 h3 512 0 S I J P 0 0 0 0 0 rfl (bd_R B) (by rw [B.len (L := 149) rfl]; omega) ?_ _ rfl rfl rfl rfl
    rw [hS]
    decide +kernel
  obtain ⟨f, r, τ, h1, rfl, h2, h4⟩ := main
  exact ⟨f, τ, h1, h2, h4⟩
end
