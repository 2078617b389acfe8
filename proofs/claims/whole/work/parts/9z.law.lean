/-! THE LAW: its cases -/
abbrev mL_law : MT := (yL_law, cL_law, 4, some .boolean)
section
variable {g : GH} {d : Nat} {μ : MT} {bc bs pc : Nat} {L : List (Option AV)} {st : List AV} {sh : SH} {R : RR} {I : II} {Q : QT}
theorem T_le {bc' bs' : Nat} (h1 : bc ≤ bc') (h2 : bs ≤ bs') (h : T g d μ bc bs pc L st sh R I Q) : T g d μ bc' bs' pc L st sh R I Q := by
  intro p e s m args below meth c Rm Z ad0 sh0 mc ms O H locs cells slots ad ls N
  exact h p e s m args below meth c Rm Z ad0 sh0 mc ms O H locs cells slots ad ls ⟨by have := N.1; omega, by have := N.2.1; omega, N.2.2⟩
theorem m_VP {i n a b nm no : Nat} {ν ν2 : MT} {stk : List AV} (as : List AV) (hd : decode μ.2.1 pc = .ok (.invokevirtual i, 3)) (hl : CLV μ.1.cls i 11 ν n) (hn : as.length = n) (ho : (shX nm no 20).1 = 11 + 1) (hs : stk = as.reverse ++ vr 20 :: st) (hg : ctg st ≤ 8) (hdd : 1 ≤ d) (ha : a ≤ 4) (hb : b ≤ 30) (hI : Inv nm no I) (hP : PM g (d - 1) nm no ν ν2 a b as)
    (h : ∀ (nm2 no2 : Nat) (r : Int) (J : II), SI g (d - 1) ν2 (vr 100 :: as) (shX nm2 no2) (RX nm2 no2) J (fun r2 K => r = r2 ∧ Inv nm2 no2 K) → T g d μ bc bs (pc + 3) L (vi r :: st) (shX nm2 no2) (RX nm2 no2) J Q) : T g d μ (bc + 4) (bs + 30) pc L stk (shX nm no) (RX nm no) I Q :=
  m_callV as hd hl hn ho hs hg (show d - 1 < d by omega) (by omega) (by omega) (hP I hI _ (fun nm2 no2 r J z => T_le (by omega) (by omega) (h nm2 no2 r J z)))
end
section
variable {g : GH} {d nm no bc bs : Nat} {i : Int} {I : II} {Q : QT}
theorem lc_open (hd : 11 ≤ d) (hG : GvI g) (h0 : 0 ≤ i) (h1 : i + 6 ≤ (gX g 1).1) (h2 : (gX g 1).1 ≤ 3072) (hI : Inv nm no I) (hk : ∀ (nm no : Nat) (I : II), Inv nm no I → T g d mL_law bc bs 1516 [some (vr 1), some (vr 20), some (vr 100), some (vi i)] [] (shX nm no) (RX nm no) I Q) : T g d mL_law (bc + 4) (bs + 30) 192 [some (vr 1), some (vr 20), some (vr 100), some (vi i)] [] (shX nm no) (RX nm no) I Q := by
  refine m_aload_n dL_law_192 rfl ?_
  refine m_aload_n dL_law_193 rfl ?_
  refine m_iload_n dL_law_194 rfl ?_
  refine m_iconst dL_law_195 (by decide) ?_
  refine m_iadd dL_law_196 (by omega) ?_
  refine m_gld dL_law_197 (by decide) (by omega) (by omega) ?_
  refine m_aload_n dL_law_198 rfl ?_
  refine m_iload_n dL_law_199 rfl ?_
  refine m_iconst dL_law_200 (by decide) ?_
  refine m_iadd dL_law_201 (by omega) ?_
  refine m_gld dL_law_202 (by decide) (by omega) (by omega) ?_
  refine m_aload_n dL_law_203 rfl ?_
  refine m_iload_n dL_law_204 rfl ?_
  refine m_iconst dL_law_205 (by decide) ?_
  refine m_iadd dL_law_206 (by omega) ?_
  refine m_gld dL_law_207 (by decide) (by omega) (by omega) ?_
  refine m_VP [_, _, _] dL_law_208 lk_L_13 rfl oX_20 rfl (Nat.le_of_ble_eq_true rfl) (by omega) (by omega) (by omega) hI (PM_of (pp_open (by omega))) ?_
  intro nm2 no2 r208 I208 hS
  refine m_aload_n dL_law_211 rfl ?_
  refine m_aload_n dL_law_212 rfl ?_
  refine m_iload_n dL_law_213 rfl ?_
  refine m_iconst dL_law_214 (by decide) ?_
  refine m_iadd dL_law_215 (by omega) ?_
  refine m_gld dL_law_216 (by decide) (by omega) (by omega) ?_
  refine m_aload_n dL_law_217 rfl ?_
  refine m_iload_n dL_law_218 rfl ?_
  refine m_iconst dL_law_219 (by decide) ?_
  refine m_iadd dL_law_220 (by omega) ?_
  refine m_gld dL_law_221 (by decide) (by omega) (by omega) ?_
  refine m_aload_n dL_law_222 rfl ?_
  refine m_iload_n dL_law_223 rfl ?_
  refine m_iconst dL_law_224 (by decide) ?_
  refine m_iadd dL_law_225 (by omega) ?_
  refine m_gld dL_law_226 (by decide) (by omega) (by omega) ?_
  refine m_VI [_, _, _] dL_law_227 lk_L_17 rfl oX_100 rfl (Nat.le_of_ble_eq_true rfl) (by omega) hS ?_
  intro r227 I227 q227
  refine m_icmp_eq (tgt := 1516) dL_law_230 (by decide) (fun c230 => ?_) (fun c230 => ?_)
  · exact hk nm2 no2 I227 q227.2
  · exact absurd q227.1 c230
theorem lc_wire (hd : 11 ≤ d) (hG : GvI g) (h0 : 0 ≤ i) (h1 : i + 6 ≤ (gX g 1).1) (h2 : (gX g 1).1 ≤ 3072) (hI : Inv nm no I) (hk : ∀ (nm no : Nat) (I : II), Inv nm no I → T g d mL_law bc bs 1516 [some (vr 1), some (vr 20), some (vr 100), some (vi i)] [] (shX nm no) (RX nm no) I Q) : T g d mL_law (bc + 4) (bs + 30) 235 [some (vr 1), some (vr 20), some (vr 100), some (vi i)] [] (shX nm no) (RX nm no) I Q := by
  refine m_aload_n dL_law_235 rfl ?_
  refine m_aload_n dL_law_236 rfl ?_
  refine m_iload_n dL_law_237 rfl ?_
  refine m_iconst dL_law_238 (by decide) ?_
  refine m_iadd dL_law_239 (by omega) ?_
  refine m_gld dL_law_240 (by decide) (by omega) (by omega) ?_
  refine m_aload_n dL_law_241 rfl ?_
  refine m_iload_n dL_law_242 rfl ?_
  refine m_iconst dL_law_243 (by decide) ?_
  refine m_iadd dL_law_244 (by omega) ?_
  refine m_gld dL_law_245 (by decide) (by omega) (by omega) ?_
  refine m_aload_n dL_law_246 rfl ?_
  refine m_iload_n dL_law_247 rfl ?_
  refine m_iconst dL_law_248 (by decide) ?_
  refine m_iadd dL_law_249 (by omega) ?_
  refine m_gld dL_law_250 (by decide) (by omega) (by omega) ?_
  refine m_aload_n dL_law_251 rfl ?_
  refine m_iload_n dL_law_252 rfl ?_
  refine m_iconst dL_law_253 (by decide) ?_
  refine m_iadd dL_law_254 (by omega) ?_
  refine m_gld dL_law_255 (by decide) (by omega) (by omega) ?_
  refine m_tif_eq (tgt := 263) (M := 264) dL_law_256 (by decide) (fun c256 hM256 => by
      refine m_iconst dL_law_263 (by decide) ?_
      exact hM256
    ) (fun c256 hM256 => by
      refine m_iconst dL_law_259 (by decide) ?_
      refine m_goto (tgt := 264) dL_law_260 (by decide) ?_
      exact hM256
    ) ?_
  refine m_VP [_, _, _, _] dL_law_264 lk_L_18 rfl oX_20 rfl (Nat.le_of_ble_eq_true rfl) (by omega) (by omega) (by omega) hI (PM_of (pp_wire (by omega) (by split <;> omega))) ?_
  intro nm2 no2 r264 I264 hS
  refine m_aload_n dL_law_267 rfl ?_
  refine m_aload_n dL_law_268 rfl ?_
  refine m_iload_n dL_law_269 rfl ?_
  refine m_iconst dL_law_270 (by decide) ?_
  refine m_iadd dL_law_271 (by omega) ?_
  refine m_gld dL_law_272 (by decide) (by omega) (by omega) ?_
  refine m_aload_n dL_law_273 rfl ?_
  refine m_iload_n dL_law_274 rfl ?_
  refine m_iconst dL_law_275 (by decide) ?_
  refine m_iadd dL_law_276 (by omega) ?_
  refine m_gld dL_law_277 (by decide) (by omega) (by omega) ?_
  refine m_aload_n dL_law_278 rfl ?_
  refine m_iload_n dL_law_279 rfl ?_
  refine m_iconst dL_law_280 (by decide) ?_
  refine m_iadd dL_law_281 (by omega) ?_
  refine m_gld dL_law_282 (by decide) (by omega) (by omega) ?_
  refine m_aload_n dL_law_283 rfl ?_
  refine m_iload_n dL_law_284 rfl ?_
  refine m_iconst dL_law_285 (by decide) ?_
  refine m_iadd dL_law_286 (by omega) ?_
  refine m_gld dL_law_287 (by decide) (by omega) (by omega) ?_
  refine m_tif_eq (tgt := 295) (M := 296) dL_law_288 (by decide) (fun c288 hM288 => by
      refine m_iconst dL_law_295 (by decide) ?_
      exact hM288
    ) (fun c288 hM288 => by
      refine m_iconst dL_law_291 (by decide) ?_
      refine m_goto (tgt := 296) dL_law_292 (by decide) ?_
      exact hM288
    ) ?_
  refine m_VI [_, _, _, _] dL_law_296 lk_L_22 rfl oX_100 rfl (Nat.le_of_ble_eq_true rfl) (by omega) hS ?_
  intro r296 I296 q296
  refine m_icmp_eq (tgt := 1516) dL_law_299 (by decide) (fun c299 => ?_) (fun c299 => ?_)
  · exact hk nm2 no2 I296 q296.2
  · exact absurd q296.1 c299
theorem lc_storm (hd : 11 ≤ d) (hG : GvI g) (h0 : 0 ≤ i) (h1 : i + 6 ≤ (gX g 1).1) (h2 : (gX g 1).1 ≤ 3072) (hI : Inv nm no I) (hk : ∀ (nm no : Nat) (I : II), Inv nm no I → T g d mL_law bc bs 1516 [some (vr 1), some (vr 20), some (vr 100), some (vi i)] [] (shX nm no) (RX nm no) I Q) : T g d mL_law (bc + 4) (bs + 30) 304 [some (vr 1), some (vr 20), some (vr 100), some (vi i)] [] (shX nm no) (RX nm no) I Q := by
  refine m_aload_n dL_law_304 rfl ?_
  refine m_aload_n dL_law_305 rfl ?_
  refine m_iload_n dL_law_306 rfl ?_
  refine m_iconst dL_law_307 (by decide) ?_
  refine m_iadd dL_law_308 (by omega) ?_
  refine m_gld dL_law_309 (by decide) (by omega) (by omega) ?_
  refine m_aload_n dL_law_310 rfl ?_
  refine m_iload_n dL_law_311 rfl ?_
  refine m_iconst dL_law_312 (by decide) ?_
  refine m_iadd dL_law_313 (by omega) ?_
  refine m_gld dL_law_314 (by decide) (by omega) (by omega) ?_
  refine m_aload_n dL_law_315 rfl ?_
  refine m_iload_n dL_law_316 rfl ?_
  refine m_iconst dL_law_317 (by decide) ?_
  refine m_iadd dL_law_318 (by omega) ?_
  refine m_gld dL_law_319 (by decide) (by omega) (by omega) ?_
  refine m_VP [_, _, _] dL_law_320 lk_L_23 rfl oX_20 rfl (Nat.le_of_ble_eq_true rfl) (by omega) (by omega) (by omega) hI (PM_of (pp_storm (by omega))) ?_
  intro nm2 no2 r320 I320 hS
  refine m_aload_n dL_law_323 rfl ?_
  refine m_aload_n dL_law_324 rfl ?_
  refine m_iload_n dL_law_325 rfl ?_
  refine m_iconst dL_law_326 (by decide) ?_
  refine m_iadd dL_law_327 (by omega) ?_
  refine m_gld dL_law_328 (by decide) (by omega) (by omega) ?_
  refine m_aload_n dL_law_329 rfl ?_
  refine m_iload_n dL_law_330 rfl ?_
  refine m_iconst dL_law_331 (by decide) ?_
  refine m_iadd dL_law_332 (by omega) ?_
  refine m_gld dL_law_333 (by decide) (by omega) (by omega) ?_
  refine m_aload_n dL_law_334 rfl ?_
  refine m_iload_n dL_law_335 rfl ?_
  refine m_iconst dL_law_336 (by decide) ?_
  refine m_iadd dL_law_337 (by omega) ?_
  refine m_gld dL_law_338 (by decide) (by omega) (by omega) ?_
  refine m_VI [_, _, _] dL_law_339 lk_L_26 rfl oX_100 rfl (Nat.le_of_ble_eq_true rfl) (by omega) hS ?_
  intro r339 I339 q339
  refine m_icmp_eq (tgt := 1516) dL_law_342 (by decide) (fun c342 => ?_) (fun c342 => ?_)
  · exact hk nm2 no2 I339 q339.2
  · exact absurd q339.1 c342
theorem lc_let (hd : 11 ≤ d) (hG : GvI g) (h0 : 0 ≤ i) (h1 : i + 6 ≤ (gX g 1).1) (h2 : (gX g 1).1 ≤ 3072) (hI : Inv nm no I) (hk : ∀ (nm no : Nat) (I : II), Inv nm no I → T g d mL_law bc bs 1516 [some (vr 1), some (vr 20), some (vr 100), some (vi i)] [] (shX nm no) (RX nm no) I Q) : T g d mL_law (bc + 4) (bs + 30) 347 [some (vr 1), some (vr 20), some (vr 100), some (vi i)] [] (shX nm no) (RX nm no) I Q := by
  refine m_aload_n dL_law_347 rfl ?_
  refine m_aload_n dL_law_348 rfl ?_
  refine m_iload_n dL_law_349 rfl ?_
  refine m_iconst dL_law_350 (by decide) ?_
  refine m_iadd dL_law_351 (by omega) ?_
  refine m_gld dL_law_352 (by decide) (by omega) (by omega) ?_
  refine m_aload_n dL_law_353 rfl ?_
  refine m_iload_n dL_law_354 rfl ?_
  refine m_iconst dL_law_355 (by decide) ?_
  refine m_iadd dL_law_356 (by omega) ?_
  refine m_gld dL_law_357 (by decide) (by omega) (by omega) ?_
  refine m_aload_n dL_law_358 rfl ?_
  refine m_iload_n dL_law_359 rfl ?_
  refine m_iconst dL_law_360 (by decide) ?_
  refine m_iadd dL_law_361 (by omega) ?_
  refine m_gld dL_law_362 (by decide) (by omega) (by omega) ?_
  refine m_VP [_, _, _] dL_law_363 lk_L_27 rfl oX_20 rfl (Nat.le_of_ble_eq_true rfl) (by omega) (by omega) (by omega) hI (PM_of (pp_let (by omega))) ?_
  intro nm2 no2 r363 I363 hS
  refine m_aload_n dL_law_366 rfl ?_
  refine m_aload_n dL_law_367 rfl ?_
  refine m_iload_n dL_law_368 rfl ?_
  refine m_iconst dL_law_369 (by decide) ?_
  refine m_iadd dL_law_370 (by omega) ?_
  refine m_gld dL_law_371 (by decide) (by omega) (by omega) ?_
  refine m_aload_n dL_law_372 rfl ?_
  refine m_iload_n dL_law_373 rfl ?_
  refine m_iconst dL_law_374 (by decide) ?_
  refine m_iadd dL_law_375 (by omega) ?_
  refine m_gld dL_law_376 (by decide) (by omega) (by omega) ?_
  refine m_aload_n dL_law_377 rfl ?_
  refine m_iload_n dL_law_378 rfl ?_
  refine m_iconst dL_law_379 (by decide) ?_
  refine m_iadd dL_law_380 (by omega) ?_
  refine m_gld dL_law_381 (by decide) (by omega) (by omega) ?_
  refine m_VI [_, _, _] dL_law_382 lk_L_30 rfl oX_100 rfl (Nat.le_of_ble_eq_true rfl) (by omega) hS ?_
  intro r382 I382 q382
  refine m_icmp_eq (tgt := 1516) dL_law_385 (by decide) (fun c385 => ?_) (fun c385 => ?_)
  · exact hk nm2 no2 I382 q382.2
  · exact absurd q382.1 c385
theorem lc_message (hd : 11 ≤ d) (hG : GvI g) (h0 : 0 ≤ i) (h1 : i + 6 ≤ (gX g 1).1) (h2 : (gX g 1).1 ≤ 3072) (hI : Inv nm no I) (hk : ∀ (nm no : Nat) (I : II), Inv nm no I → T g d mL_law bc bs 1516 [some (vr 1), some (vr 20), some (vr 100), some (vi i)] [] (shX nm no) (RX nm no) I Q) : T g d mL_law (bc + 4) (bs + 30) 390 [some (vr 1), some (vr 20), some (vr 100), some (vi i)] [] (shX nm no) (RX nm no) I Q := by
  refine m_aload_n dL_law_390 rfl ?_
  refine m_aload_n dL_law_391 rfl ?_
  refine m_iload_n dL_law_392 rfl ?_
  refine m_iconst dL_law_393 (by decide) ?_
  refine m_iadd dL_law_394 (by omega) ?_
  refine m_gld dL_law_395 (by decide) (by omega) (by omega) ?_
  refine m_aload_n dL_law_396 rfl ?_
  refine m_iload_n dL_law_397 rfl ?_
  refine m_iconst dL_law_398 (by decide) ?_
  refine m_iadd dL_law_399 (by omega) ?_
  refine m_gld dL_law_400 (by decide) (by omega) (by omega) ?_
  refine m_aload_n dL_law_401 rfl ?_
  refine m_iload_n dL_law_402 rfl ?_
  refine m_iconst dL_law_403 (by decide) ?_
  refine m_iadd dL_law_404 (by omega) ?_
  refine m_gld dL_law_405 (by decide) (by omega) (by omega) ?_
  refine m_aload_n dL_law_406 rfl ?_
  refine m_iload_n dL_law_407 rfl ?_
  refine m_iconst dL_law_408 (by decide) ?_
  refine m_iadd dL_law_409 (by omega) ?_
  refine m_gld dL_law_410 (by decide) (by omega) (by omega) ?_
  refine m_VP [_, _, _, _] dL_law_411 lk_L_31 rfl oX_20 rfl (Nat.le_of_ble_eq_true rfl) (by omega) (by omega) (by omega) hI (pp_message (by omega)) ?_
  intro nm2 no2 r411 I411 hS
  refine m_aload_n dL_law_414 rfl ?_
  refine m_aload_n dL_law_415 rfl ?_
  refine m_iload_n dL_law_416 rfl ?_
  refine m_iconst dL_law_417 (by decide) ?_
  refine m_iadd dL_law_418 (by omega) ?_
  refine m_gld dL_law_419 (by decide) (by omega) (by omega) ?_
  refine m_aload_n dL_law_420 rfl ?_
  refine m_iload_n dL_law_421 rfl ?_
  refine m_iconst dL_law_422 (by decide) ?_
  refine m_iadd dL_law_423 (by omega) ?_
  refine m_gld dL_law_424 (by decide) (by omega) (by omega) ?_
  refine m_aload_n dL_law_425 rfl ?_
  refine m_iload_n dL_law_426 rfl ?_
  refine m_iconst dL_law_427 (by decide) ?_
  refine m_iadd dL_law_428 (by omega) ?_
  refine m_gld dL_law_429 (by decide) (by omega) (by omega) ?_
  refine m_aload_n dL_law_430 rfl ?_
  refine m_iload_n dL_law_431 rfl ?_
  refine m_iconst dL_law_432 (by decide) ?_
  refine m_iadd dL_law_433 (by omega) ?_
  refine m_gld dL_law_434 (by decide) (by omega) (by omega) ?_
  refine m_VI [_, _, _, _] dL_law_435 lk_L_35 rfl oX_100 rfl (Nat.le_of_ble_eq_true rfl) (by omega) hS ?_
  intro r435 I435 q435
  refine m_icmp_eq (tgt := 1516) dL_law_438 (by decide) (fun c438 => ?_) (fun c438 => ?_)
  · exact hk nm2 no2 I435 q435.2
  · exact absurd q435.1 c438
theorem lc_minutes (hd : 11 ≤ d) (hG : GvI g) (h0 : 0 ≤ i) (h1 : i + 6 ≤ (gX g 1).1) (h2 : (gX g 1).1 ≤ 3072) (hI : Inv nm no I) (hk : ∀ (nm no : Nat) (I : II), Inv nm no I → T g d mL_law bc bs 1516 [some (vr 1), some (vr 20), some (vr 100), some (vi i)] [] (shX nm no) (RX nm no) I Q) : T g d mL_law (bc + 4) (bs + 30) 443 [some (vr 1), some (vr 20), some (vr 100), some (vi i)] [] (shX nm no) (RX nm no) I Q := by
  refine m_aload_n dL_law_443 rfl ?_
  refine m_aload_n dL_law_444 rfl ?_
  refine m_iload_n dL_law_445 rfl ?_
  refine m_iconst dL_law_446 (by decide) ?_
  refine m_iadd dL_law_447 (by omega) ?_
  refine m_gld dL_law_448 (by decide) (by omega) (by omega) ?_
  refine m_VP [_] dL_law_449 lk_L_36 rfl oX_20 rfl (Nat.le_of_ble_eq_true rfl) (by omega) (by omega) (by omega) hI (PM_of (pp_minutes (by omega))) ?_
  intro nm2 no2 r449 I449 hS
  refine m_aload_n dL_law_452 rfl ?_
  refine m_aload_n dL_law_453 rfl ?_
  refine m_iload_n dL_law_454 rfl ?_
  refine m_iconst dL_law_455 (by decide) ?_
  refine m_iadd dL_law_456 (by omega) ?_
  refine m_gld dL_law_457 (by decide) (by omega) (by omega) ?_
  refine m_VI [_] dL_law_458 lk_L_40 rfl oX_100 rfl (Nat.le_of_ble_eq_true rfl) (by omega) hS ?_
  intro r458 I458 q458
  refine m_icmp_eq (tgt := 1516) dL_law_461 (by decide) (fun c461 => ?_) (fun c461 => ?_)
  · exact hk nm2 no2 I458 q458.2
  · exact absurd q458.1 c461
theorem lc_at (hd : 11 ≤ d) (hG : GvI g) (h0 : 0 ≤ i) (h1 : i + 6 ≤ (gX g 1).1) (h2 : (gX g 1).1 ≤ 3072) (hI : Inv nm no I) (hk : ∀ (nm no : Nat) (I : II), Inv nm no I → T g d mL_law bc bs 1516 [some (vr 1), some (vr 20), some (vr 100), some (vi i)] [] (shX nm no) (RX nm no) I Q) : T g d mL_law (bc + 4) (bs + 30) 466 [some (vr 1), some (vr 20), some (vr 100), some (vi i)] [] (shX nm no) (RX nm no) I Q := by
  refine m_aload_n dL_law_466 rfl ?_
  refine m_aload_n dL_law_467 rfl ?_
  refine m_iload_n dL_law_468 rfl ?_
  refine m_iconst dL_law_469 (by decide) ?_
  refine m_iadd dL_law_470 (by omega) ?_
  refine m_gld dL_law_471 (by decide) (by omega) (by omega) ?_
  refine m_aload_n dL_law_472 rfl ?_
  refine m_iload_n dL_law_473 rfl ?_
  refine m_iconst dL_law_474 (by decide) ?_
  refine m_iadd dL_law_475 (by omega) ?_
  refine m_gld dL_law_476 (by decide) (by omega) (by omega) ?_
  refine m_VP [_, _] dL_law_477 lk_L_41 rfl oX_20 rfl (Nat.le_of_ble_eq_true rfl) (by omega) (by omega) (by omega) hI (PM_of (pp_at (by omega))) ?_
  intro nm2 no2 r477 I477 hS
  refine m_aload_n dL_law_480 rfl ?_
  refine m_aload_n dL_law_481 rfl ?_
  refine m_iload_n dL_law_482 rfl ?_
  refine m_iconst dL_law_483 (by decide) ?_
  refine m_iadd dL_law_484 (by omega) ?_
  refine m_gld dL_law_485 (by decide) (by omega) (by omega) ?_
  refine m_aload_n dL_law_486 rfl ?_
  refine m_iload_n dL_law_487 rfl ?_
  refine m_iconst dL_law_488 (by decide) ?_
  refine m_iadd dL_law_489 (by omega) ?_
  refine m_gld dL_law_490 (by decide) (by omega) (by omega) ?_
  refine m_VI [_, _] dL_law_491 lk_L_45 rfl oX_100 rfl (Nat.le_of_ble_eq_true rfl) (by omega) hS ?_
  intro r491 I491 q491
  refine m_icmp_eq (tgt := 1516) dL_law_494 (by decide) (fun c494 => ?_) (fun c494 => ?_)
  · exact hk nm2 no2 I491 q491.2
  · exact absurd q491.1 c494
theorem lc_next (hd : 11 ≤ d) (hG : GvI g) (h0 : 0 ≤ i) (h1 : i + 6 ≤ (gX g 1).1) (h2 : (gX g 1).1 ≤ 3072) (hI : Inv nm no I) (hk : ∀ (nm no : Nat) (I : II), Inv nm no I → T g d mL_law bc bs 1516 [some (vr 1), some (vr 20), some (vr 100), some (vi i)] [] (shX nm no) (RX nm no) I Q) : T g d mL_law (bc + 4) (bs + 30) 499 [some (vr 1), some (vr 20), some (vr 100), some (vi i)] [] (shX nm no) (RX nm no) I Q := by
  refine m_aload_n dL_law_499 rfl ?_
  refine m_aload_n dL_law_500 rfl ?_
  refine m_iload_n dL_law_501 rfl ?_
  refine m_iconst dL_law_502 (by decide) ?_
  refine m_iadd dL_law_503 (by omega) ?_
  refine m_gld dL_law_504 (by decide) (by omega) (by omega) ?_
  refine m_VP [_] dL_law_505 lk_L_46 rfl oX_20 rfl (Nat.le_of_ble_eq_true rfl) (by omega) (by omega) (by omega) hI (PM_of (pp_next (by omega))) ?_
  intro nm2 no2 r505 I505 hS
  refine m_aload_n dL_law_508 rfl ?_
  refine m_aload_n dL_law_509 rfl ?_
  refine m_iload_n dL_law_510 rfl ?_
  refine m_iconst dL_law_511 (by decide) ?_
  refine m_iadd dL_law_512 (by omega) ?_
  refine m_gld dL_law_513 (by decide) (by omega) (by omega) ?_
  refine m_VI [_] dL_law_514 lk_L_49 rfl oX_100 rfl (Nat.le_of_ble_eq_true rfl) (by omega) hS ?_
  intro r514 I514 q514
  refine m_icmp_eq (tgt := 1516) dL_law_517 (by decide) (fun c517 => ?_) (fun c517 => ?_)
  · exact hk nm2 no2 I514 q514.2
  · exact absurd q514.1 c517
theorem lc_first (hd : 11 ≤ d) (hG : GvI g) (h0 : 0 ≤ i) (h1 : i + 6 ≤ (gX g 1).1) (h2 : (gX g 1).1 ≤ 3072) (hI : Inv nm no I) (hk : ∀ (nm no : Nat) (I : II), Inv nm no I → T g d mL_law bc bs 1516 [some (vr 1), some (vr 20), some (vr 100), some (vi i)] [] (shX nm no) (RX nm no) I Q) : T g d mL_law (bc + 4) (bs + 30) 522 [some (vr 1), some (vr 20), some (vr 100), some (vi i)] [] (shX nm no) (RX nm no) I Q := by
  refine m_aload_n dL_law_522 rfl ?_
  refine m_aload_n dL_law_523 rfl ?_
  refine m_iload_n dL_law_524 rfl ?_
  refine m_iconst dL_law_525 (by decide) ?_
  refine m_iadd dL_law_526 (by omega) ?_
  refine m_gld dL_law_527 (by decide) (by omega) (by omega) ?_
  refine m_aload_n dL_law_528 rfl ?_
  refine m_iload_n dL_law_529 rfl ?_
  refine m_iconst dL_law_530 (by decide) ?_
  refine m_iadd dL_law_531 (by omega) ?_
  refine m_gld dL_law_532 (by decide) (by omega) (by omega) ?_
  refine m_VP [_, _] dL_law_533 lk_L_50 rfl oX_20 rfl (Nat.le_of_ble_eq_true rfl) (by omega) (by omega) (by omega) hI (PM_of (pp_first (by omega))) ?_
  intro nm2 no2 r533 I533 hS
  refine m_aload_n dL_law_536 rfl ?_
  refine m_aload_n dL_law_537 rfl ?_
  refine m_iload_n dL_law_538 rfl ?_
  refine m_iconst dL_law_539 (by decide) ?_
  refine m_iadd dL_law_540 (by omega) ?_
  refine m_gld dL_law_541 (by decide) (by omega) (by omega) ?_
  refine m_aload_n dL_law_542 rfl ?_
  refine m_iload_n dL_law_543 rfl ?_
  refine m_iconst dL_law_544 (by decide) ?_
  refine m_iadd dL_law_545 (by omega) ?_
  refine m_gld dL_law_546 (by decide) (by omega) (by omega) ?_
  refine m_VI [_, _] dL_law_547 lk_L_53 rfl oX_100 rfl (Nat.le_of_ble_eq_true rfl) (by omega) hS ?_
  intro r547 I547 q547
  refine m_icmp_eq (tgt := 1516) dL_law_550 (by decide) (fun c550 => ?_) (fun c550 => ?_)
  · exact hk nm2 no2 I547 q547.2
  · exact absurd q547.1 c550
theorem lc_soonest (hd : 11 ≤ d) (hG : GvI g) (h0 : 0 ≤ i) (h1 : i + 6 ≤ (gX g 1).1) (h2 : (gX g 1).1 ≤ 3072) (hI : Inv nm no I) (hk : ∀ (nm no : Nat) (I : II), Inv nm no I → T g d mL_law bc bs 1516 [some (vr 1), some (vr 20), some (vr 100), some (vi i)] [] (shX nm no) (RX nm no) I Q) : T g d mL_law (bc + 4) (bs + 30) 555 [some (vr 1), some (vr 20), some (vr 100), some (vi i)] [] (shX nm no) (RX nm no) I Q := by
  refine m_aload_n dL_law_555 rfl ?_
  refine m_aload_n dL_law_556 rfl ?_
  refine m_iload_n dL_law_557 rfl ?_
  refine m_iconst dL_law_558 (by decide) ?_
  refine m_iadd dL_law_559 (by omega) ?_
  refine m_gld dL_law_560 (by decide) (by omega) (by omega) ?_
  refine m_aload_n dL_law_561 rfl ?_
  refine m_iload_n dL_law_562 rfl ?_
  refine m_iconst dL_law_563 (by decide) ?_
  refine m_iadd dL_law_564 (by omega) ?_
  refine m_gld dL_law_565 (by decide) (by omega) (by omega) ?_
  refine m_aload_n dL_law_566 rfl ?_
  refine m_iload_n dL_law_567 rfl ?_
  refine m_iconst dL_law_568 (by decide) ?_
  refine m_iadd dL_law_569 (by omega) ?_
  refine m_gld dL_law_570 (by decide) (by omega) (by omega) ?_
  refine m_aload_n dL_law_571 rfl ?_
  refine m_iload_n dL_law_572 rfl ?_
  refine m_iconst dL_law_573 (by decide) ?_
  refine m_iadd dL_law_574 (by omega) ?_
  refine m_gld dL_law_575 (by decide) (by omega) (by omega) ?_
  refine m_aload_n dL_law_576 rfl ?_
  refine m_iload_n dL_law_577 rfl ?_
  refine m_iconst dL_law_578 (by decide) ?_
  refine m_iadd dL_law_579 (by omega) ?_
  refine m_gld dL_law_580 (by decide) (by omega) (by omega) ?_
  refine m_VP [_, _, _, _, _] dL_law_581 lk_L_54 rfl oX_20 rfl (Nat.le_of_ble_eq_true rfl) (by omega) (by omega) (by omega) hI (PM_of (pp_soonest (by omega))) ?_
  intro nm2 no2 r581 I581 hS
  refine m_aload_n dL_law_584 rfl ?_
  refine m_aload_n dL_law_585 rfl ?_
  refine m_iload_n dL_law_586 rfl ?_
  refine m_iconst dL_law_587 (by decide) ?_
  refine m_iadd dL_law_588 (by omega) ?_
  refine m_gld dL_law_589 (by decide) (by omega) (by omega) ?_
  refine m_aload_n dL_law_590 rfl ?_
  refine m_iload_n dL_law_591 rfl ?_
  refine m_iconst dL_law_592 (by decide) ?_
  refine m_iadd dL_law_593 (by omega) ?_
  refine m_gld dL_law_594 (by decide) (by omega) (by omega) ?_
  refine m_aload_n dL_law_595 rfl ?_
  refine m_iload_n dL_law_596 rfl ?_
  refine m_iconst dL_law_597 (by decide) ?_
  refine m_iadd dL_law_598 (by omega) ?_
  refine m_gld dL_law_599 (by decide) (by omega) (by omega) ?_
  refine m_aload_n dL_law_600 rfl ?_
  refine m_iload_n dL_law_601 rfl ?_
  refine m_iconst dL_law_602 (by decide) ?_
  refine m_iadd dL_law_603 (by omega) ?_
  refine m_gld dL_law_604 (by decide) (by omega) (by omega) ?_
  refine m_aload_n dL_law_605 rfl ?_
  refine m_iload_n dL_law_606 rfl ?_
  refine m_iconst dL_law_607 (by decide) ?_
  refine m_iadd dL_law_608 (by omega) ?_
  refine m_gld dL_law_609 (by decide) (by omega) (by omega) ?_
  refine m_VI [_, _, _, _, _] dL_law_610 lk_L_58 rfl oX_100 rfl (Nat.le_of_ble_eq_true rfl) (by omega) hS ?_
  intro r610 I610 q610
  refine m_icmp_eq (tgt := 1516) dL_law_613 (by decide) (fun c613 => ?_) (fun c613 => ?_)
  · exact hk nm2 no2 I610 q610.2
  · exact absurd q610.1 c613
theorem lc_beside (hd : 11 ≤ d) (hG : GvI g) (h0 : 0 ≤ i) (h1 : i + 6 ≤ (gX g 1).1) (h2 : (gX g 1).1 ≤ 3072) (hI : Inv nm no I) (hk : ∀ (nm no : Nat) (I : II), Inv nm no I → T g d mL_law bc bs 1516 [some (vr 1), some (vr 20), some (vr 100), some (vi i)] [] (shX nm no) (RX nm no) I Q) : T g d mL_law (bc + 4) (bs + 30) 618 [some (vr 1), some (vr 20), some (vr 100), some (vi i)] [] (shX nm no) (RX nm no) I Q := by
  refine m_aload_n dL_law_618 rfl ?_
  refine m_aload_n dL_law_619 rfl ?_
  refine m_iload_n dL_law_620 rfl ?_
  refine m_iconst dL_law_621 (by decide) ?_
  refine m_iadd dL_law_622 (by omega) ?_
  refine m_gld dL_law_623 (by decide) (by omega) (by omega) ?_
  refine m_aload_n dL_law_624 rfl ?_
  refine m_iload_n dL_law_625 rfl ?_
  refine m_iconst dL_law_626 (by decide) ?_
  refine m_iadd dL_law_627 (by omega) ?_
  refine m_gld dL_law_628 (by decide) (by omega) (by omega) ?_
  refine m_VP [_, _] dL_law_629 lk_L_59 rfl oX_20 rfl (Nat.le_of_ble_eq_true rfl) (by omega) (by omega) (by omega) hI (PM_of (pp_beside (by omega))) ?_
  intro nm2 no2 r629 I629 hS
  refine m_aload_n dL_law_632 rfl ?_
  refine m_aload_n dL_law_633 rfl ?_
  refine m_iload_n dL_law_634 rfl ?_
  refine m_iconst dL_law_635 (by decide) ?_
  refine m_iadd dL_law_636 (by omega) ?_
  refine m_gld dL_law_637 (by decide) (by omega) (by omega) ?_
  refine m_aload_n dL_law_638 rfl ?_
  refine m_iload_n dL_law_639 rfl ?_
  refine m_iconst dL_law_640 (by decide) ?_
  refine m_iadd dL_law_641 (by omega) ?_
  refine m_gld dL_law_642 (by decide) (by omega) (by omega) ?_
  refine m_VI [_, _] dL_law_643 lk_L_62 rfl oX_100 rfl (Nat.le_of_ble_eq_true rfl) (by omega) hS ?_
  intro r643 I643 q643
  refine m_icmp_eq (tgt := 1516) dL_law_646 (by decide) (fun c646 => ?_) (fun c646 => ?_)
  · exact hk nm2 no2 I643 q643.2
  · exact absurd q643.1 c646
theorem lc_write (hd : 11 ≤ d) (hG : GvI g) (h0 : 0 ≤ i) (h1 : i + 6 ≤ (gX g 1).1) (h2 : (gX g 1).1 ≤ 3072) (hI : Inv nm no I) (hk : ∀ (nm no : Nat) (I : II), Inv nm no I → T g d mL_law bc bs 1516 [some (vr 1), some (vr 20), some (vr 100), some (vi i)] [] (shX nm no) (RX nm no) I Q) : T g d mL_law (bc + 4) (bs + 30) 651 [some (vr 1), some (vr 20), some (vr 100), some (vi i)] [] (shX nm no) (RX nm no) I Q := by
  refine m_aload_n dL_law_651 rfl ?_
  refine m_aload_n dL_law_652 rfl ?_
  refine m_iload_n dL_law_653 rfl ?_
  refine m_iconst dL_law_654 (by decide) ?_
  refine m_iadd dL_law_655 (by omega) ?_
  refine m_gld dL_law_656 (by decide) (by omega) (by omega) ?_
  refine m_i2l dL_law_657 ?_
  refine m_bipush dL_law_658 rfl (by decide) ?_
  refine m_lshl dL_law_660 ?_
  refine m_aload_n dL_law_661 rfl ?_
  refine m_iload_n dL_law_662 rfl ?_
  refine m_iconst dL_law_663 (by decide) ?_
  refine m_iadd dL_law_664 (by omega) ?_
  refine m_gld dL_law_665 (by decide) (by omega) (by omega) ?_
  refine m_i2l dL_law_666 ?_
  refine m_ldc2 (a := 4294967295) dL_law_667 kc_L_63 rfl ?_
  refine m_land dL_law_670 ?_
  refine m_lor dL_law_671 ?_
  refine m_aload_n dL_law_672 rfl ?_
  refine m_iload_n dL_law_673 rfl ?_
  refine m_iconst dL_law_674 (by decide) ?_
  refine m_iadd dL_law_675 (by omega) ?_
  refine m_gld dL_law_676 (by decide) (by omega) (by omega) ?_
  refine m_VP [_, _] dL_law_677 lk_L_65 rfl oX_20 rfl (Nat.le_of_ble_eq_true rfl) (by omega) (by omega) (by omega) hI (PM_of (pp_write (by omega))) ?_
  intro nm2 no2 r677 I677 hS
  refine m_aload_n dL_law_680 rfl ?_
  refine m_aload_n dL_law_681 rfl ?_
  refine m_iload_n dL_law_682 rfl ?_
  refine m_iconst dL_law_683 (by decide) ?_
  refine m_iadd dL_law_684 (by omega) ?_
  refine m_gld dL_law_685 (by decide) (by omega) (by omega) ?_
  refine m_i2l dL_law_686 ?_
  refine m_bipush dL_law_687 rfl (by decide) ?_
  refine m_lshl dL_law_689 ?_
  refine m_aload_n dL_law_690 rfl ?_
  refine m_iload_n dL_law_691 rfl ?_
  refine m_iconst dL_law_692 (by decide) ?_
  refine m_iadd dL_law_693 (by omega) ?_
  refine m_gld dL_law_694 (by decide) (by omega) (by omega) ?_
  refine m_i2l dL_law_695 ?_
  refine m_ldc2 (a := 4294967295) dL_law_696 kc_L_63 rfl ?_
  refine m_land dL_law_699 ?_
  refine m_lor dL_law_700 ?_
  refine m_aload_n dL_law_701 rfl ?_
  refine m_iload_n dL_law_702 rfl ?_
  refine m_iconst dL_law_703 (by decide) ?_
  refine m_iadd dL_law_704 (by omega) ?_
  refine m_gld dL_law_705 (by decide) (by omega) (by omega) ?_
  refine m_VI [_, _] dL_law_706 lk_L_69 rfl oX_100 rfl (Nat.le_of_ble_eq_true rfl) (by omega) hS ?_
  intro r706 I706 q706
  refine m_icmp_eq (tgt := 1516) dL_law_709 (by decide) (fun c709 => ?_) (fun c709 => ?_)
  · exact hk nm2 no2 I706 q706.2
  · exact absurd q706.1 c709
theorem lc_erase (hd : 11 ≤ d) (hG : GvI g) (h0 : 0 ≤ i) (h1 : i + 6 ≤ (gX g 1).1) (h2 : (gX g 1).1 ≤ 3072) (hI : Inv nm no I) (hk : ∀ (nm no : Nat) (I : II), Inv nm no I → T g d mL_law bc bs 1516 [some (vr 1), some (vr 20), some (vr 100), some (vi i)] [] (shX nm no) (RX nm no) I Q) : T g d mL_law (bc + 4) (bs + 30) 714 [some (vr 1), some (vr 20), some (vr 100), some (vi i)] [] (shX nm no) (RX nm no) I Q := by
  refine m_aload_n dL_law_714 rfl ?_
  refine m_VP [] dL_law_715 lk_L_70 rfl oX_20 rfl (Nat.le_of_ble_eq_true rfl) (by omega) (by omega) (by omega) hI (PM_of pp_erase) ?_
  intro nm2 no2 r715 I715 hS
  refine m_aload_n dL_law_718 rfl ?_
  refine m_VI [] dL_law_719 lk_L_74 rfl oX_100 rfl (Nat.le_of_ble_eq_true rfl) (by omega) hS ?_
  intro r719 I719 q719
  refine m_icmp_eq (tgt := 1516) dL_law_722 (by decide) (fun c722 => ?_) (fun c722 => ?_)
  · exact hk nm2 no2 I719 q719.2
  · exact absurd q719.1 c722
theorem lc_fault (hd : 11 ≤ d) (hG : GvI g) (h0 : 0 ≤ i) (h1 : i + 6 ≤ (gX g 1).1) (h2 : (gX g 1).1 ≤ 3072) (hI : Inv nm no I) (hk : ∀ (nm no : Nat) (I : II), Inv nm no I → T g d mL_law bc bs 1516 [some (vr 1), some (vr 20), some (vr 100), some (vi i)] [] (shX nm no) (RX nm no) I Q) : T g d mL_law (bc + 4) (bs + 30) 727 [some (vr 1), some (vr 20), some (vr 100), some (vi i)] [] (shX nm no) (RX nm no) I Q := by
  refine m_aload_n dL_law_727 rfl ?_
  refine m_VP [] dL_law_728 lk_L_75 rfl oX_20 rfl (Nat.le_of_ble_eq_true rfl) (by omega) (by omega) (by omega) hI (PM_of (pp_fault (by omega) hG)) ?_
  intro nm2 no2 r728 I728 hS
  refine m_aload_n dL_law_731 rfl ?_
  refine m_VI [] dL_law_732 lk_L_78 rfl oX_100 rfl (Nat.le_of_ble_eq_true rfl) (by omega) hS ?_
  intro r732 I732 q732
  refine m_icmp_eq (tgt := 1516) dL_law_735 (by decide) (fun c735 => ?_) (fun c735 => ?_)
  · exact hk nm2 no2 I732 q732.2
  · exact absurd q732.1 c735
theorem lc_force (hd : 11 ≤ d) (hG : GvI g) (h0 : 0 ≤ i) (h1 : i + 6 ≤ (gX g 1).1) (h2 : (gX g 1).1 ≤ 3072) (hI : Inv nm no I) (hk : ∀ (nm no : Nat) (I : II), Inv nm no I → T g d mL_law bc bs 1516 [some (vr 1), some (vr 20), some (vr 100), some (vi i)] [] (shX nm no) (RX nm no) I Q) : T g d mL_law (bc + 4) (bs + 30) 740 [some (vr 1), some (vr 20), some (vr 100), some (vi i)] [] (shX nm no) (RX nm no) I Q := by
  refine m_aload_n dL_law_740 rfl ?_
  refine m_VP [] dL_law_741 lk_L_79 rfl oX_20 rfl (Nat.le_of_ble_eq_true rfl) (by omega) (by omega) (by omega) hI (pp_force (by omega) hG) ?_
  intro nm2 no2 r741 I741 hS
  refine m_aload_n dL_law_744 rfl ?_
  refine m_VI [] dL_law_745 lk_L_82 rfl oX_100 rfl (Nat.le_of_ble_eq_true rfl) (by omega) hS ?_
  intro r745 I745 q745
  refine m_icmp_eq (tgt := 1516) dL_law_748 (by decide) (fun c748 => ?_) (fun c748 => ?_)
  · exact hk nm2 no2 I745 q745.2
  · exact absurd q745.1 c748
theorem lc_lag (hd : 11 ≤ d) (hG : GvI g) (h0 : 0 ≤ i) (h1 : i + 6 ≤ (gX g 1).1) (h2 : (gX g 1).1 ≤ 3072) (hI : Inv nm no I) (hk : ∀ (nm no : Nat) (I : II), Inv nm no I → T g d mL_law bc bs 1516 [some (vr 1), some (vr 20), some (vr 100), some (vi i)] [] (shX nm no) (RX nm no) I Q) : T g d mL_law (bc + 4) (bs + 30) 753 [some (vr 1), some (vr 20), some (vr 100), some (vi i)] [] (shX nm no) (RX nm no) I Q := by
  refine m_aload_n dL_law_753 rfl ?_
  refine m_aload_n dL_law_754 rfl ?_
  refine m_iload_n dL_law_755 rfl ?_
  refine m_iconst dL_law_756 (by decide) ?_
  refine m_iadd dL_law_757 (by omega) ?_
  refine m_gld dL_law_758 (by decide) (by omega) (by omega) ?_
  refine m_VP [_] dL_law_759 lk_L_83 rfl oX_20 rfl (Nat.le_of_ble_eq_true rfl) (by omega) (by omega) (by omega) hI (PM_of (pp_lag (by omega))) ?_
  intro nm2 no2 r759 I759 hS
  refine m_aload_n dL_law_762 rfl ?_
  refine m_aload_n dL_law_763 rfl ?_
  refine m_iload_n dL_law_764 rfl ?_
  refine m_iconst dL_law_765 (by decide) ?_
  refine m_iadd dL_law_766 (by omega) ?_
  refine m_gld dL_law_767 (by decide) (by omega) (by omega) ?_
  refine m_VI [_] dL_law_768 lk_L_86 rfl oX_100 rfl (Nat.le_of_ble_eq_true rfl) (by omega) hS ?_
  intro r768 I768 q768
  refine m_icmp_eq (tgt := 1516) dL_law_771 (by decide) (fun c771 => ?_) (fun c771 => ?_)
  · exact hk nm2 no2 I768 q768.2
  · exact absurd q768.1 c771
theorem lc_knows (hd : 11 ≤ d) (hG : GvI g) (h0 : 0 ≤ i) (h1 : i + 6 ≤ (gX g 1).1) (h2 : (gX g 1).1 ≤ 3072) (hI : Inv nm no I) (hk : ∀ (nm no : Nat) (I : II), Inv nm no I → T g d mL_law bc bs 1516 [some (vr 1), some (vr 20), some (vr 100), some (vi i)] [] (shX nm no) (RX nm no) I Q) : T g d mL_law (bc + 4) (bs + 30) 776 [some (vr 1), some (vr 20), some (vr 100), some (vi i)] [] (shX nm no) (RX nm no) I Q := by
  refine m_aload_n dL_law_776 rfl ?_
  refine m_aload_n dL_law_777 rfl ?_
  refine m_iload_n dL_law_778 rfl ?_
  refine m_iconst dL_law_779 (by decide) ?_
  refine m_iadd dL_law_780 (by omega) ?_
  refine m_gld dL_law_781 (by decide) (by omega) (by omega) ?_
  refine m_aload_n dL_law_782 rfl ?_
  refine m_iload_n dL_law_783 rfl ?_
  refine m_iconst dL_law_784 (by decide) ?_
  refine m_iadd dL_law_785 (by omega) ?_
  refine m_gld dL_law_786 (by decide) (by omega) (by omega) ?_
  refine m_VP [_, _] dL_law_787 lk_L_87 rfl oX_20 rfl (Nat.le_of_ble_eq_true rfl) (by omega) (by omega) (by omega) hI (PM_of (pp_knows (by omega))) ?_
  intro nm2 no2 r787 I787 hS
  refine m_aload_n dL_law_790 rfl ?_
  refine m_aload_n dL_law_791 rfl ?_
  refine m_iload_n dL_law_792 rfl ?_
  refine m_iconst dL_law_793 (by decide) ?_
  refine m_iadd dL_law_794 (by omega) ?_
  refine m_gld dL_law_795 (by decide) (by omega) (by omega) ?_
  refine m_aload_n dL_law_796 rfl ?_
  refine m_iload_n dL_law_797 rfl ?_
  refine m_iconst dL_law_798 (by decide) ?_
  refine m_iadd dL_law_799 (by omega) ?_
  refine m_gld dL_law_800 (by decide) (by omega) (by omega) ?_
  refine m_VI [_, _] dL_law_801 lk_L_90 rfl oX_100 rfl (Nat.le_of_ble_eq_true rfl) (by omega) hS ?_
  intro r801 I801 q801
  refine m_icmp_eq (tgt := 1516) dL_law_804 (by decide) (fun c804 => ?_) (fun c804 => ?_)
  · exact hk nm2 no2 I801 q801.2
  · exact absurd q801.1 c804
theorem lc_orders (hd : 11 ≤ d) (hG : GvI g) (h0 : 0 ≤ i) (h1 : i + 6 ≤ (gX g 1).1) (h2 : (gX g 1).1 ≤ 3072) (hI : Inv nm no I) (hk : ∀ (nm no : Nat) (I : II), Inv nm no I → T g d mL_law bc bs 1516 [some (vr 1), some (vr 20), some (vr 100), some (vi i)] [] (shX nm no) (RX nm no) I Q) : T g d mL_law (bc + 4) (bs + 30) 809 [some (vr 1), some (vr 20), some (vr 100), some (vi i)] [] (shX nm no) (RX nm no) I Q := by
  refine m_aload_n dL_law_809 rfl ?_
  refine m_aload_n dL_law_810 rfl ?_
  refine m_iload_n dL_law_811 rfl ?_
  refine m_iconst dL_law_812 (by decide) ?_
  refine m_iadd dL_law_813 (by omega) ?_
  refine m_gld dL_law_814 (by decide) (by omega) (by omega) ?_
  refine m_aload_n dL_law_815 rfl ?_
  refine m_iload_n dL_law_816 rfl ?_
  refine m_iconst dL_law_817 (by decide) ?_
  refine m_iadd dL_law_818 (by omega) ?_
  refine m_gld dL_law_819 (by decide) (by omega) (by omega) ?_
  refine m_VP [_, _] dL_law_820 lk_L_91 rfl oX_20 rfl (Nat.le_of_ble_eq_true rfl) (by omega) (by omega) (by omega) hI (PM_of (pp_orders (by omega))) ?_
  intro nm2 no2 r820 I820 hS
  refine m_aload_n dL_law_823 rfl ?_
  refine m_aload_n dL_law_824 rfl ?_
  refine m_iload_n dL_law_825 rfl ?_
  refine m_iconst dL_law_826 (by decide) ?_
  refine m_iadd dL_law_827 (by omega) ?_
  refine m_gld dL_law_828 (by decide) (by omega) (by omega) ?_
  refine m_aload_n dL_law_829 rfl ?_
  refine m_iload_n dL_law_830 rfl ?_
  refine m_iconst dL_law_831 (by decide) ?_
  refine m_iadd dL_law_832 (by omega) ?_
  refine m_gld dL_law_833 (by decide) (by omega) (by omega) ?_
  refine m_VI [_, _] dL_law_834 lk_L_94 rfl oX_100 rfl (Nat.le_of_ble_eq_true rfl) (by omega) hS ?_
  intro r834 I834 q834
  refine m_icmp_eq (tgt := 1516) dL_law_837 (by decide) (fun c837 => ?_) (fun c837 => ?_)
  · exact hk nm2 no2 I834 q834.2
  · exact absurd q834.1 c837
theorem lc_told (hd : 11 ≤ d) (hG : GvI g) (h0 : 0 ≤ i) (h1 : i + 6 ≤ (gX g 1).1) (h2 : (gX g 1).1 ≤ 3072) (hI : Inv nm no I) (hk : ∀ (nm no : Nat) (I : II), Inv nm no I → T g d mL_law bc bs 1516 [some (vr 1), some (vr 20), some (vr 100), some (vi i)] [] (shX nm no) (RX nm no) I Q) : T g d mL_law (bc + 4) (bs + 30) 842 [some (vr 1), some (vr 20), some (vr 100), some (vi i)] [] (shX nm no) (RX nm no) I Q := by
  refine m_aload_n dL_law_842 rfl ?_
  refine m_aload_n dL_law_843 rfl ?_
  refine m_iload_n dL_law_844 rfl ?_
  refine m_iconst dL_law_845 (by decide) ?_
  refine m_iadd dL_law_846 (by omega) ?_
  refine m_gld dL_law_847 (by decide) (by omega) (by omega) ?_
  refine m_aload_n dL_law_848 rfl ?_
  refine m_iload_n dL_law_849 rfl ?_
  refine m_iconst dL_law_850 (by decide) ?_
  refine m_iadd dL_law_851 (by omega) ?_
  refine m_gld dL_law_852 (by decide) (by omega) (by omega) ?_
  refine m_aload_n dL_law_853 rfl ?_
  refine m_iload_n dL_law_854 rfl ?_
  refine m_iconst dL_law_855 (by decide) ?_
  refine m_iadd dL_law_856 (by omega) ?_
  refine m_gld dL_law_857 (by decide) (by omega) (by omega) ?_
  refine m_VP [_, _, _] dL_law_858 lk_L_95 rfl oX_20 rfl (Nat.le_of_ble_eq_true rfl) (by omega) (by omega) (by omega) hI (PM_of (pp_told (by omega))) ?_
  intro nm2 no2 r858 I858 hS
  refine m_aload_n dL_law_861 rfl ?_
  refine m_aload_n dL_law_862 rfl ?_
  refine m_iload_n dL_law_863 rfl ?_
  refine m_iconst dL_law_864 (by decide) ?_
  refine m_iadd dL_law_865 (by omega) ?_
  refine m_gld dL_law_866 (by decide) (by omega) (by omega) ?_
  refine m_aload_n dL_law_867 rfl ?_
  refine m_iload_n dL_law_868 rfl ?_
  refine m_iconst dL_law_869 (by decide) ?_
  refine m_iadd dL_law_870 (by omega) ?_
  refine m_gld dL_law_871 (by decide) (by omega) (by omega) ?_
  refine m_aload_n dL_law_872 rfl ?_
  refine m_iload_n dL_law_873 rfl ?_
  refine m_iconst dL_law_874 (by decide) ?_
  refine m_iadd dL_law_875 (by omega) ?_
  refine m_gld dL_law_876 (by decide) (by omega) (by omega) ?_
  refine m_VI [_, _, _] dL_law_877 lk_L_98 rfl oX_100 rfl (Nat.le_of_ble_eq_true rfl) (by omega) hS ?_
  intro r877 I877 q877
  refine m_icmp_eq (tgt := 1516) dL_law_880 (by decide) (fun c880 => ?_) (fun c880 => ?_)
  · exact hk nm2 no2 I877 q877.2
  · exact absurd q877.1 c880
theorem lc_back (hd : 11 ≤ d) (hG : GvI g) (h0 : 0 ≤ i) (h1 : i + 6 ≤ (gX g 1).1) (h2 : (gX g 1).1 ≤ 3072) (hI : Inv nm no I) (hk : ∀ (nm no : Nat) (I : II), Inv nm no I → T g d mL_law bc bs 1516 [some (vr 1), some (vr 20), some (vr 100), some (vi i)] [] (shX nm no) (RX nm no) I Q) : T g d mL_law (bc + 4) (bs + 30) 885 [some (vr 1), some (vr 20), some (vr 100), some (vi i)] [] (shX nm no) (RX nm no) I Q := by
  refine m_aload_n dL_law_885 rfl ?_
  refine m_aload_n dL_law_886 rfl ?_
  refine m_iload_n dL_law_887 rfl ?_
  refine m_iconst dL_law_888 (by decide) ?_
  refine m_iadd dL_law_889 (by omega) ?_
  refine m_gld dL_law_890 (by decide) (by omega) (by omega) ?_
  refine m_VP [_] dL_law_891 lk_L_99 rfl oX_20 rfl (Nat.le_of_ble_eq_true rfl) (by omega) (by omega) (by omega) hI (PM_of (pp_back (by omega))) ?_
  intro nm2 no2 r891 I891 hS
  refine m_aload_n dL_law_894 rfl ?_
  refine m_aload_n dL_law_895 rfl ?_
  refine m_iload_n dL_law_896 rfl ?_
  refine m_iconst dL_law_897 (by decide) ?_
  refine m_iadd dL_law_898 (by omega) ?_
  refine m_gld dL_law_899 (by decide) (by omega) (by omega) ?_
  refine m_VI [_] dL_law_900 lk_L_102 rfl oX_100 rfl (Nat.le_of_ble_eq_true rfl) (by omega) hS ?_
  intro r900 I900 q900
  refine m_icmp_eq (tgt := 1516) dL_law_903 (by decide) (fun c903 => ?_) (fun c903 => ?_)
  · exact hk nm2 no2 I900 q900.2
  · exact absurd q900.1 c903
theorem lc_word (hd : 11 ≤ d) (hG : GvI g) (h0 : 0 ≤ i) (h1 : i + 6 ≤ (gX g 1).1) (h2 : (gX g 1).1 ≤ 3072) (hI : Inv nm no I) (hk : ∀ (nm no : Nat) (I : II), Inv nm no I → T g d mL_law bc bs 1516 [some (vr 1), some (vr 20), some (vr 100), some (vi i)] [] (shX nm no) (RX nm no) I Q) : T g d mL_law (bc + 4) (bs + 30) 908 [some (vr 1), some (vr 20), some (vr 100), some (vi i)] [] (shX nm no) (RX nm no) I Q := by
  refine m_aload_n dL_law_908 rfl ?_
  refine m_aload_n dL_law_909 rfl ?_
  refine m_iload_n dL_law_910 rfl ?_
  refine m_iconst dL_law_911 (by decide) ?_
  refine m_iadd dL_law_912 (by omega) ?_
  refine m_gld dL_law_913 (by decide) (by omega) (by omega) ?_
  refine m_aload_n dL_law_914 rfl ?_
  refine m_iload_n dL_law_915 rfl ?_
  refine m_iconst dL_law_916 (by decide) ?_
  refine m_iadd dL_law_917 (by omega) ?_
  refine m_gld dL_law_918 (by decide) (by omega) (by omega) ?_
  refine m_i2l dL_law_919 ?_
  refine m_bipush dL_law_920 rfl (by decide) ?_
  refine m_lshl dL_law_922 ?_
  refine m_aload_n dL_law_923 rfl ?_
  refine m_iload_n dL_law_924 rfl ?_
  refine m_iconst dL_law_925 (by decide) ?_
  refine m_iadd dL_law_926 (by omega) ?_
  refine m_gld dL_law_927 (by decide) (by omega) (by omega) ?_
  refine m_i2l dL_law_928 ?_
  refine m_ldc2 (a := 4294967295) dL_law_929 kc_L_63 rfl ?_
  refine m_land dL_law_932 ?_
  refine m_lor dL_law_933 ?_
  refine m_aload_n dL_law_934 rfl ?_
  refine m_iload_n dL_law_935 rfl ?_
  refine m_iconst dL_law_936 (by decide) ?_
  refine m_iadd dL_law_937 (by omega) ?_
  refine m_gld dL_law_938 (by decide) (by omega) (by omega) ?_
  refine m_VP [_, _, _] dL_law_939 lk_L_103 rfl oX_20 rfl (Nat.le_of_ble_eq_true rfl) (by omega) (by omega) (by omega) hI (PM_of (pp_word (by omega))) ?_
  intro nm2 no2 r939 I939 hS
  refine m_aload_n dL_law_942 rfl ?_
  refine m_aload_n dL_law_943 rfl ?_
  refine m_iload_n dL_law_944 rfl ?_
  refine m_iconst dL_law_945 (by decide) ?_
  refine m_iadd dL_law_946 (by omega) ?_
  refine m_gld dL_law_947 (by decide) (by omega) (by omega) ?_
  refine m_aload_n dL_law_948 rfl ?_
  refine m_iload_n dL_law_949 rfl ?_
  refine m_iconst dL_law_950 (by decide) ?_
  refine m_iadd dL_law_951 (by omega) ?_
  refine m_gld dL_law_952 (by decide) (by omega) (by omega) ?_
  refine m_i2l dL_law_953 ?_
  refine m_bipush dL_law_954 rfl (by decide) ?_
  refine m_lshl dL_law_956 ?_
  refine m_aload_n dL_law_957 rfl ?_
  refine m_iload_n dL_law_958 rfl ?_
  refine m_iconst dL_law_959 (by decide) ?_
  refine m_iadd dL_law_960 (by omega) ?_
  refine m_gld dL_law_961 (by decide) (by omega) (by omega) ?_
  refine m_i2l dL_law_962 ?_
  refine m_ldc2 (a := 4294967295) dL_law_963 kc_L_63 rfl ?_
  refine m_land dL_law_966 ?_
  refine m_lor dL_law_967 ?_
  refine m_aload_n dL_law_968 rfl ?_
  refine m_iload_n dL_law_969 rfl ?_
  refine m_iconst dL_law_970 (by decide) ?_
  refine m_iadd dL_law_971 (by omega) ?_
  refine m_gld dL_law_972 (by decide) (by omega) (by omega) ?_
  refine m_VI [_, _, _] dL_law_973 lk_L_107 rfl oX_100 rfl (Nat.le_of_ble_eq_true rfl) (by omega) hS ?_
  intro r973 I973 q973
  refine m_icmp_eq (tgt := 1516) dL_law_976 (by decide) (fun c976 => ?_) (fun c976 => ?_)
  · exact hk nm2 no2 I973 q973.2
  · exact absurd q973.1 c976
theorem lc_far (hd : 11 ≤ d) (hG : GvI g) (h0 : 0 ≤ i) (h1 : i + 6 ≤ (gX g 1).1) (h2 : (gX g 1).1 ≤ 3072) (hI : Inv nm no I) (hk : ∀ (nm no : Nat) (I : II), Inv nm no I → T g d mL_law bc bs 1516 [some (vr 1), some (vr 20), some (vr 100), some (vi i)] [] (shX nm no) (RX nm no) I Q) : T g d mL_law (bc + 4) (bs + 30) 981 [some (vr 1), some (vr 20), some (vr 100), some (vi i)] [] (shX nm no) (RX nm no) I Q := by
  refine m_aload_n dL_law_981 rfl ?_
  refine m_aload_n dL_law_982 rfl ?_
  refine m_iload_n dL_law_983 rfl ?_
  refine m_iconst dL_law_984 (by decide) ?_
  refine m_iadd dL_law_985 (by omega) ?_
  refine m_gld dL_law_986 (by decide) (by omega) (by omega) ?_
  refine m_aload_n dL_law_987 rfl ?_
  refine m_iload_n dL_law_988 rfl ?_
  refine m_iconst dL_law_989 (by decide) ?_
  refine m_iadd dL_law_990 (by omega) ?_
  refine m_gld dL_law_991 (by decide) (by omega) (by omega) ?_
  refine m_i2l dL_law_992 ?_
  refine m_bipush dL_law_993 rfl (by decide) ?_
  refine m_lshl dL_law_995 ?_
  refine m_aload_n dL_law_996 rfl ?_
  refine m_iload_n dL_law_997 rfl ?_
  refine m_iconst dL_law_998 (by decide) ?_
  refine m_iadd dL_law_999 (by omega) ?_
  refine m_gld dL_law_1000 (by decide) (by omega) (by omega) ?_
  refine m_i2l dL_law_1001 ?_
  refine m_ldc2 (a := 4294967295) dL_law_1002 kc_L_63 rfl ?_
  refine m_land dL_law_1005 ?_
  refine m_lor dL_law_1006 ?_
  refine m_aload_n dL_law_1007 rfl ?_
  refine m_iload_n dL_law_1008 rfl ?_
  refine m_iconst dL_law_1009 (by decide) ?_
  refine m_iadd dL_law_1010 (by omega) ?_
  refine m_gld dL_law_1011 (by decide) (by omega) (by omega) ?_
  refine m_VP [_, _, _] dL_law_1012 lk_L_108 rfl oX_20 rfl (Nat.le_of_ble_eq_true rfl) (by omega) (by omega) (by omega) hI (PM_of (pp_far (by omega) hG)) ?_
  intro nm2 no2 r1012 I1012 hS
  refine m_aload_n dL_law_1015 rfl ?_
  refine m_aload_n dL_law_1016 rfl ?_
  refine m_iload_n dL_law_1017 rfl ?_
  refine m_iconst dL_law_1018 (by decide) ?_
  refine m_iadd dL_law_1019 (by omega) ?_
  refine m_gld dL_law_1020 (by decide) (by omega) (by omega) ?_
  refine m_aload_n dL_law_1021 rfl ?_
  refine m_iload_n dL_law_1022 rfl ?_
  refine m_iconst dL_law_1023 (by decide) ?_
  refine m_iadd dL_law_1024 (by omega) ?_
  refine m_gld dL_law_1025 (by decide) (by omega) (by omega) ?_
  refine m_i2l dL_law_1026 ?_
  refine m_bipush dL_law_1027 rfl (by decide) ?_
  refine m_lshl dL_law_1029 ?_
  refine m_aload_n dL_law_1030 rfl ?_
  refine m_iload_n dL_law_1031 rfl ?_
  refine m_iconst dL_law_1032 (by decide) ?_
  refine m_iadd dL_law_1033 (by omega) ?_
  refine m_gld dL_law_1034 (by decide) (by omega) (by omega) ?_
  refine m_i2l dL_law_1035 ?_
  refine m_ldc2 (a := 4294967295) dL_law_1036 kc_L_63 rfl ?_
  refine m_land dL_law_1039 ?_
  refine m_lor dL_law_1040 ?_
  refine m_aload_n dL_law_1041 rfl ?_
  refine m_iload_n dL_law_1042 rfl ?_
  refine m_iconst dL_law_1043 (by decide) ?_
  refine m_iadd dL_law_1044 (by omega) ?_
  refine m_gld dL_law_1045 (by decide) (by omega) (by omega) ?_
  refine m_VI [_, _, _] dL_law_1046 lk_L_111 rfl oX_100 rfl (Nat.le_of_ble_eq_true rfl) (by omega) hS ?_
  intro r1046 I1046 q1046
  refine m_icmp_eq (tgt := 1516) dL_law_1049 (by decide) (fun c1049 => ?_) (fun c1049 => ?_)
  · exact hk nm2 no2 I1046 q1046.2
  · exact absurd q1046.1 c1049
theorem lc_likely (hd : 11 ≤ d) (hG : GvI g) (h0 : 0 ≤ i) (h1 : i + 6 ≤ (gX g 1).1) (h2 : (gX g 1).1 ≤ 3072) (hI : Inv nm no I) (hk : ∀ (nm no : Nat) (I : II), Inv nm no I → T g d mL_law bc bs 1516 [some (vr 1), some (vr 20), some (vr 100), some (vi i)] [] (shX nm no) (RX nm no) I Q) : T g d mL_law (bc + 4) (bs + 30) 1054 [some (vr 1), some (vr 20), some (vr 100), some (vi i)] [] (shX nm no) (RX nm no) I Q := by
  refine m_aload_n dL_law_1054 rfl ?_
  refine m_aload_n dL_law_1055 rfl ?_
  refine m_iload_n dL_law_1056 rfl ?_
  refine m_iconst dL_law_1057 (by decide) ?_
  refine m_iadd dL_law_1058 (by omega) ?_
  refine m_gld dL_law_1059 (by decide) (by omega) (by omega) ?_
  refine m_i2l dL_law_1060 ?_
  refine m_bipush dL_law_1061 rfl (by decide) ?_
  refine m_lshl dL_law_1063 ?_
  refine m_aload_n dL_law_1064 rfl ?_
  refine m_iload_n dL_law_1065 rfl ?_
  refine m_iconst dL_law_1066 (by decide) ?_
  refine m_iadd dL_law_1067 (by omega) ?_
  refine m_gld dL_law_1068 (by decide) (by omega) (by omega) ?_
  refine m_i2l dL_law_1069 ?_
  refine m_ldc2 (a := 4294967295) dL_law_1070 kc_L_63 rfl ?_
  refine m_land dL_law_1073 ?_
  refine m_lor dL_law_1074 ?_
  refine m_aload_n dL_law_1075 rfl ?_
  refine m_iload_n dL_law_1076 rfl ?_
  refine m_iconst dL_law_1077 (by decide) ?_
  refine m_iadd dL_law_1078 (by omega) ?_
  refine m_gld dL_law_1079 (by decide) (by omega) (by omega) ?_
  refine m_aload_n dL_law_1080 rfl ?_
  refine m_iload_n dL_law_1081 rfl ?_
  refine m_iconst dL_law_1082 (by decide) ?_
  refine m_iadd dL_law_1083 (by omega) ?_
  refine m_gld dL_law_1084 (by decide) (by omega) (by omega) ?_
  refine m_VP [_, _, _] dL_law_1085 lk_L_112 rfl oX_20 rfl (Nat.le_of_ble_eq_true rfl) (by omega) (by omega) (by omega) hI (PM_of (pp_likely (by omega) hG)) ?_
  intro nm2 no2 r1085 I1085 hS
  refine m_aload_n dL_law_1088 rfl ?_
  refine m_aload_n dL_law_1089 rfl ?_
  refine m_iload_n dL_law_1090 rfl ?_
  refine m_iconst dL_law_1091 (by decide) ?_
  refine m_iadd dL_law_1092 (by omega) ?_
  refine m_gld dL_law_1093 (by decide) (by omega) (by omega) ?_
  refine m_i2l dL_law_1094 ?_
  refine m_bipush dL_law_1095 rfl (by decide) ?_
  refine m_lshl dL_law_1097 ?_
  refine m_aload_n dL_law_1098 rfl ?_
  refine m_iload_n dL_law_1099 rfl ?_
  refine m_iconst dL_law_1100 (by decide) ?_
  refine m_iadd dL_law_1101 (by omega) ?_
  refine m_gld dL_law_1102 (by decide) (by omega) (by omega) ?_
  refine m_i2l dL_law_1103 ?_
  refine m_ldc2 (a := 4294967295) dL_law_1104 kc_L_63 rfl ?_
  refine m_land dL_law_1107 ?_
  refine m_lor dL_law_1108 ?_
  refine m_aload_n dL_law_1109 rfl ?_
  refine m_iload_n dL_law_1110 rfl ?_
  refine m_iconst dL_law_1111 (by decide) ?_
  refine m_iadd dL_law_1112 (by omega) ?_
  refine m_gld dL_law_1113 (by decide) (by omega) (by omega) ?_
  refine m_aload_n dL_law_1114 rfl ?_
  refine m_iload_n dL_law_1115 rfl ?_
  refine m_iconst dL_law_1116 (by decide) ?_
  refine m_iadd dL_law_1117 (by omega) ?_
  refine m_gld dL_law_1118 (by decide) (by omega) (by omega) ?_
  refine m_VI [_, _, _] dL_law_1119 lk_L_116 rfl oX_100 rfl (Nat.le_of_ble_eq_true rfl) (by omega) hS ?_
  intro r1119 I1119 q1119
  refine m_icmp_eq (tgt := 1516) dL_law_1122 (by decide) (fun c1122 => ?_) (fun c1122 => ?_)
  · exact hk nm2 no2 I1119 q1119.2
  · exact absurd q1119.1 c1122
theorem lc_row (hd : 11 ≤ d) (hG : GvI g) (h0 : 0 ≤ i) (h1 : i + 6 ≤ (gX g 1).1) (h2 : (gX g 1).1 ≤ 3072) (hI : Inv nm no I) (hk : ∀ (nm no : Nat) (I : II), Inv nm no I → T g d mL_law bc bs 1516 [some (vr 1), some (vr 20), some (vr 100), some (vi i)] [] (shX nm no) (RX nm no) I Q) : T g d mL_law (bc + 4) (bs + 30) 1127 [some (vr 1), some (vr 20), some (vr 100), some (vi i)] [] (shX nm no) (RX nm no) I Q := by
  refine m_aload_n dL_law_1127 rfl ?_
  refine m_aload_n dL_law_1128 rfl ?_
  refine m_iload_n dL_law_1129 rfl ?_
  refine m_iconst dL_law_1130 (by decide) ?_
  refine m_iadd dL_law_1131 (by omega) ?_
  refine m_gld dL_law_1132 (by decide) (by omega) (by omega) ?_
  refine m_VP [_] dL_law_1133 lk_L_117 rfl oX_20 rfl (Nat.le_of_ble_eq_true rfl) (by omega) (by omega) (by omega) hI (PM_of (pp_row (by omega))) ?_
  intro nm2 no2 r1133 I1133 hS
  refine m_aload_n dL_law_1136 rfl ?_
  refine m_aload_n dL_law_1137 rfl ?_
  refine m_iload_n dL_law_1138 rfl ?_
  refine m_iconst dL_law_1139 (by decide) ?_
  refine m_iadd dL_law_1140 (by omega) ?_
  refine m_gld dL_law_1141 (by decide) (by omega) (by omega) ?_
  refine m_VI [_] dL_law_1142 lk_L_120 rfl oX_100 rfl (Nat.le_of_ble_eq_true rfl) (by omega) hS ?_
  intro r1142 I1142 q1142
  refine m_icmp_eq (tgt := 1516) dL_law_1145 (by decide) (fun c1145 => ?_) (fun c1145 => ?_)
  · exact hk nm2 no2 I1142 q1142.2
  · exact absurd q1142.1 c1145
theorem lc_tape (hd : 11 ≤ d) (hG : GvI g) (h0 : 0 ≤ i) (h1 : i + 6 ≤ (gX g 1).1) (h2 : (gX g 1).1 ≤ 3072) (hI : Inv nm no I) (hk : ∀ (nm no : Nat) (I : II), Inv nm no I → T g d mL_law bc bs 1516 [some (vr 1), some (vr 20), some (vr 100), some (vi i)] [] (shX nm no) (RX nm no) I Q) : T g d mL_law (bc + 4) (bs + 30) 1150 [some (vr 1), some (vr 20), some (vr 100), some (vi i)] [] (shX nm no) (RX nm no) I Q := by
  refine m_aload_n dL_law_1150 rfl ?_
  refine m_aload_n dL_law_1151 rfl ?_
  refine m_iload_n dL_law_1152 rfl ?_
  refine m_iconst dL_law_1153 (by decide) ?_
  refine m_iadd dL_law_1154 (by omega) ?_
  refine m_gld dL_law_1155 (by decide) (by omega) (by omega) ?_
  refine m_aload_n dL_law_1156 rfl ?_
  refine m_iload_n dL_law_1157 rfl ?_
  refine m_iconst dL_law_1158 (by decide) ?_
  refine m_iadd dL_law_1159 (by omega) ?_
  refine m_gld dL_law_1160 (by decide) (by omega) (by omega) ?_
  refine m_aload_n dL_law_1161 rfl ?_
  refine m_iload_n dL_law_1162 rfl ?_
  refine m_iconst dL_law_1163 (by decide) ?_
  refine m_iadd dL_law_1164 (by omega) ?_
  refine m_gld dL_law_1165 (by decide) (by omega) (by omega) ?_
  refine m_VP [_, _, _] dL_law_1166 lk_L_121 rfl oX_20 rfl (Nat.le_of_ble_eq_true rfl) (by omega) (by omega) (by omega) hI (PM_of (pp_tape (by omega))) ?_
  intro nm2 no2 r1166 I1166 hS
  refine m_aload_n dL_law_1169 rfl ?_
  refine m_aload_n dL_law_1170 rfl ?_
  refine m_iload_n dL_law_1171 rfl ?_
  refine m_iconst dL_law_1172 (by decide) ?_
  refine m_iadd dL_law_1173 (by omega) ?_
  refine m_gld dL_law_1174 (by decide) (by omega) (by omega) ?_
  refine m_aload_n dL_law_1175 rfl ?_
  refine m_iload_n dL_law_1176 rfl ?_
  refine m_iconst dL_law_1177 (by decide) ?_
  refine m_iadd dL_law_1178 (by omega) ?_
  refine m_gld dL_law_1179 (by decide) (by omega) (by omega) ?_
  refine m_aload_n dL_law_1180 rfl ?_
  refine m_iload_n dL_law_1181 rfl ?_
  refine m_iconst dL_law_1182 (by decide) ?_
  refine m_iadd dL_law_1183 (by omega) ?_
  refine m_gld dL_law_1184 (by decide) (by omega) (by omega) ?_
  refine m_VI [_, _, _] dL_law_1185 lk_L_124 rfl oX_100 rfl (Nat.le_of_ble_eq_true rfl) (by omega) hS ?_
  intro r1185 I1185 q1185
  refine m_icmp_eq (tgt := 1516) dL_law_1188 (by decide) (fun c1188 => ?_) (fun c1188 => ?_)
  · exact hk nm2 no2 I1185 q1185.2
  · exact absurd q1185.1 c1188
theorem lc_clerk (hd : 11 ≤ d) (hG : GvI g) (h0 : 0 ≤ i) (h1 : i + 6 ≤ (gX g 1).1) (h2 : (gX g 1).1 ≤ 3072) (hI : Inv nm no I) (hk : ∀ (nm no : Nat) (I : II), Inv nm no I → T g d mL_law bc bs 1516 [some (vr 1), some (vr 20), some (vr 100), some (vi i)] [] (shX nm no) (RX nm no) I Q) : T g d mL_law (bc + 4) (bs + 30) 1193 [some (vr 1), some (vr 20), some (vr 100), some (vi i)] [] (shX nm no) (RX nm no) I Q := by
  refine m_aload_n dL_law_1193 rfl ?_
  refine m_aload_n dL_law_1194 rfl ?_
  refine m_iload_n dL_law_1195 rfl ?_
  refine m_iconst dL_law_1196 (by decide) ?_
  refine m_iadd dL_law_1197 (by omega) ?_
  refine m_gld dL_law_1198 (by decide) (by omega) (by omega) ?_
  refine m_aload_n dL_law_1199 rfl ?_
  refine m_iload_n dL_law_1200 rfl ?_
  refine m_iconst dL_law_1201 (by decide) ?_
  refine m_iadd dL_law_1202 (by omega) ?_
  refine m_gld dL_law_1203 (by decide) (by omega) (by omega) ?_
  refine m_aload_n dL_law_1204 rfl ?_
  refine m_iload_n dL_law_1205 rfl ?_
  refine m_iconst dL_law_1206 (by decide) ?_
  refine m_iadd dL_law_1207 (by omega) ?_
  refine m_gld dL_law_1208 (by decide) (by omega) (by omega) ?_
  refine m_VP [_, _, _] dL_law_1209 lk_L_125 rfl oX_20 rfl (Nat.le_of_ble_eq_true rfl) (by omega) (by omega) (by omega) hI (PM_of (pp_clerk (by omega))) ?_
  intro nm2 no2 r1209 I1209 hS
  refine m_aload_n dL_law_1212 rfl ?_
  refine m_aload_n dL_law_1213 rfl ?_
  refine m_iload_n dL_law_1214 rfl ?_
  refine m_iconst dL_law_1215 (by decide) ?_
  refine m_iadd dL_law_1216 (by omega) ?_
  refine m_gld dL_law_1217 (by decide) (by omega) (by omega) ?_
  refine m_aload_n dL_law_1218 rfl ?_
  refine m_iload_n dL_law_1219 rfl ?_
  refine m_iconst dL_law_1220 (by decide) ?_
  refine m_iadd dL_law_1221 (by omega) ?_
  refine m_gld dL_law_1222 (by decide) (by omega) (by omega) ?_
  refine m_aload_n dL_law_1223 rfl ?_
  refine m_iload_n dL_law_1224 rfl ?_
  refine m_iconst dL_law_1225 (by decide) ?_
  refine m_iadd dL_law_1226 (by omega) ?_
  refine m_gld dL_law_1227 (by decide) (by omega) (by omega) ?_
  refine m_VI [_, _, _] dL_law_1228 lk_L_128 rfl oX_100 rfl (Nat.le_of_ble_eq_true rfl) (by omega) hS ?_
  intro r1228 I1228 q1228
  refine m_icmp_eq (tgt := 1516) dL_law_1231 (by decide) (fun c1231 => ?_) (fun c1231 => ?_)
  · exact hk nm2 no2 I1228 q1228.2
  · exact absurd q1228.1 c1231
theorem lc_lead (hd : 11 ≤ d) (hG : GvI g) (h0 : 0 ≤ i) (h1 : i + 6 ≤ (gX g 1).1) (h2 : (gX g 1).1 ≤ 3072) (hI : Inv nm no I) (hk : ∀ (nm no : Nat) (I : II), Inv nm no I → T g d mL_law bc bs 1516 [some (vr 1), some (vr 20), some (vr 100), some (vi i)] [] (shX nm no) (RX nm no) I Q) : T g d mL_law (bc + 4) (bs + 30) 1236 [some (vr 1), some (vr 20), some (vr 100), some (vi i)] [] (shX nm no) (RX nm no) I Q := by
  refine m_aload_n dL_law_1236 rfl ?_
  refine m_aload_n dL_law_1237 rfl ?_
  refine m_iload_n dL_law_1238 rfl ?_
  refine m_iconst dL_law_1239 (by decide) ?_
  refine m_iadd dL_law_1240 (by omega) ?_
  refine m_gld dL_law_1241 (by decide) (by omega) (by omega) ?_
  refine m_VP [_] dL_law_1242 lk_L_129 rfl oX_20 rfl (Nat.le_of_ble_eq_true rfl) (by omega) (by omega) (by omega) hI (PM_of (pp_lead (by omega))) ?_
  intro nm2 no2 r1242 I1242 hS
  refine m_aload_n dL_law_1245 rfl ?_
  refine m_aload_n dL_law_1246 rfl ?_
  refine m_iload_n dL_law_1247 rfl ?_
  refine m_iconst dL_law_1248 (by decide) ?_
  refine m_iadd dL_law_1249 (by omega) ?_
  refine m_gld dL_law_1250 (by decide) (by omega) (by omega) ?_
  refine m_VI [_] dL_law_1251 lk_L_132 rfl oX_100 rfl (Nat.le_of_ble_eq_true rfl) (by omega) hS ?_
  intro r1251 I1251 q1251
  refine m_icmp_eq (tgt := 1516) dL_law_1254 (by decide) (fun c1254 => ?_) (fun c1254 => ?_)
  · exact hk nm2 no2 I1251 q1251.2
  · exact absurd q1251.1 c1254
theorem lc_blamed (hd : 11 ≤ d) (hG : GvI g) (h0 : 0 ≤ i) (h1 : i + 6 ≤ (gX g 1).1) (h2 : (gX g 1).1 ≤ 3072) (hI : Inv nm no I) (hk : ∀ (nm no : Nat) (I : II), Inv nm no I → T g d mL_law bc bs 1516 [some (vr 1), some (vr 20), some (vr 100), some (vi i)] [] (shX nm no) (RX nm no) I Q) : T g d mL_law (bc + 4) (bs + 30) 1259 [some (vr 1), some (vr 20), some (vr 100), some (vi i)] [] (shX nm no) (RX nm no) I Q := by
  refine m_aload_n dL_law_1259 rfl ?_
  refine m_VP [] dL_law_1260 lk_L_133 rfl oX_20 rfl (Nat.le_of_ble_eq_true rfl) (by omega) (by omega) (by omega) hI (PM_of (pp_blamed (by omega))) ?_
  intro nm2 no2 r1260 I1260 hS
  refine m_aload_n dL_law_1263 rfl ?_
  refine m_VI [] dL_law_1264 lk_L_136 rfl oX_100 rfl (Nat.le_of_ble_eq_true rfl) (by omega) hS ?_
  intro r1264 I1264 q1264
  refine m_icmp_eq (tgt := 1516) dL_law_1267 (by decide) (fun c1267 => ?_) (fun c1267 => ?_)
  · exact hk nm2 no2 I1264 q1264.2
  · exact absurd q1264.1 c1267
theorem lc_load (hd : 11 ≤ d) (hG : GvI g) (h0 : 0 ≤ i) (h1 : i + 6 ≤ (gX g 1).1) (h2 : (gX g 1).1 ≤ 3072) (hI : Inv nm no I) (hk : ∀ (nm no : Nat) (I : II), Inv nm no I → T g d mL_law bc bs 1516 [some (vr 1), some (vr 20), some (vr 100), some (vi i)] [] (shX nm no) (RX nm no) I Q) : T g d mL_law (bc + 4) (bs + 30) 1272 [some (vr 1), some (vr 20), some (vr 100), some (vi i)] [] (shX nm no) (RX nm no) I Q := by
  refine m_aload_n dL_law_1272 rfl ?_
  refine m_aload_n dL_law_1273 rfl ?_
  refine m_iload_n dL_law_1274 rfl ?_
  refine m_iconst dL_law_1275 (by decide) ?_
  refine m_iadd dL_law_1276 (by omega) ?_
  refine m_gld dL_law_1277 (by decide) (by omega) (by omega) ?_
  refine m_aload_n dL_law_1278 rfl ?_
  refine m_iload_n dL_law_1279 rfl ?_
  refine m_iconst dL_law_1280 (by decide) ?_
  refine m_iadd dL_law_1281 (by omega) ?_
  refine m_gld dL_law_1282 (by decide) (by omega) (by omega) ?_
  refine m_aload_n dL_law_1283 rfl ?_
  refine m_iload_n dL_law_1284 rfl ?_
  refine m_iconst dL_law_1285 (by decide) ?_
  refine m_iadd dL_law_1286 (by omega) ?_
  refine m_gld dL_law_1287 (by decide) (by omega) (by omega) ?_
  refine m_VP [_, _, _] dL_law_1288 lk_L_137 rfl oX_20 rfl (Nat.le_of_ble_eq_true rfl) (by omega) (by omega) (by omega) hI (PM_of (pp_load (by omega))) ?_
  intro nm2 no2 r1288 I1288 hS
  refine m_aload_n dL_law_1291 rfl ?_
  refine m_aload_n dL_law_1292 rfl ?_
  refine m_iload_n dL_law_1293 rfl ?_
  refine m_iconst dL_law_1294 (by decide) ?_
  refine m_iadd dL_law_1295 (by omega) ?_
  refine m_gld dL_law_1296 (by decide) (by omega) (by omega) ?_
  refine m_aload_n dL_law_1297 rfl ?_
  refine m_iload_n dL_law_1298 rfl ?_
  refine m_iconst dL_law_1299 (by decide) ?_
  refine m_iadd dL_law_1300 (by omega) ?_
  refine m_gld dL_law_1301 (by decide) (by omega) (by omega) ?_
  refine m_aload_n dL_law_1302 rfl ?_
  refine m_iload_n dL_law_1303 rfl ?_
  refine m_iconst dL_law_1304 (by decide) ?_
  refine m_iadd dL_law_1305 (by omega) ?_
  refine m_gld dL_law_1306 (by decide) (by omega) (by omega) ?_
  refine m_VI [_, _, _] dL_law_1307 lk_L_140 rfl oX_100 rfl (Nat.le_of_ble_eq_true rfl) (by omega) hS ?_
  intro r1307 I1307 q1307
  refine m_icmp_eq (tgt := 1516) dL_law_1310 (by decide) (fun c1310 => ?_) (fun c1310 => ?_)
  · exact hk nm2 no2 I1307 q1307.2
  · exact absurd q1307.1 c1310
theorem lc_set (hd : 11 ≤ d) (hG : GvI g) (h0 : 0 ≤ i) (h1 : i + 6 ≤ (gX g 1).1) (h2 : (gX g 1).1 ≤ 3072) (hI : Inv nm no I) (hk : ∀ (nm no : Nat) (I : II), Inv nm no I → T g d mL_law bc bs 1516 [some (vr 1), some (vr 20), some (vr 100), some (vi i)] [] (shX nm no) (RX nm no) I Q) : T g d mL_law (bc + 4) (bs + 30) 1315 [some (vr 1), some (vr 20), some (vr 100), some (vi i)] [] (shX nm no) (RX nm no) I Q := by
  refine m_aload_n dL_law_1315 rfl ?_
  refine m_aload_n dL_law_1316 rfl ?_
  refine m_iload_n dL_law_1317 rfl ?_
  refine m_iconst dL_law_1318 (by decide) ?_
  refine m_iadd dL_law_1319 (by omega) ?_
  refine m_gld dL_law_1320 (by decide) (by omega) (by omega) ?_
  refine m_aload_n dL_law_1321 rfl ?_
  refine m_iload_n dL_law_1322 rfl ?_
  refine m_iconst dL_law_1323 (by decide) ?_
  refine m_iadd dL_law_1324 (by omega) ?_
  refine m_gld dL_law_1325 (by decide) (by omega) (by omega) ?_
  refine m_VP [_, _] dL_law_1326 lk_L_141 rfl oX_20 rfl (Nat.le_of_ble_eq_true rfl) (by omega) (by omega) (by omega) hI (PM_of (pp_set (by omega))) ?_
  intro nm2 no2 r1326 I1326 hS
  refine m_aload_n dL_law_1329 rfl ?_
  refine m_aload_n dL_law_1330 rfl ?_
  refine m_iload_n dL_law_1331 rfl ?_
  refine m_iconst dL_law_1332 (by decide) ?_
  refine m_iadd dL_law_1333 (by omega) ?_
  refine m_gld dL_law_1334 (by decide) (by omega) (by omega) ?_
  refine m_aload_n dL_law_1335 rfl ?_
  refine m_iload_n dL_law_1336 rfl ?_
  refine m_iconst dL_law_1337 (by decide) ?_
  refine m_iadd dL_law_1338 (by omega) ?_
  refine m_gld dL_law_1339 (by decide) (by omega) (by omega) ?_
  refine m_VI [_, _] dL_law_1340 lk_L_144 rfl oX_100 rfl (Nat.le_of_ble_eq_true rfl) (by omega) hS ?_
  intro r1340 I1340 q1340
  refine m_icmp_eq (tgt := 1516) dL_law_1343 (by decide) (fun c1343 => ?_) (fun c1343 => ?_)
  · exact hk nm2 no2 I1340 q1340.2
  · exact absurd q1340.1 c1343
theorem lc_fewest (hd : 11 ≤ d) (hG : GvI g) (h0 : 0 ≤ i) (h1 : i + 6 ≤ (gX g 1).1) (h2 : (gX g 1).1 ≤ 3072) (hI : Inv nm no I) (hk : ∀ (nm no : Nat) (I : II), Inv nm no I → T g d mL_law bc bs 1516 [some (vr 1), some (vr 20), some (vr 100), some (vi i)] [] (shX nm no) (RX nm no) I Q) : T g d mL_law (bc + 4) (bs + 30) 1348 [some (vr 1), some (vr 20), some (vr 100), some (vi i)] [] (shX nm no) (RX nm no) I Q := by
  refine m_aload_n dL_law_1348 rfl ?_
  refine m_aload_n dL_law_1349 rfl ?_
  refine m_iload_n dL_law_1350 rfl ?_
  refine m_iconst dL_law_1351 (by decide) ?_
  refine m_iadd dL_law_1352 (by omega) ?_
  refine m_gld dL_law_1353 (by decide) (by omega) (by omega) ?_
  refine m_VP [_] dL_law_1354 lk_L_145 rfl oX_20 rfl (Nat.le_of_ble_eq_true rfl) (by omega) (by omega) (by omega) hI (PM_of (pp_fewest (by omega))) ?_
  intro nm2 no2 r1354 I1354 hS
  refine m_aload_n dL_law_1357 rfl ?_
  refine m_aload_n dL_law_1358 rfl ?_
  refine m_iload_n dL_law_1359 rfl ?_
  refine m_iconst dL_law_1360 (by decide) ?_
  refine m_iadd dL_law_1361 (by omega) ?_
  refine m_gld dL_law_1362 (by decide) (by omega) (by omega) ?_
  refine m_VI [_] dL_law_1363 lk_L_148 rfl oX_100 rfl (Nat.le_of_ble_eq_true rfl) (by omega) hS ?_
  intro r1363 I1363 q1363
  refine m_icmp_eq (tgt := 1516) dL_law_1366 (by decide) (fun c1366 => ?_) (fun c1366 => ?_)
  · exact hk nm2 no2 I1363 q1363.2
  · exact absurd q1363.1 c1366
theorem lc_waits (hd : 11 ≤ d) (hG : GvI g) (h0 : 0 ≤ i) (h1 : i + 6 ≤ (gX g 1).1) (h2 : (gX g 1).1 ≤ 3072) (hI : Inv nm no I) (hk : ∀ (nm no : Nat) (I : II), Inv nm no I → T g d mL_law bc bs 1516 [some (vr 1), some (vr 20), some (vr 100), some (vi i)] [] (shX nm no) (RX nm no) I Q) : T g d mL_law (bc + 4) (bs + 30) 1371 [some (vr 1), some (vr 20), some (vr 100), some (vi i)] [] (shX nm no) (RX nm no) I Q := by
  refine m_aload_n dL_law_1371 rfl ?_
  refine m_aload_n dL_law_1372 rfl ?_
  refine m_iload_n dL_law_1373 rfl ?_
  refine m_iconst dL_law_1374 (by decide) ?_
  refine m_iadd dL_law_1375 (by omega) ?_
  refine m_gld dL_law_1376 (by decide) (by omega) (by omega) ?_
  refine m_aload_n dL_law_1377 rfl ?_
  refine m_iload_n dL_law_1378 rfl ?_
  refine m_iconst dL_law_1379 (by decide) ?_
  refine m_iadd dL_law_1380 (by omega) ?_
  refine m_gld dL_law_1381 (by decide) (by omega) (by omega) ?_
  refine m_aload_n dL_law_1382 rfl ?_
  refine m_iload_n dL_law_1383 rfl ?_
  refine m_iconst dL_law_1384 (by decide) ?_
  refine m_iadd dL_law_1385 (by omega) ?_
  refine m_gld dL_law_1386 (by decide) (by omega) (by omega) ?_
  refine m_VP [_, _, _] dL_law_1387 lk_L_149 rfl oX_20 rfl (Nat.le_of_ble_eq_true rfl) (by omega) (by omega) (by omega) hI (PM_of (pp_waits (by omega))) ?_
  intro nm2 no2 r1387 I1387 hS
  refine m_aload_n dL_law_1390 rfl ?_
  refine m_aload_n dL_law_1391 rfl ?_
  refine m_iload_n dL_law_1392 rfl ?_
  refine m_iconst dL_law_1393 (by decide) ?_
  refine m_iadd dL_law_1394 (by omega) ?_
  refine m_gld dL_law_1395 (by decide) (by omega) (by omega) ?_
  refine m_aload_n dL_law_1396 rfl ?_
  refine m_iload_n dL_law_1397 rfl ?_
  refine m_iconst dL_law_1398 (by decide) ?_
  refine m_iadd dL_law_1399 (by omega) ?_
  refine m_gld dL_law_1400 (by decide) (by omega) (by omega) ?_
  refine m_aload_n dL_law_1401 rfl ?_
  refine m_iload_n dL_law_1402 rfl ?_
  refine m_iconst dL_law_1403 (by decide) ?_
  refine m_iadd dL_law_1404 (by omega) ?_
  refine m_gld dL_law_1405 (by decide) (by omega) (by omega) ?_
  refine m_VI [_, _, _] dL_law_1406 lk_L_152 rfl oX_100 rfl (Nat.le_of_ble_eq_true rfl) (by omega) hS ?_
  intro r1406 I1406 q1406
  refine m_icmp_eq (tgt := 1516) dL_law_1409 (by decide) (fun c1409 => ?_) (fun c1409 => ?_)
  · exact hk nm2 no2 I1406 q1406.2
  · exact absurd q1406.1 c1409
theorem lc_door (hd : 11 ≤ d) (hG : GvI g) (h0 : 0 ≤ i) (h1 : i + 6 ≤ (gX g 1).1) (h2 : (gX g 1).1 ≤ 3072) (hI : Inv nm no I) (hk : ∀ (nm no : Nat) (I : II), Inv nm no I → T g d mL_law bc bs 1516 [some (vr 1), some (vr 20), some (vr 100), some (vi i)] [] (shX nm no) (RX nm no) I Q) : T g d mL_law (bc + 4) (bs + 30) 1414 [some (vr 1), some (vr 20), some (vr 100), some (vi i)] [] (shX nm no) (RX nm no) I Q := by
  refine m_aload_n dL_law_1414 rfl ?_
  refine m_aload_n dL_law_1415 rfl ?_
  refine m_iload_n dL_law_1416 rfl ?_
  refine m_iconst dL_law_1417 (by decide) ?_
  refine m_iadd dL_law_1418 (by omega) ?_
  refine m_gld dL_law_1419 (by decide) (by omega) (by omega) ?_
  refine m_aload_n dL_law_1420 rfl ?_
  refine m_iload_n dL_law_1421 rfl ?_
  refine m_iconst dL_law_1422 (by decide) ?_
  refine m_iadd dL_law_1423 (by omega) ?_
  refine m_gld dL_law_1424 (by decide) (by omega) (by omega) ?_
  refine m_aload_n dL_law_1425 rfl ?_
  refine m_iload_n dL_law_1426 rfl ?_
  refine m_iconst dL_law_1427 (by decide) ?_
  refine m_iadd dL_law_1428 (by omega) ?_
  refine m_gld dL_law_1429 (by decide) (by omega) (by omega) ?_
  refine m_VP [_, _, _] dL_law_1430 lk_L_153 rfl oX_20 rfl (Nat.le_of_ble_eq_true rfl) (by omega) (by omega) (by omega) hI (PM_of (pp_door (by omega))) ?_
  intro nm2 no2 r1430 I1430 hS
  refine m_aload_n dL_law_1433 rfl ?_
  refine m_aload_n dL_law_1434 rfl ?_
  refine m_iload_n dL_law_1435 rfl ?_
  refine m_iconst dL_law_1436 (by decide) ?_
  refine m_iadd dL_law_1437 (by omega) ?_
  refine m_gld dL_law_1438 (by decide) (by omega) (by omega) ?_
  refine m_aload_n dL_law_1439 rfl ?_
  refine m_iload_n dL_law_1440 rfl ?_
  refine m_iconst dL_law_1441 (by decide) ?_
  refine m_iadd dL_law_1442 (by omega) ?_
  refine m_gld dL_law_1443 (by decide) (by omega) (by omega) ?_
  refine m_aload_n dL_law_1444 rfl ?_
  refine m_iload_n dL_law_1445 rfl ?_
  refine m_iconst dL_law_1446 (by decide) ?_
  refine m_iadd dL_law_1447 (by omega) ?_
  refine m_gld dL_law_1448 (by decide) (by omega) (by omega) ?_
  refine m_VI [_, _, _] dL_law_1449 lk_L_156 rfl oX_100 rfl (Nat.le_of_ble_eq_true rfl) (by omega) hS ?_
  intro r1449 I1449 q1449
  refine m_icmp_eq (tgt := 1516) dL_law_1452 (by decide) (fun c1452 => ?_) (fun c1452 => ?_)
  · exact hk nm2 no2 I1449 q1449.2
  · exact absurd q1449.1 c1452
theorem lc_clear (hd : 11 ≤ d) (hG : GvI g) (h0 : 0 ≤ i) (h1 : i + 6 ≤ (gX g 1).1) (h2 : (gX g 1).1 ≤ 3072) (hI : Inv nm no I) (hk : ∀ (nm no : Nat) (I : II), Inv nm no I → T g d mL_law bc bs 1516 [some (vr 1), some (vr 20), some (vr 100), some (vi i)] [] (shX nm no) (RX nm no) I Q) : T g d mL_law (bc + 4) (bs + 30) 1457 [some (vr 1), some (vr 20), some (vr 100), some (vi i)] [] (shX nm no) (RX nm no) I Q := by
  refine m_aload_n dL_law_1457 rfl ?_
  refine m_VP [] dL_law_1458 lk_L_157 rfl oX_20 rfl (Nat.le_of_ble_eq_true rfl) (by omega) (by omega) (by omega) hI (PM_of pp_clear) ?_
  intro nm2 no2 r1458 I1458 hS
  refine m_aload_n dL_law_1461 rfl ?_
  refine m_VI [] dL_law_1462 lk_L_160 rfl oX_100 rfl (Nat.le_of_ble_eq_true rfl) (by omega) hS ?_
  intro r1462 I1462 q1462
  refine m_icmp_eq (tgt := 1516) dL_law_1465 (by decide) (fun c1465 => ?_) (fun c1465 => ?_)
  · exact hk nm2 no2 I1462 q1462.2
  · exact absurd q1462.1 c1465
theorem lc_round (hd : 11 ≤ d) (hG : GvI g) (h0 : 0 ≤ i) (h1 : i + 6 ≤ (gX g 1).1) (h2 : (gX g 1).1 ≤ 3072) (hI : Inv nm no I) (hk : ∀ (nm no : Nat) (I : II), Inv nm no I → T g d mL_law bc bs 1516 [some (vr 1), some (vr 20), some (vr 100), some (vi i)] [] (shX nm no) (RX nm no) I Q) : T g d mL_law (bc + 4) (bs + 30) 1470 [some (vr 1), some (vr 20), some (vr 100), some (vi i)] [] (shX nm no) (RX nm no) I Q := by
  refine m_aload_n dL_law_1470 rfl ?_
  refine m_aload_n dL_law_1471 rfl ?_
  refine m_iload_n dL_law_1472 rfl ?_
  refine m_iconst dL_law_1473 (by decide) ?_
  refine m_iadd dL_law_1474 (by omega) ?_
  refine m_gld dL_law_1475 (by decide) (by omega) (by omega) ?_
  refine m_VP [_] dL_law_1476 lk_L_161 rfl oX_20 rfl (Nat.le_of_ble_eq_true rfl) (by omega) (by omega) (by omega) hI (PM_of (pp_round (by omega))) ?_
  intro nm2 no2 r1476 I1476 hS
  refine m_aload_n dL_law_1479 rfl ?_
  refine m_aload_n dL_law_1480 rfl ?_
  refine m_iload_n dL_law_1481 rfl ?_
  refine m_iconst dL_law_1482 (by decide) ?_
  refine m_iadd dL_law_1483 (by omega) ?_
  refine m_gld dL_law_1484 (by decide) (by omega) (by omega) ?_
  refine m_VI [_] dL_law_1485 lk_L_164 rfl oX_100 rfl (Nat.le_of_ble_eq_true rfl) (by omega) hS ?_
  intro r1485 I1485 q1485
  refine m_icmp_eq (tgt := 1516) dL_law_1488 (by decide) (fun c1488 => ?_) (fun c1488 => ?_)
  · exact hk nm2 no2 I1485 q1485.2
  · exact absurd q1485.1 c1488
theorem lc_count (hd : 11 ≤ d) (hG : GvI g) (h0 : 0 ≤ i) (h1 : i + 6 ≤ (gX g 1).1) (h2 : (gX g 1).1 ≤ 3072) (hI : Inv nm no I) (hk : ∀ (nm no : Nat) (I : II), Inv nm no I → T g d mL_law bc bs 1516 [some (vr 1), some (vr 20), some (vr 100), some (vi i)] [] (shX nm no) (RX nm no) I Q) : T g d mL_law (bc + 4) (bs + 30) 1493 [some (vr 1), some (vr 20), some (vr 100), some (vi i)] [] (shX nm no) (RX nm no) I Q := by
  refine m_aload_n dL_law_1493 rfl ?_
  refine m_aload_n dL_law_1494 rfl ?_
  refine m_iload_n dL_law_1495 rfl ?_
  refine m_iconst dL_law_1496 (by decide) ?_
  refine m_iadd dL_law_1497 (by omega) ?_
  refine m_gld dL_law_1498 (by decide) (by omega) (by omega) ?_
  refine m_VP [_] dL_law_1499 lk_L_165 rfl oX_20 rfl (Nat.le_of_ble_eq_true rfl) (by omega) (by omega) (by omega) hI (PM_of (pp_count (by omega))) ?_
  intro nm2 no2 r1499 I1499 hS
  refine m_aload_n dL_law_1502 rfl ?_
  refine m_aload_n dL_law_1503 rfl ?_
  refine m_iload_n dL_law_1504 rfl ?_
  refine m_iconst dL_law_1505 (by decide) ?_
  refine m_iadd dL_law_1506 (by omega) ?_
  refine m_gld dL_law_1507 (by decide) (by omega) (by omega) ?_
  refine m_VI [_] dL_law_1508 lk_L_168 rfl oX_100 rfl (Nat.le_of_ble_eq_true rfl) (by omega) hS ?_
  intro r1508 I1508 q1508
  refine m_icmp_eq (tgt := 1516) dL_law_1511 (by decide) (fun c1511 => ?_) (fun c1511 => ?_)
  · exact hk nm2 no2 I1508 q1508.2
  · exact absurd q1508.1 c1511
end
