/-! ===== the law, call by call ===== -/
theorem pN {M M1 : fM} {w : Nat} {p : Int} {kn od : Nat} (hc : core M M w p kn od) (hh : hiS M M1) : nOk M1 w p := nOk_hi (nOk_of hc.1.2.1 hc.2.1) hh
theorem pK {M M1 : fM} {w : Nat} {p : Int} {kn od : Nat} (hc : core M M w p kn od) (hh : hiS M M1) : M1 22 0 9 = (kn : Int) := (hh _ _ _ (by decide)).trans hc.2.2.2.1
theorem pZ {M M1 : fM} (hR : Rel M) (hh : hiS M M1) : mzL M1 := mzL_of (Rel2_D hR hh).2.2.2.1
theorem pNN {M M1 : fM} {w : Nat} {p : Int} {kn od : Nat} (hc : core M M w p kn od) (hh : hiS M M1) : ∀ b, b < 21 → 0 ≤ M1 23 0 b := fun b hb => by rw [hh _ _ _ (by decide)]; exact sg_nn hc.2.1 b hb
theorem pS {M : fM} (hR : Rel M) : shL M := shL_of hR.2.2.2.1
set_option maxHeartbeats 4000000 in
set_option maxRecDepth 100000 in
theorem lc_0 {g : fG} {sb L : Nat} {xs : Nat → Int32} {i : Nat} {M : fM} (hi : i + 6 ≤ L) (hR : Rel M) (kk : ∀ M2, Rel M2 → lAt g sb L xs 1138 i [] M2) : lAt g sb L xs 184 i [] M := by
  obtain ⟨⟨w, p, kn, od, hc⟩, -⟩ := id hR
  refine la_x dL_law_184 ?_
  refine la_arg 1 dL_law_185 dL_law_186 dL_law_187 dL_law_188 dL_law_189 (by omega) ?_
  refine la_callI [vi (xs (i + 1)).toInt] [] dL_law_190 vl_L_13 rfl rfl rfl rfl (Nat.le_of_ble_eq_true rfl) ⟨by decide, by decide⟩ (c_prime hc.1) (fun z M1 h1 => ?_)
  have hh : hiS M M1 := by
    rcases h1 with ⟨_, _, e⟩ | ⟨_, ⟨_, _, e⟩ | ⟨_, _, e⟩⟩ <;> rw [e]
    · exact hiS_r M
    · exact hiS_r M
    · exact hiS_t (hiS_t (hiS_up (by decide)) hiS_lv) (hiS_up (by decide))
  refine la_m dL_law_193 ?_
  refine la_arg 1 dL_law_194 dL_law_195 dL_law_196 dL_law_197 dL_law_198 (by omega) ?_
  refine la_callI [vi (xs (i + 1)).toInt] [vi z] dL_law_199 vl_L_17 rfl rfl rfl rfl (Nat.le_of_ble_eq_true rfl) ⟨by decide, by decide⟩ (m_prime (pN hc hh) (pNN hc hh)) (fun z' M2 h2 => ?_)
  obtain ⟨e, hR2⟩ := rs_prime hR hc h1 h2
  exact la_eq dL_law_202 (by decide) e (kk M2 hR2)
set_option maxHeartbeats 4000000 in
set_option maxRecDepth 100000 in
theorem lc_1 {g : fG} {sb L : Nat} {xs : Nat → Int32} {i : Nat} {M : fM} (hi : i + 6 ≤ L) (hR : Rel M) (kk : ∀ M2, Rel M2 → lAt g sb L xs 1138 i [] M2) : lAt g sb L xs 207 i [] M := by
  obtain ⟨⟨w, p, kn, od, hc⟩, -⟩ := id hR
  obtain ⟨n, n1, n2, n3, n4, n5⟩ := id hR.2.2.1
  refine la_x dL_law_207 ?_
  refine la_arg 1 dL_law_208 dL_law_209 dL_law_210 dL_law_211 dL_law_212 (by omega) ?_
  refine la_callI [vi (xs (i + 1)).toInt] [] dL_law_213 vl_L_18 rfl rfl rfl rfl (Nat.le_of_ble_eq_true rfl) ⟨by decide, by decide⟩ (c_type n2 n1) (fun z M1 h1 => ?_)
  have hh : hiS M M1 := by
    rcases h1 with ⟨_, _, e⟩ | ⟨_, ⟨_, _, e⟩ | ⟨_, _, e⟩⟩ <;> rw [e]
    · exact hiS_r M
    · exact hiS_r M
    · exact hiS_t (hiS_up (by decide)) (hiS_up (by decide))
  refine la_m dL_law_216 ?_
  refine la_arg 1 dL_law_217 dL_law_218 dL_law_219 dL_law_220 dL_law_221 (by omega) ?_
  refine la_callI [vi (xs (i + 1)).toInt] [vi z] dL_law_222 vl_L_21 rfl rfl rfl rfl (Nat.le_of_ble_eq_true rfl) ⟨by decide, by decide⟩ (m_type ((hh _ _ _ (by decide)).trans n3) n1) (fun z' M2 h2 => ?_)
  obtain ⟨e, hR2⟩ := rs_type hR n2 n3 h1 h2
  exact la_eq dL_law_225 (by decide) e (kk M2 hR2)
set_option maxHeartbeats 4000000 in
set_option maxRecDepth 100000 in
theorem lc_2 {g : fG} {sb L : Nat} {xs : Nat → Int32} {i : Nat} {M : fM} (hi : i + 6 ≤ L) (hR : Rel M) (kk : ∀ M2, Rel M2 → lAt g sb L xs 1138 i [] M2) : lAt g sb L xs 230 i [] M := by
  obtain ⟨⟨w, p, kn, od, hc⟩, -⟩ := id hR
  obtain ⟨n, n1, n2, n3, n4, n5⟩ := id hR.2.2.1
  refine la_x dL_law_230 ?_
  refine la_callI [] [] dL_law_231 vl_L_22 rfl rfl rfl rfl (Nat.le_of_ble_eq_true rfl) ⟨by decide, by decide⟩ (c_matrix n1 rfl n2 (fun b hb => by have := n5 b hb; omega) hc.1.1) (fun z M1 h1 => ?_)
  have hh : hiS M M1 := by
    rcases h1 with ⟨_, _, _, M0, a1, e⟩ | ⟨_, _, M0, a1, e⟩ <;> rw [e]
    · exact hiS_t (hiS_rd a1) (hiS_up (by decide))
    · exact hiS_t (hiS_t (hiS_t (hiS_t (hiS_rd a1.1) (hiS_up (by decide))) hiS_st) (hiS_up (by decide))) (hiS_up (by decide))
  refine la_m dL_law_234 ?_
  refine la_callI [] [vi z] dL_law_235 vl_L_26 rfl rfl rfl rfl (Nat.le_of_ble_eq_true rfl) ⟨by decide, by decide⟩ (m_matrix n1 hc.1.2.1.1 (funext fun q => (hh _ _ _ (by decide)).trans (n4 q)) ((hh _ _ _ (by decide)).trans n3) (pN hc hh).2.1 (fun b hb => by have := n5 b hb; omega)) (fun z' M2 h2 => ?_)
  obtain ⟨e, hR2⟩ := rs_matrix hR hc n1 h1 h2
  exact la_eq dL_law_238 (by decide) e (kk M2 hR2)
set_option maxHeartbeats 4000000 in
set_option maxRecDepth 100000 in
theorem lc_3 {g : fG} {sb L : Nat} {xs : Nat → Int32} {i : Nat} {M : fM} (hi : i + 6 ≤ L) (hR : Rel M) (kk : ∀ M2, Rel M2 → lAt g sb L xs 1138 i [] M2) : lAt g sb L xs 243 i [] M := by
  obtain ⟨⟨w, p, kn, od, hc⟩, -⟩ := id hR
  refine la_x dL_law_243 ?_
  refine la_arg 1 dL_law_244 dL_law_245 dL_law_246 dL_law_247 dL_law_248 (by omega) ?_
  refine la_callI [vi (xs (i + 1)).toInt] [] dL_law_249 vl_L_27 rfl rfl rfl rfl (Nat.le_of_ble_eq_true rfl) ⟨by decide, by decide⟩ (c_line hc.1) (fun z M1 h1 => ?_)
  have hh : hiS M M1 := by rw [h1.2]; exact hiS_r M
  refine la_m dL_law_252 ?_
  refine la_arg 1 dL_law_253 dL_law_254 dL_law_255 dL_law_256 dL_law_257 (by omega) ?_
  refine la_callI [vi (xs (i + 1)).toInt] [vi z] dL_law_258 vl_L_30 rfl rfl rfl rfl (Nat.le_of_ble_eq_true rfl) ⟨by decide, by decide⟩ (m_line (pN hc hh)) (fun z' M2 h2 => ?_)
  obtain ⟨e, hR2⟩ := rs_line hR hc h1 h2
  exact la_eq dL_law_261 (by decide) e (kk M2 hR2)
set_option maxHeartbeats 4000000 in
set_option maxRecDepth 100000 in
theorem lc_4 {g : fG} {sb L : Nat} {xs : Nat → Int32} {i : Nat} {M : fM} (hi : i + 6 ≤ L) (hR : Rel M) (kk : ∀ M2, Rel M2 → lAt g sb L xs 1138 i [] M2) : lAt g sb L xs 266 i [] M := by
  obtain ⟨⟨w, p, kn, od, hc⟩, -⟩ := id hR
  refine la_x dL_law_266 ?_
  refine la_arg 1 dL_law_267 dL_law_268 dL_law_269 dL_law_270 dL_law_271 (by omega) ?_
  refine la_callI [vi (xs (i + 1)).toInt] [] dL_law_272 vl_L_31 rfl rfl rfl rfl (Nat.le_of_ble_eq_true rfl) ⟨by decide, by decide⟩ (c_right hc.1) (fun z M1 h1 => ?_)
  have hh : hiS M M1 := by rw [h1.2]; exact hiS_r M
  refine la_m dL_law_275 ?_
  refine la_arg 1 dL_law_276 dL_law_277 dL_law_278 dL_law_279 dL_law_280 (by omega) ?_
  refine la_callI [vi (xs (i + 1)).toInt] [vi z] dL_law_281 vl_L_34 rfl rfl rfl rfl (Nat.le_of_ble_eq_true rfl) ⟨by decide, by decide⟩ (m_right (pN hc hh)) (fun z' M2 h2 => ?_)
  obtain ⟨e, hR2⟩ := rs_right hR hc h1 h2
  exact la_eq dL_law_284 (by decide) e (kk M2 hR2)
set_option maxHeartbeats 4000000 in
set_option maxRecDepth 100000 in
theorem lc_5 {g : fG} {sb L : Nat} {xs : Nat → Int32} {i : Nat} {M : fM} (hi : i + 6 ≤ L) (hR : Rel M) (kk : ∀ M2, Rel M2 → lAt g sb L xs 1138 i [] M2) : lAt g sb L xs 289 i [] M := by
  obtain ⟨⟨w, p, kn, od, hc⟩, -⟩ := id hR
  refine la_x dL_law_289 ?_
  refine la_arg 1 dL_law_290 dL_law_291 dL_law_292 dL_law_293 dL_law_294 (by omega) ?_
  refine la_arg 2 dL_law_295 dL_law_296 dL_law_297 dL_law_298 dL_law_299 (by omega) ?_
  refine la_callI [vi (xs (i + 1)).toInt, vi (xs (i + 2)).toInt] [] dL_law_300 vl_L_35 rfl rfl rfl rfl (Nat.le_of_ble_eq_true rfl) ⟨by decide, by decide⟩ (c_entry hc.1) (fun z M1 h1 => ?_)
  have hh : hiS M M1 := by rw [h1.2]; exact hiS_r M
  refine la_m dL_law_303 ?_
  refine la_arg 1 dL_law_304 dL_law_305 dL_law_306 dL_law_307 dL_law_308 (by omega) ?_
  refine la_arg 2 dL_law_309 dL_law_310 dL_law_311 dL_law_312 dL_law_313 (by omega) ?_
  refine la_callI [vi (xs (i + 1)).toInt, vi (xs (i + 2)).toInt] [vi z] dL_law_314 vl_L_39 rfl rfl rfl rfl (Nat.le_of_ble_eq_true rfl) ⟨by decide, by decide⟩ (m_entry (pN hc hh)) (fun z' M2 h2 => ?_)
  obtain ⟨e, hR2⟩ := rs_entry hR hc h1 h2
  exact la_eq dL_law_317 (by decide) e (kk M2 hR2)
set_option maxHeartbeats 4000000 in
set_option maxRecDepth 100000 in
theorem lc_6 {g : fG} {sb L : Nat} {xs : Nat → Int32} {i : Nat} {M : fM} (hi : i + 6 ≤ L) (hR : Rel M) (kk : ∀ M2, Rel M2 → lAt g sb L xs 1138 i [] M2) : lAt g sb L xs 322 i [] M := by
  obtain ⟨⟨w, p, kn, od, hc⟩, -⟩ := id hR
  refine la_x dL_law_322 ?_
  refine la_arg 1 dL_law_323 dL_law_324 dL_law_325 dL_law_326 dL_law_327 (by omega) ?_
  refine la_callI [vi (xs (i + 1)).toInt] [] dL_law_328 vl_L_40 rfl rfl rfl rfl (Nat.le_of_ble_eq_true rfl) ⟨by decide, by decide⟩ (c_count hc.1) (fun z M1 h1 => ?_)
  have hh : hiS M M1 := hiS_z (zS_g h1.2.1)
  refine la_m dL_law_331 ?_
  refine la_arg 1 dL_law_332 dL_law_333 dL_law_334 dL_law_335 dL_law_336 (by omega) ?_
  refine la_callI [vi (xs (i + 1)).toInt] [vi z] dL_law_337 vl_L_43 rfl rfl rfl rfl (Nat.le_of_ble_eq_true rfl) ⟨by decide, by decide⟩ (m_count (pN hc hh)) (fun z' M2 h2 => ?_)
  obtain ⟨e, hR2⟩ := rs_count hR hc h1 h2
  exact la_eq dL_law_340 (by decide) e (kk M2 hR2)
set_option maxHeartbeats 4000000 in
set_option maxRecDepth 100000 in
theorem lc_7 {g : fG} {sb L : Nat} {xs : Nat → Int32} {i : Nat} {M : fM} (hi : i + 6 ≤ L) (hR : Rel M) (kk : ∀ M2, Rel M2 → lAt g sb L xs 1138 i [] M2) : lAt g sb L xs 345 i [] M := by
  obtain ⟨⟨w, p, kn, od, hc⟩, -⟩ := id hR
  refine la_x dL_law_345 ?_
  refine la_arg 1 dL_law_346 dL_law_347 dL_law_348 dL_law_349 dL_law_350 (by omega) ?_
  refine la_arg 2 dL_law_351 dL_law_352 dL_law_353 dL_law_354 dL_law_355 (by omega) ?_
  refine la_callI [vi (xs (i + 1)).toInt, vi (xs (i + 2)).toInt] [] dL_law_356 vl_L_44 rfl rfl rfl rfl (Nat.le_of_ble_eq_true rfl) ⟨by decide, by decide⟩ (c_change hc.1 hc.2.2.1) (fun z M1 h1 => ?_)
  have hh : hiS M M1 := by
    rcases h1 with ⟨_, _, e⟩ | ⟨_, ⟨_, _, e⟩ | ⟨_, _, e⟩⟩ <;> rw [e]
    · exact hiS_r M
    · exact hiS_r M
    · exact hiS_t hiS_bk (hiS_up (by decide))
  refine la_m dL_law_359 ?_
  refine la_arg 1 dL_law_360 dL_law_361 dL_law_362 dL_law_363 dL_law_364 (by omega) ?_
  refine la_arg 2 dL_law_365 dL_law_366 dL_law_367 dL_law_368 dL_law_369 (by omega) ?_
  refine la_callI [vi (xs (i + 1)).toInt, vi (xs (i + 2)).toInt] [vi z] dL_law_370 vl_L_47 rfl rfl rfl rfl (Nat.le_of_ble_eq_true rfl) ⟨by decide, by decide⟩ (m_change (pN hc hh) (pK hc hh) hc.2.2.1.2.2.1) (fun z' M2 h2 => ?_)
  obtain ⟨e, hR2⟩ := rs_change hR hc h1 h2
  exact la_eq dL_law_373 (by decide) e (kk M2 hR2)
set_option maxHeartbeats 4000000 in
set_option maxRecDepth 100000 in
theorem lc_8 {g : fG} {sb L : Nat} {xs : Nat → Int32} {i : Nat} {M : fM} (hi : i + 6 ≤ L) (hR : Rel M) (kk : ∀ M2, Rel M2 → lAt g sb L xs 1138 i [] M2) : lAt g sb L xs 378 i [] M := by
  obtain ⟨⟨w, p, kn, od, hc⟩, -⟩ := id hR
  refine la_x dL_law_378 ?_
  refine la_arg 1 dL_law_379 dL_law_380 dL_law_381 dL_law_382 dL_law_383 (by omega) ?_
  refine la_arg 2 dL_law_384 dL_law_385 dL_law_386 dL_law_387 dL_law_388 (by omega) ?_
  refine la_callI [vi (xs (i + 1)).toInt, vi (xs (i + 2)).toInt] [] dL_law_389 vl_L_48 rfl rfl rfl rfl (Nat.le_of_ble_eq_true rfl) ⟨by decide, by decide⟩ (c_put hc.1 hc.2.2.1) (fun z M1 h1 => ?_)
  have hh : hiS M M1 := by
    rcases h1 with ⟨_, _, e⟩ | ⟨_, ⟨_, _, e⟩ | ⟨_, _, e⟩⟩ <;> rw [e]
    · exact hiS_r M
    · exact hiS_r M
    · exact hiS_t hiS_bk (hiS_up (by decide))
  refine la_m dL_law_392 ?_
  refine la_arg 1 dL_law_393 dL_law_394 dL_law_395 dL_law_396 dL_law_397 (by omega) ?_
  refine la_arg 2 dL_law_398 dL_law_399 dL_law_400 dL_law_401 dL_law_402 (by omega) ?_
  refine la_callI [vi (xs (i + 1)).toInt, vi (xs (i + 2)).toInt] [vi z] dL_law_403 vl_L_51 rfl rfl rfl rfl (Nat.le_of_ble_eq_true rfl) ⟨by decide, by decide⟩ (m_put (pN hc hh) (pK hc hh) hc.2.2.1.2.2.1) (fun z' M2 h2 => ?_)
  obtain ⟨e, hR2⟩ := rs_put hR hc h1 h2
  exact la_eq dL_law_406 (by decide) e (kk M2 hR2)
set_option maxHeartbeats 4000000 in
set_option maxRecDepth 100000 in
theorem lc_9 {g : fG} {sb L : Nat} {xs : Nat → Int32} {i : Nat} {M : fM} (hi : i + 6 ≤ L) (hR : Rel M) (kk : ∀ M2, Rel M2 → lAt g sb L xs 1138 i [] M2) : lAt g sb L xs 411 i [] M := by
  obtain ⟨⟨w, p, kn, od, hc⟩, -⟩ := id hR
  refine la_x dL_law_411 ?_
  refine la_arg 1 dL_law_412 dL_law_413 dL_law_414 dL_law_415 dL_law_416 (by omega) ?_
  refine la_callI [vi (xs (i + 1)).toInt] [] dL_law_417 vl_L_52 rfl rfl rfl rfl (Nat.le_of_ble_eq_true rfl) ⟨by decide, by decide⟩ (c_shape hc.1 hc.2.2.1) (fun z M1 h1 => ?_)
  have hh : hiS M M1 := by
    rcases h1 with ⟨_, _, e⟩ | ⟨_, ⟨_, _, e⟩ | ⟨_, _, e⟩⟩ <;> rw [e]
    · exact hiS_r M
    · exact hiS_r M
    · exact hiS_t hiS_bk (hiS_up (by decide))
  refine la_m dL_law_420 ?_
  refine la_arg 1 dL_law_421 dL_law_422 dL_law_423 dL_law_424 dL_law_425 (by omega) ?_
  refine la_callI [vi (xs (i + 1)).toInt] [vi z] dL_law_426 vl_L_55 rfl rfl rfl rfl (Nat.le_of_ble_eq_true rfl) ⟨by decide, by decide⟩ (m_shape (pN hc hh) (pK hc hh) hc.2.2.1.2.2.1) (fun z' M2 h2 => ?_)
  obtain ⟨e, hR2⟩ := rs_shape hR hc h1 h2
  exact la_eq dL_law_429 (by decide) e (kk M2 hR2)
set_option maxHeartbeats 4000000 in
set_option maxRecDepth 100000 in
theorem lc_10 {g : fG} {sb L : Nat} {xs : Nat → Int32} {i : Nat} {M : fM} (hi : i + 6 ≤ L) (hR : Rel M) (kk : ∀ M2, Rel M2 → lAt g sb L xs 1138 i [] M2) : lAt g sb L xs 434 i [] M := by
  obtain ⟨⟨w, p, kn, od, hc⟩, -⟩ := id hR
  refine la_x dL_law_434 ?_
  refine la_callI [] [] dL_law_435 vl_L_56 rfl rfl rfl rfl (Nat.le_of_ble_eq_true rfl) ⟨by decide, by decide⟩ (c_widen hc.1 hc.2.2.1) (fun z M1 h1 => ?_)
  have hh : hiS M M1 := by
    rcases h1 with ⟨_, _, e⟩ | ⟨_, _, e⟩ <;> rw [e]
    · exact hiS_r M
    · exact hiS_t hiS_bk hiS_ad
  refine la_m dL_law_438 ?_
  refine la_callI [] [vi z] dL_law_439 vl_L_59 rfl rfl rfl rfl (Nat.le_of_ble_eq_true rfl) ⟨by decide, by decide⟩ (m_widen (pN hc hh) (pK hc hh) hc.2.2.1.2.2.1) (fun z' M2 h2 => ?_)
  obtain ⟨e, hR2⟩ := rs_widen hR hc h1 h2
  exact la_eq dL_law_442 (by decide) e (kk M2 hR2)
set_option maxHeartbeats 4000000 in
set_option maxRecDepth 100000 in
theorem lc_11 {g : fG} {sb L : Nat} {xs : Nat → Int32} {i : Nat} {M : fM} (hi : i + 6 ≤ L) (hR : Rel M) (kk : ∀ M2, Rel M2 → lAt g sb L xs 1138 i [] M2) : lAt g sb L xs 447 i [] M := by
  obtain ⟨⟨w, p, kn, od, hc⟩, -⟩ := id hR
  refine la_x dL_law_447 ?_
  refine la_callI [] [] dL_law_448 vl_L_60 rfl rfl rfl rfl (Nat.le_of_ble_eq_true rfl) ⟨by decide, by decide⟩ (c_cut hc.1 hc.2.2.1) (fun z M1 h1 => ?_)
  have hh : hiS M M1 := by
    rcases h1 with ⟨_, _, e⟩ | ⟨_, _, e⟩ <;> rw [e]
    · exact hiS_r M
    · exact hiS_t hiS_bk hiS_dr
  refine la_m dL_law_451 ?_
  refine la_callI [] [vi z] dL_law_452 vl_L_63 rfl rfl rfl rfl (Nat.le_of_ble_eq_true rfl) ⟨by decide, by decide⟩ (m_cut (pN hc hh) (pK hc hh) hc.2.2.1.2.2.1) (fun z' M2 h2 => ?_)
  obtain ⟨e, hR2⟩ := rs_cut hR hc h1 h2
  exact la_eq dL_law_455 (by decide) e (kk M2 hR2)
set_option maxHeartbeats 4000000 in
set_option maxRecDepth 100000 in
theorem lc_12 {g : fG} {sb L : Nat} {xs : Nat → Int32} {i : Nat} {M : fM} (hi : i + 6 ≤ L) (hR : Rel M) (kk : ∀ M2, Rel M2 → lAt g sb L xs 1138 i [] M2) : lAt g sb L xs 460 i [] M := by
  obtain ⟨⟨w, p, kn, od, hc⟩, -⟩ := id hR
  refine la_x dL_law_460 ?_
  refine la_callI [] [] dL_law_461 vl_L_64 rfl rfl rfl rfl (Nat.le_of_ble_eq_true rfl) ⟨by decide, by decide⟩ (c_turn hc.1 hc.2.2.1) (fun z M1 h1 => ?_)
  have hh : hiS M M1 := hiS_t (hiS_t hiS_bk hiS_rv) (hiS_z (zS_g h1.2.1))
  refine la_m dL_law_464 ?_
  refine la_callI [] [vi z] dL_law_465 vl_L_67 rfl rfl rfl rfl (Nat.le_of_ble_eq_true rfl) ⟨by decide, by decide⟩ (m_turn (pN hc hh) (pK hc hh) hc.2.2.1.2.2.1) (fun z' M2 h2 => ?_)
  obtain ⟨e, hR2⟩ := rs_turn hR hc h1 h2
  exact la_eq dL_law_468 (by decide) e (kk M2 hR2)
set_option maxHeartbeats 4000000 in
set_option maxRecDepth 100000 in
theorem lc_13 {g : fG} {sb L : Nat} {xs : Nat → Int32} {i : Nat} {M : fM} (hi : i + 6 ≤ L) (hR : Rel M) (kk : ∀ M2, Rel M2 → lAt g sb L xs 1138 i [] M2) : lAt g sb L xs 473 i [] M := by
  obtain ⟨⟨w, p, kn, od, hc⟩, -⟩ := id hR
  refine la_x dL_law_473 ?_
  refine la_arg 1 dL_law_474 dL_law_475 dL_law_476 dL_law_477 dL_law_478 (by omega) ?_
  refine la_callI [vi (xs (i + 1)).toInt] [] dL_law_479 vl_L_68 rfl rfl rfl rfl (Nat.le_of_ble_eq_true rfl) ⟨by decide, by decide⟩ (c_drift hc.1 hc.2.2.1) (fun z M1 h1 => ?_)
  have hh : hiS M M1 := by
    rcases h1 with ⟨_, _, e⟩ | ⟨_, _, hS, _⟩
    · rw [e]; exact hiS_r M
    · exact hiS_t (hiS_dN _) (hiS_z (zS_g hS))
  refine la_m dL_law_482 ?_
  refine la_arg 1 dL_law_483 dL_law_484 dL_law_485 dL_law_486 dL_law_487 (by omega) ?_
  refine la_callI [vi (xs (i + 1)).toInt] [vi z] dL_law_488 vl_L_71 rfl rfl rfl rfl (Nat.le_of_ble_eq_true rfl) ⟨by decide, by decide⟩ (m_drift (pN hc hh) (pK hc hh) hc.2.2.1.2.2.1) (fun z' M2 h2 => ?_)
  obtain ⟨e, hR2⟩ := rs_drift hR hc h1 h2
  exact la_eq dL_law_491 (by decide) e (kk M2 hR2)
set_option maxHeartbeats 4000000 in
set_option maxRecDepth 100000 in
theorem lc_14 {g : fG} {sb L : Nat} {xs : Nat → Int32} {i : Nat} {M : fM} (hi : i + 6 ≤ L) (hR : Rel M) (kk : ∀ M2, Rel M2 → lAt g sb L xs 1138 i [] M2) : lAt g sb L xs 496 i [] M := by
  obtain ⟨⟨w, p, kn, od, hc⟩, -⟩ := id hR
  refine la_x dL_law_496 ?_
  refine la_callI [] [] dL_law_497 vl_L_72 rfl rfl rfl rfl (Nat.le_of_ble_eq_true rfl) ⟨by decide, by decide⟩ (c_undo hc.1 hc.2.2.1) (fun z M1 h1 => ?_)
  have hh : hiS M M1 := by
    rcases h1 with ⟨_, _, e⟩ | ⟨_, _, e⟩ <;> rw [e]
    · exact hiS_r M
    · exact hiS_bs
  refine la_m dL_law_500 ?_
  refine la_callI [] [vi z] dL_law_501 vl_L_75 rfl rfl rfl rfl (Nat.le_of_ble_eq_true rfl) ⟨by decide, by decide⟩ (m_undo (pK hc hh) hc.2.2.1.2.2.1) (fun z' M2 h2 => ?_)
  obtain ⟨e, hR2⟩ := rs_undo hR hc h1 h2
  exact la_eq dL_law_504 (by decide) e (kk M2 hR2)
set_option maxHeartbeats 4000000 in
set_option maxRecDepth 100000 in
theorem lc_15 {g : fG} {sb L : Nat} {xs : Nat → Int32} {i : Nat} {M : fM} (hi : i + 6 ≤ L) (hR : Rel M) (kk : ∀ M2, Rel M2 → lAt g sb L xs 1138 i [] M2) : lAt g sb L xs 509 i [] M := by
  obtain ⟨⟨w, p, kn, od, hc⟩, -⟩ := id hR
  refine la_x dL_law_509 ?_
  refine la_arg 1 dL_law_510 dL_law_511 dL_law_512 dL_law_513 dL_law_514 (by omega) ?_
  refine la_callI [vi (xs (i + 1)).toInt] [] dL_law_515 vl_L_76 rfl rfl rfl rfl (Nat.le_of_ble_eq_true rfl) ⟨by decide, by decide⟩ (c_seed) (fun z M1 h1 => ?_)
  have hh : hiS M M1 := by
    rcases h1 with ⟨_, _, e⟩ | ⟨_, _, e⟩ <;> rw [e]
    · exact hiS_r M
    · exact hiS_up (by decide)
  refine la_m dL_law_518 ?_
  refine la_arg 1 dL_law_519 dL_law_520 dL_law_521 dL_law_522 dL_law_523 (by omega) ?_
  refine la_callI [vi (xs (i + 1)).toInt] [vi z] dL_law_524 vl_L_79 rfl rfl rfl rfl (Nat.le_of_ble_eq_true rfl) ⟨by decide, by decide⟩ (m_seed) (fun z' M2 h2 => ?_)
  obtain ⟨e, hR2⟩ := rs_seed hR hc (r32_in _) h1 h2
  exact la_eq dL_law_527 (by decide) e (kk M2 hR2)
set_option maxHeartbeats 4000000 in
set_option maxRecDepth 100000 in
theorem lc_16 {g : fG} {sb L : Nat} {xs : Nat → Int32} {i : Nat} {M : fM} (hi : i + 6 ≤ L) (hR : Rel M) (kk : ∀ M2, Rel M2 → lAt g sb L xs 1138 i [] M2) : lAt g sb L xs 532 i [] M := by
  obtain ⟨⟨w, p, kn, od, hc⟩, -⟩ := id hR
  refine la_x dL_law_532 ?_
  refine la_arg 1 dL_law_533 dL_law_534 dL_law_535 dL_law_536 dL_law_537 (by omega) ?_
  refine la_callI [vi (xs (i + 1)).toInt] [] dL_law_538 vl_L_80 rfl rfl rfl rfl (Nat.le_of_ble_eq_true rfl) ⟨by decide, by decide⟩ (c_corner hc.1) (fun z M1 h1 => ?_)
  have hh : hiS M M1 := hiS_z (zS_g h1.2.1)
  refine la_m dL_law_541 ?_
  refine la_arg 1 dL_law_542 dL_law_543 dL_law_544 dL_law_545 dL_law_546 (by omega) ?_
  refine la_callI [vi (xs (i + 1)).toInt] [vi z] dL_law_547 vl_L_83 rfl rfl rfl rfl (Nat.le_of_ble_eq_true rfl) ⟨by decide, by decide⟩ (m_corner (pN hc hh)) (fun z' M2 h2 => ?_)
  obtain ⟨e, hR2⟩ := rs_corner hR hc h1 h2
  exact la_eq dL_law_550 (by decide) e (kk M2 hR2)
set_option maxHeartbeats 4000000 in
set_option maxRecDepth 100000 in
theorem lc_17 {g : fG} {sb L : Nat} {xs : Nat → Int32} {i : Nat} {M : fM} (hi : i + 6 ≤ L) (hR : Rel M) (kk : ∀ M2, Rel M2 → lAt g sb L xs 1138 i [] M2) : lAt g sb L xs 555 i [] M := by
  obtain ⟨⟨w, p, kn, od, hc⟩, -⟩ := id hR
  refine la_x dL_law_555 ?_
  refine la_arg 1 dL_law_556 dL_law_557 dL_law_558 dL_law_559 dL_law_560 (by omega) ?_
  refine la_callI [vi (xs (i + 1)).toInt] [] dL_law_561 vl_L_84 rfl rfl rfl rfl (Nat.le_of_ble_eq_true rfl) ⟨by decide, by decide⟩ (c_leap hc.1) (fun z M1 h1 => ?_)
  have hh : hiS M M1 := hiS_z (zS_g h1.2.1)
  refine la_m dL_law_564 ?_
  refine la_arg 1 dL_law_565 dL_law_566 dL_law_567 dL_law_568 dL_law_569 (by omega) ?_
  refine la_callI [vi (xs (i + 1)).toInt] [vi z] dL_law_570 vl_L_87 rfl rfl rfl rfl (Nat.le_of_ble_eq_true rfl) ⟨by decide, by decide⟩ (m_leap (pN hc hh)) (fun z' M2 h2 => ?_)
  obtain ⟨e, hR2⟩ := rs_leap hR hc h1 h2
  exact la_eq dL_law_573 (by decide) e (kk M2 hR2)
set_option maxHeartbeats 4000000 in
set_option maxRecDepth 100000 in
theorem lc_18 {g : fG} {sb L : Nat} {xs : Nat → Int32} {i : Nat} {M : fM} (hi : i + 6 ≤ L) (hR : Rel M) (kk : ∀ M2, Rel M2 → lAt g sb L xs 1138 i [] M2) : lAt g sb L xs 578 i [] M := by
  obtain ⟨⟨w, p, kn, od, hc⟩, -⟩ := id hR
  refine la_x dL_law_578 ?_
  refine la_arg 1 dL_law_579 dL_law_580 dL_law_581 dL_law_582 dL_law_583 (by omega) ?_
  refine la_callL [vi (xs (i + 1)).toInt] [] dL_law_584 vl_L_88 rfl rfl rfl rfl (Nat.le_of_ble_eq_true rfl) ⟨by decide, by decide⟩ (c_solved hc.1) (fun z M1 h1 => ?_)
  have hh : hiS M M1 := hiS_z (zS_g h1.2.1)
  refine la_m dL_law_587 ?_
  refine la_arg 1 dL_law_588 dL_law_589 dL_law_590 dL_law_591 dL_law_592 (by omega) ?_
  refine la_callL [vi (xs (i + 1)).toInt] [vl z] dL_law_593 vl_L_92 rfl rfl rfl rfl (Nat.le_of_ble_eq_true rfl) ⟨by decide, by decide⟩ (m_solved (pN hc hh)) (fun z' M2 h2 => ?_)
  obtain ⟨e, hR2⟩ := rs_solved hR hc h1 h2
  exact la_leq dL_law_596 dL_law_597 (by decide) e (kk M2 hR2)
set_option maxHeartbeats 4000000 in
set_option maxRecDepth 100000 in
theorem lc_19 {g : fG} {sb L : Nat} {xs : Nat → Int32} {i : Nat} {M : fM} (hi : i + 6 ≤ L) (hR : Rel M) (kk : ∀ M2, Rel M2 → lAt g sb L xs 1138 i [] M2) : lAt g sb L xs 602 i [] M := by
  obtain ⟨⟨w, p, kn, od, hc⟩, -⟩ := id hR
  refine la_x dL_law_602 ?_
  refine la_arg 1 dL_law_603 dL_law_604 dL_law_605 dL_law_606 dL_law_607 (by omega) ?_
  refine la_arg 2 dL_law_608 dL_law_609 dL_law_610 dL_law_611 dL_law_612 (by omega) ?_
  refine la_callI [vi (xs (i + 1)).toInt, vi (xs (i + 2)).toInt] [] dL_law_613 vl_L_93 rfl rfl rfl rfl (Nat.le_of_ble_eq_true rfl) ⟨by decide, by decide⟩ (c_inverse hc.1) (fun z M1 h1 => ?_)
  have hh : hiS M M1 := hiS_z (zS_g h1.2.1)
  refine la_m dL_law_616 ?_
  refine la_arg 1 dL_law_617 dL_law_618 dL_law_619 dL_law_620 dL_law_621 (by omega) ?_
  refine la_arg 2 dL_law_622 dL_law_623 dL_law_624 dL_law_625 dL_law_626 (by omega) ?_
  refine la_callI [vi (xs (i + 1)).toInt, vi (xs (i + 2)).toInt] [vi z] dL_law_627 vl_L_96 rfl rfl rfl rfl (Nat.le_of_ble_eq_true rfl) ⟨by decide, by decide⟩ (m_inverse (pN hc hh)) (fun z' M2 h2 => ?_)
  obtain ⟨e, hR2⟩ := rs_inverse hR hc h1 h2
  exact la_eq dL_law_630 (by decide) e (kk M2 hR2)
set_option maxHeartbeats 4000000 in
set_option maxRecDepth 100000 in
theorem lc_20 {g : fG} {sb L : Nat} {xs : Nat → Int32} {i : Nat} {M : fM} (hi : i + 6 ≤ L) (hR : Rel M) (kk : ∀ M2, Rel M2 → lAt g sb L xs 1138 i [] M2) : lAt g sb L xs 635 i [] M := by
  obtain ⟨⟨w, p, kn, od, hc⟩, -⟩ := id hR
  refine la_x dL_law_635 ?_
  refine la_arg 1 dL_law_636 dL_law_637 dL_law_638 dL_law_639 dL_law_640 (by omega) ?_
  refine la_arg 2 dL_law_641 dL_law_642 dL_law_643 dL_law_644 dL_law_645 (by omega) ?_
  refine la_callI [vi (xs (i + 1)).toInt, vi (xs (i + 2)).toInt] [] dL_law_646 vl_L_97 rfl rfl rfl rfl (Nat.le_of_ble_eq_true rfl) ⟨by decide, by decide⟩ (c_weak hc.1) (fun z M1 h1 => ?_)
  have hh : hiS M M1 := hiS_z (zS_tt h1.2.1)
  refine la_m dL_law_649 ?_
  refine la_arg 1 dL_law_650 dL_law_651 dL_law_652 dL_law_653 dL_law_654 (by omega) ?_
  refine la_arg 2 dL_law_655 dL_law_656 dL_law_657 dL_law_658 dL_law_659 (by omega) ?_
  refine la_callI [vi (xs (i + 1)).toInt, vi (xs (i + 2)).toInt] [vi z] dL_law_660 vl_L_100 rfl rfl rfl rfl (Nat.le_of_ble_eq_true rfl) ⟨by decide, by decide⟩ (m_weak (pN hc hh)) (fun z' M2 h2 => ?_)
  obtain ⟨e, hR2⟩ := rs_weak hR hc h1 h2
  exact la_eq dL_law_663 (by decide) e (kk M2 hR2)
set_option maxHeartbeats 4000000 in
set_option maxRecDepth 100000 in
theorem lc_21 {g : fG} {sb L : Nat} {xs : Nat → Int32} {i : Nat} {M : fM} (hi : i + 6 ≤ L) (hR : Rel M) (kk : ∀ M2, Rel M2 → lAt g sb L xs 1138 i [] M2) : lAt g sb L xs 668 i [] M := by
  obtain ⟨⟨w, p, kn, od, hc⟩, -⟩ := id hR
  refine la_x dL_law_668 ?_
  refine la_arg 1 dL_law_669 dL_law_670 dL_law_671 dL_law_672 dL_law_673 (by omega) ?_
  refine la_callI [vi (xs (i + 1)).toInt] [] dL_law_674 vl_L_101 rfl rfl rfl rfl (Nat.le_of_ble_eq_true rfl) ⟨by decide, by decide⟩ (c_mend hc.1) (fun z M1 h1 => ?_)
  have hh : hiS M M1 := hiS_z (zS_tt h1.2.1)
  refine la_m dL_law_677 ?_
  refine la_arg 1 dL_law_678 dL_law_679 dL_law_680 dL_law_681 dL_law_682 (by omega) ?_
  refine la_callI [vi (xs (i + 1)).toInt] [vi z] dL_law_683 vl_L_104 rfl rfl rfl rfl (Nat.le_of_ble_eq_true rfl) ⟨by decide, by decide⟩ (m_mend (pN hc hh)) (fun z' M2 h2 => ?_)
  obtain ⟨e, hR2⟩ := rs_mend hR hc h1 h2
  exact la_eq dL_law_686 (by decide) e (kk M2 hR2)
set_option maxHeartbeats 4000000 in
set_option maxRecDepth 100000 in
theorem lc_22 {g : fG} {sb L : Nat} {xs : Nat → Int32} {i : Nat} {M : fM} (hi : i + 6 ≤ L) (hR : Rel M) (kk : ∀ M2, Rel M2 → lAt g sb L xs 1138 i [] M2) : lAt g sb L xs 691 i [] M := by
  obtain ⟨⟨w, p, kn, od, hc⟩, -⟩ := id hR
  refine la_x dL_law_691 ?_
  refine la_arg 1 dL_law_692 dL_law_693 dL_law_694 dL_law_695 dL_law_696 (by omega) ?_
  refine la_callI [vi (xs (i + 1)).toInt] [] dL_law_697 vl_L_105 rfl rfl rfl rfl (Nat.le_of_ble_eq_true rfl) ⟨by decide, by decide⟩ (c_term hc.1) (fun z M1 h1 => ?_)
  have hh : hiS M M1 := hiS_z (zS_g h1.2.1)
  refine la_m dL_law_700 ?_
  refine la_arg 1 dL_law_701 dL_law_702 dL_law_703 dL_law_704 dL_law_705 (by omega) ?_
  refine la_callI [vi (xs (i + 1)).toInt] [vi z] dL_law_706 vl_L_108 rfl rfl rfl rfl (Nat.le_of_ble_eq_true rfl) ⟨by decide, by decide⟩ (m_term (pN hc hh)) (fun z' M2 h2 => ?_)
  obtain ⟨e, hR2⟩ := rs_term hR hc h1 h2
  exact la_eq dL_law_709 (by decide) e (kk M2 hR2)
set_option maxHeartbeats 4000000 in
set_option maxRecDepth 100000 in
theorem lc_23 {g : fG} {sb L : Nat} {xs : Nat → Int32} {i : Nat} {M : fM} (hi : i + 6 ≤ L) (hR : Rel M) (kk : ∀ M2, Rel M2 → lAt g sb L xs 1138 i [] M2) : lAt g sb L xs 714 i [] M := by
  obtain ⟨⟨w, p, kn, od, hc⟩, -⟩ := id hR
  refine la_x dL_law_714 ?_
  refine la_arg 1 dL_law_715 dL_law_716 dL_law_717 dL_law_718 dL_law_719 (by omega) ?_
  refine la_callI [vi (xs (i + 1)).toInt] [] dL_law_720 vl_L_109 rfl rfl rfl rfl (Nat.le_of_ble_eq_true rfl) ⟨by decide, by decide⟩ (c_next hc.1) (fun z M1 h1 => ?_)
  have hh : hiS M M1 := hiS_z (zS_u h1.2.1)
  refine la_m dL_law_723 ?_
  refine la_arg 1 dL_law_724 dL_law_725 dL_law_726 dL_law_727 dL_law_728 (by omega) ?_
  refine la_callI [vi (xs (i + 1)).toInt] [vi z] dL_law_729 vl_L_112 rfl rfl rfl rfl (Nat.le_of_ble_eq_true rfl) ⟨by decide, by decide⟩ (m_next (pN hc hh)) (fun z' M2 h2 => ?_)
  obtain ⟨e, hR2⟩ := rs_next hR hc h1 h2
  exact la_eq dL_law_732 (by decide) e (kk M2 hR2)
set_option maxHeartbeats 4000000 in
set_option maxRecDepth 100000 in
theorem lc_24 {g : fG} {sb L : Nat} {xs : Nat → Int32} {i : Nat} {M : fM} (hi : i + 6 ≤ L) (hR : Rel M) (kk : ∀ M2, Rel M2 → lAt g sb L xs 1138 i [] M2) : lAt g sb L xs 737 i [] M := by
  obtain ⟨⟨w, p, kn, od, hc⟩, -⟩ := id hR
  refine la_x dL_law_737 ?_
  refine la_arg 1 dL_law_738 dL_law_739 dL_law_740 dL_law_741 dL_law_742 (by omega) ?_
  refine la_arg 2 dL_law_743 dL_law_744 dL_law_745 dL_law_746 dL_law_747 (by omega) ?_
  refine la_callL [vi (xs (i + 1)).toInt, vi (xs (i + 2)).toInt] [] dL_law_748 vl_L_113 rfl rfl rfl rfl (Nat.le_of_ble_eq_true rfl) ⟨by decide, by decide⟩ (c_wiped hc.1 hR.2.2.2.2) (fun z M1 h1 => ?_)
  have hh : hiS M M1 := hiS_z (zS_v h1.2.1)
  refine la_m dL_law_751 ?_
  refine la_arg 1 dL_law_752 dL_law_753 dL_law_754 dL_law_755 dL_law_756 (by omega) ?_
  refine la_arg 2 dL_law_757 dL_law_758 dL_law_759 dL_law_760 dL_law_761 (by omega) ?_
  refine la_callL [vi (xs (i + 1)).toInt, vi (xs (i + 2)).toInt] [vl z] dL_law_762 vl_L_117 rfl rfl rfl rfl (Nat.le_of_ble_eq_true rfl) ⟨by decide, by decide⟩ (m_wiped (pN hc hh)) (fun z' M2 h2 => ?_)
  obtain ⟨e, hR2⟩ := rs_wiped hR hc h1 h2
  exact la_leq dL_law_765 dL_law_766 (by decide) e (kk M2 hR2)
set_option maxHeartbeats 4000000 in
set_option maxRecDepth 100000 in
theorem lc_25 {g : fG} {sb L : Nat} {xs : Nat → Int32} {i : Nat} {M : fM} (hi : i + 6 ≤ L) (hR : Rel M) (kk : ∀ M2, Rel M2 → lAt g sb L xs 1138 i [] M2) : lAt g sb L xs 771 i [] M := by
  obtain ⟨⟨w, p, kn, od, hc⟩, -⟩ := id hR
  refine la_x dL_law_771 ?_
  refine la_callI [] [] dL_law_772 vl_L_118 rfl rfl rfl rfl (Nat.le_of_ble_eq_true rfl) ⟨by decide, by decide⟩ (c_image) (fun z M1 h1 => ?_)
  have hh : hiS M M1 := by rw [h1.2]; exact hiS_t hiS_bt (hiS_up (by decide))
  refine la_m dL_law_775 ?_
  refine la_callI [] [vi z] dL_law_776 vl_L_121 rfl rfl rfl rfl (Nat.le_of_ble_eq_true rfl) ⟨by decide, by decide⟩ (m_image) (fun z' M2 h2 => ?_)
  obtain ⟨e, hR2⟩ := rs_image hR hc h1 h2
  exact la_eq dL_law_779 (by decide) e (kk M2 hR2)
set_option maxHeartbeats 4000000 in
set_option maxRecDepth 100000 in
theorem lc_26 {g : fG} {sb L : Nat} {xs : Nat → Int32} {i : Nat} {M : fM} (hi : i + 6 ≤ L) (hR : Rel M) (kk : ∀ M2, Rel M2 → lAt g sb L xs 1138 i [] M2) : lAt g sb L xs 784 i [] M := by
  obtain ⟨⟨w, p, kn, od, hc⟩, -⟩ := id hR
  refine la_x dL_law_784 ?_
  refine la_callI [] [] dL_law_785 vl_L_122 rfl rfl rfl rfl (Nat.le_of_ble_eq_true rfl) ⟨by decide, by decide⟩ (c_restore) (fun z M1 h1 => ?_)
  have hh : hiS M M1 := by
    rcases h1 with ⟨_, _, e⟩ | ⟨_, _, e⟩ <;> rw [e]
    · exact hiS_r M
    · exact hiS_bt
  refine la_m dL_law_788 ?_
  refine la_callI [] [vi z] dL_law_789 vl_L_125 rfl rfl rfl rfl (Nat.le_of_ble_eq_true rfl) ⟨by decide, by decide⟩ (m_restore) (fun z' M2 h2 => ?_)
  obtain ⟨e, hR2⟩ := rs_restore hR h1 h2
  exact la_eq dL_law_792 (by decide) e (kk M2 hR2)
set_option maxHeartbeats 4000000 in
set_option maxRecDepth 100000 in
theorem lc_27 {g : fG} {sb L : Nat} {xs : Nat → Int32} {i : Nat} {M : fM} (hi : i + 6 ≤ L) (hR : Rel M) (kk : ∀ M2, Rel M2 → lAt g sb L xs 1138 i [] M2) : lAt g sb L xs 797 i [] M := by
  obtain ⟨⟨w, p, kn, od, hc⟩, -⟩ := id hR
  refine la_x dL_law_797 ?_
  refine la_arg 1 dL_law_798 dL_law_799 dL_law_800 dL_law_801 dL_law_802 (by omega) ?_
  refine la_arg 2 dL_law_803 dL_law_804 dL_law_805 dL_law_806 dL_law_807 (by omega) ?_
  refine la_arg 3 dL_law_808 dL_law_809 dL_law_810 dL_law_811 dL_law_812 (by omega) ?_
  refine la_callI [vi (xs (i + 1)).toInt, vi (xs (i + 2)).toInt, vi (xs (i + 3)).toInt] [] dL_law_813 vl_L_126 rfl rfl rfl rfl (Nat.le_of_ble_eq_true rfl) ⟨by decide, by decide⟩ (c_came hc.1 (pS hR)) (fun z M1 h1 => ?_)
  have hh : hiS M M1 := hiS_z (zS_u h1.2.1)
  refine la_m dL_law_816 ?_
  refine la_arg 1 dL_law_817 dL_law_818 dL_law_819 dL_law_820 dL_law_821 (by omega) ?_
  refine la_arg 2 dL_law_822 dL_law_823 dL_law_824 dL_law_825 dL_law_826 (by omega) ?_
  refine la_arg 3 dL_law_827 dL_law_828 dL_law_829 dL_law_830 dL_law_831 (by omega) ?_
  refine la_callI [vi (xs (i + 1)).toInt, vi (xs (i + 2)).toInt, vi (xs (i + 3)).toInt] [vi z] dL_law_832 vl_L_130 rfl rfl rfl rfl (Nat.le_of_ble_eq_true rfl) ⟨by decide, by decide⟩ (m_came (pN hc hh) (pZ hR hh)) (fun z' M2 h2 => ?_)
  obtain ⟨e, hR2⟩ := rs_came hR hc h1 h2
  exact la_eq dL_law_835 (by decide) e (kk M2 hR2)
set_option maxHeartbeats 4000000 in
set_option maxRecDepth 100000 in
theorem lc_28 {g : fG} {sb L : Nat} {xs : Nat → Int32} {i : Nat} {M : fM} (hi : i + 6 ≤ L) (hR : Rel M) (kk : ∀ M2, Rel M2 → lAt g sb L xs 1138 i [] M2) : lAt g sb L xs 840 i [] M := by
  obtain ⟨⟨w, p, kn, od, hc⟩, -⟩ := id hR
  refine la_x dL_law_840 ?_
  refine la_arg 1 dL_law_841 dL_law_842 dL_law_843 dL_law_844 dL_law_845 (by omega) ?_
  refine la_arg 2 dL_law_846 dL_law_847 dL_law_848 dL_law_849 dL_law_850 (by omega) ?_
  refine la_arg 3 dL_law_851 dL_law_852 dL_law_853 dL_law_854 dL_law_855 (by omega) ?_
  refine la_callI [vi (xs (i + 1)).toInt, vi (xs (i + 2)).toInt, vi (xs (i + 3)).toInt] [] dL_law_856 vl_L_131 rfl rfl rfl rfl (Nat.le_of_ble_eq_true rfl) ⟨by decide, by decide⟩ (c_apply hc.1 (pS hR)) (fun z M1 h1 => ?_)
  have hh : hiS M M1 := by
    rcases h1.1 with ⟨_, _, hS⟩ | ⟨_, ⟨_, _, hS⟩ | ⟨_, _, hS⟩⟩
    · exact hiS_z (zS_u hS)
    · exact hiS_z (zS_u hS)
    · exact hiS_t hiS_ap (hiS_z (zS_u hS))
  refine la_m dL_law_859 ?_
  refine la_arg 1 dL_law_860 dL_law_861 dL_law_862 dL_law_863 dL_law_864 (by omega) ?_
  refine la_arg 2 dL_law_865 dL_law_866 dL_law_867 dL_law_868 dL_law_869 (by omega) ?_
  refine la_arg 3 dL_law_870 dL_law_871 dL_law_872 dL_law_873 dL_law_874 (by omega) ?_
  refine la_callI [vi (xs (i + 1)).toInt, vi (xs (i + 2)).toInt, vi (xs (i + 3)).toInt] [vi z] dL_law_875 vl_L_134 rfl rfl rfl rfl (Nat.le_of_ble_eq_true rfl) ⟨by decide, by decide⟩ (m_apply (pN hc hh) (pZ hR hh)) (fun z' M2 h2 => ?_)
  obtain ⟨e, hR2⟩ := rs_apply hR hc h1 h2
  exact la_eq dL_law_878 (by decide) e (kk M2 hR2)
set_option maxHeartbeats 4000000 in
set_option maxRecDepth 100000 in
theorem lc_29 {g : fG} {sb L : Nat} {xs : Nat → Int32} {i : Nat} {M : fM} (hi : i + 6 ≤ L) (hR : Rel M) (kk : ∀ M2, Rel M2 → lAt g sb L xs 1138 i [] M2) : lAt g sb L xs 883 i [] M := by
  obtain ⟨⟨w, p, kn, od, hc⟩, -⟩ := id hR
  refine la_x dL_law_883 ?_
  refine la_arg 1 dL_law_884 dL_law_885 dL_law_886 dL_law_887 dL_law_888 (by omega) ?_
  refine la_arg 2 dL_law_889 dL_law_890 dL_law_891 dL_law_892 dL_law_893 (by omega) ?_
  refine la_arg 3 dL_law_894 dL_law_895 dL_law_896 dL_law_897 dL_law_898 (by omega) ?_
  refine la_callI [vi (xs (i + 1)).toInt, vi (xs (i + 2)).toInt, vi (xs (i + 3)).toInt] [] dL_law_899 vl_L_135 rfl rfl rfl rfl (Nat.le_of_ble_eq_true rfl) ⟨by decide, by decide⟩ (c_film hc.1 (pS hR)) (fun z M1 h1 => ?_)
  have hh : hiS M M1 := by
    rcases h1.1 with ⟨_, _, hS⟩ | ⟨_, _, _, _, ⟨_, _, hS⟩ | ⟨_, _, hS⟩⟩
    · exact hiS_z (zS_u hS)
    · exact hiS_z (zS_u hS)
    · exact hiS_t hiS_ap (hiS_z (zS_u hS))
  refine la_m dL_law_902 ?_
  refine la_arg 1 dL_law_903 dL_law_904 dL_law_905 dL_law_906 dL_law_907 (by omega) ?_
  refine la_arg 2 dL_law_908 dL_law_909 dL_law_910 dL_law_911 dL_law_912 (by omega) ?_
  refine la_arg 3 dL_law_913 dL_law_914 dL_law_915 dL_law_916 dL_law_917 (by omega) ?_
  refine la_callI [vi (xs (i + 1)).toInt, vi (xs (i + 2)).toInt, vi (xs (i + 3)).toInt] [vi z] dL_law_918 vl_L_138 rfl rfl rfl rfl (Nat.le_of_ble_eq_true rfl) ⟨by decide, by decide⟩ (m_film (pN hc hh) (pZ hR hh)) (fun z' M2 h2 => ?_)
  obtain ⟨e, hR2⟩ := rs_film hR hc h1 h2
  exact la_eq dL_law_921 (by decide) e (kk M2 hR2)
set_option maxHeartbeats 4000000 in
set_option maxRecDepth 100000 in
theorem lc_30 {g : fG} {sb L : Nat} {xs : Nat → Int32} {i : Nat} {M : fM} (hi : i + 6 ≤ L) (hR : Rel M) (kk : ∀ M2, Rel M2 → lAt g sb L xs 1138 i [] M2) : lAt g sb L xs 926 i [] M := by
  obtain ⟨⟨w, p, kn, od, hc⟩, -⟩ := id hR
  refine la_x dL_law_926 ?_
  refine la_arg 1 dL_law_927 dL_law_928 dL_law_929 dL_law_930 dL_law_931 (by omega) ?_
  refine la_arg 2 dL_law_932 dL_law_933 dL_law_934 dL_law_935 dL_law_936 (by omega) ?_
  refine la_arg 3 dL_law_937 dL_law_938 dL_law_939 dL_law_940 dL_law_941 (by omega) ?_
  refine la_callI [vi (xs (i + 1)).toInt, vi (xs (i + 2)).toInt, vi (xs (i + 3)).toInt] [] dL_law_942 vl_L_139 rfl rfl rfl rfl (Nat.le_of_ble_eq_true rfl) ⟨by decide, by decide⟩ (c_sheet) (fun z M1 h1 => ?_)
  have hh : hiS M M1 := by
    rcases h1 with ⟨_, _, e⟩ | ⟨_, ⟨_, _, e⟩ | ⟨_, _, e⟩⟩ <;> rw [e]
    · exact hiS_r M
    · exact hiS_r M
    · exact hiS_sb
  refine la_m dL_law_945 ?_
  refine la_arg 1 dL_law_946 dL_law_947 dL_law_948 dL_law_949 dL_law_950 (by omega) ?_
  refine la_arg 2 dL_law_951 dL_law_952 dL_law_953 dL_law_954 dL_law_955 (by omega) ?_
  refine la_arg 3 dL_law_956 dL_law_957 dL_law_958 dL_law_959 dL_law_960 (by omega) ?_
  refine la_callI [vi (xs (i + 1)).toInt, vi (xs (i + 2)).toInt, vi (xs (i + 3)).toInt] [vi z] dL_law_961 vl_L_142 rfl rfl rfl rfl (Nat.le_of_ble_eq_true rfl) ⟨by decide, by decide⟩ (m_sheet) (fun z' M2 h2 => ?_)
  obtain ⟨e, hR2⟩ := rs_sheet hR h1 h2
  exact la_eq dL_law_964 (by decide) e (kk M2 hR2)
set_option maxHeartbeats 4000000 in
set_option maxRecDepth 100000 in
theorem lc_31 {g : fG} {sb L : Nat} {xs : Nat → Int32} {i : Nat} {M : fM} (hi : i + 6 ≤ L) (hR : Rel M) (kk : ∀ M2, Rel M2 → lAt g sb L xs 1138 i [] M2) : lAt g sb L xs 969 i [] M := by
  obtain ⟨⟨w, p, kn, od, hc⟩, -⟩ := id hR
  refine la_x dL_law_969 ?_
  refine la_arg 1 dL_law_970 dL_law_971 dL_law_972 dL_law_973 dL_law_974 (by omega) ?_
  refine la_callI [vi (xs (i + 1)).toInt] [] dL_law_975 vl_L_143 rfl rfl rfl rfl (Nat.le_of_ble_eq_true rfl) ⟨by decide, by decide⟩ (c_drop) (fun z M1 h1 => ?_)
  have hh : hiS M M1 := by
    rcases h1 with ⟨_, _, e⟩ | ⟨_, ⟨_, _, e⟩ | ⟨_, _, e⟩⟩ <;> rw [e]
    · exact hiS_r M
    · exact hiS_r M
    · exact hiS_t (hiS_up (by decide)) (hiS_up (by decide))
  refine la_m dL_law_978 ?_
  refine la_arg 1 dL_law_979 dL_law_980 dL_law_981 dL_law_982 dL_law_983 (by omega) ?_
  refine la_callI [vi (xs (i + 1)).toInt] [vi z] dL_law_984 vl_L_146 rfl rfl rfl rfl (Nat.le_of_ble_eq_true rfl) ⟨by decide, by decide⟩ (m_drop) (fun z' M2 h2 => ?_)
  obtain ⟨e, hR2⟩ := rs_drop hR h1 h2
  exact la_eq dL_law_987 (by decide) e (kk M2 hR2)
set_option maxHeartbeats 4000000 in
set_option maxRecDepth 100000 in
theorem lc_32 {g : fG} {sb L : Nat} {xs : Nat → Int32} {i : Nat} {M : fM} (hi : i + 6 ≤ L) (hR : Rel M) (kk : ∀ M2, Rel M2 → lAt g sb L xs 1138 i [] M2) : lAt g sb L xs 992 i [] M := by
  obtain ⟨⟨w, p, kn, od, hc⟩, -⟩ := id hR
  refine la_x dL_law_992 ?_
  refine la_arg 1 dL_law_993 dL_law_994 dL_law_995 dL_law_996 dL_law_997 (by omega) ?_
  refine la_arg 2 dL_law_998 dL_law_999 dL_law_1000 dL_law_1001 dL_law_1002 (by omega) ?_
  refine la_arg 3 dL_law_1003 dL_law_1004 dL_law_1005 dL_law_1006 dL_law_1007 (by omega) ?_
  refine la_arg 4 dL_law_1008 dL_law_1009 dL_law_1010 dL_law_1011 dL_law_1012 (by omega) ?_
  refine la_i2l dL_law_1013 ?_
  refine la_bip dL_law_1014 ?_
  refine la_lshl dL_law_1016 ?_
  refine la_arg 5 dL_law_1017 dL_law_1018 dL_law_1019 dL_law_1020 dL_law_1021 (by omega) ?_
  refine la_i2l dL_law_1022 ?_
  refine la_ldc2 (v := Int64.ofInt 4294967295) dL_law_1023 (List.mem_of_getElem? (i := 1036) (by decide +kernel)) ?_
  refine la_land dL_law_1026 ?_
  refine la_lor dL_law_1027 ?_
  refine la_callI [vi (xs (i + 1)).toInt, vi (xs (i + 2)).toInt, vi (xs (i + 3)).toInt, (vl (Int64.ofInt (Int64.ofInt ((Int32.ofInt (xs (i + 4)).toInt).toInt64).toInt <<< ((Int32.ofInt ((Int8.ofInt 32).toInt32).toInt).toInt64 &&& 63)).toInt ||| Int64.ofInt (Int64.ofInt ((Int32.ofInt (xs (i + 5)).toInt).toInt64).toInt &&& Int64.ofInt (Int64.ofInt 4294967295).toInt).toInt).toInt)] [] dL_law_1028 vl_L_149 rfl rfl rfl rfl (Nat.le_of_ble_eq_true rfl) ⟨by decide, by decide⟩ (c_item (pS hR)) (fun z M1 h1 => ?_)
  have hh : hiS M M1 := by
    rcases h1 with ⟨_, _, e⟩ | ⟨_, _, e⟩ <;> rw [e]
    · exact hiS_r M
    · exact hiS_up (by decide)
  refine la_m dL_law_1031 ?_
  refine la_arg 1 dL_law_1032 dL_law_1033 dL_law_1034 dL_law_1035 dL_law_1036 (by omega) ?_
  refine la_arg 2 dL_law_1037 dL_law_1038 dL_law_1039 dL_law_1040 dL_law_1041 (by omega) ?_
  refine la_arg 3 dL_law_1042 dL_law_1043 dL_law_1044 dL_law_1045 dL_law_1046 (by omega) ?_
  refine la_arg 4 dL_law_1047 dL_law_1048 dL_law_1049 dL_law_1050 dL_law_1051 (by omega) ?_
  refine la_i2l dL_law_1052 ?_
  refine la_bip dL_law_1053 ?_
  refine la_lshl dL_law_1055 ?_
  refine la_arg 5 dL_law_1056 dL_law_1057 dL_law_1058 dL_law_1059 dL_law_1060 (by omega) ?_
  refine la_i2l dL_law_1061 ?_
  refine la_ldc2 (v := Int64.ofInt 4294967295) dL_law_1062 (List.mem_of_getElem? (i := 1036) (by decide +kernel)) ?_
  refine la_land dL_law_1065 ?_
  refine la_lor dL_law_1066 ?_
  refine la_callI [vi (xs (i + 1)).toInt, vi (xs (i + 2)).toInt, vi (xs (i + 3)).toInt, (vl (Int64.ofInt (Int64.ofInt ((Int32.ofInt (xs (i + 4)).toInt).toInt64).toInt <<< ((Int32.ofInt ((Int8.ofInt 32).toInt32).toInt).toInt64 &&& 63)).toInt ||| Int64.ofInt (Int64.ofInt ((Int32.ofInt (xs (i + 5)).toInt).toInt64).toInt &&& Int64.ofInt (Int64.ofInt 4294967295).toInt).toInt).toInt)] [vi z] dL_law_1067 vl_L_153 rfl rfl rfl rfl (Nat.le_of_ble_eq_true rfl) ⟨by decide, by decide⟩ (m_item (pZ hR hh)) (fun z' M2 h2 => ?_)
  obtain ⟨e, hR2⟩ := rs_item hR h1 h2
  exact la_eq dL_law_1070 (by decide) e (kk M2 hR2)
set_option maxHeartbeats 4000000 in
set_option maxRecDepth 100000 in
theorem lc_33 {g : fG} {sb L : Nat} {xs : Nat → Int32} {i : Nat} {M : fM} (hi : i + 6 ≤ L) (hR : Rel M) (kk : ∀ M2, Rel M2 → lAt g sb L xs 1138 i [] M2) : lAt g sb L xs 1075 i [] M := by
  obtain ⟨⟨w, p, kn, od, hc⟩, -⟩ := id hR
  refine la_x dL_law_1075 ?_
  refine la_arg 1 dL_law_1076 dL_law_1077 dL_law_1078 dL_law_1079 dL_law_1080 (by omega) ?_
  refine la_arg 2 dL_law_1081 dL_law_1082 dL_law_1083 dL_law_1084 dL_law_1085 (by omega) ?_
  refine la_arg 3 dL_law_1086 dL_law_1087 dL_law_1088 dL_law_1089 dL_law_1090 (by omega) ?_
  refine la_arg 4 dL_law_1091 dL_law_1092 dL_law_1093 dL_law_1094 dL_law_1095 (by omega) ?_
  refine la_arg 5 dL_law_1096 dL_law_1097 dL_law_1098 dL_law_1099 dL_law_1100 (by omega) ?_
  refine la_callI [vi (xs (i + 1)).toInt, vi (xs (i + 2)).toInt, vi (xs (i + 3)).toInt, vi (xs (i + 4)).toInt, vi (xs (i + 5)).toInt] [] dL_law_1101 vl_L_154 rfl rfl rfl rfl (Nat.le_of_ble_eq_true rfl) ⟨by decide, by decide⟩ (c_copy (pS hR)) (fun z M1 h1 => ?_)
  have hh : hiS M M1 := by
    rcases h1 with ⟨_, _, e⟩ | ⟨_, _, _, _, e⟩ <;> rw [e]
    · exact hiS_r M
    · exact hiS_cp
  refine la_m dL_law_1104 ?_
  refine la_arg 1 dL_law_1105 dL_law_1106 dL_law_1107 dL_law_1108 dL_law_1109 (by omega) ?_
  refine la_arg 2 dL_law_1110 dL_law_1111 dL_law_1112 dL_law_1113 dL_law_1114 (by omega) ?_
  refine la_arg 3 dL_law_1115 dL_law_1116 dL_law_1117 dL_law_1118 dL_law_1119 (by omega) ?_
  refine la_arg 4 dL_law_1120 dL_law_1121 dL_law_1122 dL_law_1123 dL_law_1124 (by omega) ?_
  refine la_arg 5 dL_law_1125 dL_law_1126 dL_law_1127 dL_law_1128 dL_law_1129 (by omega) ?_
  refine la_callI [vi (xs (i + 1)).toInt, vi (xs (i + 2)).toInt, vi (xs (i + 3)).toInt, vi (xs (i + 4)).toInt, vi (xs (i + 5)).toInt] [vi z] dL_law_1130 vl_L_158 rfl rfl rfl rfl (Nat.le_of_ble_eq_true rfl) ⟨by decide, by decide⟩ (m_copy (pZ hR hh)) (fun z' M2 h2 => ?_)
  obtain ⟨e, hR2⟩ := rs_copy hR h1 h2
  exact la_eq dL_law_1133 (by decide) e (kk M2 hR2)
