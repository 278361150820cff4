/-! the law's steps -/
theorem ch_L_172 : CH RL 172 yL_addShip cL_addShip 5 4 (some .int) hh_L_addShip := ⟨wl_L_172, wt_L_addShip, wn_L, wc_L_addShip, by decide, by decide, by decide +kernel⟩
theorem ch_L_181 : CH RL 181 yL_addBarnacle cL_addBarnacle 5 4 (some .int) hh_L_addBarnacle := ⟨wl_L_181, wt_L_addBarnacle, wn_L, wc_L_addBarnacle, by decide, by decide, by decide +kernel⟩
theorem ch_L_184 : CH RL 184 yL_giveCoins cL_giveCoins 5 4 (some .int) hh_L_giveCoins := ⟨wl_L_184, wt_L_giveCoins, wn_L, wc_L_giveCoins, by decide, by decide, by decide +kernel⟩
theorem ch_L_191 : CH RL 191 yL_coinsOf cL_coinsOf 4 3 (some .int) hh_L_coinsOf := ⟨wl_L_191, wt_L_coinsOf, wn_L, wc_L_coinsOf, by decide, by decide, by decide +kernel⟩
theorem ch_L_195 : CH RL 195 yL_reservedCoins cL_reservedCoins 4 3 (some .int) hh_L_reservedCoins := ⟨wl_L_195, wt_L_reservedCoins, wn_L, wc_L_reservedCoins, by decide, by decide, by decide +kernel⟩
theorem ch_L_198 : CH RL 198 yL_capacityOf cL_capacityOf 4 3 (some .int) hh_L_capacityOf := ⟨wl_L_198, wt_L_capacityOf, wn_L, wc_L_capacityOf, by decide, by decide, by decide +kernel⟩
theorem ch_L_201 : CH RL 201 yL_loadOf cL_loadOf 4 3 (some .int) hh_L_loadOf := ⟨wl_L_201, wt_L_loadOf, wn_L, wc_L_loadOf, by decide, by decide, by decide +kernel⟩
theorem ch_L_204 : CH RL 204 yL_freePlaces cL_freePlaces 4 3 (some .int) hh_L_freePlaces := ⟨wl_L_204, wt_L_freePlaces, wn_L, wc_L_freePlaces, by decide, by decide, by decide +kernel⟩
theorem ch_L_207 : CH RL 207 yL_barnacleAt cL_barnacleAt 5 4 (some .int) hh_L_barnacleAt := ⟨wl_L_207, wt_L_barnacleAt, wn_L, wc_L_barnacleAt, by decide, by decide, by decide +kernel⟩
theorem ch_L_214 : CH RL 214 yL_shipOf cL_shipOf 4 3 (some .int) hh_L_shipOf := ⟨wl_L_214, wt_L_shipOf, wn_L, wc_L_shipOf, by decide, by decide, by decide +kernel⟩
theorem ch_L_217 : CH RL 217 yL_gradeOf cL_gradeOf 4 3 (some .int) hh_L_gradeOf := ⟨wl_L_217, wt_L_gradeOf, wn_L, wc_L_gradeOf, by decide, by decide, by decide +kernel⟩
theorem ch_L_223 : CH RL 223 yL_placeBid cL_placeBid 6 5 (some .int) hh_L_placeBid := ⟨wl_L_223, wt_L_placeBid, wn_L, wc_L_placeBid, by decide, by decide, by decide +kernel⟩
theorem ch_L_227 : CH RL 227 yL_placeOffer cL_placeOffer 5 4 (some .int) hh_L_placeOffer := ⟨wl_L_227, wt_L_placeOffer, wn_L, wc_L_placeOffer, by decide, by decide, by decide +kernel⟩
theorem ch_L_230 : CH RL 230 yL_cancelBid cL_cancelBid 4 3 (some .int) hh_L_cancelBid := ⟨wl_L_230, wt_L_cancelBid, wn_L, wc_L_cancelBid, by decide, by decide, by decide +kernel⟩
theorem ch_L_233 : CH RL 233 yL_cancelOffer cL_cancelOffer 4 3 (some .int) hh_L_cancelOffer := ⟨wl_L_233, wt_L_cancelOffer, wn_L, wc_L_cancelOffer, by decide, by decide, by decide +kernel⟩
theorem ch_L_244 : CH RL 244 yL_bidAt cL_bidAt 4 3 (some .int) hh_L_bidAt := ⟨wl_L_244, wt_L_bidAt, wn_L, wc_L_bidAt, by decide, by decide, by decide +kernel⟩
theorem ch_L_247 : CH RL 247 yL_offerAt cL_offerAt 4 3 (some .int) hh_L_offerAt := ⟨wl_L_247, wt_L_offerAt, wn_L, wc_L_offerAt, by decide, by decide, by decide +kernel⟩
theorem ch_L_250 : CH RL 250 yL_shipOfBid cL_shipOfBid 4 3 (some .int) hh_L_shipOfBid := ⟨wl_L_250, wt_L_shipOfBid, wn_L, wc_L_shipOfBid, by decide, by decide, by decide +kernel⟩
theorem ch_L_253 : CH RL 253 yL_gradeOfBid cL_gradeOfBid 4 3 (some .int) hh_L_gradeOfBid := ⟨wl_L_253, wt_L_gradeOfBid, wn_L, wc_L_gradeOfBid, by decide, by decide, by decide +kernel⟩
theorem ch_L_256 : CH RL 256 yL_priceOfBid cL_priceOfBid 4 3 (some .int) hh_L_priceOfBid := ⟨wl_L_256, wt_L_priceOfBid, wn_L, wc_L_priceOfBid, by decide, by decide, by decide +kernel⟩
theorem ch_L_259 : CH RL 259 yL_ageOfBid cL_ageOfBid 4 3 (some .int) hh_L_ageOfBid := ⟨wl_L_259, wt_L_ageOfBid, wn_L, wc_L_ageOfBid, by decide, by decide, by decide +kernel⟩
theorem ch_L_262 : CH RL 262 yL_barnacleOfOffer cL_barnacleOfOffer 4 3 (some .int) hh_L_barnacleOfOffer := ⟨wl_L_262, wt_L_barnacleOfOffer, wn_L, wc_L_barnacleOfOffer, by decide, by decide, by decide +kernel⟩
theorem ch_L_265 : CH RL 265 yL_priceOfOffer cL_priceOfOffer 4 3 (some .int) hh_L_priceOfOffer := ⟨wl_L_265, wt_L_priceOfOffer, wn_L, wc_L_priceOfOffer, by decide, by decide, by decide +kernel⟩
theorem ch_L_268 : CH RL 268 yL_ageOfOffer cL_ageOfOffer 4 3 (some .int) hh_L_ageOfOffer := ⟨wl_L_268, wt_L_ageOfOffer, wn_L, wc_L_ageOfOffer, by decide, by decide, by decide +kernel⟩
theorem ch_L_271 : CH RL 271 yL_matchFor cL_matchFor 4 3 (some .int) hh_L_matchFor := ⟨wl_L_271, wt_L_matchFor, wn_L, wc_L_matchFor, by decide, by decide, by decide +kernel⟩
theorem ch_L_274 : CH RL 274 yL_matchByBarnacles cL_matchByBarnacles 4 3 (some .int) hh_L_matchByBarnacles := ⟨wl_L_274, wt_L_matchByBarnacles, wn_L, wc_L_matchByBarnacles, by decide, by decide, by decide +kernel⟩
theorem ch_L_277 : CH RL 277 yL_spread cL_spread 3 2 (some .int) hh_L_spread := ⟨wl_L_277, wt_L_spread, wn_L, wc_L_spread, by decide, by decide, by decide +kernel⟩
theorem ch_L_289 : CH RL 289 yL_setFee cL_setFee 4 3 (some .int) hh_L_setFee := ⟨wl_L_289, wt_L_setFee, wn_L, wc_L_setFee, by decide, by decide, by decide +kernel⟩
theorem ch_L_300 : CH RL 300 yL_buyerOf cL_buyerOf 4 3 (some .int) hh_L_buyerOf := ⟨wl_L_300, wt_L_buyerOf, wn_L, wc_L_buyerOf, by decide, by decide, by decide +kernel⟩
theorem ch_L_303 : CH RL 303 yL_sellerOf cL_sellerOf 4 3 (some .int) hh_L_sellerOf := ⟨wl_L_303, wt_L_sellerOf, wn_L, wc_L_sellerOf, by decide, by decide, by decide +kernel⟩
theorem ch_L_306 : CH RL 306 yL_barnacleOf cL_barnacleOf 4 3 (some .int) hh_L_barnacleOf := ⟨wl_L_306, wt_L_barnacleOf, wn_L, wc_L_barnacleOf, by decide, by decide, by decide +kernel⟩
theorem ch_L_309 : CH RL 309 yL_priceOf cL_priceOf 4 3 (some .int) hh_L_priceOf := ⟨wl_L_309, wt_L_priceOf, wn_L, wc_L_priceOf, by decide, by decide, by decide +kernel⟩
theorem ch_L_336 : CH RL 336 yL_shipByWealth cL_shipByWealth 4 3 (some .int) hh_L_shipByWealth := ⟨wl_L_336, wt_L_shipByWealth, wn_L, wc_L_shipByWealth, by decide, by decide, by decide +kernel⟩
theorem ch_L_354 : CH RL 354 yL_outputAt cL_outputAt 4 3 (some .int) hh_L_outputAt := ⟨wl_L_354, wt_L_outputAt, wn_L, wc_L_outputAt, by decide, by decide, by decide +kernel⟩
theorem ch_L_357 : CH RL 357 yL_appendInput cL_appendInput 4 3 (some .int) hh_L_appendInput := ⟨wl_L_357, wt_L_appendInput, wn_L, wc_L_appendInput, by decide, by decide, by decide +kernel⟩
theorem ch_L_361 : CH RL 361 yL_execute cL_execute 3 2 (some .int) hh_L_execute := ⟨wl_L_361, wt_L_execute, wn_L, wc_L_execute, by decide, by decide, by decide +kernel⟩
theorem ch_L_364 : CH RL 364 yL_syntaxErrorOffset cL_syntaxErrorOffset 3 2 (some .int) hh_L_syntaxErrorOffset := ⟨wl_L_364, wt_L_syntaxErrorOffset, wn_L, wc_L_syntaxErrorOffset, by decide, by decide, by decide +kernel⟩
theorem ch_L_367 : CH RL 367 yL_rejectionReason cL_rejectionReason 3 2 (some .int) hh_L_rejectionReason := ⟨wl_L_367, wt_L_rejectionReason, wn_L, wc_L_rejectionReason, by decide, by decide, by decide +kernel⟩
theorem ch_L_370 : CH RL 370 yL_rejectionDetail cL_rejectionDetail 3 2 (some .int) hh_L_rejectionDetail := ⟨wl_L_370, wt_L_rejectionDetail, wn_L, wc_L_rejectionDetail, by decide, by decide, by decide +kernel⟩
theorem ch_L_373 : CH RL 373 yL_causeReason cL_causeReason 3 2 (some .int) hh_L_causeReason := ⟨wl_L_373, wt_L_causeReason, wn_L, wc_L_causeReason, by decide, by decide, by decide +kernel⟩
theorem ch_L_376 : CH RL 376 yL_undo cL_undo 3 2 (some .int) hh_L_undo := ⟨wl_L_376, wt_L_undo, wn_L, wc_L_undo, by decide, by decide, by decide +kernel⟩
theorem ch_L_383 : CH RL 383 yL_restoreSnapshot cL_restoreSnapshot 3 2 (some .int) hh_L_restoreSnapshot := ⟨wl_L_383, wt_L_restoreSnapshot, wn_L, wc_L_restoreSnapshot, by decide, by decide, by decide +kernel⟩
theorem ch_L_351 : CH RL 351 yL_writeShip cL_writeShip 4 3 (some .int) hh_L_writeShip := ⟨wl_L_351, wt_L_writeShip, wn_L, wc_L_writeShip, by decide, by decide, by decide +kernel⟩
theorem ch_L_339 : CH RL 339 yL_meanPrice cL_meanPrice 3 2 (some .int) hh_L_meanPrice := ⟨wl_L_339, wt_L_meanPrice, wn_L, wc_L_meanPrice, by decide, by decide, by decide +kernel⟩
theorem ch_L_343 : CH RL 343 yL_offeredShare cL_offeredShare 3 2 (some .int) hh_L_offeredShare := ⟨wl_L_343, wt_L_offeredShare, wn_L, wc_L_offeredShare, by decide, by decide, by decide +kernel⟩
theorem ch_L_220 : CH RL 220 yL_isOffered cL_isOffered 4 3 (some .int) hh_L_isOffered := ⟨wl_L_220, wt_L_isOffered, wn_L, wc_L_isOffered, by decide, by decide, by decide +kernel⟩
set_option maxHeartbeats 4000000 in
set_option maxRecDepth 100000 in
theorem la_addShip {X : Cx} {ad : Adr} {σ : Mem} {b L : Nat} {xs : Nat → Int32} {i Bd : Int} {cs ss : Nat} (hf : Cf X RL cL_law 9 room_1) (hl0 : (xl X).stackTraces = false) (hsc : Sc X b L xs) (hL : L ≤ 2048) (hi : 0 ≤ i ∧ i + 4 ≤ L) (hB : Bd ≤ 40000000) (h : INV σ Bd) (hcs : cs + 500 ≤ 603072 ∧ ss + 1500 ≤ 7182441) (kk : Kx X b i Bd cs ss) : B X ad σ 308 (lsB ad b i) [] cs ss := by
  obtain ⟨oc, k, v, σ1, hC, hO, hv, hk, r, σ3, hr, hM, h8, hrv, hI⟩ := St.nr (by decide) (st_addShip (D := xD X) (K := xK X) (ad := ad) hl0 h hB _ (iN_self_r (xs (i + 1).toNat)) _ (iN_self_r (xs (i + 2).toNat)))
  have hU := u_addShip hl0 _ _ hC hO hv
  refine V_aload_n hf dL_law_308 rfl rfl ?_
  refine V_aload_n hf dL_law_309 rfl rfl ?_
  refine V_iload hf dL_law_310 rfl ?_
  refine V_iconst hf dL_law_312 ?_
  refine V_iadd hf dL_law_313 ?_
  refine V_sld hf hsc ⟨by omega, by omega⟩ (by omega) (by omega) dL_law_314 ?_
  refine V_aload_n hf dL_law_315 rfl rfl ?_
  refine V_iload hf dL_law_316 rfl ?_
  refine V_iconst hf dL_law_318 ?_
  refine V_iadd hf dL_law_319 ?_
  refine V_sld hf hsc ⟨by omega, by omega⟩ (by omega) (by omega) dL_law_320 ?_
  refine V_aload_n hf dL_law_321 rfl rfl ?_
  refine B_callH hf (As := [_, _, _, _]) (st := []) hU ch_L_172 rfl (Nat.le_of_ble_eq_true rfl) ⟨(Nat.le_of_ble_eq_true rfl), (Nat.le_of_ble_eq_true rfl), by show _ ≤ 603072; omega, by show _ ≤ 7182441; omega⟩ dL_law_322 ?_
  refine V_istore (ls2 := [_, _, _, _, _, _, _, _, _]) hf dL_law_325 (by decide) rfl rfl ?_
  refine V_aload_n hf dL_law_327 rfl rfl ?_
  refine V_aload_n hf dL_law_328 rfl rfl ?_
  refine V_iload hf dL_law_329 rfl ?_
  refine V_iconst hf dL_law_331 ?_
  refine V_iadd hf dL_law_332 ?_
  refine V_sld hf hsc ⟨by omega, by omega⟩ (by omega) (by omega) dL_law_333 ?_
  refine V_aload_n hf dL_law_334 rfl rfl ?_
  refine V_iload hf dL_law_335 rfl ?_
  refine V_iconst hf dL_law_337 ?_
  refine V_iadd hf dL_law_338 ?_
  refine V_sld hf hsc ⟨by omega, by omega⟩ (by omega) (by omega) dL_law_339 ?_
  refine B_callVi hf (As := [_, _]) hM cv_L_177 l01 rfl rfl rfl (Nat.le_of_ble_eq_true rfl) ⟨(Nat.le_of_ble_eq_true rfl), (Nat.le_of_ble_eq_true rfl), by show _ ≤ 603072; omega, by show _ ≤ 7182441; omega⟩ dL_law_340 ?_
  exact la_tail hf hl0 (off := 2735) ⟨dL_law_343, dL_law_345, dL_law_346, dL_law_349, dL_law_351, dL_law_356, dL_law_358, dL_law_361, dL_law_362, dL_law_363, dL_law_364, dL_law_366, dL_law_367, dL_law_368, dL_law_373, by decide⟩ hk hr h8 (fun z => (hrv z).1.trans (hrv z).2.symm) hI.r ⟨by omega, by omega⟩ (V_wide (by omega) (by omega) (kk ad σ3 hI))
set_option maxHeartbeats 4000000 in
set_option maxRecDepth 100000 in
theorem la_addBarnacle {X : Cx} {ad : Adr} {σ : Mem} {b L : Nat} {xs : Nat → Int32} {i Bd : Int} {cs ss : Nat} (hf : Cf X RL cL_law 9 room_1) (hl0 : (xl X).stackTraces = false) (hsc : Sc X b L xs) (hL : L ≤ 2048) (hi : 0 ≤ i ∧ i + 4 ≤ L) (hB : Bd ≤ 40000000) (h : INV σ Bd) (hcs : cs + 500 ≤ 603072 ∧ ss + 1500 ≤ 7182441) (kk : Kx X b i Bd cs ss) : B X ad σ 376 (lsB ad b i) [] cs ss := by
  obtain ⟨oc, k, v, σ1, hC, hO, hv, hk, r, σ3, hr, hM, h8, hrv, hI⟩ := St.nr (by decide) (st_addBarnacle (D := xD X) (K := xK X) (ad := ad) hl0 h hB _ (iN_self_r (xs (i + 1).toNat)) _ (iN_self_r (xs (i + 2).toNat)))
  have hU := u_addBarnacle hl0 _ _ hC hO hv
  refine V_aload_n hf dL_law_376 rfl rfl ?_
  refine V_aload_n hf dL_law_377 rfl rfl ?_
  refine V_iload hf dL_law_378 rfl ?_
  refine V_iconst hf dL_law_380 ?_
  refine V_iadd hf dL_law_381 ?_
  refine V_sld hf hsc ⟨by omega, by omega⟩ (by omega) (by omega) dL_law_382 ?_
  refine V_aload_n hf dL_law_383 rfl rfl ?_
  refine V_iload hf dL_law_384 rfl ?_
  refine V_iconst hf dL_law_386 ?_
  refine V_iadd hf dL_law_387 ?_
  refine V_sld hf hsc ⟨by omega, by omega⟩ (by omega) (by omega) dL_law_388 ?_
  refine V_aload_n hf dL_law_389 rfl rfl ?_
  refine B_callH hf (As := [_, _, _, _]) (st := []) hU ch_L_181 rfl (Nat.le_of_ble_eq_true rfl) ⟨(Nat.le_of_ble_eq_true rfl), (Nat.le_of_ble_eq_true rfl), by show _ ≤ 603072; omega, by show _ ≤ 7182441; omega⟩ dL_law_390 ?_
  refine V_istore (ls2 := [_, _, _, _, _, _, _, _, _]) hf dL_law_393 (by decide) rfl rfl ?_
  refine V_aload_n hf dL_law_395 rfl rfl ?_
  refine V_aload_n hf dL_law_396 rfl rfl ?_
  refine V_iload hf dL_law_397 rfl ?_
  refine V_iconst hf dL_law_399 ?_
  refine V_iadd hf dL_law_400 ?_
  refine V_sld hf hsc ⟨by omega, by omega⟩ (by omega) (by omega) dL_law_401 ?_
  refine V_aload_n hf dL_law_402 rfl rfl ?_
  refine V_iload hf dL_law_403 rfl ?_
  refine V_iconst hf dL_law_405 ?_
  refine V_iadd hf dL_law_406 ?_
  refine V_sld hf hsc ⟨by omega, by omega⟩ (by omega) (by omega) dL_law_407 ?_
  refine B_callVi hf (As := [_, _]) hM cv_L_183 l01 rfl rfl rfl (Nat.le_of_ble_eq_true rfl) ⟨(Nat.le_of_ble_eq_true rfl), (Nat.le_of_ble_eq_true rfl), by show _ ≤ 603072; omega, by show _ ≤ 7182441; omega⟩ dL_law_408 ?_
  exact la_tail hf hl0 (off := 2667) ⟨dL_law_411, dL_law_413, dL_law_414, dL_law_417, dL_law_419, dL_law_424, dL_law_426, dL_law_429, dL_law_430, dL_law_431, dL_law_432, dL_law_434, dL_law_435, dL_law_436, dL_law_441, by decide⟩ hk hr h8 (fun z => (hrv z).1.trans (hrv z).2.symm) hI.r ⟨by omega, by omega⟩ (V_wide (by omega) (by omega) (kk ad σ3 hI))
set_option maxHeartbeats 4000000 in
set_option maxRecDepth 100000 in
theorem la_giveCoins {X : Cx} {ad : Adr} {σ : Mem} {b L : Nat} {xs : Nat → Int32} {i Bd : Int} {cs ss : Nat} (hf : Cf X RL cL_law 9 room_1) (hl0 : (xl X).stackTraces = false) (hsc : Sc X b L xs) (hL : L ≤ 2048) (hi : 0 ≤ i ∧ i + 4 ≤ L) (hB : Bd ≤ 40000000) (h : INV σ Bd) (hcs : cs + 500 ≤ 603072 ∧ ss + 1500 ≤ 7182441) (kk : Kx X b i Bd cs ss) : B X ad σ 444 (lsB ad b i) [] cs ss := by
  obtain ⟨oc, k, v, σ1, hC, hO, hv, hk, r, σ3, hr, hM, h8, hrv, hI⟩ := St.nr (by decide) (st_giveCoins (D := xD X) (K := xK X) (ad := ad) hl0 h hB _ (iN_self_r (xs (i + 1).toNat)) _ (iN_self_r (xs (i + 2).toNat)))
  have hU := u_giveCoins hl0 _ _ hC hO hv
  refine V_aload_n hf dL_law_444 rfl rfl ?_
  refine V_aload_n hf dL_law_445 rfl rfl ?_
  refine V_iload hf dL_law_446 rfl ?_
  refine V_iconst hf dL_law_448 ?_
  refine V_iadd hf dL_law_449 ?_
  refine V_sld hf hsc ⟨by omega, by omega⟩ (by omega) (by omega) dL_law_450 ?_
  refine V_aload_n hf dL_law_451 rfl rfl ?_
  refine V_iload hf dL_law_452 rfl ?_
  refine V_iconst hf dL_law_454 ?_
  refine V_iadd hf dL_law_455 ?_
  refine V_sld hf hsc ⟨by omega, by omega⟩ (by omega) (by omega) dL_law_456 ?_
  refine V_aload_n hf dL_law_457 rfl rfl ?_
  refine B_callH hf (As := [_, _, _, _]) (st := []) hU ch_L_184 rfl (Nat.le_of_ble_eq_true rfl) ⟨(Nat.le_of_ble_eq_true rfl), (Nat.le_of_ble_eq_true rfl), by show _ ≤ 603072; omega, by show _ ≤ 7182441; omega⟩ dL_law_458 ?_
  refine V_istore (ls2 := [_, _, _, _, _, _, _, _, _]) hf dL_law_461 (by decide) rfl rfl ?_
  refine V_aload_n hf dL_law_463 rfl rfl ?_
  refine V_aload_n hf dL_law_464 rfl rfl ?_
  refine V_iload hf dL_law_465 rfl ?_
  refine V_iconst hf dL_law_467 ?_
  refine V_iadd hf dL_law_468 ?_
  refine V_sld hf hsc ⟨by omega, by omega⟩ (by omega) (by omega) dL_law_469 ?_
  refine V_aload_n hf dL_law_470 rfl rfl ?_
  refine V_iload hf dL_law_471 rfl ?_
  refine V_iconst hf dL_law_473 ?_
  refine V_iadd hf dL_law_474 ?_
  refine V_sld hf hsc ⟨by omega, by omega⟩ (by omega) (by omega) dL_law_475 ?_
  refine B_callVi hf (As := [_, _]) hM cv_L_186 l01 rfl rfl rfl (Nat.le_of_ble_eq_true rfl) ⟨(Nat.le_of_ble_eq_true rfl), (Nat.le_of_ble_eq_true rfl), by show _ ≤ 603072; omega, by show _ ≤ 7182441; omega⟩ dL_law_476 ?_
  exact la_tail hf hl0 (off := 2599) ⟨dL_law_479, dL_law_481, dL_law_482, dL_law_485, dL_law_487, dL_law_492, dL_law_494, dL_law_497, dL_law_498, dL_law_499, dL_law_500, dL_law_502, dL_law_503, dL_law_504, dL_law_509, by decide⟩ hk hr h8 (fun z => (hrv z).1.trans (hrv z).2.symm) hI.r ⟨by omega, by omega⟩ (V_wide (by omega) (by omega) (kk ad σ3 hI))
set_option maxHeartbeats 4000000 in
set_option maxRecDepth 100000 in
theorem la_shipCount {X : Cx} {ad : Adr} {σ : Mem} {b L : Nat} {xs : Nat → Int32} {i Bd : Int} {cs ss : Nat} (hf : Cf X RL cL_law 9 room_1) (hl0 : (xl X).stackTraces = false) (hsc : Sc X b L xs) (hL : L ≤ 2048) (hi : 0 ≤ i ∧ i + 4 ≤ L) (hB : Bd ≤ 40000000) (h : INV σ Bd) (hcs : cs + 500 ≤ 603072 ∧ ss + 1500 ≤ 7182441) (kk : Kx X b i Bd cs ss) : B X ad σ 512 (lsB ad b i) [] cs ss := by
  obtain ⟨v, σ1, σ3, hv, hC, hM, hI⟩ := St.n0 (st_shipCount (D := xD X) (K := xK X) (ad := ad) hl0 h)
  refine V_aload_n hf dL_law_512 rfl rfl ?_
  refine B_callVi hf (As := []) hC cv_L_187 l01 rfl rfl rfl (Nat.le_of_ble_eq_true rfl) ⟨(Nat.le_of_ble_eq_true rfl), (Nat.le_of_ble_eq_true rfl), by show _ ≤ 603072; omega, by show _ ≤ 7182441; omega⟩ dL_law_513 ?_
  refine V_aload_n hf dL_law_516 rfl rfl ?_
  refine B_callVi hf (As := []) hM cv_L_190 l01 rfl rfl rfl (Nat.le_of_ble_eq_true rfl) ⟨(Nat.le_of_ble_eq_true rfl), (Nat.le_of_ble_eq_true rfl), by show _ ≤ 603072; omega, by show _ ≤ 7182441; omega⟩ dL_law_517 ?_
  exact V_icmp_eq (tgt := 3108) hf hv hv dL_law_520 (by decide) (fun _ => V_wide (by omega) (by omega) (kk ad σ3 hI)) (fun q => absurd rfl q)
set_option maxHeartbeats 4000000 in
set_option maxRecDepth 100000 in
theorem la_coinsOf {X : Cx} {ad : Adr} {σ : Mem} {b L : Nat} {xs : Nat → Int32} {i Bd : Int} {cs ss : Nat} (hf : Cf X RL cL_law 9 room_1) (hl0 : (xl X).stackTraces = false) (hsc : Sc X b L xs) (hL : L ≤ 2048) (hi : 0 ≤ i ∧ i + 4 ≤ L) (hB : Bd ≤ 40000000) (h : INV σ Bd) (hcs : cs + 500 ≤ 603072 ∧ ss + 1500 ≤ 7182441) (kk : Kx X b i Bd cs ss) : B X ad σ 525 (lsB ad b i) [] cs ss := by
  obtain ⟨oc, k, v, σ1, hC, hO, hv, hk, r, σ3, hr, hM, h8, hrv, hI⟩ := St.nr (by decide) (st_coinsOf (D := xD X) (K := xK X) (ad := ad) hl0 h _ (iN_self_r (xs (i + 1).toNat)))
  have hU := u_coinsOf hl0 _ hC hO hv
  refine V_aload_n hf dL_law_525 rfl rfl ?_
  refine V_aload_n hf dL_law_526 rfl rfl ?_
  refine V_iload hf dL_law_527 rfl ?_
  refine V_iconst hf dL_law_529 ?_
  refine V_iadd hf dL_law_530 ?_
  refine V_sld hf hsc ⟨by omega, by omega⟩ (by omega) (by omega) dL_law_531 ?_
  refine V_aload_n hf dL_law_532 rfl rfl ?_
  refine B_callH hf (As := [_, _, _]) (st := []) hU ch_L_191 rfl (Nat.le_of_ble_eq_true rfl) ⟨(Nat.le_of_ble_eq_true rfl), (Nat.le_of_ble_eq_true rfl), by show _ ≤ 603072; omega, by show _ ≤ 7182441; omega⟩ dL_law_533 ?_
  refine V_istore (ls2 := [_, _, _, _, _, _, _, _, _]) hf dL_law_536 (by decide) rfl rfl ?_
  refine V_aload_n hf dL_law_538 rfl rfl ?_
  refine V_aload_n hf dL_law_539 rfl rfl ?_
  refine V_iload hf dL_law_540 rfl ?_
  refine V_iconst hf dL_law_542 ?_
  refine V_iadd hf dL_law_543 ?_
  refine V_sld hf hsc ⟨by omega, by omega⟩ (by omega) (by omega) dL_law_544 ?_
  refine B_callVi hf (As := [_]) hM cv_L_194 l01 rfl rfl rfl (Nat.le_of_ble_eq_true rfl) ⟨(Nat.le_of_ble_eq_true rfl), (Nat.le_of_ble_eq_true rfl), by show _ ≤ 603072; omega, by show _ ≤ 7182441; omega⟩ dL_law_545 ?_
  exact la_tail hf hl0 (off := 2530) ⟨dL_law_548, dL_law_550, dL_law_551, dL_law_554, dL_law_556, dL_law_561, dL_law_563, dL_law_566, dL_law_567, dL_law_568, dL_law_569, dL_law_571, dL_law_572, dL_law_573, dL_law_578, by decide⟩ hk hr h8 (fun z => (hrv z).1.trans (hrv z).2.symm) hI.r ⟨by omega, by omega⟩ (V_wide (by omega) (by omega) (kk ad σ3 hI))
set_option maxHeartbeats 4000000 in
set_option maxRecDepth 100000 in
theorem la_reservedCoins {X : Cx} {ad : Adr} {σ : Mem} {b L : Nat} {xs : Nat → Int32} {i Bd : Int} {cs ss : Nat} (hf : Cf X RL cL_law 9 room_1) (hl0 : (xl X).stackTraces = false) (hsc : Sc X b L xs) (hL : L ≤ 2048) (hi : 0 ≤ i ∧ i + 4 ≤ L) (hB : Bd ≤ 40000000) (h : INV σ Bd) (hcs : cs + 500 ≤ 603072 ∧ ss + 1500 ≤ 7182441) (kk : Kx X b i Bd cs ss) : B X ad σ 581 (lsB ad b i) [] cs ss := by
  obtain ⟨oc, k, v, σ1, hC, hO, hv, hk, r, σ3, hr, hM, h8, hrv, hI⟩ := St.nr (by decide) (st_reservedCoins (D := xD X) (K := xK X) (ad := ad) hl0 h _ (iN_self_r (xs (i + 1).toNat)))
  have hU := u_reservedCoins hl0 _ hC hO hv
  refine V_aload_n hf dL_law_581 rfl rfl ?_
  refine V_aload_n hf dL_law_582 rfl rfl ?_
  refine V_iload hf dL_law_583 rfl ?_
  refine V_iconst hf dL_law_585 ?_
  refine V_iadd hf dL_law_586 ?_
  refine V_sld hf hsc ⟨by omega, by omega⟩ (by omega) (by omega) dL_law_587 ?_
  refine V_aload_n hf dL_law_588 rfl rfl ?_
  refine B_callH hf (As := [_, _, _]) (st := []) hU ch_L_195 rfl (Nat.le_of_ble_eq_true rfl) ⟨(Nat.le_of_ble_eq_true rfl), (Nat.le_of_ble_eq_true rfl), by show _ ≤ 603072; omega, by show _ ≤ 7182441; omega⟩ dL_law_589 ?_
  refine V_istore (ls2 := [_, _, _, _, _, _, _, _, _]) hf dL_law_592 (by decide) rfl rfl ?_
  refine V_aload_n hf dL_law_594 rfl rfl ?_
  refine V_aload_n hf dL_law_595 rfl rfl ?_
  refine V_iload hf dL_law_596 rfl ?_
  refine V_iconst hf dL_law_598 ?_
  refine V_iadd hf dL_law_599 ?_
  refine V_sld hf hsc ⟨by omega, by omega⟩ (by omega) (by omega) dL_law_600 ?_
  refine B_callVi hf (As := [_]) hM cv_L_197 l01 rfl rfl rfl (Nat.le_of_ble_eq_true rfl) ⟨(Nat.le_of_ble_eq_true rfl), (Nat.le_of_ble_eq_true rfl), by show _ ≤ 603072; omega, by show _ ≤ 7182441; omega⟩ dL_law_601 ?_
  exact la_tail hf hl0 (off := 2474) ⟨dL_law_604, dL_law_606, dL_law_607, dL_law_610, dL_law_612, dL_law_617, dL_law_619, dL_law_622, dL_law_623, dL_law_624, dL_law_625, dL_law_627, dL_law_628, dL_law_629, dL_law_634, by decide⟩ hk hr h8 (fun z => (hrv z).1.trans (hrv z).2.symm) hI.r ⟨by omega, by omega⟩ (V_wide (by omega) (by omega) (kk ad σ3 hI))
set_option maxHeartbeats 4000000 in
set_option maxRecDepth 100000 in
theorem la_capacityOf {X : Cx} {ad : Adr} {σ : Mem} {b L : Nat} {xs : Nat → Int32} {i Bd : Int} {cs ss : Nat} (hf : Cf X RL cL_law 9 room_1) (hl0 : (xl X).stackTraces = false) (hsc : Sc X b L xs) (hL : L ≤ 2048) (hi : 0 ≤ i ∧ i + 4 ≤ L) (hB : Bd ≤ 40000000) (h : INV σ Bd) (hcs : cs + 500 ≤ 603072 ∧ ss + 1500 ≤ 7182441) (kk : Kx X b i Bd cs ss) : B X ad σ 637 (lsB ad b i) [] cs ss := by
  obtain ⟨oc, k, v, σ1, hC, hO, hv, hk, r, σ3, hr, hM, h8, hrv, hI⟩ := St.nr (by decide) (st_capacityOf (D := xD X) (K := xK X) (ad := ad) hl0 h _ (iN_self_r (xs (i + 1).toNat)))
  have hU := u_capacityOf hl0 _ hC hO hv
  refine V_aload_n hf dL_law_637 rfl rfl ?_
  refine V_aload_n hf dL_law_638 rfl rfl ?_
  refine V_iload hf dL_law_639 rfl ?_
  refine V_iconst hf dL_law_641 ?_
  refine V_iadd hf dL_law_642 ?_
  refine V_sld hf hsc ⟨by omega, by omega⟩ (by omega) (by omega) dL_law_643 ?_
  refine V_aload_n hf dL_law_644 rfl rfl ?_
  refine B_callH hf (As := [_, _, _]) (st := []) hU ch_L_198 rfl (Nat.le_of_ble_eq_true rfl) ⟨(Nat.le_of_ble_eq_true rfl), (Nat.le_of_ble_eq_true rfl), by show _ ≤ 603072; omega, by show _ ≤ 7182441; omega⟩ dL_law_645 ?_
  refine V_istore (ls2 := [_, _, _, _, _, _, _, _, _]) hf dL_law_648 (by decide) rfl rfl ?_
  refine V_aload_n hf dL_law_650 rfl rfl ?_
  refine V_aload_n hf dL_law_651 rfl rfl ?_
  refine V_iload hf dL_law_652 rfl ?_
  refine V_iconst hf dL_law_654 ?_
  refine V_iadd hf dL_law_655 ?_
  refine V_sld hf hsc ⟨by omega, by omega⟩ (by omega) (by omega) dL_law_656 ?_
  refine B_callVi hf (As := [_]) hM cv_L_200 l01 rfl rfl rfl (Nat.le_of_ble_eq_true rfl) ⟨(Nat.le_of_ble_eq_true rfl), (Nat.le_of_ble_eq_true rfl), by show _ ≤ 603072; omega, by show _ ≤ 7182441; omega⟩ dL_law_657 ?_
  exact la_tail hf hl0 (off := 2418) ⟨dL_law_660, dL_law_662, dL_law_663, dL_law_666, dL_law_668, dL_law_673, dL_law_675, dL_law_678, dL_law_679, dL_law_680, dL_law_681, dL_law_683, dL_law_684, dL_law_685, dL_law_690, by decide⟩ hk hr h8 (fun z => (hrv z).1.trans (hrv z).2.symm) hI.r ⟨by omega, by omega⟩ (V_wide (by omega) (by omega) (kk ad σ3 hI))
set_option maxHeartbeats 4000000 in
set_option maxRecDepth 100000 in
theorem la_loadOf {X : Cx} {ad : Adr} {σ : Mem} {b L : Nat} {xs : Nat → Int32} {i Bd : Int} {cs ss : Nat} (hf : Cf X RL cL_law 9 room_1) (hl0 : (xl X).stackTraces = false) (hsc : Sc X b L xs) (hL : L ≤ 2048) (hi : 0 ≤ i ∧ i + 4 ≤ L) (hB : Bd ≤ 40000000) (h : INV σ Bd) (hcs : cs + 500 ≤ 603072 ∧ ss + 1500 ≤ 7182441) (kk : Kx X b i Bd cs ss) : B X ad σ 693 (lsB ad b i) [] cs ss := by
  obtain ⟨oc, k, v, σ1, hC, hO, hv, hk, r, σ3, hr, hM, h8, hrv, hI⟩ := St.nr (by decide) (st_loadOf (D := xD X) (K := xK X) (ad := ad) hl0 h _ (iN_self_r (xs (i + 1).toNat)))
  have hU := u_loadOf hl0 _ hC hO hv
  refine V_aload_n hf dL_law_693 rfl rfl ?_
  refine V_aload_n hf dL_law_694 rfl rfl ?_
  refine V_iload hf dL_law_695 rfl ?_
  refine V_iconst hf dL_law_697 ?_
  refine V_iadd hf dL_law_698 ?_
  refine V_sld hf hsc ⟨by omega, by omega⟩ (by omega) (by omega) dL_law_699 ?_
  refine V_aload_n hf dL_law_700 rfl rfl ?_
  refine B_callH hf (As := [_, _, _]) (st := []) hU ch_L_201 rfl (Nat.le_of_ble_eq_true rfl) ⟨(Nat.le_of_ble_eq_true rfl), (Nat.le_of_ble_eq_true rfl), by show _ ≤ 603072; omega, by show _ ≤ 7182441; omega⟩ dL_law_701 ?_
  refine V_istore (ls2 := [_, _, _, _, _, _, _, _, _]) hf dL_law_704 (by decide) rfl rfl ?_
  refine V_aload_n hf dL_law_706 rfl rfl ?_
  refine V_aload_n hf dL_law_707 rfl rfl ?_
  refine V_iload hf dL_law_708 rfl ?_
  refine V_iconst hf dL_law_710 ?_
  refine V_iadd hf dL_law_711 ?_
  refine V_sld hf hsc ⟨by omega, by omega⟩ (by omega) (by omega) dL_law_712 ?_
  refine B_callVi hf (As := [_]) hM cv_L_203 l01 rfl rfl rfl (Nat.le_of_ble_eq_true rfl) ⟨(Nat.le_of_ble_eq_true rfl), (Nat.le_of_ble_eq_true rfl), by show _ ≤ 603072; omega, by show _ ≤ 7182441; omega⟩ dL_law_713 ?_
  exact la_tail hf hl0 (off := 2362) ⟨dL_law_716, dL_law_718, dL_law_719, dL_law_722, dL_law_724, dL_law_729, dL_law_731, dL_law_734, dL_law_735, dL_law_736, dL_law_737, dL_law_739, dL_law_740, dL_law_741, dL_law_746, by decide⟩ hk hr h8 (fun z => (hrv z).1.trans (hrv z).2.symm) hI.r ⟨by omega, by omega⟩ (V_wide (by omega) (by omega) (kk ad σ3 hI))
set_option maxHeartbeats 4000000 in
set_option maxRecDepth 100000 in
theorem la_freePlaces {X : Cx} {ad : Adr} {σ : Mem} {b L : Nat} {xs : Nat → Int32} {i Bd : Int} {cs ss : Nat} (hf : Cf X RL cL_law 9 room_1) (hl0 : (xl X).stackTraces = false) (hsc : Sc X b L xs) (hL : L ≤ 2048) (hi : 0 ≤ i ∧ i + 4 ≤ L) (hB : Bd ≤ 40000000) (h : INV σ Bd) (hcs : cs + 500 ≤ 603072 ∧ ss + 1500 ≤ 7182441) (kk : Kx X b i Bd cs ss) : B X ad σ 749 (lsB ad b i) [] cs ss := by
  obtain ⟨oc, k, v, σ1, hC, hO, hv, hk, r, σ3, hr, hM, h8, hrv, hI⟩ := St.nr (by decide) (st_freePlaces (D := xD X) (K := xK X) (ad := ad) hl0 h _ (iN_self_r (xs (i + 1).toNat)))
  have hU := u_freePlaces hl0 _ hC hO hv
  refine V_aload_n hf dL_law_749 rfl rfl ?_
  refine V_aload_n hf dL_law_750 rfl rfl ?_
  refine V_iload hf dL_law_751 rfl ?_
  refine V_iconst hf dL_law_753 ?_
  refine V_iadd hf dL_law_754 ?_
  refine V_sld hf hsc ⟨by omega, by omega⟩ (by omega) (by omega) dL_law_755 ?_
  refine V_aload_n hf dL_law_756 rfl rfl ?_
  refine B_callH hf (As := [_, _, _]) (st := []) hU ch_L_204 rfl (Nat.le_of_ble_eq_true rfl) ⟨(Nat.le_of_ble_eq_true rfl), (Nat.le_of_ble_eq_true rfl), by show _ ≤ 603072; omega, by show _ ≤ 7182441; omega⟩ dL_law_757 ?_
  refine V_istore (ls2 := [_, _, _, _, _, _, _, _, _]) hf dL_law_760 (by decide) rfl rfl ?_
  refine V_aload_n hf dL_law_762 rfl rfl ?_
  refine V_aload_n hf dL_law_763 rfl rfl ?_
  refine V_iload hf dL_law_764 rfl ?_
  refine V_iconst hf dL_law_766 ?_
  refine V_iadd hf dL_law_767 ?_
  refine V_sld hf hsc ⟨by omega, by omega⟩ (by omega) (by omega) dL_law_768 ?_
  refine B_callVi hf (As := [_]) hM cv_L_206 l01 rfl rfl rfl (Nat.le_of_ble_eq_true rfl) ⟨(Nat.le_of_ble_eq_true rfl), (Nat.le_of_ble_eq_true rfl), by show _ ≤ 603072; omega, by show _ ≤ 7182441; omega⟩ dL_law_769 ?_
  exact la_tail hf hl0 (off := 2306) ⟨dL_law_772, dL_law_774, dL_law_775, dL_law_778, dL_law_780, dL_law_785, dL_law_787, dL_law_790, dL_law_791, dL_law_792, dL_law_793, dL_law_795, dL_law_796, dL_law_797, dL_law_802, by decide⟩ hk hr h8 (fun z => (hrv z).1.trans (hrv z).2.symm) hI.r ⟨by omega, by omega⟩ (V_wide (by omega) (by omega) (kk ad σ3 hI))
set_option maxHeartbeats 4000000 in
set_option maxRecDepth 100000 in
theorem la_barnacleAt {X : Cx} {ad : Adr} {σ : Mem} {b L : Nat} {xs : Nat → Int32} {i Bd : Int} {cs ss : Nat} (hf : Cf X RL cL_law 9 room_1) (hl0 : (xl X).stackTraces = false) (hsc : Sc X b L xs) (hL : L ≤ 2048) (hi : 0 ≤ i ∧ i + 4 ≤ L) (hB : Bd ≤ 40000000) (h : INV σ Bd) (hcs : cs + 500 ≤ 603072 ∧ ss + 1500 ≤ 7182441) (kk : Kx X b i Bd cs ss) : B X ad σ 805 (lsB ad b i) [] cs ss := by
  obtain ⟨oc, k, v, σ1, hC, hO, hv, hk, r, σ3, hr, hM, h8, hrv, hI⟩ := St.nr (by decide) (st_barnacleAt (D := xD X) (K := xK X) (ad := ad) hl0 h _ (iN_self_r (xs (i + 1).toNat)) _ (iN_self_r (xs (i + 2).toNat)))
  have hU := u_barnacleAt hl0 _ _ hC hO hv
  refine V_aload_n hf dL_law_805 rfl rfl ?_
  refine V_aload_n hf dL_law_806 rfl rfl ?_
  refine V_iload hf dL_law_807 rfl ?_
  refine V_iconst hf dL_law_809 ?_
  refine V_iadd hf dL_law_810 ?_
  refine V_sld hf hsc ⟨by omega, by omega⟩ (by omega) (by omega) dL_law_811 ?_
  refine V_aload_n hf dL_law_812 rfl rfl ?_
  refine V_iload hf dL_law_813 rfl ?_
  refine V_iconst hf dL_law_815 ?_
  refine V_iadd hf dL_law_816 ?_
  refine V_sld hf hsc ⟨by omega, by omega⟩ (by omega) (by omega) dL_law_817 ?_
  refine V_aload_n hf dL_law_818 rfl rfl ?_
  refine B_callH hf (As := [_, _, _, _]) (st := []) hU ch_L_207 rfl (Nat.le_of_ble_eq_true rfl) ⟨(Nat.le_of_ble_eq_true rfl), (Nat.le_of_ble_eq_true rfl), by show _ ≤ 603072; omega, by show _ ≤ 7182441; omega⟩ dL_law_819 ?_
  refine V_istore (ls2 := [_, _, _, _, _, _, _, _, _]) hf dL_law_822 (by decide) rfl rfl ?_
  refine V_aload_n hf dL_law_824 rfl rfl ?_
  refine V_aload_n hf dL_law_825 rfl rfl ?_
  refine V_iload hf dL_law_826 rfl ?_
  refine V_iconst hf dL_law_828 ?_
  refine V_iadd hf dL_law_829 ?_
  refine V_sld hf hsc ⟨by omega, by omega⟩ (by omega) (by omega) dL_law_830 ?_
  refine V_aload_n hf dL_law_831 rfl rfl ?_
  refine V_iload hf dL_law_832 rfl ?_
  refine V_iconst hf dL_law_834 ?_
  refine V_iadd hf dL_law_835 ?_
  refine V_sld hf hsc ⟨by omega, by omega⟩ (by omega) (by omega) dL_law_836 ?_
  refine B_callVi hf (As := [_, _]) hM cv_L_209 l01 rfl rfl rfl (Nat.le_of_ble_eq_true rfl) ⟨(Nat.le_of_ble_eq_true rfl), (Nat.le_of_ble_eq_true rfl), by show _ ≤ 603072; omega, by show _ ≤ 7182441; omega⟩ dL_law_837 ?_
  exact la_tail hf hl0 (off := 2238) ⟨dL_law_840, dL_law_842, dL_law_843, dL_law_846, dL_law_848, dL_law_853, dL_law_855, dL_law_858, dL_law_859, dL_law_860, dL_law_861, dL_law_863, dL_law_864, dL_law_865, dL_law_870, by decide⟩ hk hr h8 (fun z => (hrv z).1.trans (hrv z).2.symm) hI.r ⟨by omega, by omega⟩ (V_wide (by omega) (by omega) (kk ad σ3 hI))
set_option maxHeartbeats 4000000 in
set_option maxRecDepth 100000 in
theorem la_barnacleCount {X : Cx} {ad : Adr} {σ : Mem} {b L : Nat} {xs : Nat → Int32} {i Bd : Int} {cs ss : Nat} (hf : Cf X RL cL_law 9 room_1) (hl0 : (xl X).stackTraces = false) (hsc : Sc X b L xs) (hL : L ≤ 2048) (hi : 0 ≤ i ∧ i + 4 ≤ L) (hB : Bd ≤ 40000000) (h : INV σ Bd) (hcs : cs + 500 ≤ 603072 ∧ ss + 1500 ≤ 7182441) (kk : Kx X b i Bd cs ss) : B X ad σ 873 (lsB ad b i) [] cs ss := by
  obtain ⟨v, σ1, σ3, hv, hC, hM, hI⟩ := St.n0 (st_barnacleCount (D := xD X) (K := xK X) (ad := ad) hl0 h)
  refine V_aload_n hf dL_law_873 rfl rfl ?_
  refine B_callVi hf (As := []) hC cv_L_210 l01 rfl rfl rfl (Nat.le_of_ble_eq_true rfl) ⟨(Nat.le_of_ble_eq_true rfl), (Nat.le_of_ble_eq_true rfl), by show _ ≤ 603072; omega, by show _ ≤ 7182441; omega⟩ dL_law_874 ?_
  refine V_aload_n hf dL_law_877 rfl rfl ?_
  refine B_callVi hf (As := []) hM cv_L_213 l01 rfl rfl rfl (Nat.le_of_ble_eq_true rfl) ⟨(Nat.le_of_ble_eq_true rfl), (Nat.le_of_ble_eq_true rfl), by show _ ≤ 603072; omega, by show _ ≤ 7182441; omega⟩ dL_law_878 ?_
  exact V_icmp_eq (tgt := 3108) hf hv hv dL_law_881 (by decide) (fun _ => V_wide (by omega) (by omega) (kk ad σ3 hI)) (fun q => absurd rfl q)
set_option maxHeartbeats 4000000 in
set_option maxRecDepth 100000 in
theorem la_shipOf {X : Cx} {ad : Adr} {σ : Mem} {b L : Nat} {xs : Nat → Int32} {i Bd : Int} {cs ss : Nat} (hf : Cf X RL cL_law 9 room_1) (hl0 : (xl X).stackTraces = false) (hsc : Sc X b L xs) (hL : L ≤ 2048) (hi : 0 ≤ i ∧ i + 4 ≤ L) (hB : Bd ≤ 40000000) (h : INV σ Bd) (hcs : cs + 500 ≤ 603072 ∧ ss + 1500 ≤ 7182441) (kk : Kx X b i Bd cs ss) : B X ad σ 886 (lsB ad b i) [] cs ss := by
  obtain ⟨oc, k, v, σ1, hC, hO, hv, hk, r, σ3, hr, hM, h8, hrv, hI⟩ := St.nr (by decide) (st_shipOf (D := xD X) (K := xK X) (ad := ad) hl0 h _ (iN_self_r (xs (i + 1).toNat)))
  have hU := u_shipOf hl0 _ hC hO hv
  refine V_aload_n hf dL_law_886 rfl rfl ?_
  refine V_aload_n hf dL_law_887 rfl rfl ?_
  refine V_iload hf dL_law_888 rfl ?_
  refine V_iconst hf dL_law_890 ?_
  refine V_iadd hf dL_law_891 ?_
  refine V_sld hf hsc ⟨by omega, by omega⟩ (by omega) (by omega) dL_law_892 ?_
  refine V_aload_n hf dL_law_893 rfl rfl ?_
  refine B_callH hf (As := [_, _, _]) (st := []) hU ch_L_214 rfl (Nat.le_of_ble_eq_true rfl) ⟨(Nat.le_of_ble_eq_true rfl), (Nat.le_of_ble_eq_true rfl), by show _ ≤ 603072; omega, by show _ ≤ 7182441; omega⟩ dL_law_894 ?_
  refine V_istore (ls2 := [_, _, _, _, _, _, _, _, _]) hf dL_law_897 (by decide) rfl rfl ?_
  refine V_aload_n hf dL_law_899 rfl rfl ?_
  refine V_aload_n hf dL_law_900 rfl rfl ?_
  refine V_iload hf dL_law_901 rfl ?_
  refine V_iconst hf dL_law_903 ?_
  refine V_iadd hf dL_law_904 ?_
  refine V_sld hf hsc ⟨by omega, by omega⟩ (by omega) (by omega) dL_law_905 ?_
  refine B_callVi hf (As := [_]) hM cv_L_216 l01 rfl rfl rfl (Nat.le_of_ble_eq_true rfl) ⟨(Nat.le_of_ble_eq_true rfl), (Nat.le_of_ble_eq_true rfl), by show _ ≤ 603072; omega, by show _ ≤ 7182441; omega⟩ dL_law_906 ?_
  exact la_tail hf hl0 (off := 2169) ⟨dL_law_909, dL_law_911, dL_law_912, dL_law_915, dL_law_917, dL_law_922, dL_law_924, dL_law_927, dL_law_928, dL_law_929, dL_law_930, dL_law_932, dL_law_933, dL_law_934, dL_law_939, by decide⟩ hk hr h8 (fun z => (hrv z).1.trans (hrv z).2.symm) hI.r ⟨by omega, by omega⟩ (V_wide (by omega) (by omega) (kk ad σ3 hI))
set_option maxHeartbeats 4000000 in
set_option maxRecDepth 100000 in
theorem la_gradeOf {X : Cx} {ad : Adr} {σ : Mem} {b L : Nat} {xs : Nat → Int32} {i Bd : Int} {cs ss : Nat} (hf : Cf X RL cL_law 9 room_1) (hl0 : (xl X).stackTraces = false) (hsc : Sc X b L xs) (hL : L ≤ 2048) (hi : 0 ≤ i ∧ i + 4 ≤ L) (hB : Bd ≤ 40000000) (h : INV σ Bd) (hcs : cs + 500 ≤ 603072 ∧ ss + 1500 ≤ 7182441) (kk : Kx X b i Bd cs ss) : B X ad σ 942 (lsB ad b i) [] cs ss := by
  obtain ⟨oc, k, v, σ1, hC, hO, hv, hk, r, σ3, hr, hM, h8, hrv, hI⟩ := St.nr (by decide) (st_gradeOf (D := xD X) (K := xK X) (ad := ad) hl0 h _ (iN_self_r (xs (i + 1).toNat)))
  have hU := u_gradeOf hl0 _ hC hO hv
  refine V_aload_n hf dL_law_942 rfl rfl ?_
  refine V_aload_n hf dL_law_943 rfl rfl ?_
  refine V_iload hf dL_law_944 rfl ?_
  refine V_iconst hf dL_law_946 ?_
  refine V_iadd hf dL_law_947 ?_
  refine V_sld hf hsc ⟨by omega, by omega⟩ (by omega) (by omega) dL_law_948 ?_
  refine V_aload_n hf dL_law_949 rfl rfl ?_
  refine B_callH hf (As := [_, _, _]) (st := []) hU ch_L_217 rfl (Nat.le_of_ble_eq_true rfl) ⟨(Nat.le_of_ble_eq_true rfl), (Nat.le_of_ble_eq_true rfl), by show _ ≤ 603072; omega, by show _ ≤ 7182441; omega⟩ dL_law_950 ?_
  refine V_istore (ls2 := [_, _, _, _, _, _, _, _, _]) hf dL_law_953 (by decide) rfl rfl ?_
  refine V_aload_n hf dL_law_955 rfl rfl ?_
  refine V_aload_n hf dL_law_956 rfl rfl ?_
  refine V_iload hf dL_law_957 rfl ?_
  refine V_iconst hf dL_law_959 ?_
  refine V_iadd hf dL_law_960 ?_
  refine V_sld hf hsc ⟨by omega, by omega⟩ (by omega) (by omega) dL_law_961 ?_
  refine B_callVi hf (As := [_]) hM cv_L_219 l01 rfl rfl rfl (Nat.le_of_ble_eq_true rfl) ⟨(Nat.le_of_ble_eq_true rfl), (Nat.le_of_ble_eq_true rfl), by show _ ≤ 603072; omega, by show _ ≤ 7182441; omega⟩ dL_law_962 ?_
  exact la_tail hf hl0 (off := 2113) ⟨dL_law_965, dL_law_967, dL_law_968, dL_law_971, dL_law_973, dL_law_978, dL_law_980, dL_law_983, dL_law_984, dL_law_985, dL_law_986, dL_law_988, dL_law_989, dL_law_990, dL_law_995, by decide⟩ hk hr h8 (fun z => (hrv z).1.trans (hrv z).2.symm) hI.r ⟨by omega, by omega⟩ (V_wide (by omega) (by omega) (kk ad σ3 hI))
set_option maxHeartbeats 4000000 in
set_option maxRecDepth 100000 in
theorem la_placeBid {X : Cx} {ad : Adr} {σ : Mem} {b L : Nat} {xs : Nat → Int32} {i Bd : Int} {cs ss : Nat} (hf : Cf X RL cL_law 9 room_1) (hl0 : (xl X).stackTraces = false) (hsc : Sc X b L xs) (hL : L ≤ 2048) (hi : 0 ≤ i ∧ i + 4 ≤ L) (hB : Bd ≤ 40000000) (h : INV σ Bd) (hcs : cs + 500 ≤ 603072 ∧ ss + 1500 ≤ 7182441) (kk : Kx X b i Bd cs ss) : B X ad σ 1061 (lsB ad b i) [] cs ss := by
  obtain ⟨oc, k, v, σ1, hC, hO, hv, hk, r, σ3, hr, hM, h8, hrv, hI⟩ := St.nr (by decide) (st_placeBid (D := xD X) (K := xK X) (ad := ad) hl0 h hB _ (iN_self_r (xs (i + 1).toNat)) _ (iN_self_r (xs (i + 2).toNat)) _ (iN_self_r (xs (i + 3).toNat)))
  have hU := u_placeBid hl0 _ _ _ hC hO hv
  refine V_aload_n hf dL_law_1061 rfl rfl ?_
  refine V_aload_n hf dL_law_1062 rfl rfl ?_
  refine V_iload hf dL_law_1063 rfl ?_
  refine V_iconst hf dL_law_1065 ?_
  refine V_iadd hf dL_law_1066 ?_
  refine V_sld hf hsc ⟨by omega, by omega⟩ (by omega) (by omega) dL_law_1067 ?_
  refine V_aload_n hf dL_law_1068 rfl rfl ?_
  refine V_iload hf dL_law_1069 rfl ?_
  refine V_iconst hf dL_law_1071 ?_
  refine V_iadd hf dL_law_1072 ?_
  refine V_sld hf hsc ⟨by omega, by omega⟩ (by omega) (by omega) dL_law_1073 ?_
  refine V_aload_n hf dL_law_1074 rfl rfl ?_
  refine V_iload hf dL_law_1075 rfl ?_
  refine V_iconst hf dL_law_1077 ?_
  refine V_iadd hf dL_law_1078 ?_
  refine V_sld hf hsc ⟨by omega, by omega⟩ (by omega) (by omega) dL_law_1079 ?_
  refine V_aload_n hf dL_law_1080 rfl rfl ?_
  refine B_callH hf (As := [_, _, _, _, _]) (st := []) hU ch_L_223 rfl (Nat.le_of_ble_eq_true rfl) ⟨(Nat.le_of_ble_eq_true rfl), (Nat.le_of_ble_eq_true rfl), by show _ ≤ 603072; omega, by show _ ≤ 7182441; omega⟩ dL_law_1081 ?_
  refine V_istore (ls2 := [_, _, _, _, _, _, _, _, _]) hf dL_law_1084 (by decide) rfl rfl ?_
  refine V_aload_n hf dL_law_1086 rfl rfl ?_
  refine V_aload_n hf dL_law_1087 rfl rfl ?_
  refine V_iload hf dL_law_1088 rfl ?_
  refine V_iconst hf dL_law_1090 ?_
  refine V_iadd hf dL_law_1091 ?_
  refine V_sld hf hsc ⟨by omega, by omega⟩ (by omega) (by omega) dL_law_1092 ?_
  refine V_aload_n hf dL_law_1093 rfl rfl ?_
  refine V_iload hf dL_law_1094 rfl ?_
  refine V_iconst hf dL_law_1096 ?_
  refine V_iadd hf dL_law_1097 ?_
  refine V_sld hf hsc ⟨by omega, by omega⟩ (by omega) (by omega) dL_law_1098 ?_
  refine V_aload_n hf dL_law_1099 rfl rfl ?_
  refine V_iload hf dL_law_1100 rfl ?_
  refine V_iconst hf dL_law_1102 ?_
  refine V_iadd hf dL_law_1103 ?_
  refine V_sld hf hsc ⟨by omega, by omega⟩ (by omega) (by omega) dL_law_1104 ?_
  refine B_callVi hf (As := [_, _, _]) hM cv_L_226 l01 rfl rfl rfl (Nat.le_of_ble_eq_true rfl) ⟨(Nat.le_of_ble_eq_true rfl), (Nat.le_of_ble_eq_true rfl), by show _ ≤ 603072; omega, by show _ ≤ 7182441; omega⟩ dL_law_1105 ?_
  exact la_tail hf hl0 (off := 1970) ⟨dL_law_1108, dL_law_1110, dL_law_1111, dL_law_1114, dL_law_1116, dL_law_1121, dL_law_1123, dL_law_1126, dL_law_1127, dL_law_1128, dL_law_1129, dL_law_1131, dL_law_1132, dL_law_1133, dL_law_1138, by decide⟩ hk hr h8 (fun z => (hrv z).1.trans (hrv z).2.symm) hI.r ⟨by omega, by omega⟩ (V_wide (by omega) (by omega) (kk ad σ3 hI))
set_option maxHeartbeats 4000000 in
set_option maxRecDepth 100000 in
theorem la_placeOffer {X : Cx} {ad : Adr} {σ : Mem} {b L : Nat} {xs : Nat → Int32} {i Bd : Int} {cs ss : Nat} (hf : Cf X RL cL_law 9 room_1) (hl0 : (xl X).stackTraces = false) (hsc : Sc X b L xs) (hL : L ≤ 2048) (hi : 0 ≤ i ∧ i + 4 ≤ L) (hB : Bd ≤ 40000000) (h : INV σ Bd) (hcs : cs + 500 ≤ 603072 ∧ ss + 1500 ≤ 7182441) (kk : Kx X b i Bd cs ss) : B X ad σ 1141 (lsB ad b i) [] cs ss := by
  obtain ⟨oc, k, v, σ1, hC, hO, hv, hk, r, σ3, hr, hM, h8, hrv, hI⟩ := St.nr (by decide) (st_placeOffer (D := xD X) (K := xK X) (ad := ad) hl0 h hB _ (iN_self_r (xs (i + 1).toNat)) _ (iN_self_r (xs (i + 2).toNat)))
  have hU := u_placeOffer hl0 _ _ hC hO hv
  refine V_aload_n hf dL_law_1141 rfl rfl ?_
  refine V_aload_n hf dL_law_1142 rfl rfl ?_
  refine V_iload hf dL_law_1143 rfl ?_
  refine V_iconst hf dL_law_1145 ?_
  refine V_iadd hf dL_law_1146 ?_
  refine V_sld hf hsc ⟨by omega, by omega⟩ (by omega) (by omega) dL_law_1147 ?_
  refine V_aload_n hf dL_law_1148 rfl rfl ?_
  refine V_iload hf dL_law_1149 rfl ?_
  refine V_iconst hf dL_law_1151 ?_
  refine V_iadd hf dL_law_1152 ?_
  refine V_sld hf hsc ⟨by omega, by omega⟩ (by omega) (by omega) dL_law_1153 ?_
  refine V_aload_n hf dL_law_1154 rfl rfl ?_
  refine B_callH hf (As := [_, _, _, _]) (st := []) hU ch_L_227 rfl (Nat.le_of_ble_eq_true rfl) ⟨(Nat.le_of_ble_eq_true rfl), (Nat.le_of_ble_eq_true rfl), by show _ ≤ 603072; omega, by show _ ≤ 7182441; omega⟩ dL_law_1155 ?_
  refine V_istore (ls2 := [_, _, _, _, _, _, _, _, _]) hf dL_law_1158 (by decide) rfl rfl ?_
  refine V_aload_n hf dL_law_1160 rfl rfl ?_
  refine V_aload_n hf dL_law_1161 rfl rfl ?_
  refine V_iload hf dL_law_1162 rfl ?_
  refine V_iconst hf dL_law_1164 ?_
  refine V_iadd hf dL_law_1165 ?_
  refine V_sld hf hsc ⟨by omega, by omega⟩ (by omega) (by omega) dL_law_1166 ?_
  refine V_aload_n hf dL_law_1167 rfl rfl ?_
  refine V_iload hf dL_law_1168 rfl ?_
  refine V_iconst hf dL_law_1170 ?_
  refine V_iadd hf dL_law_1171 ?_
  refine V_sld hf hsc ⟨by omega, by omega⟩ (by omega) (by omega) dL_law_1172 ?_
  refine B_callVi hf (As := [_, _]) hM cv_L_229 l01 rfl rfl rfl (Nat.le_of_ble_eq_true rfl) ⟨(Nat.le_of_ble_eq_true rfl), (Nat.le_of_ble_eq_true rfl), by show _ ≤ 603072; omega, by show _ ≤ 7182441; omega⟩ dL_law_1173 ?_
  exact la_tail hf hl0 (off := 1902) ⟨dL_law_1176, dL_law_1178, dL_law_1179, dL_law_1182, dL_law_1184, dL_law_1189, dL_law_1191, dL_law_1194, dL_law_1195, dL_law_1196, dL_law_1197, dL_law_1199, dL_law_1200, dL_law_1201, dL_law_1206, by decide⟩ hk hr h8 (fun z => (hrv z).1.trans (hrv z).2.symm) hI.r ⟨by omega, by omega⟩ (V_wide (by omega) (by omega) (kk ad σ3 hI))
set_option maxHeartbeats 4000000 in
set_option maxRecDepth 100000 in
theorem la_cancelBid {X : Cx} {ad : Adr} {σ : Mem} {b L : Nat} {xs : Nat → Int32} {i Bd : Int} {cs ss : Nat} (hf : Cf X RL cL_law 9 room_1) (hl0 : (xl X).stackTraces = false) (hsc : Sc X b L xs) (hL : L ≤ 2048) (hi : 0 ≤ i ∧ i + 4 ≤ L) (hB : Bd ≤ 40000000) (h : INV σ Bd) (hcs : cs + 500 ≤ 603072 ∧ ss + 1500 ≤ 7182441) (kk : Kx X b i Bd cs ss) : B X ad σ 1209 (lsB ad b i) [] cs ss := by
  obtain ⟨oc, k, v, σ1, hC, hO, hv, hk, r, σ3, hr, hM, h8, hrv, hI⟩ := St.nr (by decide) (st_cancelBid (D := xD X) (K := xK X) (ad := ad) hl0 h hB _ (iN_self_r (xs (i + 1).toNat)))
  have hU := u_cancelBid hl0 _ hC hO hv
  refine V_aload_n hf dL_law_1209 rfl rfl ?_
  refine V_aload_n hf dL_law_1210 rfl rfl ?_
  refine V_iload hf dL_law_1211 rfl ?_
  refine V_iconst hf dL_law_1213 ?_
  refine V_iadd hf dL_law_1214 ?_
  refine V_sld hf hsc ⟨by omega, by omega⟩ (by omega) (by omega) dL_law_1215 ?_
  refine V_aload_n hf dL_law_1216 rfl rfl ?_
  refine B_callH hf (As := [_, _, _]) (st := []) hU ch_L_230 rfl (Nat.le_of_ble_eq_true rfl) ⟨(Nat.le_of_ble_eq_true rfl), (Nat.le_of_ble_eq_true rfl), by show _ ≤ 603072; omega, by show _ ≤ 7182441; omega⟩ dL_law_1217 ?_
  refine V_istore (ls2 := [_, _, _, _, _, _, _, _, _]) hf dL_law_1220 (by decide) rfl rfl ?_
  refine V_aload_n hf dL_law_1222 rfl rfl ?_
  refine V_aload_n hf dL_law_1223 rfl rfl ?_
  refine V_iload hf dL_law_1224 rfl ?_
  refine V_iconst hf dL_law_1226 ?_
  refine V_iadd hf dL_law_1227 ?_
  refine V_sld hf hsc ⟨by omega, by omega⟩ (by omega) (by omega) dL_law_1228 ?_
  refine B_callVi hf (As := [_]) hM cv_L_232 l01 rfl rfl rfl (Nat.le_of_ble_eq_true rfl) ⟨(Nat.le_of_ble_eq_true rfl), (Nat.le_of_ble_eq_true rfl), by show _ ≤ 603072; omega, by show _ ≤ 7182441; omega⟩ dL_law_1229 ?_
  exact la_tail hf hl0 (off := 1846) ⟨dL_law_1232, dL_law_1234, dL_law_1235, dL_law_1238, dL_law_1240, dL_law_1245, dL_law_1247, dL_law_1250, dL_law_1251, dL_law_1252, dL_law_1253, dL_law_1255, dL_law_1256, dL_law_1257, dL_law_1262, by decide⟩ hk hr h8 (fun z => (hrv z).1.trans (hrv z).2.symm) hI.r ⟨by omega, by omega⟩ (V_wide (by omega) (by omega) (kk ad σ3 hI))
set_option maxHeartbeats 4000000 in
set_option maxRecDepth 100000 in
theorem la_cancelOffer {X : Cx} {ad : Adr} {σ : Mem} {b L : Nat} {xs : Nat → Int32} {i Bd : Int} {cs ss : Nat} (hf : Cf X RL cL_law 9 room_1) (hl0 : (xl X).stackTraces = false) (hsc : Sc X b L xs) (hL : L ≤ 2048) (hi : 0 ≤ i ∧ i + 4 ≤ L) (hB : Bd ≤ 40000000) (h : INV σ Bd) (hcs : cs + 500 ≤ 603072 ∧ ss + 1500 ≤ 7182441) (kk : Kx X b i Bd cs ss) : B X ad σ 1265 (lsB ad b i) [] cs ss := by
  obtain ⟨oc, k, v, σ1, hC, hO, hv, hk, r, σ3, hr, hM, h8, hrv, hI⟩ := St.nr (by decide) (st_cancelOffer (D := xD X) (K := xK X) (ad := ad) hl0 h hB _ (iN_self_r (xs (i + 1).toNat)))
  have hU := u_cancelOffer hl0 _ hC hO hv
  refine V_aload_n hf dL_law_1265 rfl rfl ?_
  refine V_aload_n hf dL_law_1266 rfl rfl ?_
  refine V_iload hf dL_law_1267 rfl ?_
  refine V_iconst hf dL_law_1269 ?_
  refine V_iadd hf dL_law_1270 ?_
  refine V_sld hf hsc ⟨by omega, by omega⟩ (by omega) (by omega) dL_law_1271 ?_
  refine V_aload_n hf dL_law_1272 rfl rfl ?_
  refine B_callH hf (As := [_, _, _]) (st := []) hU ch_L_233 rfl (Nat.le_of_ble_eq_true rfl) ⟨(Nat.le_of_ble_eq_true rfl), (Nat.le_of_ble_eq_true rfl), by show _ ≤ 603072; omega, by show _ ≤ 7182441; omega⟩ dL_law_1273 ?_
  refine V_istore (ls2 := [_, _, _, _, _, _, _, _, _]) hf dL_law_1276 (by decide) rfl rfl ?_
  refine V_aload_n hf dL_law_1278 rfl rfl ?_
  refine V_aload_n hf dL_law_1279 rfl rfl ?_
  refine V_iload hf dL_law_1280 rfl ?_
  refine V_iconst hf dL_law_1282 ?_
  refine V_iadd hf dL_law_1283 ?_
  refine V_sld hf hsc ⟨by omega, by omega⟩ (by omega) (by omega) dL_law_1284 ?_
  refine B_callVi hf (As := [_]) hM cv_L_235 l01 rfl rfl rfl (Nat.le_of_ble_eq_true rfl) ⟨(Nat.le_of_ble_eq_true rfl), (Nat.le_of_ble_eq_true rfl), by show _ ≤ 603072; omega, by show _ ≤ 7182441; omega⟩ dL_law_1285 ?_
  exact la_tail hf hl0 (off := 1790) ⟨dL_law_1288, dL_law_1290, dL_law_1291, dL_law_1294, dL_law_1296, dL_law_1301, dL_law_1303, dL_law_1306, dL_law_1307, dL_law_1308, dL_law_1309, dL_law_1311, dL_law_1312, dL_law_1313, dL_law_1318, by decide⟩ hk hr h8 (fun z => (hrv z).1.trans (hrv z).2.symm) hI.r ⟨by omega, by omega⟩ (V_wide (by omega) (by omega) (kk ad σ3 hI))
set_option maxHeartbeats 4000000 in
set_option maxRecDepth 100000 in
theorem la_bidCount {X : Cx} {ad : Adr} {σ : Mem} {b L : Nat} {xs : Nat → Int32} {i Bd : Int} {cs ss : Nat} (hf : Cf X RL cL_law 9 room_1) (hl0 : (xl X).stackTraces = false) (hsc : Sc X b L xs) (hL : L ≤ 2048) (hi : 0 ≤ i ∧ i + 4 ≤ L) (hB : Bd ≤ 40000000) (h : INV σ Bd) (hcs : cs + 500 ≤ 603072 ∧ ss + 1500 ≤ 7182441) (kk : Kx X b i Bd cs ss) : B X ad σ 1321 (lsB ad b i) [] cs ss := by
  obtain ⟨v, σ1, σ3, hv, hC, hM, hI⟩ := St.n0 (st_bidCount (D := xD X) (K := xK X) (ad := ad) hl0 h)
  refine V_aload_n hf dL_law_1321 rfl rfl ?_
  refine B_callVi hf (As := []) hC cv_L_236 l01 rfl rfl rfl (Nat.le_of_ble_eq_true rfl) ⟨(Nat.le_of_ble_eq_true rfl), (Nat.le_of_ble_eq_true rfl), by show _ ≤ 603072; omega, by show _ ≤ 7182441; omega⟩ dL_law_1322 ?_
  refine V_aload_n hf dL_law_1325 rfl rfl ?_
  refine B_callVi hf (As := []) hM cv_L_239 l01 rfl rfl rfl (Nat.le_of_ble_eq_true rfl) ⟨(Nat.le_of_ble_eq_true rfl), (Nat.le_of_ble_eq_true rfl), by show _ ≤ 603072; omega, by show _ ≤ 7182441; omega⟩ dL_law_1326 ?_
  exact V_icmp_eq (tgt := 3108) hf hv hv dL_law_1329 (by decide) (fun _ => V_wide (by omega) (by omega) (kk ad σ3 hI)) (fun q => absurd rfl q)
set_option maxHeartbeats 4000000 in
set_option maxRecDepth 100000 in
theorem la_offerCount {X : Cx} {ad : Adr} {σ : Mem} {b L : Nat} {xs : Nat → Int32} {i Bd : Int} {cs ss : Nat} (hf : Cf X RL cL_law 9 room_1) (hl0 : (xl X).stackTraces = false) (hsc : Sc X b L xs) (hL : L ≤ 2048) (hi : 0 ≤ i ∧ i + 4 ≤ L) (hB : Bd ≤ 40000000) (h : INV σ Bd) (hcs : cs + 500 ≤ 603072 ∧ ss + 1500 ≤ 7182441) (kk : Kx X b i Bd cs ss) : B X ad σ 1334 (lsB ad b i) [] cs ss := by
  obtain ⟨v, σ1, σ3, hv, hC, hM, hI⟩ := St.n0 (st_offerCount (D := xD X) (K := xK X) (ad := ad) hl0 h)
  refine V_aload_n hf dL_law_1334 rfl rfl ?_
  refine B_callVi hf (As := []) hC cv_L_240 l01 rfl rfl rfl (Nat.le_of_ble_eq_true rfl) ⟨(Nat.le_of_ble_eq_true rfl), (Nat.le_of_ble_eq_true rfl), by show _ ≤ 603072; omega, by show _ ≤ 7182441; omega⟩ dL_law_1335 ?_
  refine V_aload_n hf dL_law_1338 rfl rfl ?_
  refine B_callVi hf (As := []) hM cv_L_243 l01 rfl rfl rfl (Nat.le_of_ble_eq_true rfl) ⟨(Nat.le_of_ble_eq_true rfl), (Nat.le_of_ble_eq_true rfl), by show _ ≤ 603072; omega, by show _ ≤ 7182441; omega⟩ dL_law_1339 ?_
  exact V_icmp_eq (tgt := 3108) hf hv hv dL_law_1342 (by decide) (fun _ => V_wide (by omega) (by omega) (kk ad σ3 hI)) (fun q => absurd rfl q)
set_option maxHeartbeats 4000000 in
set_option maxRecDepth 100000 in
theorem la_bidAt {X : Cx} {ad : Adr} {σ : Mem} {b L : Nat} {xs : Nat → Int32} {i Bd : Int} {cs ss : Nat} (hf : Cf X RL cL_law 9 room_1) (hl0 : (xl X).stackTraces = false) (hsc : Sc X b L xs) (hL : L ≤ 2048) (hi : 0 ≤ i ∧ i + 4 ≤ L) (hB : Bd ≤ 40000000) (h : INV σ Bd) (hcs : cs + 500 ≤ 603072 ∧ ss + 1500 ≤ 7182441) (kk : Kx X b i Bd cs ss) : B X ad σ 1347 (lsB ad b i) [] cs ss := by
  obtain ⟨oc, k, v, σ1, hC, hO, hv, hk, r, σ3, hr, hM, h8, hrv, hI⟩ := St.nr (by decide) (st_bidAt (D := xD X) (K := xK X) (ad := ad) hl0 h _ (iN_self_r (xs (i + 1).toNat)))
  have hU := u_bidAt hl0 _ hC hO hv
  refine V_aload_n hf dL_law_1347 rfl rfl ?_
  refine V_aload_n hf dL_law_1348 rfl rfl ?_
  refine V_iload hf dL_law_1349 rfl ?_
  refine V_iconst hf dL_law_1351 ?_
  refine V_iadd hf dL_law_1352 ?_
  refine V_sld hf hsc ⟨by omega, by omega⟩ (by omega) (by omega) dL_law_1353 ?_
  refine V_aload_n hf dL_law_1354 rfl rfl ?_
  refine B_callH hf (As := [_, _, _]) (st := []) hU ch_L_244 rfl (Nat.le_of_ble_eq_true rfl) ⟨(Nat.le_of_ble_eq_true rfl), (Nat.le_of_ble_eq_true rfl), by show _ ≤ 603072; omega, by show _ ≤ 7182441; omega⟩ dL_law_1355 ?_
  refine V_istore (ls2 := [_, _, _, _, _, _, _, _, _]) hf dL_law_1358 (by decide) rfl rfl ?_
  refine V_aload_n hf dL_law_1360 rfl rfl ?_
  refine V_aload_n hf dL_law_1361 rfl rfl ?_
  refine V_iload hf dL_law_1362 rfl ?_
  refine V_iconst hf dL_law_1364 ?_
  refine V_iadd hf dL_law_1365 ?_
  refine V_sld hf hsc ⟨by omega, by omega⟩ (by omega) (by omega) dL_law_1366 ?_
  refine B_callVi hf (As := [_]) hM cv_L_246 l01 rfl rfl rfl (Nat.le_of_ble_eq_true rfl) ⟨(Nat.le_of_ble_eq_true rfl), (Nat.le_of_ble_eq_true rfl), by show _ ≤ 603072; omega, by show _ ≤ 7182441; omega⟩ dL_law_1367 ?_
  exact la_tail hf hl0 (off := 1708) ⟨dL_law_1370, dL_law_1372, dL_law_1373, dL_law_1376, dL_law_1378, dL_law_1383, dL_law_1385, dL_law_1388, dL_law_1389, dL_law_1390, dL_law_1391, dL_law_1393, dL_law_1394, dL_law_1395, dL_law_1400, by decide⟩ hk hr h8 (fun z => (hrv z).1.trans (hrv z).2.symm) hI.r ⟨by omega, by omega⟩ (V_wide (by omega) (by omega) (kk ad σ3 hI))
set_option maxHeartbeats 4000000 in
set_option maxRecDepth 100000 in
theorem la_offerAt {X : Cx} {ad : Adr} {σ : Mem} {b L : Nat} {xs : Nat → Int32} {i Bd : Int} {cs ss : Nat} (hf : Cf X RL cL_law 9 room_1) (hl0 : (xl X).stackTraces = false) (hsc : Sc X b L xs) (hL : L ≤ 2048) (hi : 0 ≤ i ∧ i + 4 ≤ L) (hB : Bd ≤ 40000000) (h : INV σ Bd) (hcs : cs + 500 ≤ 603072 ∧ ss + 1500 ≤ 7182441) (kk : Kx X b i Bd cs ss) : B X ad σ 1403 (lsB ad b i) [] cs ss := by
  obtain ⟨oc, k, v, σ1, hC, hO, hv, hk, r, σ3, hr, hM, h8, hrv, hI⟩ := St.nr (by decide) (st_offerAt (D := xD X) (K := xK X) (ad := ad) hl0 h _ (iN_self_r (xs (i + 1).toNat)))
  have hU := u_offerAt hl0 _ hC hO hv
  refine V_aload_n hf dL_law_1403 rfl rfl ?_
  refine V_aload_n hf dL_law_1404 rfl rfl ?_
  refine V_iload hf dL_law_1405 rfl ?_
  refine V_iconst hf dL_law_1407 ?_
  refine V_iadd hf dL_law_1408 ?_
  refine V_sld hf hsc ⟨by omega, by omega⟩ (by omega) (by omega) dL_law_1409 ?_
  refine V_aload_n hf dL_law_1410 rfl rfl ?_
  refine B_callH hf (As := [_, _, _]) (st := []) hU ch_L_247 rfl (Nat.le_of_ble_eq_true rfl) ⟨(Nat.le_of_ble_eq_true rfl), (Nat.le_of_ble_eq_true rfl), by show _ ≤ 603072; omega, by show _ ≤ 7182441; omega⟩ dL_law_1411 ?_
  refine V_istore (ls2 := [_, _, _, _, _, _, _, _, _]) hf dL_law_1414 (by decide) rfl rfl ?_
  refine V_aload_n hf dL_law_1416 rfl rfl ?_
  refine V_aload_n hf dL_law_1417 rfl rfl ?_
  refine V_iload hf dL_law_1418 rfl ?_
  refine V_iconst hf dL_law_1420 ?_
  refine V_iadd hf dL_law_1421 ?_
  refine V_sld hf hsc ⟨by omega, by omega⟩ (by omega) (by omega) dL_law_1422 ?_
  refine B_callVi hf (As := [_]) hM cv_L_249 l01 rfl rfl rfl (Nat.le_of_ble_eq_true rfl) ⟨(Nat.le_of_ble_eq_true rfl), (Nat.le_of_ble_eq_true rfl), by show _ ≤ 603072; omega, by show _ ≤ 7182441; omega⟩ dL_law_1423 ?_
  exact la_tail hf hl0 (off := 1652) ⟨dL_law_1426, dL_law_1428, dL_law_1429, dL_law_1432, dL_law_1434, dL_law_1439, dL_law_1441, dL_law_1444, dL_law_1445, dL_law_1446, dL_law_1447, dL_law_1449, dL_law_1450, dL_law_1451, dL_law_1456, by decide⟩ hk hr h8 (fun z => (hrv z).1.trans (hrv z).2.symm) hI.r ⟨by omega, by omega⟩ (V_wide (by omega) (by omega) (kk ad σ3 hI))
set_option maxHeartbeats 4000000 in
set_option maxRecDepth 100000 in
theorem la_shipOfBid {X : Cx} {ad : Adr} {σ : Mem} {b L : Nat} {xs : Nat → Int32} {i Bd : Int} {cs ss : Nat} (hf : Cf X RL cL_law 9 room_1) (hl0 : (xl X).stackTraces = false) (hsc : Sc X b L xs) (hL : L ≤ 2048) (hi : 0 ≤ i ∧ i + 4 ≤ L) (hB : Bd ≤ 40000000) (h : INV σ Bd) (hcs : cs + 500 ≤ 603072 ∧ ss + 1500 ≤ 7182441) (kk : Kx X b i Bd cs ss) : B X ad σ 1459 (lsB ad b i) [] cs ss := by
  obtain ⟨oc, k, v, σ1, hC, hO, hv, hk, r, σ3, hr, hM, h8, hrv, hI⟩ := St.nr (by decide) (st_shipOfBid (D := xD X) (K := xK X) (ad := ad) hl0 h _ (iN_self_r (xs (i + 1).toNat)))
  have hU := u_shipOfBid hl0 _ hC hO hv
  refine V_aload_n hf dL_law_1459 rfl rfl ?_
  refine V_aload_n hf dL_law_1460 rfl rfl ?_
  refine V_iload hf dL_law_1461 rfl ?_
  refine V_iconst hf dL_law_1463 ?_
  refine V_iadd hf dL_law_1464 ?_
  refine V_sld hf hsc ⟨by omega, by omega⟩ (by omega) (by omega) dL_law_1465 ?_
  refine V_aload_n hf dL_law_1466 rfl rfl ?_
  refine B_callH hf (As := [_, _, _]) (st := []) hU ch_L_250 rfl (Nat.le_of_ble_eq_true rfl) ⟨(Nat.le_of_ble_eq_true rfl), (Nat.le_of_ble_eq_true rfl), by show _ ≤ 603072; omega, by show _ ≤ 7182441; omega⟩ dL_law_1467 ?_
  refine V_istore (ls2 := [_, _, _, _, _, _, _, _, _]) hf dL_law_1470 (by decide) rfl rfl ?_
  refine V_aload_n hf dL_law_1472 rfl rfl ?_
  refine V_aload_n hf dL_law_1473 rfl rfl ?_
  refine V_iload hf dL_law_1474 rfl ?_
  refine V_iconst hf dL_law_1476 ?_
  refine V_iadd hf dL_law_1477 ?_
  refine V_sld hf hsc ⟨by omega, by omega⟩ (by omega) (by omega) dL_law_1478 ?_
  refine B_callVi hf (As := [_]) hM cv_L_252 l01 rfl rfl rfl (Nat.le_of_ble_eq_true rfl) ⟨(Nat.le_of_ble_eq_true rfl), (Nat.le_of_ble_eq_true rfl), by show _ ≤ 603072; omega, by show _ ≤ 7182441; omega⟩ dL_law_1479 ?_
  exact la_tail hf hl0 (off := 1596) ⟨dL_law_1482, dL_law_1484, dL_law_1485, dL_law_1488, dL_law_1490, dL_law_1495, dL_law_1497, dL_law_1500, dL_law_1501, dL_law_1502, dL_law_1503, dL_law_1505, dL_law_1506, dL_law_1507, dL_law_1512, by decide⟩ hk hr h8 (fun z => (hrv z).1.trans (hrv z).2.symm) hI.r ⟨by omega, by omega⟩ (V_wide (by omega) (by omega) (kk ad σ3 hI))
set_option maxHeartbeats 4000000 in
set_option maxRecDepth 100000 in
theorem la_gradeOfBid {X : Cx} {ad : Adr} {σ : Mem} {b L : Nat} {xs : Nat → Int32} {i Bd : Int} {cs ss : Nat} (hf : Cf X RL cL_law 9 room_1) (hl0 : (xl X).stackTraces = false) (hsc : Sc X b L xs) (hL : L ≤ 2048) (hi : 0 ≤ i ∧ i + 4 ≤ L) (hB : Bd ≤ 40000000) (h : INV σ Bd) (hcs : cs + 500 ≤ 603072 ∧ ss + 1500 ≤ 7182441) (kk : Kx X b i Bd cs ss) : B X ad σ 1515 (lsB ad b i) [] cs ss := by
  obtain ⟨oc, k, v, σ1, hC, hO, hv, hk, r, σ3, hr, hM, h8, hrv, hI⟩ := St.nr (by decide) (st_gradeOfBid (D := xD X) (K := xK X) (ad := ad) hl0 h _ (iN_self_r (xs (i + 1).toNat)))
  have hU := u_gradeOfBid hl0 _ hC hO hv
  refine V_aload_n hf dL_law_1515 rfl rfl ?_
  refine V_aload_n hf dL_law_1516 rfl rfl ?_
  refine V_iload hf dL_law_1517 rfl ?_
  refine V_iconst hf dL_law_1519 ?_
  refine V_iadd hf dL_law_1520 ?_
  refine V_sld hf hsc ⟨by omega, by omega⟩ (by omega) (by omega) dL_law_1521 ?_
  refine V_aload_n hf dL_law_1522 rfl rfl ?_
  refine B_callH hf (As := [_, _, _]) (st := []) hU ch_L_253 rfl (Nat.le_of_ble_eq_true rfl) ⟨(Nat.le_of_ble_eq_true rfl), (Nat.le_of_ble_eq_true rfl), by show _ ≤ 603072; omega, by show _ ≤ 7182441; omega⟩ dL_law_1523 ?_
  refine V_istore (ls2 := [_, _, _, _, _, _, _, _, _]) hf dL_law_1526 (by decide) rfl rfl ?_
  refine V_aload_n hf dL_law_1528 rfl rfl ?_
  refine V_aload_n hf dL_law_1529 rfl rfl ?_
  refine V_iload hf dL_law_1530 rfl ?_
  refine V_iconst hf dL_law_1532 ?_
  refine V_iadd hf dL_law_1533 ?_
  refine V_sld hf hsc ⟨by omega, by omega⟩ (by omega) (by omega) dL_law_1534 ?_
  refine B_callVi hf (As := [_]) hM cv_L_255 l01 rfl rfl rfl (Nat.le_of_ble_eq_true rfl) ⟨(Nat.le_of_ble_eq_true rfl), (Nat.le_of_ble_eq_true rfl), by show _ ≤ 603072; omega, by show _ ≤ 7182441; omega⟩ dL_law_1535 ?_
  exact la_tail hf hl0 (off := 1540) ⟨dL_law_1538, dL_law_1540, dL_law_1541, dL_law_1544, dL_law_1546, dL_law_1551, dL_law_1553, dL_law_1556, dL_law_1557, dL_law_1558, dL_law_1559, dL_law_1561, dL_law_1562, dL_law_1563, dL_law_1568, by decide⟩ hk hr h8 (fun z => (hrv z).1.trans (hrv z).2.symm) hI.r ⟨by omega, by omega⟩ (V_wide (by omega) (by omega) (kk ad σ3 hI))
set_option maxHeartbeats 4000000 in
set_option maxRecDepth 100000 in
theorem la_priceOfBid {X : Cx} {ad : Adr} {σ : Mem} {b L : Nat} {xs : Nat → Int32} {i Bd : Int} {cs ss : Nat} (hf : Cf X RL cL_law 9 room_1) (hl0 : (xl X).stackTraces = false) (hsc : Sc X b L xs) (hL : L ≤ 2048) (hi : 0 ≤ i ∧ i + 4 ≤ L) (hB : Bd ≤ 40000000) (h : INV σ Bd) (hcs : cs + 500 ≤ 603072 ∧ ss + 1500 ≤ 7182441) (kk : Kx X b i Bd cs ss) : B X ad σ 1571 (lsB ad b i) [] cs ss := by
  obtain ⟨oc, k, v, σ1, hC, hO, hv, hk, r, σ3, hr, hM, h8, hrv, hI⟩ := St.nr (by decide) (st_priceOfBid (D := xD X) (K := xK X) (ad := ad) hl0 h _ (iN_self_r (xs (i + 1).toNat)))
  have hU := u_priceOfBid hl0 _ hC hO hv
  refine V_aload_n hf dL_law_1571 rfl rfl ?_
  refine V_aload_n hf dL_law_1572 rfl rfl ?_
  refine V_iload hf dL_law_1573 rfl ?_
  refine V_iconst hf dL_law_1575 ?_
  refine V_iadd hf dL_law_1576 ?_
  refine V_sld hf hsc ⟨by omega, by omega⟩ (by omega) (by omega) dL_law_1577 ?_
  refine V_aload_n hf dL_law_1578 rfl rfl ?_
  refine B_callH hf (As := [_, _, _]) (st := []) hU ch_L_256 rfl (Nat.le_of_ble_eq_true rfl) ⟨(Nat.le_of_ble_eq_true rfl), (Nat.le_of_ble_eq_true rfl), by show _ ≤ 603072; omega, by show _ ≤ 7182441; omega⟩ dL_law_1579 ?_
  refine V_istore (ls2 := [_, _, _, _, _, _, _, _, _]) hf dL_law_1582 (by decide) rfl rfl ?_
  refine V_aload_n hf dL_law_1584 rfl rfl ?_
  refine V_aload_n hf dL_law_1585 rfl rfl ?_
  refine V_iload hf dL_law_1586 rfl ?_
  refine V_iconst hf dL_law_1588 ?_
  refine V_iadd hf dL_law_1589 ?_
  refine V_sld hf hsc ⟨by omega, by omega⟩ (by omega) (by omega) dL_law_1590 ?_
  refine B_callVi hf (As := [_]) hM cv_L_258 l01 rfl rfl rfl (Nat.le_of_ble_eq_true rfl) ⟨(Nat.le_of_ble_eq_true rfl), (Nat.le_of_ble_eq_true rfl), by show _ ≤ 603072; omega, by show _ ≤ 7182441; omega⟩ dL_law_1591 ?_
  exact la_tail hf hl0 (off := 1484) ⟨dL_law_1594, dL_law_1596, dL_law_1597, dL_law_1600, dL_law_1602, dL_law_1607, dL_law_1609, dL_law_1612, dL_law_1613, dL_law_1614, dL_law_1615, dL_law_1617, dL_law_1618, dL_law_1619, dL_law_1624, by decide⟩ hk hr h8 (fun z => (hrv z).1.trans (hrv z).2.symm) hI.r ⟨by omega, by omega⟩ (V_wide (by omega) (by omega) (kk ad σ3 hI))
set_option maxHeartbeats 4000000 in
set_option maxRecDepth 100000 in
theorem la_ageOfBid {X : Cx} {ad : Adr} {σ : Mem} {b L : Nat} {xs : Nat → Int32} {i Bd : Int} {cs ss : Nat} (hf : Cf X RL cL_law 9 room_1) (hl0 : (xl X).stackTraces = false) (hsc : Sc X b L xs) (hL : L ≤ 2048) (hi : 0 ≤ i ∧ i + 4 ≤ L) (hB : Bd ≤ 40000000) (h : INV σ Bd) (hcs : cs + 500 ≤ 603072 ∧ ss + 1500 ≤ 7182441) (kk : Kx X b i Bd cs ss) : B X ad σ 1627 (lsB ad b i) [] cs ss := by
  obtain ⟨oc, k, v, σ1, hC, hO, hv, hk, r, σ3, hr, hM, h8, hrv, hI⟩ := St.nr (by decide) (st_ageOfBid (D := xD X) (K := xK X) (ad := ad) hl0 h _ (iN_self_r (xs (i + 1).toNat)))
  have hU := u_ageOfBid hl0 _ hC hO hv
  refine V_aload_n hf dL_law_1627 rfl rfl ?_
  refine V_aload_n hf dL_law_1628 rfl rfl ?_
  refine V_iload hf dL_law_1629 rfl ?_
  refine V_iconst hf dL_law_1631 ?_
  refine V_iadd hf dL_law_1632 ?_
  refine V_sld hf hsc ⟨by omega, by omega⟩ (by omega) (by omega) dL_law_1633 ?_
  refine V_aload_n hf dL_law_1634 rfl rfl ?_
  refine B_callH hf (As := [_, _, _]) (st := []) hU ch_L_259 rfl (Nat.le_of_ble_eq_true rfl) ⟨(Nat.le_of_ble_eq_true rfl), (Nat.le_of_ble_eq_true rfl), by show _ ≤ 603072; omega, by show _ ≤ 7182441; omega⟩ dL_law_1635 ?_
  refine V_istore (ls2 := [_, _, _, _, _, _, _, _, _]) hf dL_law_1638 (by decide) rfl rfl ?_
  refine V_aload_n hf dL_law_1640 rfl rfl ?_
  refine V_aload_n hf dL_law_1641 rfl rfl ?_
  refine V_iload hf dL_law_1642 rfl ?_
  refine V_iconst hf dL_law_1644 ?_
  refine V_iadd hf dL_law_1645 ?_
  refine V_sld hf hsc ⟨by omega, by omega⟩ (by omega) (by omega) dL_law_1646 ?_
  refine B_callVi hf (As := [_]) hM cv_L_261 l01 rfl rfl rfl (Nat.le_of_ble_eq_true rfl) ⟨(Nat.le_of_ble_eq_true rfl), (Nat.le_of_ble_eq_true rfl), by show _ ≤ 603072; omega, by show _ ≤ 7182441; omega⟩ dL_law_1647 ?_
  exact la_tail hf hl0 (off := 1428) ⟨dL_law_1650, dL_law_1652, dL_law_1653, dL_law_1656, dL_law_1658, dL_law_1663, dL_law_1665, dL_law_1668, dL_law_1669, dL_law_1670, dL_law_1671, dL_law_1673, dL_law_1674, dL_law_1675, dL_law_1680, by decide⟩ hk hr h8 (fun z => (hrv z).1.trans (hrv z).2.symm) hI.r ⟨by omega, by omega⟩ (V_wide (by omega) (by omega) (kk ad σ3 hI))
set_option maxHeartbeats 4000000 in
set_option maxRecDepth 100000 in
theorem la_barnacleOfOffer {X : Cx} {ad : Adr} {σ : Mem} {b L : Nat} {xs : Nat → Int32} {i Bd : Int} {cs ss : Nat} (hf : Cf X RL cL_law 9 room_1) (hl0 : (xl X).stackTraces = false) (hsc : Sc X b L xs) (hL : L ≤ 2048) (hi : 0 ≤ i ∧ i + 4 ≤ L) (hB : Bd ≤ 40000000) (h : INV σ Bd) (hcs : cs + 500 ≤ 603072 ∧ ss + 1500 ≤ 7182441) (kk : Kx X b i Bd cs ss) : B X ad σ 1683 (lsB ad b i) [] cs ss := by
  obtain ⟨oc, k, v, σ1, hC, hO, hv, hk, r, σ3, hr, hM, h8, hrv, hI⟩ := St.nr (by decide) (st_barnacleOfOffer (D := xD X) (K := xK X) (ad := ad) hl0 h _ (iN_self_r (xs (i + 1).toNat)))
  have hU := u_barnacleOfOffer hl0 _ hC hO hv
  refine V_aload_n hf dL_law_1683 rfl rfl ?_
  refine V_aload_n hf dL_law_1684 rfl rfl ?_
  refine V_iload hf dL_law_1685 rfl ?_
  refine V_iconst hf dL_law_1687 ?_
  refine V_iadd hf dL_law_1688 ?_
  refine V_sld hf hsc ⟨by omega, by omega⟩ (by omega) (by omega) dL_law_1689 ?_
  refine V_aload_n hf dL_law_1690 rfl rfl ?_
  refine B_callH hf (As := [_, _, _]) (st := []) hU ch_L_262 rfl (Nat.le_of_ble_eq_true rfl) ⟨(Nat.le_of_ble_eq_true rfl), (Nat.le_of_ble_eq_true rfl), by show _ ≤ 603072; omega, by show _ ≤ 7182441; omega⟩ dL_law_1691 ?_
  refine V_istore (ls2 := [_, _, _, _, _, _, _, _, _]) hf dL_law_1694 (by decide) rfl rfl ?_
  refine V_aload_n hf dL_law_1696 rfl rfl ?_
  refine V_aload_n hf dL_law_1697 rfl rfl ?_
  refine V_iload hf dL_law_1698 rfl ?_
  refine V_iconst hf dL_law_1700 ?_
  refine V_iadd hf dL_law_1701 ?_
  refine V_sld hf hsc ⟨by omega, by omega⟩ (by omega) (by omega) dL_law_1702 ?_
  refine B_callVi hf (As := [_]) hM cv_L_264 l01 rfl rfl rfl (Nat.le_of_ble_eq_true rfl) ⟨(Nat.le_of_ble_eq_true rfl), (Nat.le_of_ble_eq_true rfl), by show _ ≤ 603072; omega, by show _ ≤ 7182441; omega⟩ dL_law_1703 ?_
  exact la_tail hf hl0 (off := 1372) ⟨dL_law_1706, dL_law_1708, dL_law_1709, dL_law_1712, dL_law_1714, dL_law_1719, dL_law_1721, dL_law_1724, dL_law_1725, dL_law_1726, dL_law_1727, dL_law_1729, dL_law_1730, dL_law_1731, dL_law_1736, by decide⟩ hk hr h8 (fun z => (hrv z).1.trans (hrv z).2.symm) hI.r ⟨by omega, by omega⟩ (V_wide (by omega) (by omega) (kk ad σ3 hI))
set_option maxHeartbeats 4000000 in
set_option maxRecDepth 100000 in
theorem la_priceOfOffer {X : Cx} {ad : Adr} {σ : Mem} {b L : Nat} {xs : Nat → Int32} {i Bd : Int} {cs ss : Nat} (hf : Cf X RL cL_law 9 room_1) (hl0 : (xl X).stackTraces = false) (hsc : Sc X b L xs) (hL : L ≤ 2048) (hi : 0 ≤ i ∧ i + 4 ≤ L) (hB : Bd ≤ 40000000) (h : INV σ Bd) (hcs : cs + 500 ≤ 603072 ∧ ss + 1500 ≤ 7182441) (kk : Kx X b i Bd cs ss) : B X ad σ 1739 (lsB ad b i) [] cs ss := by
  obtain ⟨oc, k, v, σ1, hC, hO, hv, hk, r, σ3, hr, hM, h8, hrv, hI⟩ := St.nr (by decide) (st_priceOfOffer (D := xD X) (K := xK X) (ad := ad) hl0 h _ (iN_self_r (xs (i + 1).toNat)))
  have hU := u_priceOfOffer hl0 _ hC hO hv
  refine V_aload_n hf dL_law_1739 rfl rfl ?_
  refine V_aload_n hf dL_law_1740 rfl rfl ?_
  refine V_iload hf dL_law_1741 rfl ?_
  refine V_iconst hf dL_law_1743 ?_
  refine V_iadd hf dL_law_1744 ?_
  refine V_sld hf hsc ⟨by omega, by omega⟩ (by omega) (by omega) dL_law_1745 ?_
  refine V_aload_n hf dL_law_1746 rfl rfl ?_
  refine B_callH hf (As := [_, _, _]) (st := []) hU ch_L_265 rfl (Nat.le_of_ble_eq_true rfl) ⟨(Nat.le_of_ble_eq_true rfl), (Nat.le_of_ble_eq_true rfl), by show _ ≤ 603072; omega, by show _ ≤ 7182441; omega⟩ dL_law_1747 ?_
  refine V_istore (ls2 := [_, _, _, _, _, _, _, _, _]) hf dL_law_1750 (by decide) rfl rfl ?_
  refine V_aload_n hf dL_law_1752 rfl rfl ?_
  refine V_aload_n hf dL_law_1753 rfl rfl ?_
  refine V_iload hf dL_law_1754 rfl ?_
  refine V_iconst hf dL_law_1756 ?_
  refine V_iadd hf dL_law_1757 ?_
  refine V_sld hf hsc ⟨by omega, by omega⟩ (by omega) (by omega) dL_law_1758 ?_
  refine B_callVi hf (As := [_]) hM cv_L_267 l01 rfl rfl rfl (Nat.le_of_ble_eq_true rfl) ⟨(Nat.le_of_ble_eq_true rfl), (Nat.le_of_ble_eq_true rfl), by show _ ≤ 603072; omega, by show _ ≤ 7182441; omega⟩ dL_law_1759 ?_
  exact la_tail hf hl0 (off := 1316) ⟨dL_law_1762, dL_law_1764, dL_law_1765, dL_law_1768, dL_law_1770, dL_law_1775, dL_law_1777, dL_law_1780, dL_law_1781, dL_law_1782, dL_law_1783, dL_law_1785, dL_law_1786, dL_law_1787, dL_law_1792, by decide⟩ hk hr h8 (fun z => (hrv z).1.trans (hrv z).2.symm) hI.r ⟨by omega, by omega⟩ (V_wide (by omega) (by omega) (kk ad σ3 hI))
set_option maxHeartbeats 4000000 in
set_option maxRecDepth 100000 in
theorem la_ageOfOffer {X : Cx} {ad : Adr} {σ : Mem} {b L : Nat} {xs : Nat → Int32} {i Bd : Int} {cs ss : Nat} (hf : Cf X RL cL_law 9 room_1) (hl0 : (xl X).stackTraces = false) (hsc : Sc X b L xs) (hL : L ≤ 2048) (hi : 0 ≤ i ∧ i + 4 ≤ L) (hB : Bd ≤ 40000000) (h : INV σ Bd) (hcs : cs + 500 ≤ 603072 ∧ ss + 1500 ≤ 7182441) (kk : Kx X b i Bd cs ss) : B X ad σ 1795 (lsB ad b i) [] cs ss := by
  obtain ⟨oc, k, v, σ1, hC, hO, hv, hk, r, σ3, hr, hM, h8, hrv, hI⟩ := St.nr (by decide) (st_ageOfOffer (D := xD X) (K := xK X) (ad := ad) hl0 h _ (iN_self_r (xs (i + 1).toNat)))
  have hU := u_ageOfOffer hl0 _ hC hO hv
  refine V_aload_n hf dL_law_1795 rfl rfl ?_
  refine V_aload_n hf dL_law_1796 rfl rfl ?_
  refine V_iload hf dL_law_1797 rfl ?_
  refine V_iconst hf dL_law_1799 ?_
  refine V_iadd hf dL_law_1800 ?_
  refine V_sld hf hsc ⟨by omega, by omega⟩ (by omega) (by omega) dL_law_1801 ?_
  refine V_aload_n hf dL_law_1802 rfl rfl ?_
  refine B_callH hf (As := [_, _, _]) (st := []) hU ch_L_268 rfl (Nat.le_of_ble_eq_true rfl) ⟨(Nat.le_of_ble_eq_true rfl), (Nat.le_of_ble_eq_true rfl), by show _ ≤ 603072; omega, by show _ ≤ 7182441; omega⟩ dL_law_1803 ?_
  refine V_istore (ls2 := [_, _, _, _, _, _, _, _, _]) hf dL_law_1806 (by decide) rfl rfl ?_
  refine V_aload_n hf dL_law_1808 rfl rfl ?_
  refine V_aload_n hf dL_law_1809 rfl rfl ?_
  refine V_iload hf dL_law_1810 rfl ?_
  refine V_iconst hf dL_law_1812 ?_
  refine V_iadd hf dL_law_1813 ?_
  refine V_sld hf hsc ⟨by omega, by omega⟩ (by omega) (by omega) dL_law_1814 ?_
  refine B_callVi hf (As := [_]) hM cv_L_270 l01 rfl rfl rfl (Nat.le_of_ble_eq_true rfl) ⟨(Nat.le_of_ble_eq_true rfl), (Nat.le_of_ble_eq_true rfl), by show _ ≤ 603072; omega, by show _ ≤ 7182441; omega⟩ dL_law_1815 ?_
  exact la_tail hf hl0 (off := 1260) ⟨dL_law_1818, dL_law_1820, dL_law_1821, dL_law_1824, dL_law_1826, dL_law_1831, dL_law_1833, dL_law_1836, dL_law_1837, dL_law_1838, dL_law_1839, dL_law_1841, dL_law_1842, dL_law_1843, dL_law_1848, by decide⟩ hk hr h8 (fun z => (hrv z).1.trans (hrv z).2.symm) hI.r ⟨by omega, by omega⟩ (V_wide (by omega) (by omega) (kk ad σ3 hI))
set_option maxHeartbeats 4000000 in
set_option maxRecDepth 100000 in
theorem la_matchFor {X : Cx} {ad : Adr} {σ : Mem} {b L : Nat} {xs : Nat → Int32} {i Bd : Int} {cs ss : Nat} (hf : Cf X RL cL_law 9 room_1) (hl0 : (xl X).stackTraces = false) (hsc : Sc X b L xs) (hL : L ≤ 2048) (hi : 0 ≤ i ∧ i + 4 ≤ L) (hB : Bd ≤ 40000000) (h : INV σ Bd) (hcs : cs + 500 ≤ 603072 ∧ ss + 1500 ≤ 7182441) (kk : Kx X b i Bd cs ss) : B X ad σ 1851 (lsB ad b i) [] cs ss := by
  obtain ⟨oc, k, v, σ1, hC, hO, hv, hk, r, σ3, hr, hM, h8, hrv, hI⟩ := St.nr (by decide) (st_matchFor (D := xD X) (K := xK X) (ad := ad) hl0 h _ (iN_self_r (xs (i + 1).toNat)))
  have hU := u_matchFor hl0 _ hC hO hv
  refine V_aload_n hf dL_law_1851 rfl rfl ?_
  refine V_aload_n hf dL_law_1852 rfl rfl ?_
  refine V_iload hf dL_law_1853 rfl ?_
  refine V_iconst hf dL_law_1855 ?_
  refine V_iadd hf dL_law_1856 ?_
  refine V_sld hf hsc ⟨by omega, by omega⟩ (by omega) (by omega) dL_law_1857 ?_
  refine V_aload_n hf dL_law_1858 rfl rfl ?_
  refine B_callH hf (As := [_, _, _]) (st := []) hU ch_L_271 rfl (Nat.le_of_ble_eq_true rfl) ⟨(Nat.le_of_ble_eq_true rfl), (Nat.le_of_ble_eq_true rfl), by show _ ≤ 603072; omega, by show _ ≤ 7182441; omega⟩ dL_law_1859 ?_
  refine V_istore (ls2 := [_, _, _, _, _, _, _, _, _]) hf dL_law_1862 (by decide) rfl rfl ?_
  refine V_aload_n hf dL_law_1864 rfl rfl ?_
  refine V_aload_n hf dL_law_1865 rfl rfl ?_
  refine V_iload hf dL_law_1866 rfl ?_
  refine V_iconst hf dL_law_1868 ?_
  refine V_iadd hf dL_law_1869 ?_
  refine V_sld hf hsc ⟨by omega, by omega⟩ (by omega) (by omega) dL_law_1870 ?_
  refine B_callVi hf (As := [_]) hM cv_L_273 l01 rfl rfl rfl (Nat.le_of_ble_eq_true rfl) ⟨(Nat.le_of_ble_eq_true rfl), (Nat.le_of_ble_eq_true rfl), by show _ ≤ 603072; omega, by show _ ≤ 7182441; omega⟩ dL_law_1871 ?_
  exact la_tail hf hl0 (off := 1204) ⟨dL_law_1874, dL_law_1876, dL_law_1877, dL_law_1880, dL_law_1882, dL_law_1887, dL_law_1889, dL_law_1892, dL_law_1893, dL_law_1894, dL_law_1895, dL_law_1897, dL_law_1898, dL_law_1899, dL_law_1904, by decide⟩ hk hr h8 (fun z => (hrv z).1.trans (hrv z).2.symm) hI.r ⟨by omega, by omega⟩ (V_wide (by omega) (by omega) (kk ad σ3 hI))
set_option maxHeartbeats 4000000 in
set_option maxRecDepth 100000 in
theorem la_matchByBarnacles {X : Cx} {ad : Adr} {σ : Mem} {b L : Nat} {xs : Nat → Int32} {i Bd : Int} {cs ss : Nat} (hf : Cf X RL cL_law 9 room_1) (hl0 : (xl X).stackTraces = false) (hsc : Sc X b L xs) (hL : L ≤ 2048) (hi : 0 ≤ i ∧ i + 4 ≤ L) (hB : Bd ≤ 40000000) (h : INV σ Bd) (hcs : cs + 500 ≤ 603072 ∧ ss + 1500 ≤ 7182441) (kk : Kx X b i Bd cs ss) : B X ad σ 1907 (lsB ad b i) [] cs ss := by
  obtain ⟨oc, k, v, σ1, hC, hO, hv, hk, r, σ3, hr, hM, h8, hrv, hI⟩ := St.nr (by decide) (st_matchByBarnacles (D := xD X) (K := xK X) (ad := ad) hl0 h _ (iN_self_r (xs (i + 1).toNat)))
  have hU := u_matchByBarnacles hl0 _ hC hO hv
  refine V_aload_n hf dL_law_1907 rfl rfl ?_
  refine V_aload_n hf dL_law_1908 rfl rfl ?_
  refine V_iload hf dL_law_1909 rfl ?_
  refine V_iconst hf dL_law_1911 ?_
  refine V_iadd hf dL_law_1912 ?_
  refine V_sld hf hsc ⟨by omega, by omega⟩ (by omega) (by omega) dL_law_1913 ?_
  refine V_aload_n hf dL_law_1914 rfl rfl ?_
  refine B_callH hf (As := [_, _, _]) (st := []) hU ch_L_274 rfl (Nat.le_of_ble_eq_true rfl) ⟨(Nat.le_of_ble_eq_true rfl), (Nat.le_of_ble_eq_true rfl), by show _ ≤ 603072; omega, by show _ ≤ 7182441; omega⟩ dL_law_1915 ?_
  refine V_istore (ls2 := [_, _, _, _, _, _, _, _, _]) hf dL_law_1918 (by decide) rfl rfl ?_
  refine V_aload_n hf dL_law_1920 rfl rfl ?_
  refine V_aload_n hf dL_law_1921 rfl rfl ?_
  refine V_iload hf dL_law_1922 rfl ?_
  refine V_iconst hf dL_law_1924 ?_
  refine V_iadd hf dL_law_1925 ?_
  refine V_sld hf hsc ⟨by omega, by omega⟩ (by omega) (by omega) dL_law_1926 ?_
  refine B_callVi hf (As := [_]) hM cv_L_276 l01 rfl rfl rfl (Nat.le_of_ble_eq_true rfl) ⟨(Nat.le_of_ble_eq_true rfl), (Nat.le_of_ble_eq_true rfl), by show _ ≤ 603072; omega, by show _ ≤ 7182441; omega⟩ dL_law_1927 ?_
  exact la_tail hf hl0 (off := 1148) ⟨dL_law_1930, dL_law_1932, dL_law_1933, dL_law_1936, dL_law_1938, dL_law_1943, dL_law_1945, dL_law_1948, dL_law_1949, dL_law_1950, dL_law_1951, dL_law_1953, dL_law_1954, dL_law_1955, dL_law_1960, by decide⟩ hk hr h8 (fun z => (hrv z).1.trans (hrv z).2.symm) hI.r ⟨by omega, by omega⟩ (V_wide (by omega) (by omega) (kk ad σ3 hI))
set_option maxHeartbeats 4000000 in
set_option maxRecDepth 100000 in
theorem la_spread {X : Cx} {ad : Adr} {σ : Mem} {b L : Nat} {xs : Nat → Int32} {i Bd : Int} {cs ss : Nat} (hf : Cf X RL cL_law 9 room_1) (hl0 : (xl X).stackTraces = false) (hsc : Sc X b L xs) (hL : L ≤ 2048) (hi : 0 ≤ i ∧ i + 4 ≤ L) (hB : Bd ≤ 40000000) (h : INV σ Bd) (hcs : cs + 500 ≤ 603072 ∧ ss + 1500 ≤ 7182441) (kk : Kx X b i Bd cs ss) : B X ad σ 1963 (lsB ad b i) [] cs ss := by
  obtain ⟨oc, k, v, σ1, hC, hO, hv, hk, r, σ3, hr, hM, h8, hrv, hI⟩ := St.nr (by decide) (st_spread (D := xD X) (K := xK X) (ad := ad) hl0 h)
  have hU := u_spread hl0 hC hO hv
  refine V_aload_n hf dL_law_1963 rfl rfl ?_
  refine V_aload_n hf dL_law_1964 rfl rfl ?_
  refine B_callH hf (As := [_, _]) (st := []) hU ch_L_277 rfl (Nat.le_of_ble_eq_true rfl) ⟨(Nat.le_of_ble_eq_true rfl), (Nat.le_of_ble_eq_true rfl), by show _ ≤ 603072; omega, by show _ ≤ 7182441; omega⟩ dL_law_1965 ?_
  refine V_istore (ls2 := [_, _, _, _, _, _, _, _, _]) hf dL_law_1968 (by decide) rfl rfl ?_
  refine V_aload_n hf dL_law_1970 rfl rfl ?_
  refine B_callVi hf (As := []) hM cv_L_280 l01 rfl rfl rfl (Nat.le_of_ble_eq_true rfl) ⟨(Nat.le_of_ble_eq_true rfl), (Nat.le_of_ble_eq_true rfl), by show _ ≤ 603072; omega, by show _ ≤ 7182441; omega⟩ dL_law_1971 ?_
  exact la_tail hf hl0 (off := 1104) ⟨dL_law_1974, dL_law_1976, dL_law_1977, dL_law_1980, dL_law_1982, dL_law_1987, dL_law_1989, dL_law_1992, dL_law_1993, dL_law_1994, dL_law_1995, dL_law_1997, dL_law_1998, dL_law_1999, dL_law_2004, by decide⟩ hk hr h8 (fun z => (hrv z).1.trans (hrv z).2.symm) hI.r ⟨by omega, by omega⟩ (V_wide (by omega) (by omega) (kk ad σ3 hI))
set_option maxHeartbeats 4000000 in
set_option maxRecDepth 100000 in
theorem la_passTide {X : Cx} {ad : Adr} {σ : Mem} {b L : Nat} {xs : Nat → Int32} {i Bd : Int} {cs ss : Nat} (hf : Cf X RL cL_law 9 room_1) (hl0 : (xl X).stackTraces = false) (hsc : Sc X b L xs) (hL : L ≤ 2048) (hi : 0 ≤ i ∧ i + 4 ≤ L) (hB : Bd ≤ 40000000) (h : INV σ Bd) (hcs : cs + 500 ≤ 603072 ∧ ss + 1500 ≤ 7182441) (kk : Kx X b i Bd cs ss) : B X ad σ 2007 (lsB ad b i) [] cs ss := by
  obtain ⟨v, σ1, σ3, hv, hC, hM, hI⟩ := St.n0 (st_passTide (D := xD X) (K := xK X) (ad := ad) hl0 h hB)
  refine V_aload_n hf dL_law_2007 rfl rfl ?_
  refine B_callVi hf (As := []) hC cv_L_281 l01 rfl rfl rfl (Nat.le_of_ble_eq_true rfl) ⟨(Nat.le_of_ble_eq_true rfl), (Nat.le_of_ble_eq_true rfl), by show _ ≤ 603072; omega, by show _ ≤ 7182441; omega⟩ dL_law_2008 ?_
  refine V_aload_n hf dL_law_2011 rfl rfl ?_
  refine B_callVi hf (As := []) hM cv_L_284 l01 rfl rfl rfl (Nat.le_of_ble_eq_true rfl) ⟨(Nat.le_of_ble_eq_true rfl), (Nat.le_of_ble_eq_true rfl), by show _ ≤ 603072; omega, by show _ ≤ 7182441; omega⟩ dL_law_2012 ?_
  exact V_icmp_eq (tgt := 3108) hf hv hv dL_law_2015 (by decide) (fun _ => V_wide (by omega) (by omega) (kk ad σ3 hI)) (fun q => absurd rfl q)
set_option maxHeartbeats 4000000 in
set_option maxRecDepth 100000 in
theorem la_wouldTrade {X : Cx} {ad : Adr} {σ : Mem} {b L : Nat} {xs : Nat → Int32} {i Bd : Int} {cs ss : Nat} (hf : Cf X RL cL_law 9 room_1) (hl0 : (xl X).stackTraces = false) (hsc : Sc X b L xs) (hL : L ≤ 2048) (hi : 0 ≤ i ∧ i + 4 ≤ L) (hB : Bd ≤ 40000000) (h : INV σ Bd) (hcs : cs + 500 ≤ 603072 ∧ ss + 1500 ≤ 7182441) (kk : Kx X b i Bd cs ss) : B X ad σ 2020 (lsB ad b i) [] cs ss := by
  obtain ⟨v, σ1, σ3, hv, hC, hM, hI⟩ := St.n0 (st_wouldTrade (D := xD X) (K := xK X) (ad := ad) hl0 h hB)
  refine V_aload_n hf dL_law_2020 rfl rfl ?_
  refine B_callVi hf (As := []) hC cv_L_285 l01 rfl rfl rfl (Nat.le_of_ble_eq_true rfl) ⟨(Nat.le_of_ble_eq_true rfl), (Nat.le_of_ble_eq_true rfl), by show _ ≤ 603072; omega, by show _ ≤ 7182441; omega⟩ dL_law_2021 ?_
  refine V_aload_n hf dL_law_2024 rfl rfl ?_
  refine B_callVi hf (As := []) hM cv_L_288 l01 rfl rfl rfl (Nat.le_of_ble_eq_true rfl) ⟨(Nat.le_of_ble_eq_true rfl), (Nat.le_of_ble_eq_true rfl), by show _ ≤ 603072; omega, by show _ ≤ 7182441; omega⟩ dL_law_2025 ?_
  exact V_icmp_eq (tgt := 3108) hf hv hv dL_law_2028 (by decide) (fun _ => V_wide (by omega) (by omega) (kk ad σ3 hI)) (fun q => absurd rfl q)
set_option maxHeartbeats 4000000 in
set_option maxRecDepth 100000 in
theorem la_setFee {X : Cx} {ad : Adr} {σ : Mem} {b L : Nat} {xs : Nat → Int32} {i Bd : Int} {cs ss : Nat} (hf : Cf X RL cL_law 9 room_1) (hl0 : (xl X).stackTraces = false) (hsc : Sc X b L xs) (hL : L ≤ 2048) (hi : 0 ≤ i ∧ i + 4 ≤ L) (hB : Bd ≤ 40000000) (h : INV σ Bd) (hcs : cs + 500 ≤ 603072 ∧ ss + 1500 ≤ 7182441) (kk : Kx X b i Bd cs ss) : B X ad σ 2033 (lsB ad b i) [] cs ss := by
  obtain ⟨oc, k, v, σ1, hC, hO, hv, hk, r, σ3, hr, hM, h8, hrv, hI⟩ := St.nr (by decide) (st_setFee (D := xD X) (K := xK X) (ad := ad) hl0 h hB _ (iN_self_r (xs (i + 1).toNat)))
  have hU := u_setFee hl0 _ hC hO hv
  refine V_aload_n hf dL_law_2033 rfl rfl ?_
  refine V_aload_n hf dL_law_2034 rfl rfl ?_
  refine V_iload hf dL_law_2035 rfl ?_
  refine V_iconst hf dL_law_2037 ?_
  refine V_iadd hf dL_law_2038 ?_
  refine V_sld hf hsc ⟨by omega, by omega⟩ (by omega) (by omega) dL_law_2039 ?_
  refine V_aload_n hf dL_law_2040 rfl rfl ?_
  refine B_callH hf (As := [_, _, _]) (st := []) hU ch_L_289 rfl (Nat.le_of_ble_eq_true rfl) ⟨(Nat.le_of_ble_eq_true rfl), (Nat.le_of_ble_eq_true rfl), by show _ ≤ 603072; omega, by show _ ≤ 7182441; omega⟩ dL_law_2041 ?_
  refine V_istore (ls2 := [_, _, _, _, _, _, _, _, _]) hf dL_law_2044 (by decide) rfl rfl ?_
  refine V_aload_n hf dL_law_2046 rfl rfl ?_
  refine V_aload_n hf dL_law_2047 rfl rfl ?_
  refine V_iload hf dL_law_2048 rfl ?_
  refine V_iconst hf dL_law_2050 ?_
  refine V_iadd hf dL_law_2051 ?_
  refine V_sld hf hsc ⟨by omega, by omega⟩ (by omega) (by omega) dL_law_2052 ?_
  refine B_callVi hf (As := [_]) hM cv_L_291 l01 rfl rfl rfl (Nat.le_of_ble_eq_true rfl) ⟨(Nat.le_of_ble_eq_true rfl), (Nat.le_of_ble_eq_true rfl), by show _ ≤ 603072; omega, by show _ ≤ 7182441; omega⟩ dL_law_2053 ?_
  exact la_tail hf hl0 (off := 1022) ⟨dL_law_2056, dL_law_2058, dL_law_2059, dL_law_2062, dL_law_2064, dL_law_2069, dL_law_2071, dL_law_2074, dL_law_2075, dL_law_2076, dL_law_2077, dL_law_2079, dL_law_2080, dL_law_2081, dL_law_2086, by decide⟩ hk hr h8 (fun z => (hrv z).1.trans (hrv z).2.symm) hI.r ⟨by omega, by omega⟩ (V_wide (by omega) (by omega) (kk ad σ3 hI))
set_option maxHeartbeats 4000000 in
set_option maxRecDepth 100000 in
theorem la_fee {X : Cx} {ad : Adr} {σ : Mem} {b L : Nat} {xs : Nat → Int32} {i Bd : Int} {cs ss : Nat} (hf : Cf X RL cL_law 9 room_1) (hl0 : (xl X).stackTraces = false) (hsc : Sc X b L xs) (hL : L ≤ 2048) (hi : 0 ≤ i ∧ i + 4 ≤ L) (hB : Bd ≤ 40000000) (h : INV σ Bd) (hcs : cs + 500 ≤ 603072 ∧ ss + 1500 ≤ 7182441) (kk : Kx X b i Bd cs ss) : B X ad σ 2089 (lsB ad b i) [] cs ss := by
  obtain ⟨v, σ1, σ3, hv, hC, hM, hI⟩ := St.n0 (st_fee (D := xD X) (K := xK X) (ad := ad) hl0 h)
  refine V_aload_n hf dL_law_2089 rfl rfl ?_
  refine B_callVi hf (As := []) hC cv_L_292 l01 rfl rfl rfl (Nat.le_of_ble_eq_true rfl) ⟨(Nat.le_of_ble_eq_true rfl), (Nat.le_of_ble_eq_true rfl), by show _ ≤ 603072; omega, by show _ ≤ 7182441; omega⟩ dL_law_2090 ?_
  refine V_aload_n hf dL_law_2093 rfl rfl ?_
  refine B_callVi hf (As := []) hM cv_L_295 l01 rfl rfl rfl (Nat.le_of_ble_eq_true rfl) ⟨(Nat.le_of_ble_eq_true rfl), (Nat.le_of_ble_eq_true rfl), by show _ ≤ 603072; omega, by show _ ≤ 7182441; omega⟩ dL_law_2094 ?_
  exact V_icmp_eq (tgt := 3108) hf hv hv dL_law_2097 (by decide) (fun _ => V_wide (by omega) (by omega) (kk ad σ3 hI)) (fun q => absurd rfl q)
set_option maxHeartbeats 4000000 in
set_option maxRecDepth 100000 in
theorem la_tideCount {X : Cx} {ad : Adr} {σ : Mem} {b L : Nat} {xs : Nat → Int32} {i Bd : Int} {cs ss : Nat} (hf : Cf X RL cL_law 9 room_1) (hl0 : (xl X).stackTraces = false) (hsc : Sc X b L xs) (hL : L ≤ 2048) (hi : 0 ≤ i ∧ i + 4 ≤ L) (hB : Bd ≤ 40000000) (h : INV σ Bd) (hcs : cs + 500 ≤ 603072 ∧ ss + 1500 ≤ 7182441) (kk : Kx X b i Bd cs ss) : B X ad σ 2102 (lsB ad b i) [] cs ss := by
  obtain ⟨v, σ1, σ3, hv, hC, hM, hI⟩ := St.n0 (st_tideCount (D := xD X) (K := xK X) (ad := ad) hl0 h)
  refine V_aload_n hf dL_law_2102 rfl rfl ?_
  refine B_callVi hf (As := []) hC cv_L_296 l01 rfl rfl rfl (Nat.le_of_ble_eq_true rfl) ⟨(Nat.le_of_ble_eq_true rfl), (Nat.le_of_ble_eq_true rfl), by show _ ≤ 603072; omega, by show _ ≤ 7182441; omega⟩ dL_law_2103 ?_
  refine V_aload_n hf dL_law_2106 rfl rfl ?_
  refine B_callVi hf (As := []) hM cv_L_299 l01 rfl rfl rfl (Nat.le_of_ble_eq_true rfl) ⟨(Nat.le_of_ble_eq_true rfl), (Nat.le_of_ble_eq_true rfl), by show _ ≤ 603072; omega, by show _ ≤ 7182441; omega⟩ dL_law_2107 ?_
  exact V_icmp_eq (tgt := 3108) hf hv hv dL_law_2110 (by decide) (fun _ => V_wide (by omega) (by omega) (kk ad σ3 hI)) (fun q => absurd rfl q)
set_option maxHeartbeats 4000000 in
set_option maxRecDepth 100000 in
theorem la_buyerOf {X : Cx} {ad : Adr} {σ : Mem} {b L : Nat} {xs : Nat → Int32} {i Bd : Int} {cs ss : Nat} (hf : Cf X RL cL_law 9 room_1) (hl0 : (xl X).stackTraces = false) (hsc : Sc X b L xs) (hL : L ≤ 2048) (hi : 0 ≤ i ∧ i + 4 ≤ L) (hB : Bd ≤ 40000000) (h : INV σ Bd) (hcs : cs + 500 ≤ 603072 ∧ ss + 1500 ≤ 7182441) (kk : Kx X b i Bd cs ss) : B X ad σ 2115 (lsB ad b i) [] cs ss := by
  obtain ⟨oc, k, v, σ1, hC, hO, hv, hk, r, σ3, hr, hM, h8, hrv, hI⟩ := St.nr (by decide) (st_buyerOf (D := xD X) (K := xK X) (ad := ad) hl0 h _ (iN_self_r (xs (i + 1).toNat)))
  have hU := u_buyerOf hl0 _ hC hO hv
  refine V_aload_n hf dL_law_2115 rfl rfl ?_
  refine V_aload_n hf dL_law_2116 rfl rfl ?_
  refine V_iload hf dL_law_2117 rfl ?_
  refine V_iconst hf dL_law_2119 ?_
  refine V_iadd hf dL_law_2120 ?_
  refine V_sld hf hsc ⟨by omega, by omega⟩ (by omega) (by omega) dL_law_2121 ?_
  refine V_aload_n hf dL_law_2122 rfl rfl ?_
  refine B_callH hf (As := [_, _, _]) (st := []) hU ch_L_300 rfl (Nat.le_of_ble_eq_true rfl) ⟨(Nat.le_of_ble_eq_true rfl), (Nat.le_of_ble_eq_true rfl), by show _ ≤ 603072; omega, by show _ ≤ 7182441; omega⟩ dL_law_2123 ?_
  refine V_istore (ls2 := [_, _, _, _, _, _, _, _, _]) hf dL_law_2126 (by decide) rfl rfl ?_
  refine V_aload_n hf dL_law_2128 rfl rfl ?_
  refine V_aload_n hf dL_law_2129 rfl rfl ?_
  refine V_iload hf dL_law_2130 rfl ?_
  refine V_iconst hf dL_law_2132 ?_
  refine V_iadd hf dL_law_2133 ?_
  refine V_sld hf hsc ⟨by omega, by omega⟩ (by omega) (by omega) dL_law_2134 ?_
  refine B_callVi hf (As := [_]) hM cv_L_302 l01 rfl rfl rfl (Nat.le_of_ble_eq_true rfl) ⟨(Nat.le_of_ble_eq_true rfl), (Nat.le_of_ble_eq_true rfl), by show _ ≤ 603072; omega, by show _ ≤ 7182441; omega⟩ dL_law_2135 ?_
  exact la_tail hf hl0 (off := 940) ⟨dL_law_2138, dL_law_2140, dL_law_2141, dL_law_2144, dL_law_2146, dL_law_2151, dL_law_2153, dL_law_2156, dL_law_2157, dL_law_2158, dL_law_2159, dL_law_2161, dL_law_2162, dL_law_2163, dL_law_2168, by decide⟩ hk hr h8 (fun z => (hrv z).1.trans (hrv z).2.symm) hI.r ⟨by omega, by omega⟩ (V_wide (by omega) (by omega) (kk ad σ3 hI))
set_option maxHeartbeats 4000000 in
set_option maxRecDepth 100000 in
theorem la_sellerOf {X : Cx} {ad : Adr} {σ : Mem} {b L : Nat} {xs : Nat → Int32} {i Bd : Int} {cs ss : Nat} (hf : Cf X RL cL_law 9 room_1) (hl0 : (xl X).stackTraces = false) (hsc : Sc X b L xs) (hL : L ≤ 2048) (hi : 0 ≤ i ∧ i + 4 ≤ L) (hB : Bd ≤ 40000000) (h : INV σ Bd) (hcs : cs + 500 ≤ 603072 ∧ ss + 1500 ≤ 7182441) (kk : Kx X b i Bd cs ss) : B X ad σ 2171 (lsB ad b i) [] cs ss := by
  obtain ⟨oc, k, v, σ1, hC, hO, hv, hk, r, σ3, hr, hM, h8, hrv, hI⟩ := St.nr (by decide) (st_sellerOf (D := xD X) (K := xK X) (ad := ad) hl0 h _ (iN_self_r (xs (i + 1).toNat)))
  have hU := u_sellerOf hl0 _ hC hO hv
  refine V_aload_n hf dL_law_2171 rfl rfl ?_
  refine V_aload_n hf dL_law_2172 rfl rfl ?_
  refine V_iload hf dL_law_2173 rfl ?_
  refine V_iconst hf dL_law_2175 ?_
  refine V_iadd hf dL_law_2176 ?_
  refine V_sld hf hsc ⟨by omega, by omega⟩ (by omega) (by omega) dL_law_2177 ?_
  refine V_aload_n hf dL_law_2178 rfl rfl ?_
  refine B_callH hf (As := [_, _, _]) (st := []) hU ch_L_303 rfl (Nat.le_of_ble_eq_true rfl) ⟨(Nat.le_of_ble_eq_true rfl), (Nat.le_of_ble_eq_true rfl), by show _ ≤ 603072; omega, by show _ ≤ 7182441; omega⟩ dL_law_2179 ?_
  refine V_istore (ls2 := [_, _, _, _, _, _, _, _, _]) hf dL_law_2182 (by decide) rfl rfl ?_
  refine V_aload_n hf dL_law_2184 rfl rfl ?_
  refine V_aload_n hf dL_law_2185 rfl rfl ?_
  refine V_iload hf dL_law_2186 rfl ?_
  refine V_iconst hf dL_law_2188 ?_
  refine V_iadd hf dL_law_2189 ?_
  refine V_sld hf hsc ⟨by omega, by omega⟩ (by omega) (by omega) dL_law_2190 ?_
  refine B_callVi hf (As := [_]) hM cv_L_305 l01 rfl rfl rfl (Nat.le_of_ble_eq_true rfl) ⟨(Nat.le_of_ble_eq_true rfl), (Nat.le_of_ble_eq_true rfl), by show _ ≤ 603072; omega, by show _ ≤ 7182441; omega⟩ dL_law_2191 ?_
  exact la_tail hf hl0 (off := 884) ⟨dL_law_2194, dL_law_2196, dL_law_2197, dL_law_2200, dL_law_2202, dL_law_2207, dL_law_2209, dL_law_2212, dL_law_2213, dL_law_2214, dL_law_2215, dL_law_2217, dL_law_2218, dL_law_2219, dL_law_2224, by decide⟩ hk hr h8 (fun z => (hrv z).1.trans (hrv z).2.symm) hI.r ⟨by omega, by omega⟩ (V_wide (by omega) (by omega) (kk ad σ3 hI))
set_option maxHeartbeats 4000000 in
set_option maxRecDepth 100000 in
theorem la_barnacleOf {X : Cx} {ad : Adr} {σ : Mem} {b L : Nat} {xs : Nat → Int32} {i Bd : Int} {cs ss : Nat} (hf : Cf X RL cL_law 9 room_1) (hl0 : (xl X).stackTraces = false) (hsc : Sc X b L xs) (hL : L ≤ 2048) (hi : 0 ≤ i ∧ i + 4 ≤ L) (hB : Bd ≤ 40000000) (h : INV σ Bd) (hcs : cs + 500 ≤ 603072 ∧ ss + 1500 ≤ 7182441) (kk : Kx X b i Bd cs ss) : B X ad σ 2227 (lsB ad b i) [] cs ss := by
  obtain ⟨oc, k, v, σ1, hC, hO, hv, hk, r, σ3, hr, hM, h8, hrv, hI⟩ := St.nr (by decide) (st_barnacleOf (D := xD X) (K := xK X) (ad := ad) hl0 h _ (iN_self_r (xs (i + 1).toNat)))
  have hU := u_barnacleOf hl0 _ hC hO hv
  refine V_aload_n hf dL_law_2227 rfl rfl ?_
  refine V_aload_n hf dL_law_2228 rfl rfl ?_
  refine V_iload hf dL_law_2229 rfl ?_
  refine V_iconst hf dL_law_2231 ?_
  refine V_iadd hf dL_law_2232 ?_
  refine V_sld hf hsc ⟨by omega, by omega⟩ (by omega) (by omega) dL_law_2233 ?_
  refine V_aload_n hf dL_law_2234 rfl rfl ?_
  refine B_callH hf (As := [_, _, _]) (st := []) hU ch_L_306 rfl (Nat.le_of_ble_eq_true rfl) ⟨(Nat.le_of_ble_eq_true rfl), (Nat.le_of_ble_eq_true rfl), by show _ ≤ 603072; omega, by show _ ≤ 7182441; omega⟩ dL_law_2235 ?_
  refine V_istore (ls2 := [_, _, _, _, _, _, _, _, _]) hf dL_law_2238 (by decide) rfl rfl ?_
  refine V_aload_n hf dL_law_2240 rfl rfl ?_
  refine V_aload_n hf dL_law_2241 rfl rfl ?_
  refine V_iload hf dL_law_2242 rfl ?_
  refine V_iconst hf dL_law_2244 ?_
  refine V_iadd hf dL_law_2245 ?_
  refine V_sld hf hsc ⟨by omega, by omega⟩ (by omega) (by omega) dL_law_2246 ?_
  refine B_callVi hf (As := [_]) hM cv_L_308 l01 rfl rfl rfl (Nat.le_of_ble_eq_true rfl) ⟨(Nat.le_of_ble_eq_true rfl), (Nat.le_of_ble_eq_true rfl), by show _ ≤ 603072; omega, by show _ ≤ 7182441; omega⟩ dL_law_2247 ?_
  exact la_tail hf hl0 (off := 828) ⟨dL_law_2250, dL_law_2252, dL_law_2253, dL_law_2256, dL_law_2258, dL_law_2263, dL_law_2265, dL_law_2268, dL_law_2269, dL_law_2270, dL_law_2271, dL_law_2273, dL_law_2274, dL_law_2275, dL_law_2280, by decide⟩ hk hr h8 (fun z => (hrv z).1.trans (hrv z).2.symm) hI.r ⟨by omega, by omega⟩ (V_wide (by omega) (by omega) (kk ad σ3 hI))
set_option maxHeartbeats 4000000 in
set_option maxRecDepth 100000 in
theorem la_priceOf {X : Cx} {ad : Adr} {σ : Mem} {b L : Nat} {xs : Nat → Int32} {i Bd : Int} {cs ss : Nat} (hf : Cf X RL cL_law 9 room_1) (hl0 : (xl X).stackTraces = false) (hsc : Sc X b L xs) (hL : L ≤ 2048) (hi : 0 ≤ i ∧ i + 4 ≤ L) (hB : Bd ≤ 40000000) (h : INV σ Bd) (hcs : cs + 500 ≤ 603072 ∧ ss + 1500 ≤ 7182441) (kk : Kx X b i Bd cs ss) : B X ad σ 2283 (lsB ad b i) [] cs ss := by
  obtain ⟨oc, k, v, σ1, hC, hO, hv, hk, r, σ3, hr, hM, h8, hrv, hI⟩ := St.nr (by decide) (st_priceOf (D := xD X) (K := xK X) (ad := ad) hl0 h _ (iN_self_r (xs (i + 1).toNat)))
  have hU := u_priceOf hl0 _ hC hO hv
  refine V_aload_n hf dL_law_2283 rfl rfl ?_
  refine V_aload_n hf dL_law_2284 rfl rfl ?_
  refine V_iload hf dL_law_2285 rfl ?_
  refine V_iconst hf dL_law_2287 ?_
  refine V_iadd hf dL_law_2288 ?_
  refine V_sld hf hsc ⟨by omega, by omega⟩ (by omega) (by omega) dL_law_2289 ?_
  refine V_aload_n hf dL_law_2290 rfl rfl ?_
  refine B_callH hf (As := [_, _, _]) (st := []) hU ch_L_309 rfl (Nat.le_of_ble_eq_true rfl) ⟨(Nat.le_of_ble_eq_true rfl), (Nat.le_of_ble_eq_true rfl), by show _ ≤ 603072; omega, by show _ ≤ 7182441; omega⟩ dL_law_2291 ?_
  refine V_istore (ls2 := [_, _, _, _, _, _, _, _, _]) hf dL_law_2294 (by decide) rfl rfl ?_
  refine V_aload_n hf dL_law_2296 rfl rfl ?_
  refine V_aload_n hf dL_law_2297 rfl rfl ?_
  refine V_iload hf dL_law_2298 rfl ?_
  refine V_iconst hf dL_law_2300 ?_
  refine V_iadd hf dL_law_2301 ?_
  refine V_sld hf hsc ⟨by omega, by omega⟩ (by omega) (by omega) dL_law_2302 ?_
  refine B_callVi hf (As := [_]) hM cv_L_311 l01 rfl rfl rfl (Nat.le_of_ble_eq_true rfl) ⟨(Nat.le_of_ble_eq_true rfl), (Nat.le_of_ble_eq_true rfl), by show _ ≤ 603072; omega, by show _ ≤ 7182441; omega⟩ dL_law_2303 ?_
  exact la_tail hf hl0 (off := 772) ⟨dL_law_2306, dL_law_2308, dL_law_2309, dL_law_2312, dL_law_2314, dL_law_2319, dL_law_2321, dL_law_2324, dL_law_2325, dL_law_2326, dL_law_2327, dL_law_2329, dL_law_2330, dL_law_2331, dL_law_2336, by decide⟩ hk hr h8 (fun z => (hrv z).1.trans (hrv z).2.symm) hI.r ⟨by omega, by omega⟩ (V_wide (by omega) (by omega) (kk ad σ3 hI))
set_option maxHeartbeats 4000000 in
set_option maxRecDepth 100000 in
theorem la_tradeCount {X : Cx} {ad : Adr} {σ : Mem} {b L : Nat} {xs : Nat → Int32} {i Bd : Int} {cs ss : Nat} (hf : Cf X RL cL_law 9 room_1) (hl0 : (xl X).stackTraces = false) (hsc : Sc X b L xs) (hL : L ≤ 2048) (hi : 0 ≤ i ∧ i + 4 ≤ L) (hB : Bd ≤ 40000000) (h : INV σ Bd) (hcs : cs + 500 ≤ 603072 ∧ ss + 1500 ≤ 7182441) (kk : Kx X b i Bd cs ss) : B X ad σ 2339 (lsB ad b i) [] cs ss := by
  obtain ⟨v, σ1, σ3, hv, hC, hM, hI⟩ := St.n0 (st_tradeCount (D := xD X) (K := xK X) (ad := ad) hl0 h)
  refine V_aload_n hf dL_law_2339 rfl rfl ?_
  refine B_callVi hf (As := []) hC cv_L_312 l01 rfl rfl rfl (Nat.le_of_ble_eq_true rfl) ⟨(Nat.le_of_ble_eq_true rfl), (Nat.le_of_ble_eq_true rfl), by show _ ≤ 603072; omega, by show _ ≤ 7182441; omega⟩ dL_law_2340 ?_
  refine V_aload_n hf dL_law_2343 rfl rfl ?_
  refine B_callVi hf (As := []) hM cv_L_315 l01 rfl rfl rfl (Nat.le_of_ble_eq_true rfl) ⟨(Nat.le_of_ble_eq_true rfl), (Nat.le_of_ble_eq_true rfl), by show _ ≤ 603072; omega, by show _ ≤ 7182441; omega⟩ dL_law_2344 ?_
  exact V_icmp_eq (tgt := 3108) hf hv hv dL_law_2347 (by decide) (fun _ => V_wide (by omega) (by omega) (kk ad σ3 hI)) (fun q => absurd rfl q)
set_option maxHeartbeats 4000000 in
set_option maxRecDepth 100000 in
theorem la_turnover {X : Cx} {ad : Adr} {σ : Mem} {b L : Nat} {xs : Nat → Int32} {i Bd : Int} {cs ss : Nat} (hf : Cf X RL cL_law 9 room_1) (hl0 : (xl X).stackTraces = false) (hsc : Sc X b L xs) (hL : L ≤ 2048) (hi : 0 ≤ i ∧ i + 4 ≤ L) (hB : Bd ≤ 40000000) (h : INV σ Bd) (hcs : cs + 500 ≤ 603072 ∧ ss + 1500 ≤ 7182441) (kk : Kx X b i Bd cs ss) : B X ad σ 2352 (lsB ad b i) [] cs ss := by
  obtain ⟨v, σ1, σ3, hv, hC, hM, hI⟩ := St.n0 (st_turnover (D := xD X) (K := xK X) (ad := ad) hl0 h)
  refine V_aload_n hf dL_law_2352 rfl rfl ?_
  refine B_callVi hf (As := []) hC cv_L_316 l01 rfl rfl rfl (Nat.le_of_ble_eq_true rfl) ⟨(Nat.le_of_ble_eq_true rfl), (Nat.le_of_ble_eq_true rfl), by show _ ≤ 603072; omega, by show _ ≤ 7182441; omega⟩ dL_law_2353 ?_
  refine V_aload_n hf dL_law_2356 rfl rfl ?_
  refine B_callVi hf (As := []) hM cv_L_319 l01 rfl rfl rfl (Nat.le_of_ble_eq_true rfl) ⟨(Nat.le_of_ble_eq_true rfl), (Nat.le_of_ble_eq_true rfl), by show _ ≤ 603072; omega, by show _ ≤ 7182441; omega⟩ dL_law_2357 ?_
  exact V_icmp_eq (tgt := 3108) hf hv hv dL_law_2360 (by decide) (fun _ => V_wide (by omega) (by omega) (kk ad σ3 hI)) (fun q => absurd rfl q)
set_option maxHeartbeats 4000000 in
set_option maxRecDepth 100000 in
theorem la_exchangeCoins {X : Cx} {ad : Adr} {σ : Mem} {b L : Nat} {xs : Nat → Int32} {i Bd : Int} {cs ss : Nat} (hf : Cf X RL cL_law 9 room_1) (hl0 : (xl X).stackTraces = false) (hsc : Sc X b L xs) (hL : L ≤ 2048) (hi : 0 ≤ i ∧ i + 4 ≤ L) (hB : Bd ≤ 40000000) (h : INV σ Bd) (hcs : cs + 500 ≤ 603072 ∧ ss + 1500 ≤ 7182441) (kk : Kx X b i Bd cs ss) : B X ad σ 2365 (lsB ad b i) [] cs ss := by
  obtain ⟨v, σ1, σ3, hv, hC, hM, hI⟩ := St.n0 (st_exchangeCoins (D := xD X) (K := xK X) (ad := ad) hl0 h)
  refine V_aload_n hf dL_law_2365 rfl rfl ?_
  refine B_callVi hf (As := []) hC cv_L_320 l01 rfl rfl rfl (Nat.le_of_ble_eq_true rfl) ⟨(Nat.le_of_ble_eq_true rfl), (Nat.le_of_ble_eq_true rfl), by show _ ≤ 603072; omega, by show _ ≤ 7182441; omega⟩ dL_law_2366 ?_
  refine V_aload_n hf dL_law_2369 rfl rfl ?_
  refine B_callVi hf (As := []) hM cv_L_323 l01 rfl rfl rfl (Nat.le_of_ble_eq_true rfl) ⟨(Nat.le_of_ble_eq_true rfl), (Nat.le_of_ble_eq_true rfl), by show _ ≤ 603072; omega, by show _ ≤ 7182441; omega⟩ dL_law_2370 ?_
  exact V_icmp_eq (tgt := 3108) hf hv hv dL_law_2373 (by decide) (fun _ => V_wide (by omega) (by omega) (kk ad σ3 hI)) (fun q => absurd rfl q)
set_option maxHeartbeats 4000000 in
set_option maxRecDepth 100000 in
theorem la_expiredCount {X : Cx} {ad : Adr} {σ : Mem} {b L : Nat} {xs : Nat → Int32} {i Bd : Int} {cs ss : Nat} (hf : Cf X RL cL_law 9 room_1) (hl0 : (xl X).stackTraces = false) (hsc : Sc X b L xs) (hL : L ≤ 2048) (hi : 0 ≤ i ∧ i + 4 ≤ L) (hB : Bd ≤ 40000000) (h : INV σ Bd) (hcs : cs + 500 ≤ 603072 ∧ ss + 1500 ≤ 7182441) (kk : Kx X b i Bd cs ss) : B X ad σ 2378 (lsB ad b i) [] cs ss := by
  obtain ⟨v, σ1, σ3, hv, hC, hM, hI⟩ := St.n0 (st_expiredCount (D := xD X) (K := xK X) (ad := ad) hl0 h)
  refine V_aload_n hf dL_law_2378 rfl rfl ?_
  refine B_callVi hf (As := []) hC cv_L_324 l01 rfl rfl rfl (Nat.le_of_ble_eq_true rfl) ⟨(Nat.le_of_ble_eq_true rfl), (Nat.le_of_ble_eq_true rfl), by show _ ≤ 603072; omega, by show _ ≤ 7182441; omega⟩ dL_law_2379 ?_
  refine V_aload_n hf dL_law_2382 rfl rfl ?_
  refine B_callVi hf (As := []) hM cv_L_327 l01 rfl rfl rfl (Nat.le_of_ble_eq_true rfl) ⟨(Nat.le_of_ble_eq_true rfl), (Nat.le_of_ble_eq_true rfl), by show _ ≤ 603072; omega, by show _ ≤ 7182441; omega⟩ dL_law_2383 ?_
  exact V_icmp_eq (tgt := 3108) hf hv hv dL_law_2386 (by decide) (fun _ => V_wide (by omega) (by omega) (kk ad σ3 hI)) (fun q => absurd rfl q)
set_option maxHeartbeats 4000000 in
set_option maxRecDepth 100000 in
theorem la_allCoins {X : Cx} {ad : Adr} {σ : Mem} {b L : Nat} {xs : Nat → Int32} {i Bd : Int} {cs ss : Nat} (hf : Cf X RL cL_law 9 room_1) (hl0 : (xl X).stackTraces = false) (hsc : Sc X b L xs) (hL : L ≤ 2048) (hi : 0 ≤ i ∧ i + 4 ≤ L) (hB : Bd ≤ 40000000) (h : INV σ Bd) (hcs : cs + 500 ≤ 603072 ∧ ss + 1500 ≤ 7182441) (kk : Kx X b i Bd cs ss) : B X ad σ 2391 (lsB ad b i) [] cs ss := by
  obtain ⟨v, σ1, σ3, hv, hC, hM, hI⟩ := St.n0 (st_allCoins (D := xD X) (K := xK X) (ad := ad) hl0 h)
  refine V_aload_n hf dL_law_2391 rfl rfl ?_
  refine B_callVi hf (As := []) hC cv_L_328 l01 rfl rfl rfl (Nat.le_of_ble_eq_true rfl) ⟨(Nat.le_of_ble_eq_true rfl), (Nat.le_of_ble_eq_true rfl), by show _ ≤ 603072; omega, by show _ ≤ 7182441; omega⟩ dL_law_2392 ?_
  refine V_aload_n hf dL_law_2395 rfl rfl ?_
  refine B_callVi hf (As := []) hM cv_L_331 l01 rfl rfl rfl (Nat.le_of_ble_eq_true rfl) ⟨(Nat.le_of_ble_eq_true rfl), (Nat.le_of_ble_eq_true rfl), by show _ ≤ 603072; omega, by show _ ≤ 7182441; omega⟩ dL_law_2396 ?_
  exact V_icmp_eq (tgt := 3108) hf hv hv dL_law_2399 (by decide) (fun _ => V_wide (by omega) (by omega) (kk ad σ3 hI)) (fun q => absurd rfl q)
set_option maxHeartbeats 4000000 in
set_option maxRecDepth 100000 in
theorem la_allCoinsGiven {X : Cx} {ad : Adr} {σ : Mem} {b L : Nat} {xs : Nat → Int32} {i Bd : Int} {cs ss : Nat} (hf : Cf X RL cL_law 9 room_1) (hl0 : (xl X).stackTraces = false) (hsc : Sc X b L xs) (hL : L ≤ 2048) (hi : 0 ≤ i ∧ i + 4 ≤ L) (hB : Bd ≤ 40000000) (h : INV σ Bd) (hcs : cs + 500 ≤ 603072 ∧ ss + 1500 ≤ 7182441) (kk : Kx X b i Bd cs ss) : B X ad σ 2404 (lsB ad b i) [] cs ss := by
  obtain ⟨v, σ1, σ3, hv, hC, hM, hI⟩ := St.n0 (st_allCoinsGiven (D := xD X) (K := xK X) (ad := ad) hl0 h)
  refine V_aload_n hf dL_law_2404 rfl rfl ?_
  refine B_callVi hf (As := []) hC cv_L_332 l01 rfl rfl rfl (Nat.le_of_ble_eq_true rfl) ⟨(Nat.le_of_ble_eq_true rfl), (Nat.le_of_ble_eq_true rfl), by show _ ≤ 603072; omega, by show _ ≤ 7182441; omega⟩ dL_law_2405 ?_
  refine V_aload_n hf dL_law_2408 rfl rfl ?_
  refine B_callVi hf (As := []) hM cv_L_335 l01 rfl rfl rfl (Nat.le_of_ble_eq_true rfl) ⟨(Nat.le_of_ble_eq_true rfl), (Nat.le_of_ble_eq_true rfl), by show _ ≤ 603072; omega, by show _ ≤ 7182441; omega⟩ dL_law_2409 ?_
  exact V_icmp_eq (tgt := 3108) hf hv hv dL_law_2412 (by decide) (fun _ => V_wide (by omega) (by omega) (kk ad σ3 hI)) (fun q => absurd rfl q)
set_option maxHeartbeats 4000000 in
set_option maxRecDepth 100000 in
theorem la_shipByWealth {X : Cx} {ad : Adr} {σ : Mem} {b L : Nat} {xs : Nat → Int32} {i Bd : Int} {cs ss : Nat} (hf : Cf X RL cL_law 9 room_1) (hl0 : (xl X).stackTraces = false) (hsc : Sc X b L xs) (hL : L ≤ 2048) (hi : 0 ≤ i ∧ i + 4 ≤ L) (hB : Bd ≤ 40000000) (h : INV σ Bd) (hcs : cs + 500 ≤ 603072 ∧ ss + 1500 ≤ 7182441) (kk : Kx X b i Bd cs ss) : B X ad σ 2417 (lsB ad b i) [] cs ss := by
  obtain ⟨oc, k, v, σ1, hC, hO, hv, hk, r, σ3, hr, hM, h8, hrv, hI⟩ := St.nr (by decide) (st_shipByWealth (D := xD X) (K := xK X) (ad := ad) hl0 h _ (iN_self_r (xs (i + 1).toNat)))
  have hU := u_shipByWealth hl0 _ hC hO hv
  refine V_aload_n hf dL_law_2417 rfl rfl ?_
  refine V_aload_n hf dL_law_2418 rfl rfl ?_
  refine V_iload hf dL_law_2419 rfl ?_
  refine V_iconst hf dL_law_2421 ?_
  refine V_iadd hf dL_law_2422 ?_
  refine V_sld hf hsc ⟨by omega, by omega⟩ (by omega) (by omega) dL_law_2423 ?_
  refine V_aload_n hf dL_law_2424 rfl rfl ?_
  refine B_callH hf (As := [_, _, _]) (st := []) hU ch_L_336 rfl (Nat.le_of_ble_eq_true rfl) ⟨(Nat.le_of_ble_eq_true rfl), (Nat.le_of_ble_eq_true rfl), by show _ ≤ 603072; omega, by show _ ≤ 7182441; omega⟩ dL_law_2425 ?_
  refine V_istore (ls2 := [_, _, _, _, _, _, _, _, _]) hf dL_law_2428 (by decide) rfl rfl ?_
  refine V_aload_n hf dL_law_2430 rfl rfl ?_
  refine V_aload_n hf dL_law_2431 rfl rfl ?_
  refine V_iload hf dL_law_2432 rfl ?_
  refine V_iconst hf dL_law_2434 ?_
  refine V_iadd hf dL_law_2435 ?_
  refine V_sld hf hsc ⟨by omega, by omega⟩ (by omega) (by omega) dL_law_2436 ?_
  refine B_callVi hf (As := [_]) hM cv_L_338 l01 rfl rfl rfl (Nat.le_of_ble_eq_true rfl) ⟨(Nat.le_of_ble_eq_true rfl), (Nat.le_of_ble_eq_true rfl), by show _ ≤ 603072; omega, by show _ ≤ 7182441; omega⟩ dL_law_2437 ?_
  exact la_tail hf hl0 (off := 638) ⟨dL_law_2440, dL_law_2442, dL_law_2443, dL_law_2446, dL_law_2448, dL_law_2453, dL_law_2455, dL_law_2458, dL_law_2459, dL_law_2460, dL_law_2461, dL_law_2463, dL_law_2464, dL_law_2465, dL_law_2470, by decide⟩ hk hr h8 (fun z => (hrv z).1.trans (hrv z).2.symm) hI.r ⟨by omega, by omega⟩ (V_wide (by omega) (by omega) (kk ad σ3 hI))
set_option maxHeartbeats 4000000 in
set_option maxRecDepth 100000 in
theorem la_isConsistent {X : Cx} {ad : Adr} {σ : Mem} {b L : Nat} {xs : Nat → Int32} {i Bd : Int} {cs ss : Nat} (hf : Cf X RL cL_law 9 room_1) (hl0 : (xl X).stackTraces = false) (hsc : Sc X b L xs) (hL : L ≤ 2048) (hi : 0 ≤ i ∧ i + 4 ≤ L) (hB : Bd ≤ 40000000) (h : INV σ Bd) (hcs : cs + 500 ≤ 603072 ∧ ss + 1500 ≤ 7182441) (kk : Kx X b i Bd cs ss) : B X ad σ 2604 (lsB ad b i) [] cs ss := by
  obtain ⟨v, σ1, σ3, hv, hC, hM, hI⟩ := St.n0 (st_consistent (D := xD X) (K := xK X) (ad := ad) hl0 h)
  refine V_aload_n hf dL_law_2604 rfl rfl ?_
  refine B_callVi hf (As := []) hC cv_L_346 l01 rfl rfl rfl (Nat.le_of_ble_eq_true rfl) ⟨(Nat.le_of_ble_eq_true rfl), (Nat.le_of_ble_eq_true rfl), by show _ ≤ 603072; omega, by show _ ≤ 7182441; omega⟩ dL_law_2605 ?_
  refine V_aload_n hf dL_law_2608 rfl rfl ?_
  refine B_callVi hf (As := []) hM cv_L_350 l01 rfl rfl rfl (Nat.le_of_ble_eq_true rfl) ⟨(Nat.le_of_ble_eq_true rfl), (Nat.le_of_ble_eq_true rfl), by show _ ≤ 603072; omega, by show _ ≤ 7182441; omega⟩ dL_law_2609 ?_
  exact V_icmp_eq (tgt := 3108) hf hv hv dL_law_2612 (by decide) (fun _ => V_wide (by omega) (by omega) (kk ad σ3 hI)) (fun q => absurd rfl q)
set_option maxHeartbeats 4000000 in
set_option maxRecDepth 100000 in
theorem la_outputAt {X : Cx} {ad : Adr} {σ : Mem} {b L : Nat} {xs : Nat → Int32} {i Bd : Int} {cs ss : Nat} (hf : Cf X RL cL_law 9 room_1) (hl0 : (xl X).stackTraces = false) (hsc : Sc X b L xs) (hL : L ≤ 2048) (hi : 0 ≤ i ∧ i + 4 ≤ L) (hB : Bd ≤ 40000000) (h : INV σ Bd) (hcs : cs + 500 ≤ 603072 ∧ ss + 1500 ≤ 7182441) (kk : Kx X b i Bd cs ss) : B X ad σ 2673 (lsB ad b i) [] cs ss := by
  obtain ⟨oc, k, v, σ1, hC, hO, hv, hk, r, σ3, hr, hM, h8, hrv, hI⟩ := St.nr (by decide) (st_outputAt (D := xD X) (K := xK X) (ad := ad) hl0 h _ (iN_self_r (xs (i + 1).toNat)))
  have hU := u_outputAt hl0 _ hC hO hv
  refine V_aload_n hf dL_law_2673 rfl rfl ?_
  refine V_aload_n hf dL_law_2674 rfl rfl ?_
  refine V_iload hf dL_law_2675 rfl ?_
  refine V_iconst hf dL_law_2677 ?_
  refine V_iadd hf dL_law_2678 ?_
  refine V_sld hf hsc ⟨by omega, by omega⟩ (by omega) (by omega) dL_law_2679 ?_
  refine V_aload_n hf dL_law_2680 rfl rfl ?_
  refine B_callH hf (As := [_, _, _]) (st := []) hU ch_L_354 rfl (Nat.le_of_ble_eq_true rfl) ⟨(Nat.le_of_ble_eq_true rfl), (Nat.le_of_ble_eq_true rfl), by show _ ≤ 603072; omega, by show _ ≤ 7182441; omega⟩ dL_law_2681 ?_
  refine V_istore (ls2 := [_, _, _, _, _, _, _, _, _]) hf dL_law_2684 (by decide) rfl rfl ?_
  refine V_aload_n hf dL_law_2686 rfl rfl ?_
  refine V_aload_n hf dL_law_2687 rfl rfl ?_
  refine V_iload hf dL_law_2688 rfl ?_
  refine V_iconst hf dL_law_2690 ?_
  refine V_iadd hf dL_law_2691 ?_
  refine V_sld hf hsc ⟨by omega, by omega⟩ (by omega) (by omega) dL_law_2692 ?_
  refine B_callVi hf (As := [_]) hM cv_L_356 l01 rfl rfl rfl (Nat.le_of_ble_eq_true rfl) ⟨(Nat.le_of_ble_eq_true rfl), (Nat.le_of_ble_eq_true rfl), by show _ ≤ 603072; omega, by show _ ≤ 7182441; omega⟩ dL_law_2693 ?_
  exact la_tail hf hl0 (off := 382) ⟨dL_law_2696, dL_law_2698, dL_law_2699, dL_law_2702, dL_law_2704, dL_law_2709, dL_law_2711, dL_law_2714, dL_law_2715, dL_law_2716, dL_law_2717, dL_law_2719, dL_law_2720, dL_law_2721, dL_law_2726, by decide⟩ hk hr h8 (fun z => (hrv z).1.trans (hrv z).2.symm) hI.r ⟨by omega, by omega⟩ (V_wide (by omega) (by omega) (kk ad σ3 hI))
set_option maxHeartbeats 4000000 in
set_option maxRecDepth 100000 in
theorem la_appendInput {X : Cx} {ad : Adr} {σ : Mem} {b L : Nat} {xs : Nat → Int32} {i Bd : Int} {cs ss : Nat} (hf : Cf X RL cL_law 9 room_1) (hl0 : (xl X).stackTraces = false) (hsc : Sc X b L xs) (hL : L ≤ 2048) (hi : 0 ≤ i ∧ i + 4 ≤ L) (hB : Bd ≤ 40000000) (h : INV σ Bd) (hcs : cs + 500 ≤ 603072 ∧ ss + 1500 ≤ 7182441) (kk : Kx X b i Bd cs ss) : B X ad σ 2729 (lsB ad b i) [] cs ss := by
  obtain ⟨c, c0, hc⟩ := i2c_ex (xs (i + 1).toNat).toInt
  obtain ⟨oc, k, v, σ1, hC, hO, hv, hk, r, σ3, hr, hM, h8, hrv, hI⟩ := St.nr (by decide) (st_appendInput (D := xD X) (K := xK X) (ad := ad) hl0 h hB c c0)
  have hU := u_appendInput hl0 _ hC hO hv
  refine V_aload_n hf dL_law_2729 rfl rfl ?_
  refine V_aload_n hf dL_law_2730 rfl rfl ?_
  refine V_iload hf dL_law_2731 rfl ?_
  refine V_iconst hf dL_law_2733 ?_
  refine V_iadd hf dL_law_2734 ?_
  refine V_sld hf hsc ⟨by omega, by omega⟩ (by omega) (by omega) dL_law_2735 ?_
  refine V_i2c (b := c) hf hc dL_law_2736 ?_
  refine V_aload_n hf dL_law_2737 rfl rfl ?_
  refine B_callH hf (As := [_, _, _]) (st := []) hU ch_L_357 rfl (Nat.le_of_ble_eq_true rfl) ⟨(Nat.le_of_ble_eq_true rfl), (Nat.le_of_ble_eq_true rfl), by show _ ≤ 603072; omega, by show _ ≤ 7182441; omega⟩ dL_law_2738 ?_
  refine V_istore (ls2 := [_, _, _, _, _, _, _, _, _]) hf dL_law_2741 (by decide) rfl rfl ?_
  refine V_aload_n hf dL_law_2743 rfl rfl ?_
  refine V_aload_n hf dL_law_2744 rfl rfl ?_
  refine V_iload hf dL_law_2745 rfl ?_
  refine V_iconst hf dL_law_2747 ?_
  refine V_iadd hf dL_law_2748 ?_
  refine V_sld hf hsc ⟨by omega, by omega⟩ (by omega) (by omega) dL_law_2749 ?_
  refine V_i2c (b := c) hf hc dL_law_2750 ?_
  refine B_callVi hf (As := [_]) hM cv_L_360 l01 rfl rfl rfl (Nat.le_of_ble_eq_true rfl) ⟨(Nat.le_of_ble_eq_true rfl), (Nat.le_of_ble_eq_true rfl), by show _ ≤ 603072; omega, by show _ ≤ 7182441; omega⟩ dL_law_2751 ?_
  exact la_tail hf hl0 (off := 324) ⟨dL_law_2754, dL_law_2756, dL_law_2757, dL_law_2760, dL_law_2762, dL_law_2767, dL_law_2769, dL_law_2772, dL_law_2773, dL_law_2774, dL_law_2775, dL_law_2777, dL_law_2778, dL_law_2779, dL_law_2784, by decide⟩ hk hr h8 (fun z => (hrv z).1.trans (hrv z).2.symm) hI.r ⟨by omega, by omega⟩ (V_wide (by omega) (by omega) (kk ad σ3 hI))
set_option maxHeartbeats 4000000 in
set_option maxRecDepth 100000 in
theorem la_execute {X : Cx} {ad : Adr} {σ : Mem} {b L : Nat} {xs : Nat → Int32} {i Bd : Int} {cs ss : Nat} (hf : Cf X RL cL_law 9 room_1) (hl0 : (xl X).stackTraces = false) (hsc : Sc X b L xs) (hL : L ≤ 2048) (hi : 0 ≤ i ∧ i + 4 ≤ L) (hB : Bd ≤ 40000000) (h : INV σ Bd) (hcs : cs + 500 ≤ 603072 ∧ ss + 1500 ≤ 7182441) (kk : Kx X b i Bd cs ss) : B X ad σ 2787 (lsB ad b i) [] cs ss := by
  obtain ⟨oc, k, v, σ1, hC, hO, hv, hk, r, σ3, hr, hM, h8, hrv, hI⟩ := St.nr (by decide) (st_execute (D := xD X) (K := xK X) (ad := ad) hl0 h hB)
  have hU := u_execute hl0 hC hO hv
  refine V_aload_n hf dL_law_2787 rfl rfl ?_
  refine V_aload_n hf dL_law_2788 rfl rfl ?_
  refine B_callH hf (As := [_, _]) (st := []) hU ch_L_361 rfl (Nat.le_of_ble_eq_true rfl) ⟨(Nat.le_of_ble_eq_true rfl), (Nat.le_of_ble_eq_true rfl), by show _ ≤ 603072; omega, by show _ ≤ 7182441; omega⟩ dL_law_2789 ?_
  refine V_istore (ls2 := [_, _, _, _, _, _, _, _, _]) hf dL_law_2792 (by decide) rfl rfl ?_
  refine V_aload_n hf dL_law_2794 rfl rfl ?_
  refine B_callVi hf (As := []) hM cv_L_363 l01 rfl rfl rfl (Nat.le_of_ble_eq_true rfl) ⟨(Nat.le_of_ble_eq_true rfl), (Nat.le_of_ble_eq_true rfl), by show _ ≤ 603072; omega, by show _ ≤ 7182441; omega⟩ dL_law_2795 ?_
  exact la_tail hf hl0 (off := 280) ⟨dL_law_2798, dL_law_2800, dL_law_2801, dL_law_2804, dL_law_2806, dL_law_2811, dL_law_2813, dL_law_2816, dL_law_2817, dL_law_2818, dL_law_2819, dL_law_2821, dL_law_2822, dL_law_2823, dL_law_2828, by decide⟩ hk hr h8 (fun z => (hrv z).1.trans (hrv z).2.symm) hI.r ⟨by omega, by omega⟩ (V_wide (by omega) (by omega) (kk ad σ3 hI))
set_option maxHeartbeats 4000000 in
set_option maxRecDepth 100000 in
theorem la_syntaxErrorOffset {X : Cx} {ad : Adr} {σ : Mem} {b L : Nat} {xs : Nat → Int32} {i Bd : Int} {cs ss : Nat} (hf : Cf X RL cL_law 9 room_1) (hl0 : (xl X).stackTraces = false) (hsc : Sc X b L xs) (hL : L ≤ 2048) (hi : 0 ≤ i ∧ i + 4 ≤ L) (hB : Bd ≤ 40000000) (h : INV σ Bd) (hcs : cs + 500 ≤ 603072 ∧ ss + 1500 ≤ 7182441) (kk : Kx X b i Bd cs ss) : B X ad σ 2831 (lsB ad b i) [] cs ss := by
  obtain ⟨oc, k, v, σ1, hC, hO, hv, hk, r, σ3, hr, hM, h8, hrv, hI⟩ := St.nr (by decide) (st_synErr (D := xD X) (K := xK X) (ad := ad) hl0 h)
  have hU := u_syntaxErrorOffset hl0 hC hO hv
  refine V_aload_n hf dL_law_2831 rfl rfl ?_
  refine V_aload_n hf dL_law_2832 rfl rfl ?_
  refine B_callH hf (As := [_, _]) (st := []) hU ch_L_364 rfl (Nat.le_of_ble_eq_true rfl) ⟨(Nat.le_of_ble_eq_true rfl), (Nat.le_of_ble_eq_true rfl), by show _ ≤ 603072; omega, by show _ ≤ 7182441; omega⟩ dL_law_2833 ?_
  refine V_istore (ls2 := [_, _, _, _, _, _, _, _, _]) hf dL_law_2836 (by decide) rfl rfl ?_
  refine V_aload_n hf dL_law_2838 rfl rfl ?_
  refine B_callVi hf (As := []) hM cv_L_366 l01 rfl rfl rfl (Nat.le_of_ble_eq_true rfl) ⟨(Nat.le_of_ble_eq_true rfl), (Nat.le_of_ble_eq_true rfl), by show _ ≤ 603072; omega, by show _ ≤ 7182441; omega⟩ dL_law_2839 ?_
  exact la_tail hf hl0 (off := 236) ⟨dL_law_2842, dL_law_2844, dL_law_2845, dL_law_2848, dL_law_2850, dL_law_2855, dL_law_2857, dL_law_2860, dL_law_2861, dL_law_2862, dL_law_2863, dL_law_2865, dL_law_2866, dL_law_2867, dL_law_2872, by decide⟩ hk hr h8 (fun z => (hrv z).1.trans (hrv z).2.symm) hI.r ⟨by omega, by omega⟩ (V_wide (by omega) (by omega) (kk ad σ3 hI))
set_option maxHeartbeats 4000000 in
set_option maxRecDepth 100000 in
theorem la_rejectionReason {X : Cx} {ad : Adr} {σ : Mem} {b L : Nat} {xs : Nat → Int32} {i Bd : Int} {cs ss : Nat} (hf : Cf X RL cL_law 9 room_1) (hl0 : (xl X).stackTraces = false) (hsc : Sc X b L xs) (hL : L ≤ 2048) (hi : 0 ≤ i ∧ i + 4 ≤ L) (hB : Bd ≤ 40000000) (h : INV σ Bd) (hcs : cs + 500 ≤ 603072 ∧ ss + 1500 ≤ 7182441) (kk : Kx X b i Bd cs ss) : B X ad σ 2875 (lsB ad b i) [] cs ss := by
  obtain ⟨oc, k, v, σ1, hC, hO, hv, hk, r, σ3, hr, hM, h8, hrv, hI⟩ := St.nr (by decide) (st_rejectionReason (D := xD X) (K := xK X) (ad := ad) hl0 h)
  have hU := u_rejectionReason hl0 hC hO hv
  refine V_aload_n hf dL_law_2875 rfl rfl ?_
  refine V_aload_n hf dL_law_2876 rfl rfl ?_
  refine B_callH hf (As := [_, _]) (st := []) hU ch_L_367 rfl (Nat.le_of_ble_eq_true rfl) ⟨(Nat.le_of_ble_eq_true rfl), (Nat.le_of_ble_eq_true rfl), by show _ ≤ 603072; omega, by show _ ≤ 7182441; omega⟩ dL_law_2877 ?_
  refine V_istore (ls2 := [_, _, _, _, _, _, _, _, _]) hf dL_law_2880 (by decide) rfl rfl ?_
  refine V_aload_n hf dL_law_2882 rfl rfl ?_
  refine B_callVi hf (As := []) hM cv_L_369 l01 rfl rfl rfl (Nat.le_of_ble_eq_true rfl) ⟨(Nat.le_of_ble_eq_true rfl), (Nat.le_of_ble_eq_true rfl), by show _ ≤ 603072; omega, by show _ ≤ 7182441; omega⟩ dL_law_2883 ?_
  exact la_tail hf hl0 (off := 192) ⟨dL_law_2886, dL_law_2888, dL_law_2889, dL_law_2892, dL_law_2894, dL_law_2899, dL_law_2901, dL_law_2904, dL_law_2905, dL_law_2906, dL_law_2907, dL_law_2909, dL_law_2910, dL_law_2911, dL_law_2916, by decide⟩ hk hr h8 (fun z => (hrv z).1.trans (hrv z).2.symm) hI.r ⟨by omega, by omega⟩ (V_wide (by omega) (by omega) (kk ad σ3 hI))
set_option maxHeartbeats 4000000 in
set_option maxRecDepth 100000 in
theorem la_rejectionDetail {X : Cx} {ad : Adr} {σ : Mem} {b L : Nat} {xs : Nat → Int32} {i Bd : Int} {cs ss : Nat} (hf : Cf X RL cL_law 9 room_1) (hl0 : (xl X).stackTraces = false) (hsc : Sc X b L xs) (hL : L ≤ 2048) (hi : 0 ≤ i ∧ i + 4 ≤ L) (hB : Bd ≤ 40000000) (h : INV σ Bd) (hcs : cs + 500 ≤ 603072 ∧ ss + 1500 ≤ 7182441) (kk : Kx X b i Bd cs ss) : B X ad σ 2919 (lsB ad b i) [] cs ss := by
  obtain ⟨oc, k, v, σ1, hC, hO, hv, hk, r, σ3, hr, hM, h8, hrv, hI⟩ := St.nr (by decide) (st_rejectionDetail (D := xD X) (K := xK X) (ad := ad) hl0 h)
  have hU := u_rejectionDetail hl0 hC hO hv
  refine V_aload_n hf dL_law_2919 rfl rfl ?_
  refine V_aload_n hf dL_law_2920 rfl rfl ?_
  refine B_callH hf (As := [_, _]) (st := []) hU ch_L_370 rfl (Nat.le_of_ble_eq_true rfl) ⟨(Nat.le_of_ble_eq_true rfl), (Nat.le_of_ble_eq_true rfl), by show _ ≤ 603072; omega, by show _ ≤ 7182441; omega⟩ dL_law_2921 ?_
  refine V_istore (ls2 := [_, _, _, _, _, _, _, _, _]) hf dL_law_2924 (by decide) rfl rfl ?_
  refine V_aload_n hf dL_law_2926 rfl rfl ?_
  refine B_callVi hf (As := []) hM cv_L_372 l01 rfl rfl rfl (Nat.le_of_ble_eq_true rfl) ⟨(Nat.le_of_ble_eq_true rfl), (Nat.le_of_ble_eq_true rfl), by show _ ≤ 603072; omega, by show _ ≤ 7182441; omega⟩ dL_law_2927 ?_
  exact la_tail hf hl0 (off := 148) ⟨dL_law_2930, dL_law_2932, dL_law_2933, dL_law_2936, dL_law_2938, dL_law_2943, dL_law_2945, dL_law_2948, dL_law_2949, dL_law_2950, dL_law_2951, dL_law_2953, dL_law_2954, dL_law_2955, dL_law_2960, by decide⟩ hk hr h8 (fun z => (hrv z).1.trans (hrv z).2.symm) hI.r ⟨by omega, by omega⟩ (V_wide (by omega) (by omega) (kk ad σ3 hI))
set_option maxHeartbeats 4000000 in
set_option maxRecDepth 100000 in
theorem la_causeReason {X : Cx} {ad : Adr} {σ : Mem} {b L : Nat} {xs : Nat → Int32} {i Bd : Int} {cs ss : Nat} (hf : Cf X RL cL_law 9 room_1) (hl0 : (xl X).stackTraces = false) (hsc : Sc X b L xs) (hL : L ≤ 2048) (hi : 0 ≤ i ∧ i + 4 ≤ L) (hB : Bd ≤ 40000000) (h : INV σ Bd) (hcs : cs + 500 ≤ 603072 ∧ ss + 1500 ≤ 7182441) (kk : Kx X b i Bd cs ss) : B X ad σ 2963 (lsB ad b i) [] cs ss := by
  obtain ⟨oc, k, v, σ1, hC, hO, hv, hk, r, σ3, hr, hM, h8, hrv, hI⟩ := St.nr (by decide) (st_causeReason (D := xD X) (K := xK X) (ad := ad) hl0 h)
  have hU := u_causeReason hl0 hC hO hv
  refine V_aload_n hf dL_law_2963 rfl rfl ?_
  refine V_aload_n hf dL_law_2964 rfl rfl ?_
  refine B_callH hf (As := [_, _]) (st := []) hU ch_L_373 rfl (Nat.le_of_ble_eq_true rfl) ⟨(Nat.le_of_ble_eq_true rfl), (Nat.le_of_ble_eq_true rfl), by show _ ≤ 603072; omega, by show _ ≤ 7182441; omega⟩ dL_law_2965 ?_
  refine V_istore (ls2 := [_, _, _, _, _, _, _, _, _]) hf dL_law_2968 (by decide) rfl rfl ?_
  refine V_aload_n hf dL_law_2970 rfl rfl ?_
  refine B_callVi hf (As := []) hM cv_L_375 l01 rfl rfl rfl (Nat.le_of_ble_eq_true rfl) ⟨(Nat.le_of_ble_eq_true rfl), (Nat.le_of_ble_eq_true rfl), by show _ ≤ 603072; omega, by show _ ≤ 7182441; omega⟩ dL_law_2971 ?_
  exact la_tail hf hl0 (off := 104) ⟨dL_law_2974, dL_law_2976, dL_law_2977, dL_law_2980, dL_law_2982, dL_law_2987, dL_law_2989, dL_law_2992, dL_law_2993, dL_law_2994, dL_law_2995, dL_law_2997, dL_law_2998, dL_law_2999, dL_law_3004, by decide⟩ hk hr h8 (fun z => (hrv z).1.trans (hrv z).2.symm) hI.r ⟨by omega, by omega⟩ (V_wide (by omega) (by omega) (kk ad σ3 hI))
set_option maxHeartbeats 4000000 in
set_option maxRecDepth 100000 in
theorem la_undo {X : Cx} {ad : Adr} {σ : Mem} {b L : Nat} {xs : Nat → Int32} {i Bd : Int} {cs ss : Nat} (hf : Cf X RL cL_law 9 room_1) (hl0 : (xl X).stackTraces = false) (hsc : Sc X b L xs) (hL : L ≤ 2048) (hi : 0 ≤ i ∧ i + 4 ≤ L) (hB : Bd ≤ 40000000) (h : INV σ Bd) (hcs : cs + 500 ≤ 603072 ∧ ss + 1500 ≤ 7182441) (kk : Kx X b i Bd cs ss) : B X ad σ 3007 (lsB ad b i) [] cs ss := by
  obtain ⟨oc, k, v, σ1, hC, hO, hv, hk, r, σ3, hr, hM, h8, hrv, hI⟩ := St.nr (by decide) (st_undo (D := xD X) (K := xK X) (ad := ad) hl0 h hB)
  have hU := u_undo hl0 hC hO hv
  refine V_aload_n hf dL_law_3007 rfl rfl ?_
  refine V_aload_n hf dL_law_3008 rfl rfl ?_
  refine B_callH hf (As := [_, _]) (st := []) hU ch_L_376 rfl (Nat.le_of_ble_eq_true rfl) ⟨(Nat.le_of_ble_eq_true rfl), (Nat.le_of_ble_eq_true rfl), by show _ ≤ 603072; omega, by show _ ≤ 7182441; omega⟩ dL_law_3009 ?_
  refine V_istore (ls2 := [_, _, _, _, _, _, _, _, _]) hf dL_law_3012 (by decide) rfl rfl ?_
  refine V_aload_n hf dL_law_3014 rfl rfl ?_
  refine B_callVi hf (As := []) hM cv_L_378 l01 rfl rfl rfl (Nat.le_of_ble_eq_true rfl) ⟨(Nat.le_of_ble_eq_true rfl), (Nat.le_of_ble_eq_true rfl), by show _ ≤ 603072; omega, by show _ ≤ 7182441; omega⟩ dL_law_3015 ?_
  exact la_tail hf hl0 (off := 60) ⟨dL_law_3018, dL_law_3020, dL_law_3021, dL_law_3024, dL_law_3026, dL_law_3031, dL_law_3033, dL_law_3036, dL_law_3037, dL_law_3038, dL_law_3039, dL_law_3041, dL_law_3042, dL_law_3043, dL_law_3048, by decide⟩ hk hr h8 (fun z => (hrv z).1.trans (hrv z).2.symm) hI.r ⟨by omega, by omega⟩ (V_wide (by omega) (by omega) (kk ad σ3 hI))
set_option maxHeartbeats 4000000 in
set_option maxRecDepth 100000 in
theorem la_saveSnapshot {X : Cx} {ad : Adr} {σ : Mem} {b L : Nat} {xs : Nat → Int32} {i Bd : Int} {cs ss : Nat} (hf : Cf X RL cL_law 9 room_1) (hl0 : (xl X).stackTraces = false) (hsc : Sc X b L xs) (hL : L ≤ 2048) (hi : 0 ≤ i ∧ i + 4 ≤ L) (hB : Bd ≤ 40000000) (h : INV σ Bd) (hcs : cs + 500 ≤ 603072 ∧ ss + 1500 ≤ 7182441) (kk : Kx X b i Bd cs ss) : B X ad σ 3051 (lsB ad b i) [] cs ss := by
  obtain ⟨v, σ1, σ3, hv, hC, hM, hI⟩ := St.n0 (st_saveSnapshot (D := xD X) (K := xK X) (ad := ad) hl0 h hB)
  refine V_aload_n hf dL_law_3051 rfl rfl ?_
  refine B_callVi hf (As := []) hC cv_L_379 l01 rfl rfl rfl (Nat.le_of_ble_eq_true rfl) ⟨(Nat.le_of_ble_eq_true rfl), (Nat.le_of_ble_eq_true rfl), by show _ ≤ 603072; omega, by show _ ≤ 7182441; omega⟩ dL_law_3052 ?_
  refine V_aload_n hf dL_law_3055 rfl rfl ?_
  refine B_callVi hf (As := []) hM cv_L_382 l01 rfl rfl rfl (Nat.le_of_ble_eq_true rfl) ⟨(Nat.le_of_ble_eq_true rfl), (Nat.le_of_ble_eq_true rfl), by show _ ≤ 603072; omega, by show _ ≤ 7182441; omega⟩ dL_law_3056 ?_
  exact V_icmp_eq (tgt := 3108) hf hv hv dL_law_3059 (by decide) (fun _ => V_wide (by omega) (by omega) (kk ad σ3 hI)) (fun q => absurd rfl q)
set_option maxHeartbeats 4000000 in
set_option maxRecDepth 100000 in
theorem la_restoreSnapshot {X : Cx} {ad : Adr} {σ : Mem} {b L : Nat} {xs : Nat → Int32} {i Bd : Int} {cs ss : Nat} (hf : Cf X RL cL_law 9 room_1) (hl0 : (xl X).stackTraces = false) (hsc : Sc X b L xs) (hL : L ≤ 2048) (hi : 0 ≤ i ∧ i + 4 ≤ L) (hB : Bd ≤ 40000000) (h : INV σ Bd) (hcs : cs + 500 ≤ 603072 ∧ ss + 1500 ≤ 7182441) (kk : Kx X b i Bd cs ss) : B X ad σ 3064 (lsB ad b i) [] cs ss := by
  obtain ⟨oc, k, v, σ1, hC, hO, hv, hk, r, σ3, hr, hM, h8, hrv, hI⟩ := St.nr (by decide) (st_restoreSnapshot (D := xD X) (K := xK X) (ad := ad) hl0 h hB)
  have hU := u_restoreSnapshot hl0 hC hO hv
  refine V_aload_n hf dL_law_3064 rfl rfl ?_
  refine V_aload_n hf dL_law_3065 rfl rfl ?_
  refine B_callH hf (As := [_, _]) (st := []) hU ch_L_383 rfl (Nat.le_of_ble_eq_true rfl) ⟨(Nat.le_of_ble_eq_true rfl), (Nat.le_of_ble_eq_true rfl), by show _ ≤ 603072; omega, by show _ ≤ 7182441; omega⟩ dL_law_3066 ?_
  refine V_istore (ls2 := [_, _, _, _, _, _, _, _, _]) hf dL_law_3069 (by decide) rfl rfl ?_
  refine V_aload_n hf dL_law_3071 rfl rfl ?_
  refine B_callVi hf (As := []) hM cv_L_385 l01 rfl rfl rfl (Nat.le_of_ble_eq_true rfl) ⟨(Nat.le_of_ble_eq_true rfl), (Nat.le_of_ble_eq_true rfl), by show _ ≤ 603072; omega, by show _ ≤ 7182441; omega⟩ dL_law_3072 ?_
  exact la_tail hf hl0 (off := 3) ⟨dL_law_3075, dL_law_3077, dL_law_3078, dL_law_3081, dL_law_3083, dL_law_3088, dL_law_3090, dL_law_3093, dL_law_3094, dL_law_3095, dL_law_3096, dL_law_3098, dL_law_3099, dL_law_3100, dL_law_3105, by decide⟩ hk hr h8 (fun z => (hrv z).1.trans (hrv z).2.symm) hI.r ⟨by omega, by omega⟩ (V_wide (by omega) (by omega) (kk ad σ3 hI))
