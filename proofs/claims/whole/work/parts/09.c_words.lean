/-! calls: their words together -/
def yX5_comesAhead : MethodName := ⟨RX5, "comesAhead", "(III)Z"⟩
theorem cv_X8_60 : CV RX8 60 RX8 yX8_change cX8_change 5 4 (some .int) := ⟨wl_X8_60, wi_X8_change, wv_X8_change, wn_X8, wc_X8_change, rfl, by decide, by decide, by decide +kernel⟩
theorem cv_X8_73 : CV RX8 73 RX8 yX8_requireShip cX8_requireShip 2 1 none := ⟨wl_X8_73, wi_X8_requireShip, wv_X8_requireShip, wn_X8, wc_X8_requireShip, rfl, by decide, by decide, by decide +kernel⟩
theorem cu_X8_85_4 : CU RX8 85 RX0 RX5 yX5_priceSumOf yX5_priceSumOf cX5_priceSumOf 4 1 (some .int) := by
  intro R s args rm2 mc ms hts hde h1 h2 hR
  exact ⟨⟨h1, h2, hR.1, hR.2, pay_in hts (lg_in wc_X5_priceSumOf), List.mem_cons_self⟩, hts _ wc_X5_priceSumOf, hts _ wn_X5, ⟨by decide, by decide⟩, np_of (y := yX5_priceSumOf) (by decide +kernel), hts _ wl_X8_85, hts _ (lg_t 411 (by decide +kernel) (by decide +kernel) : Cond.sameMethod yX5_priceSumOf.cls RX5 yX5_priceSumOf.name yX5_priceSumOf.desc ∈ lw_good), va_Decl.of (hts _ wi_X5_priceSumOf) (hts _ wc_X5_priceSumOf), hts _ (lg_t 412 (by decide +kernel) (by decide +kernel) : Cond.selects RX0 yX5_priceSumOf yX5_priceSumOf ∈ lw_good), hts _ wi_X5_priceSumOf⟩
theorem cu_X8_85_8 : CU RX8 85 RX4 RX5 yX5_priceSumOf yX5_priceSumOf cX5_priceSumOf 4 1 (some .int) := by
  intro R s args rm2 mc ms hts hde h1 h2 hR
  exact ⟨⟨h1, h2, hR.1, hR.2, pay_in hts (lg_in wc_X5_priceSumOf), List.mem_cons_self⟩, hts _ wc_X5_priceSumOf, hts _ wn_X5, ⟨by decide, by decide⟩, np_of (y := yX5_priceSumOf) (by decide +kernel), hts _ wl_X8_85, hts _ (lg_t 411 (by decide +kernel) (by decide +kernel) : Cond.sameMethod yX5_priceSumOf.cls RX5 yX5_priceSumOf.name yX5_priceSumOf.desc ∈ lw_good), va_Decl.of (hts _ wi_X5_priceSumOf) (hts _ wc_X5_priceSumOf), hts _ (lg_t 413 (by decide +kernel) (by decide +kernel) : Cond.selects RX4 yX5_priceSumOf yX5_priceSumOf ∈ lw_good), hts _ wi_X5_priceSumOf⟩
theorem cv_X8_94 : CV RX8 94 RX1 yX1_loadOn cX1_loadOn 4 1 (some .int) := ⟨wl_X8_94, wi_X1_loadOn, wv_X1_loadOn, wn_X1, wc_X1_loadOn, rfl, by decide, by decide, by decide +kernel⟩
theorem cv_X8_97 : CV RX8 97 RX3 yX3_placesLeft cX3_placesLeft 2 1 (some .int) := ⟨wl_X8_97, wi_X3_placesLeft, wv_X3_placesLeft, wn_X3, wc_X3_placesLeft, rfl, by decide, by decide, by decide +kernel⟩
theorem cv_X8_100 : CV RX8 100 RX1 yX1_barnacleInOrder cX1_barnacleInOrder 4 2 (some .int) := ⟨wl_X8_100, wi_X1_barnacleInOrder, wv_X1_barnacleInOrder, wn_X1, wc_X1_barnacleInOrder, rfl, by decide, by decide, by decide +kernel⟩
theorem cv_X8_114 : CV RX8 114 RX8 yX8_requireBarnacle cX8_requireBarnacle 2 1 none := ⟨wl_X8_114, wi_X8_requireBarnacle, wv_X8_requireBarnacle, wn_X8, wc_X8_requireBarnacle, rfl, by decide, by decide, by decide +kernel⟩
theorem cu_X8_126_4 : CU RX8 126 RX0 RX5 yX5_firstRowOf yX5_firstRowOf cX5_firstRowOf 3 1 (some .int) := by
  intro R s args rm2 mc ms hts hde h1 h2 hR
  exact ⟨⟨h1, h2, hR.1, hR.2, pay_in hts (lg_in wc_X5_firstRowOf), List.mem_cons_self⟩, hts _ wc_X5_firstRowOf, hts _ wn_X5, ⟨by decide, by decide⟩, np_of (y := yX5_firstRowOf) (by decide +kernel), hts _ wl_X8_126, hts _ (lg_t 425 (by decide +kernel) (by decide +kernel) : Cond.sameMethod yX5_firstRowOf.cls RX5 yX5_firstRowOf.name yX5_firstRowOf.desc ∈ lw_good), va_Decl.of (hts _ wi_X5_firstRowOf) (hts _ wc_X5_firstRowOf), hts _ (lg_t 426 (by decide +kernel) (by decide +kernel) : Cond.selects RX0 yX5_firstRowOf yX5_firstRowOf ∈ lw_good), hts _ wi_X5_firstRowOf⟩
theorem cu_X8_126_8 : CU RX8 126 RX4 RX5 yX5_firstRowOf yX5_firstRowOf cX5_firstRowOf 3 1 (some .int) := by
  intro R s args rm2 mc ms hts hde h1 h2 hR
  exact ⟨⟨h1, h2, hR.1, hR.2, pay_in hts (lg_in wc_X5_firstRowOf), List.mem_cons_self⟩, hts _ wc_X5_firstRowOf, hts _ wn_X5, ⟨by decide, by decide⟩, np_of (y := yX5_firstRowOf) (by decide +kernel), hts _ wl_X8_126, hts _ (lg_t 425 (by decide +kernel) (by decide +kernel) : Cond.sameMethod yX5_firstRowOf.cls RX5 yX5_firstRowOf.name yX5_firstRowOf.desc ∈ lw_good), va_Decl.of (hts _ wi_X5_firstRowOf) (hts _ wc_X5_firstRowOf), hts _ (lg_t 427 (by decide +kernel) (by decide +kernel) : Cond.selects RX4 yX5_firstRowOf yX5_firstRowOf ∈ lw_good), hts _ wi_X5_firstRowOf⟩
theorem cvs_X8_132 : CS RX8 132 yX8_idAt cX8_idAt 2 2 (some .int) := ⟨wl_X8_132, wt_X8_idAt, wn_X8, wc_X8_idAt, by decide, by decide, by decide +kernel⟩
theorem cvs_X8_139 : CS RX8 139 yX8_openRow cX8_openRow 3 2 (some .int) := ⟨wl_X8_139, wt_X8_openRow, wn_X8, wc_X8_openRow, by decide, by decide, by decide +kernel⟩
theorem cv_X8_149 : CV RX8 149 RX3 yX3_matchInOrder cX3_matchInOrder 3 1 (some .int) := ⟨wl_X8_149, wi_X3_matchInOrder, wv_X3_matchInOrder, wn_X3, wc_X3_matchInOrder, rfl, by decide, by decide, by decide +kernel⟩
theorem cv_X8_152 : CV RX8 152 RX8 yX8_matchedOffer cX8_matchedOffer 2 1 (some .int) := ⟨wl_X8_152, wi_X8_matchedOffer, wv_X8_matchedOffer, wn_X8, wc_X8_matchedOffer, rfl, by decide, by decide, by decide +kernel⟩
theorem cv_X8_155 : CV RX8 155 RX3 yX3_matchAmongBarnacles cX3_matchAmongBarnacles 5 1 (some .int) := ⟨wl_X8_155, wi_X3_matchAmongBarnacles, wv_X3_matchAmongBarnacles, wn_X3, wc_X3_matchAmongBarnacles, rfl, by decide, by decide, by decide +kernel⟩
theorem cv_X8_160 : CV RX8 160 RX3 yX3_copyFrom cX3_copyFrom 2 1 none := ⟨wl_X8_160, wi_X3_copyFrom, wv_X3_copyFrom, wn_X3, wc_X3_copyFrom, rfl, by decide, by decide, by decide +kernel⟩
theorem cv_X8_164 : CV RX8 164 RX3 yX3_letTidePass cX3_letTidePass 2 0 (some .int) := ⟨wl_X8_164, wi_X3_letTidePass, wv_X3_letTidePass, wn_X3, wc_X3_letTidePass, rfl, by decide, by decide, by decide +kernel⟩
theorem cv_X8_174 : CV RX8 174 RX8 yX8_requireTrade cX8_requireTrade 2 1 none := ⟨wl_X8_174, wi_X8_requireTrade, wv_X8_requireTrade, wn_X8, wc_X8_requireTrade, rfl, by decide, by decide, by decide +kernel⟩
theorem cv_X8_205 : CV RX8 205 RX3 yX3_coinSum cX3_coinSum 1 0 (some .int) := ⟨wl_X8_205, wi_X3_coinSum, wv_X3_coinSum, wn_X3, wc_X3_coinSum, rfl, by decide, by decide, by decide +kernel⟩
theorem cv_X8_211 : CV RX8 211 RX1 yX1_shipInOrder cX1_shipInOrder 3 1 (some .int) := ⟨wl_X8_211, wi_X1_shipInOrder, wv_X1_shipInOrder, wn_X1, wc_X1_shipInOrder, rfl, by decide, by decide, by decide +kernel⟩
theorem cv_X8_223 : CV RX8 223 RX3 yX3_matchesAgree cX3_matchesAgree 2 0 (some .boolean) := ⟨wl_X8_223, wi_X3_matchesAgree, wv_X3_matchesAgree, wn_X3, wc_X3_matchesAgree, rfl, by decide, by decide, by decide +kernel⟩
theorem cv_X8_227 : CV RX8 227 RX3 yX3_shipsKeepReserves cX3_shipsKeepReserves 2 0 (some .boolean) := ⟨wl_X8_227, wi_X3_shipsKeepReserves, wv_X3_shipsKeepReserves, wn_X3, wc_X3_shipsKeepReserves, rfl, by decide, by decide, by decide +kernel⟩
theorem cv_X8_240 : CV RX8 240 RX8 yX8_writeBarnacle cX8_writeBarnacle 2 1 none := ⟨wl_X8_240, wi_X8_writeBarnacle, wv_X8_writeBarnacle, wn_X8, wc_X8_writeBarnacle, rfl, by decide, by decide, by decide +kernel⟩
theorem cvs_X8_255 : CS RX8 255 yX8_isWithin cX8_isWithin 3 3 (some .boolean) := ⟨wl_X8_255, wt_X8_isWithin, wn_X8, wc_X8_isWithin, by decide, by decide, by decide +kernel⟩
theorem cv_X8_275 : CV RX8 275 RX6 yX6_readCommands cX6_readCommands 1 0 (some .int) := ⟨wl_X8_275, wi_X6_readCommands, wv_X6_readCommands, wn_X6, wc_X6_readCommands, rfl, by decide, by decide, by decide +kernel⟩
theorem cv_X8_281 : CV RX8 281 RX8 yX8_perform cX8_perform 7 1 (some .int) := ⟨wl_X8_281, wi_X8_perform, wv_X8_perform, wn_X8, wc_X8_perform, rfl, by decide, by decide, by decide +kernel⟩
theorem cv_X8_284 : CV RX8 284 RX8 yX8_refuseCommand cX8_refuseCommand 3 2 none := ⟨wl_X8_284, wi_X8_refuseCommand, wv_X8_refuseCommand, wn_X8, wc_X8_refuseCommand, rfl, by decide, by decide, by decide +kernel⟩
theorem cv_X8_288 : CV RX8 288 RX2 yX2_remember cX2_remember 2 1 none := ⟨wl_X8_288, wi_X2_remember, wv_X2_remember, wn_X2, wc_X2_remember, rfl, by decide, by decide, by decide +kernel⟩
theorem cv_X8_293 : CV RX8 293 RX8 yX8_requireRejection cX8_requireRejection 1 0 none := ⟨wl_X8_293, wi_X8_requireRejection, wv_X8_requireRejection, wn_X8, wc_X8_requireRejection, rfl, by decide, by decide, by decide +kernel⟩
theorem cv_X8_303 : CV RX8 303 RX2 yX2_bringBack cX2_bringBack 2 1 none := ⟨wl_X8_303, wi_X2_bringBack, wv_X2_bringBack, wn_X2, wc_X2_bringBack, rfl, by decide, by decide, by decide +kernel⟩
theorem cv_X8_308 : CV RX8 308 RX3 yX3_judge cX3_judge 5 4 (some .int) := ⟨wl_X8_308, wi_X3_judge, wv_X3_judge, wn_X3, wc_X3_judge, rfl, by decide, by decide, by decide +kernel⟩
theorem cv_X8_311 : CV RX8 311 RX8 yX8_refuseUnlessFine cX8_refuseUnlessFine 3 2 none := ⟨wl_X8_311, wi_X8_refuseUnlessFine, wv_X8_refuseUnlessFine, wn_X8, wc_X8_refuseUnlessFine, rfl, by decide, by decide, by decide +kernel⟩
theorem cv_X8_314 : CV RX8 314 RX3 yX3_carryOut cX3_carryOut 5 4 (some .int) := ⟨wl_X8_314, wi_X3_carryOut, wv_X3_carryOut, wn_X3, wc_X3_carryOut, rfl, by decide, by decide, by decide +kernel⟩
theorem cv_X8_323 : CV RX8 323 RX3 yX3_detailOf cX3_detailOf 3 2 (some .int) := ⟨wl_X8_323, wi_X3_detailOf, wv_X3_detailOf, wn_X3, wc_X3_detailOf, rfl, by decide, by decide, by decide +kernel⟩
theorem cv_X8_326 : CV RX8 326 RX8 yX8_noteRejection cX8_noteRejection 4 3 none := ⟨wl_X8_326, wi_X8_noteRejection, wv_X8_noteRejection, wn_X8, wc_X8_noteRejection, rfl, by decide, by decide, by decide +kernel⟩
theorem cv_X8_346 : CV RX8 346 RX1 yX1_hasShip cX1_hasShip 2 1 (some .boolean) := ⟨wl_X8_346, wi_X1_hasShip, wv_X1_hasShip, wn_X1, wc_X1_hasShip, rfl, by decide, by decide, by decide +kernel⟩
theorem cv_X8_352 : CV RX8 352 RX1 yX1_hasBarnacle cX1_hasBarnacle 2 1 (some .boolean) := ⟨wl_X8_352, wi_X1_hasBarnacle, wv_X1_hasBarnacle, wn_X1, wc_X1_hasBarnacle, rfl, by decide, by decide, by decide +kernel⟩
theorem cv_X8_357 : CV RX8 357 RX7 yX7_holds cX7_holds 2 1 (some .boolean) := ⟨wl_X8_357, wi_X7_holds, wv_X7_holds, wn_X7, wc_X7_holds, rfl, by decide, by decide, by decide +kernel⟩
theorem cu_X8_364_4 : CU RX8 364 RX0 RX5 yX5_rowWithId yX5_rowWithId cX5_rowWithId 3 1 (some .int) := by
  intro R s args rm2 mc ms hts hde h1 h2 hR
  exact ⟨⟨h1, h2, hR.1, hR.2, pay_in hts (lg_in wc_X5_rowWithId), List.mem_cons_self⟩, hts _ wc_X5_rowWithId, hts _ wn_X5, ⟨by decide, by decide⟩, np_of (y := yX5_rowWithId) (by decide +kernel), hts _ wl_X8_364, hts _ (lg_t 431 (by decide +kernel) (by decide +kernel) : Cond.sameMethod yX5_rowWithId.cls RX5 yX5_rowWithId.name yX5_rowWithId.desc ∈ lw_good), va_Decl.of (hts _ wi_X5_rowWithId) (hts _ wc_X5_rowWithId), hts _ (lg_t 432 (by decide +kernel) (by decide +kernel) : Cond.selects RX0 yX5_rowWithId yX5_rowWithId ∈ lw_good), hts _ wi_X5_rowWithId⟩
theorem cu_X8_364_8 : CU RX8 364 RX4 RX5 yX5_rowWithId yX5_rowWithId cX5_rowWithId 3 1 (some .int) := by
  intro R s args rm2 mc ms hts hde h1 h2 hR
  exact ⟨⟨h1, h2, hR.1, hR.2, pay_in hts (lg_in wc_X5_rowWithId), List.mem_cons_self⟩, hts _ wc_X5_rowWithId, hts _ wn_X5, ⟨by decide, by decide⟩, np_of (y := yX5_rowWithId) (by decide +kernel), hts _ wl_X8_364, hts _ (lg_t 431 (by decide +kernel) (by decide +kernel) : Cond.sameMethod yX5_rowWithId.cls RX5 yX5_rowWithId.name yX5_rowWithId.desc ∈ lw_good), va_Decl.of (hts _ wi_X5_rowWithId) (hts _ wc_X5_rowWithId), hts _ (lg_t 433 (by decide +kernel) (by decide +kernel) : Cond.selects RX4 yX5_rowWithId yX5_rowWithId ∈ lw_good), hts _ wi_X5_rowWithId⟩
theorem cv_X1_37 : CV RX1 37 RX1 yX1_barnaclesAhead cX1_barnaclesAhead 6 1 (some .int) := ⟨wl_X1_37, wi_X1_barnaclesAhead, wv_X1_barnaclesAhead, wn_X1, wc_X1_barnaclesAhead, rfl, by decide, by decide, by decide +kernel⟩
theorem cv_X1_41 : CV RX1 41 RX1 yX1_shipsAhead cX1_shipsAhead 4 1 (some .int) := ⟨wl_X1_41, wi_X1_shipsAhead, wv_X1_shipsAhead, wn_X1, wc_X1_shipsAhead, rfl, by decide, by decide, by decide +kernel⟩
theorem cv_X1_44 : CV RX1 44 RX1 yX1_isWealthier cX1_isWealthier 7 2 (some .boolean) := ⟨wl_X1_44, wi_X1_isWealthier, wv_X1_isWealthier, wn_X1, wc_X1_isWealthier, rfl, by decide, by decide, by decide +kernel⟩
theorem cv_X1_48 : CV RX1 48 RX1 yX1_wealthOf cX1_wealthOf 4 1 (some .int) := ⟨wl_X1_48, wi_X1_wealthOf, wv_X1_wealthOf, wn_X1, wc_X1_wealthOf, rfl, by decide, by decide, by decide +kernel⟩
theorem cv_X1_51 : CV RX1 51 RX1 yX1_loadOn cX1_loadOn 4 1 (some .int) := ⟨wl_X1_51, wi_X1_loadOn, wv_X1_loadOn, wn_X1, wc_X1_loadOn, rfl, by decide, by decide, by decide +kernel⟩
theorem cv_X2_23 : CV RX2 23 RX3 yX3_copyFrom cX3_copyFrom 2 1 none := ⟨wl_X2_23, wi_X3_copyFrom, wv_X3_copyFrom, wn_X3, wc_X3_copyFrom, rfl, by decide, by decide, by decide +kernel⟩
theorem cv_X3_54 : CV RX3 54 RX1 yX1_copyFrom cX1_copyFrom 2 1 none := ⟨wl_X3_54, wi_X1_copyFrom, wv_X1_copyFrom, wn_X1, wc_X1_copyFrom, rfl, by decide, by decide, by decide +kernel⟩
theorem cu_X3_58_4 : CU RX3 58 RX0 RX5 yX5_copyFrom yX5_copyFrom cX5_copyFrom 2 1 none := by
  intro R s args rm2 mc ms hts hde h1 h2 hR
  exact ⟨⟨h1, h2, hR.1, hR.2, pay_in hts (lg_in wc_X5_copyFrom), List.mem_cons_self⟩, hts _ wc_X5_copyFrom, hts _ wn_X5, ⟨by decide, by decide⟩, np_of (y := yX5_copyFrom) (by decide +kernel), hts _ wl_X3_58, hts _ (lg_t 591 (by decide +kernel) (by decide +kernel) : Cond.sameMethod yX5_copyFrom.cls RX5 yX5_copyFrom.name yX5_copyFrom.desc ∈ lw_good), va_Decl.of (hts _ wi_X5_copyFrom) (hts _ wc_X5_copyFrom), hts _ (lg_t 592 (by decide +kernel) (by decide +kernel) : Cond.selects RX0 yX5_copyFrom yX5_copyFrom ∈ lw_good), hts _ wi_X5_copyFrom⟩
theorem cu_X3_58_8 : CU RX3 58 RX4 RX5 yX5_copyFrom yX5_copyFrom cX5_copyFrom 2 1 none := by
  intro R s args rm2 mc ms hts hde h1 h2 hR
  exact ⟨⟨h1, h2, hR.1, hR.2, pay_in hts (lg_in wc_X5_copyFrom), List.mem_cons_self⟩, hts _ wc_X5_copyFrom, hts _ wn_X5, ⟨by decide, by decide⟩, np_of (y := yX5_copyFrom) (by decide +kernel), hts _ wl_X3_58, hts _ (lg_t 591 (by decide +kernel) (by decide +kernel) : Cond.sameMethod yX5_copyFrom.cls RX5 yX5_copyFrom.name yX5_copyFrom.desc ∈ lw_good), va_Decl.of (hts _ wi_X5_copyFrom) (hts _ wc_X5_copyFrom), hts _ (lg_t 593 (by decide +kernel) (by decide +kernel) : Cond.selects RX4 yX5_copyFrom yX5_copyFrom ∈ lw_good), hts _ wi_X5_copyFrom⟩
theorem cv_X3_63 : CV RX3 63 RX7 yX7_copyFrom cX7_copyFrom 2 1 none := ⟨wl_X3_63, wi_X7_copyFrom, wv_X7_copyFrom, wn_X7, wc_X7_copyFrom, rfl, by decide, by decide, by decide +kernel⟩
theorem cv_X3_66 : CV RX3 66 RX3 yX3_judgeShip cX3_judgeShip 3 2 (some .int) := ⟨wl_X3_66, wi_X3_judgeShip, wv_X3_judgeShip, wn_X3, wc_X3_judgeShip, rfl, by decide, by decide, by decide +kernel⟩
theorem cv_X3_70 : CV RX3 70 RX3 yX3_judgeBarnacle cX3_judgeBarnacle 3 2 (some .int) := ⟨wl_X3_70, wi_X3_judgeBarnacle, wv_X3_judgeBarnacle, wn_X3, wc_X3_judgeBarnacle, rfl, by decide, by decide, by decide +kernel⟩
theorem cv_X3_73 : CV RX3 73 RX3 yX3_judgeGift cX3_judgeGift 3 2 (some .int) := ⟨wl_X3_73, wi_X3_judgeGift, wv_X3_judgeGift, wn_X3, wc_X3_judgeGift, rfl, by decide, by decide, by decide +kernel⟩
theorem cv_X3_76 : CV RX3 76 RX3 yX3_judgeBid cX3_judgeBid 4 3 (some .int) := ⟨wl_X3_76, wi_X3_judgeBid, wv_X3_judgeBid, wn_X3, wc_X3_judgeBid, rfl, by decide, by decide, by decide +kernel⟩
theorem cv_X3_80 : CV RX3 80 RX3 yX3_judgeOffer cX3_judgeOffer 3 2 (some .int) := ⟨wl_X3_80, wi_X3_judgeOffer, wv_X3_judgeOffer, wn_X3, wc_X3_judgeOffer, rfl, by decide, by decide, by decide +kernel⟩
theorem cu_X3_83_4 : CU RX3 83 RX0 RX5 yX5_rowWithId yX5_rowWithId cX5_rowWithId 3 1 (some .int) := by
  intro R s args rm2 mc ms hts hde h1 h2 hR
  exact ⟨⟨h1, h2, hR.1, hR.2, pay_in hts (lg_in wc_X5_rowWithId), List.mem_cons_self⟩, hts _ wc_X5_rowWithId, hts _ wn_X5, ⟨by decide, by decide⟩, np_of (y := yX5_rowWithId) (by decide +kernel), hts _ wl_X3_83, hts _ (lg_t 431 (by decide +kernel) (by decide +kernel) : Cond.sameMethod yX5_rowWithId.cls RX5 yX5_rowWithId.name yX5_rowWithId.desc ∈ lw_good), va_Decl.of (hts _ wi_X5_rowWithId) (hts _ wc_X5_rowWithId), hts _ (lg_t 432 (by decide +kernel) (by decide +kernel) : Cond.selects RX0 yX5_rowWithId yX5_rowWithId ∈ lw_good), hts _ wi_X5_rowWithId⟩
theorem cu_X3_83_8 : CU RX3 83 RX4 RX5 yX5_rowWithId yX5_rowWithId cX5_rowWithId 3 1 (some .int) := by
  intro R s args rm2 mc ms hts hde h1 h2 hR
  exact ⟨⟨h1, h2, hR.1, hR.2, pay_in hts (lg_in wc_X5_rowWithId), List.mem_cons_self⟩, hts _ wc_X5_rowWithId, hts _ wn_X5, ⟨by decide, by decide⟩, np_of (y := yX5_rowWithId) (by decide +kernel), hts _ wl_X3_83, hts _ (lg_t 431 (by decide +kernel) (by decide +kernel) : Cond.sameMethod yX5_rowWithId.cls RX5 yX5_rowWithId.name yX5_rowWithId.desc ∈ lw_good), va_Decl.of (hts _ wi_X5_rowWithId) (hts _ wc_X5_rowWithId), hts _ (lg_t 433 (by decide +kernel) (by decide +kernel) : Cond.selects RX4 yX5_rowWithId yX5_rowWithId ∈ lw_good), hts _ wi_X5_rowWithId⟩
theorem cv_X3_91 : CV RX3 91 RX1 yX1_launch cX1_launch 4 2 (some .int) := ⟨wl_X3_91, wi_X1_launch, wv_X1_launch, wn_X1, wc_X1_launch, rfl, by decide, by decide, by decide +kernel⟩
theorem cv_X3_94 : CV RX3 94 RX1 yX1_board cX1_board 4 2 (some .int) := ⟨wl_X3_94, wi_X1_board, wv_X1_board, wn_X1, wc_X1_board, rfl, by decide, by decide, by decide +kernel⟩
theorem cu_X3_101_4 : CU RX3 101 RX0 RX5 yX5_enter yX5_enter cX5_enter 5 3 (some .int) := by
  intro R s args rm2 mc ms hts hde h1 h2 hR
  exact ⟨⟨h1, h2, hR.1, hR.2, pay_in hts (lg_in wc_X5_enter), List.mem_cons_self⟩, hts _ wc_X5_enter, hts _ wn_X5, ⟨by decide, by decide⟩, np_of (y := yX5_enter) (by decide +kernel), hts _ wl_X3_101, hts _ (lg_t 618 (by decide +kernel) (by decide +kernel) : Cond.sameMethod yX5_enter.cls RX5 yX5_enter.name yX5_enter.desc ∈ lw_good), va_Decl.of (hts _ wi_X5_enter) (hts _ wc_X5_enter), hts _ (lg_t 619 (by decide +kernel) (by decide +kernel) : Cond.selects RX0 yX5_enter yX5_enter ∈ lw_good), hts _ wi_X5_enter⟩
theorem cu_X3_101_8 : CU RX3 101 RX4 RX5 yX5_enter yX5_enter cX5_enter 5 3 (some .int) := by
  intro R s args rm2 mc ms hts hde h1 h2 hR
  exact ⟨⟨h1, h2, hR.1, hR.2, pay_in hts (lg_in wc_X5_enter), List.mem_cons_self⟩, hts _ wc_X5_enter, hts _ wn_X5, ⟨by decide, by decide⟩, np_of (y := yX5_enter) (by decide +kernel), hts _ wl_X3_101, hts _ (lg_t 618 (by decide +kernel) (by decide +kernel) : Cond.sameMethod yX5_enter.cls RX5 yX5_enter.name yX5_enter.desc ∈ lw_good), va_Decl.of (hts _ wi_X5_enter) (hts _ wc_X5_enter), hts _ (lg_t 620 (by decide +kernel) (by decide +kernel) : Cond.selects RX4 yX5_enter yX5_enter ∈ lw_good), hts _ wi_X5_enter⟩
theorem cu_X3_107_4 : CU RX3 107 RX0 RX5 yX5_remove yX5_remove cX5_remove 2 1 none := by
  intro R s args rm2 mc ms hts hde h1 h2 hR
  exact ⟨⟨h1, h2, hR.1, hR.2, pay_in hts (lg_in wc_X5_remove), List.mem_cons_self⟩, hts _ wc_X5_remove, hts _ wn_X5, ⟨by decide, by decide⟩, np_of (y := yX5_remove) (by decide +kernel), hts _ wl_X3_107, hts _ (lg_t 639 (by decide +kernel) (by decide +kernel) : Cond.sameMethod yX5_remove.cls RX5 yX5_remove.name yX5_remove.desc ∈ lw_good), va_Decl.of (hts _ wi_X5_remove) (hts _ wc_X5_remove), hts _ (lg_t 640 (by decide +kernel) (by decide +kernel) : Cond.selects RX0 yX5_remove yX5_remove ∈ lw_good), hts _ wi_X5_remove⟩
theorem cu_X3_107_8 : CU RX3 107 RX4 RX5 yX5_remove yX5_remove cX5_remove 2 1 none := by
  intro R s args rm2 mc ms hts hde h1 h2 hR
  exact ⟨⟨h1, h2, hR.1, hR.2, pay_in hts (lg_in wc_X5_remove), List.mem_cons_self⟩, hts _ wc_X5_remove, hts _ wn_X5, ⟨by decide, by decide⟩, np_of (y := yX5_remove) (by decide +kernel), hts _ wl_X3_107, hts _ (lg_t 639 (by decide +kernel) (by decide +kernel) : Cond.sameMethod yX5_remove.cls RX5 yX5_remove.name yX5_remove.desc ∈ lw_good), va_Decl.of (hts _ wi_X5_remove) (hts _ wc_X5_remove), hts _ (lg_t 641 (by decide +kernel) (by decide +kernel) : Cond.selects RX4 yX5_remove yX5_remove ∈ lw_good), hts _ wi_X5_remove⟩
theorem cv_X3_114 : CV RX3 114 RX3 yX3_replaceCharge cX3_replaceCharge 3 1 (some .int) := ⟨wl_X3_114, wi_X3_replaceCharge, wv_X3_replaceCharge, wn_X3, wc_X3_replaceCharge, rfl, by decide, by decide, by decide +kernel⟩
theorem cv_X3_117 : CV RX3 117 RX3 yX3_letTidePass cX3_letTidePass 2 0 (some .int) := ⟨wl_X3_117, wi_X3_letTidePass, wv_X3_letTidePass, wn_X3, wc_X3_letTidePass, rfl, by decide, by decide, by decide +kernel⟩
theorem cv_X3_124 : CV RX3 124 RX1 yX1_hasShip cX1_hasShip 2 1 (some .boolean) := ⟨wl_X3_124, wi_X1_hasShip, wv_X1_hasShip, wn_X1, wc_X1_hasShip, rfl, by decide, by decide, by decide +kernel⟩
theorem cv_X3_131 : CV RX3 131 RX3 yX3_placesLeft cX3_placesLeft 2 1 (some .int) := ⟨wl_X3_131, wi_X3_placesLeft, wv_X3_placesLeft, wn_X3, wc_X3_placesLeft, rfl, by decide, by decide, by decide +kernel⟩
theorem cv_X3_134 : CV RX3 134 RX3 yX3_coinsLeft cX3_coinsLeft 2 1 (some .int) := ⟨wl_X3_134, wi_X3_coinsLeft, wv_X3_coinsLeft, wn_X3, wc_X3_coinsLeft, rfl, by decide, by decide, by decide +kernel⟩
theorem cv_X3_137 : CV RX3 137 RX1 yX1_hasBarnacle cX1_hasBarnacle 2 1 (some .boolean) := ⟨wl_X3_137, wi_X1_hasBarnacle, wv_X1_hasBarnacle, wn_X1, wc_X1_hasBarnacle, rfl, by decide, by decide, by decide +kernel⟩
theorem cu_X3_140_4 : CU RX3 140 RX0 RX5 yX5_firstRowOf yX5_firstRowOf cX5_firstRowOf 3 1 (some .int) := by
  intro R s args rm2 mc ms hts hde h1 h2 hR
  exact ⟨⟨h1, h2, hR.1, hR.2, pay_in hts (lg_in wc_X5_firstRowOf), List.mem_cons_self⟩, hts _ wc_X5_firstRowOf, hts _ wn_X5, ⟨by decide, by decide⟩, np_of (y := yX5_firstRowOf) (by decide +kernel), hts _ wl_X3_140, hts _ (lg_t 425 (by decide +kernel) (by decide +kernel) : Cond.sameMethod yX5_firstRowOf.cls RX5 yX5_firstRowOf.name yX5_firstRowOf.desc ∈ lw_good), va_Decl.of (hts _ wi_X5_firstRowOf) (hts _ wc_X5_firstRowOf), hts _ (lg_t 426 (by decide +kernel) (by decide +kernel) : Cond.selects RX0 yX5_firstRowOf yX5_firstRowOf ∈ lw_good), hts _ wi_X5_firstRowOf⟩
theorem cu_X3_140_8 : CU RX3 140 RX4 RX5 yX5_firstRowOf yX5_firstRowOf cX5_firstRowOf 3 1 (some .int) := by
  intro R s args rm2 mc ms hts hde h1 h2 hR
  exact ⟨⟨h1, h2, hR.1, hR.2, pay_in hts (lg_in wc_X5_firstRowOf), List.mem_cons_self⟩, hts _ wc_X5_firstRowOf, hts _ wn_X5, ⟨by decide, by decide⟩, np_of (y := yX5_firstRowOf) (by decide +kernel), hts _ wl_X3_140, hts _ (lg_t 425 (by decide +kernel) (by decide +kernel) : Cond.sameMethod yX5_firstRowOf.cls RX5 yX5_firstRowOf.name yX5_firstRowOf.desc ∈ lw_good), va_Decl.of (hts _ wi_X5_firstRowOf) (hts _ wc_X5_firstRowOf), hts _ (lg_t 427 (by decide +kernel) (by decide +kernel) : Cond.selects RX4 yX5_firstRowOf yX5_firstRowOf ∈ lw_good), hts _ wi_X5_firstRowOf⟩
theorem cu_X3_149_4 : CU RX3 149 RX0 RX5 yX5_idOf yX5_idOf cX5_idOf 3 1 (some .int) := by
  intro R s args rm2 mc ms hts hde h1 h2 hR
  exact ⟨⟨h1, h2, hR.1, hR.2, pay_in hts (lg_in wc_X5_idOf), List.mem_cons_self⟩, hts _ wc_X5_idOf, hts _ wn_X5, ⟨by decide, by decide⟩, np_of (y := yX5_idOf) (by decide +kernel), hts _ wl_X3_149, hts _ (lg_t 549 (by decide +kernel) (by decide +kernel) : Cond.sameMethod yX5_idOf.cls RX5 yX5_idOf.name yX5_idOf.desc ∈ lw_good), va_Decl.of (hts _ wi_X5_idOf) (hts _ wc_X5_idOf), hts _ (lg_t 550 (by decide +kernel) (by decide +kernel) : Cond.selects RX0 yX5_idOf yX5_idOf ∈ lw_good), hts _ wi_X5_idOf⟩
theorem cu_X3_149_8 : CU RX3 149 RX4 RX5 yX5_idOf yX5_idOf cX5_idOf 3 1 (some .int) := by
  intro R s args rm2 mc ms hts hde h1 h2 hR
  exact ⟨⟨h1, h2, hR.1, hR.2, pay_in hts (lg_in wc_X5_idOf), List.mem_cons_self⟩, hts _ wc_X5_idOf, hts _ wn_X5, ⟨by decide, by decide⟩, np_of (y := yX5_idOf) (by decide +kernel), hts _ wl_X3_149, hts _ (lg_t 549 (by decide +kernel) (by decide +kernel) : Cond.sameMethod yX5_idOf.cls RX5 yX5_idOf.name yX5_idOf.desc ∈ lw_good), va_Decl.of (hts _ wi_X5_idOf) (hts _ wc_X5_idOf), hts _ (lg_t 551 (by decide +kernel) (by decide +kernel) : Cond.selects RX4 yX5_idOf yX5_idOf ∈ lw_good), hts _ wi_X5_idOf⟩
theorem cv_X3_152 : CV RX3 152 RX1 yX1_loadOn cX1_loadOn 4 1 (some .int) := ⟨wl_X3_152, wi_X1_loadOn, wv_X1_loadOn, wn_X1, wc_X1_loadOn, rfl, by decide, by decide, by decide +kernel⟩
theorem cu_X3_155_4 : CU RX3 155 RX0 RX5 yX5_countOf yX5_countOf cX5_countOf 4 1 (some .int) := by
  intro R s args rm2 mc ms hts hde h1 h2 hR
  exact ⟨⟨h1, h2, hR.1, hR.2, pay_in hts (lg_in wc_X5_countOf), List.mem_cons_self⟩, hts _ wc_X5_countOf, hts _ wn_X5, ⟨by decide, by decide⟩, np_of (y := yX5_countOf) (by decide +kernel), hts _ wl_X3_155, hts _ (lg_t 393 (by decide +kernel) (by decide +kernel) : Cond.sameMethod yX5_countOf.cls RX5 yX5_countOf.name yX5_countOf.desc ∈ lw_good), va_Decl.of (hts _ wi_X5_countOf) (hts _ wc_X5_countOf), hts _ (lg_t 394 (by decide +kernel) (by decide +kernel) : Cond.selects RX0 yX5_countOf yX5_countOf ∈ lw_good), hts _ wi_X5_countOf⟩
theorem cu_X3_155_8 : CU RX3 155 RX4 RX5 yX5_countOf yX5_countOf cX5_countOf 4 1 (some .int) := by
  intro R s args rm2 mc ms hts hde h1 h2 hR
  exact ⟨⟨h1, h2, hR.1, hR.2, pay_in hts (lg_in wc_X5_countOf), List.mem_cons_self⟩, hts _ wc_X5_countOf, hts _ wn_X5, ⟨by decide, by decide⟩, np_of (y := yX5_countOf) (by decide +kernel), hts _ wl_X3_155, hts _ (lg_t 393 (by decide +kernel) (by decide +kernel) : Cond.sameMethod yX5_countOf.cls RX5 yX5_countOf.name yX5_countOf.desc ∈ lw_good), va_Decl.of (hts _ wi_X5_countOf) (hts _ wc_X5_countOf), hts _ (lg_t 395 (by decide +kernel) (by decide +kernel) : Cond.selects RX4 yX5_countOf yX5_countOf ∈ lw_good), hts _ wi_X5_countOf⟩
theorem cu_X3_158_4 : CU RX3 158 RX0 RX5 yX5_priceSumOf yX5_priceSumOf cX5_priceSumOf 4 1 (some .int) := by
  intro R s args rm2 mc ms hts hde h1 h2 hR
  exact ⟨⟨h1, h2, hR.1, hR.2, pay_in hts (lg_in wc_X5_priceSumOf), List.mem_cons_self⟩, hts _ wc_X5_priceSumOf, hts _ wn_X5, ⟨by decide, by decide⟩, np_of (y := yX5_priceSumOf) (by decide +kernel), hts _ wl_X3_158, hts _ (lg_t 411 (by decide +kernel) (by decide +kernel) : Cond.sameMethod yX5_priceSumOf.cls RX5 yX5_priceSumOf.name yX5_priceSumOf.desc ∈ lw_good), va_Decl.of (hts _ wi_X5_priceSumOf) (hts _ wc_X5_priceSumOf), hts _ (lg_t 412 (by decide +kernel) (by decide +kernel) : Cond.selects RX0 yX5_priceSumOf yX5_priceSumOf ∈ lw_good), hts _ wi_X5_priceSumOf⟩
theorem cu_X3_158_8 : CU RX3 158 RX4 RX5 yX5_priceSumOf yX5_priceSumOf cX5_priceSumOf 4 1 (some .int) := by
  intro R s args rm2 mc ms hts hde h1 h2 hR
  exact ⟨⟨h1, h2, hR.1, hR.2, pay_in hts (lg_in wc_X5_priceSumOf), List.mem_cons_self⟩, hts _ wc_X5_priceSumOf, hts _ wn_X5, ⟨by decide, by decide⟩, np_of (y := yX5_priceSumOf) (by decide +kernel), hts _ wl_X3_158, hts _ (lg_t 411 (by decide +kernel) (by decide +kernel) : Cond.sameMethod yX5_priceSumOf.cls RX5 yX5_priceSumOf.name yX5_priceSumOf.desc ∈ lw_good), va_Decl.of (hts _ wi_X5_priceSumOf) (hts _ wc_X5_priceSumOf), hts _ (lg_t 413 (by decide +kernel) (by decide +kernel) : Cond.selects RX4 yX5_priceSumOf yX5_priceSumOf ∈ lw_good), hts _ wi_X5_priceSumOf⟩
theorem cv_X3_161 : CV RX3 161 RX1 yX1_coinSum cX1_coinSum 3 0 (some .int) := ⟨wl_X3_161, wi_X1_coinSum, wv_X1_coinSum, wn_X1, wc_X1_coinSum, rfl, by decide, by decide, by decide +kernel⟩
theorem cv_X3_174 : CV RX3 174 RX3 yX3_fits cX3_fits 4 2 (some .boolean) := ⟨wl_X3_174, wi_X3_fits, wv_X3_fits, wn_X3, wc_X3_fits, rfl, by decide, by decide, by decide +kernel⟩
theorem cv_X3_178 : CV RX3 178 RX3 yX3_isOfferAhead cX3_isOfferAhead 3 2 (some .boolean) := ⟨wl_X3_178, wi_X3_isOfferAhead, wv_X3_isOfferAhead, wn_X3, wc_X3_isOfferAhead, rfl, by decide, by decide, by decide +kernel⟩
theorem cv_X3_181 : CV RX3 181 RX3 yX3_matchInOrder cX3_matchInOrder 3 1 (some .int) := ⟨wl_X3_181, wi_X3_matchInOrder, wv_X3_matchInOrder, wn_X3, wc_X3_matchInOrder, rfl, by decide, by decide, by decide +kernel⟩
theorem cv_X3_184 : CV RX3 184 RX3 yX3_matchAmongBarnacles cX3_matchAmongBarnacles 5 1 (some .int) := ⟨wl_X3_184, wi_X3_matchAmongBarnacles, wv_X3_matchAmongBarnacles, wn_X3, wc_X3_matchAmongBarnacles, rfl, by decide, by decide, by decide +kernel⟩
theorem cv_X3_190 : CV RX3 190 RX3 yX3_holdAuction cX3_holdAuction 4 0 none := ⟨wl_X3_190, wi_X3_holdAuction, wv_X3_holdAuction, wn_X3, wc_X3_holdAuction, rfl, by decide, by decide, by decide +kernel⟩
theorem cu_X3_193_4 : CU RX3 193 RX0 RX5 yX5_growOlder yX5_growOlder cX5_growOlder 3 0 (some .int) := by
  intro R s args rm2 mc ms hts hde h1 h2 hR
  exact ⟨⟨h1, h2, hR.1, hR.2, pay_in hts (lg_in wc_X5_growOlder), List.mem_cons_self⟩, hts _ wc_X5_growOlder, hts _ wn_X5, ⟨by decide, by decide⟩, np_of (y := yX5_growOlder) (by decide +kernel), hts _ wl_X3_193, hts _ (lg_t 674 (by decide +kernel) (by decide +kernel) : Cond.sameMethod yX5_growOlder.cls RX5 yX5_growOlder.name yX5_growOlder.desc ∈ lw_good), va_Decl.of (hts _ wi_X5_growOlder) (hts _ wc_X5_growOlder), hts _ (lg_t 675 (by decide +kernel) (by decide +kernel) : Cond.selects RX0 yX5_growOlder yX5_growOlder ∈ lw_good), hts _ wi_X5_growOlder⟩
theorem cu_X3_193_8 : CU RX3 193 RX4 RX5 yX5_growOlder yX5_growOlder cX5_growOlder 3 0 (some .int) := by
  intro R s args rm2 mc ms hts hde h1 h2 hR
  exact ⟨⟨h1, h2, hR.1, hR.2, pay_in hts (lg_in wc_X5_growOlder), List.mem_cons_self⟩, hts _ wc_X5_growOlder, hts _ wn_X5, ⟨by decide, by decide⟩, np_of (y := yX5_growOlder) (by decide +kernel), hts _ wl_X3_193, hts _ (lg_t 674 (by decide +kernel) (by decide +kernel) : Cond.sameMethod yX5_growOlder.cls RX5 yX5_growOlder.name yX5_growOlder.desc ∈ lw_good), va_Decl.of (hts _ wi_X5_growOlder) (hts _ wc_X5_growOlder), hts _ (lg_t 676 (by decide +kernel) (by decide +kernel) : Cond.selects RX4 yX5_growOlder yX5_growOlder ∈ lw_good), hts _ wi_X5_growOlder⟩
theorem cv_X3_196 : CV RX3 196 RX3 yX3_trade cX3_trade 8 2 none := ⟨wl_X3_196, wi_X3_trade, wv_X3_trade, wn_X3, wc_X3_trade, rfl, by decide, by decide, by decide +kernel⟩
theorem cv_X3_205 : CV RX3 205 RX7 yX7_note cX7_note 5 4 none := ⟨wl_X3_205, wi_X7_note, wv_X7_note, wn_X7, wc_X7_note, rfl, by decide, by decide, by decide +kernel⟩
theorem cu_X5_40_4 : CU RX5 40 RX0 RX5 yX5_comesAhead yX0_comesAhead cX0_comesAhead 4 3 (some .boolean) := by
  intro R s args rm2 mc ms hts hde h1 h2 hR
  exact ⟨⟨h1, h2, hR.1, hR.2, pay_in hts (lg_in wc_X0_comesAhead), List.mem_cons_self⟩, hts _ wc_X0_comesAhead, hts _ wn_X0, ⟨by decide, by decide⟩, np_of (y := yX5_comesAhead) (by decide +kernel), hts _ wl_X5_40, hts _ (lg_t 624 (by decide +kernel) (by decide +kernel) : Cond.sameMethod yX5_comesAhead.cls RX5 yX5_comesAhead.name yX5_comesAhead.desc ∈ lw_good), va_Decl.abs (hde _ (by decide)), hts _ (lg_t 625 (by decide +kernel) (by decide +kernel) : Cond.selects RX0 yX5_comesAhead yX0_comesAhead ∈ lw_good), hts _ wi_X0_comesAhead⟩
theorem cu_X5_40_8 : CU RX5 40 RX4 RX5 yX5_comesAhead yX4_comesAhead cX4_comesAhead 4 3 (some .boolean) := by
  intro R s args rm2 mc ms hts hde h1 h2 hR
  exact ⟨⟨h1, h2, hR.1, hR.2, pay_in hts (lg_in wc_X4_comesAhead), List.mem_cons_self⟩, hts _ wc_X4_comesAhead, hts _ wn_X4, ⟨by decide, by decide⟩, np_of (y := yX5_comesAhead) (by decide +kernel), hts _ wl_X5_40, hts _ (lg_t 624 (by decide +kernel) (by decide +kernel) : Cond.sameMethod yX5_comesAhead.cls RX5 yX5_comesAhead.name yX5_comesAhead.desc ∈ lw_good), va_Decl.abs (hde _ (by decide)), hts _ (lg_t 628 (by decide +kernel) (by decide +kernel) : Cond.selects RX4 yX5_comesAhead yX4_comesAhead ∈ lw_good), hts _ wi_X4_comesAhead⟩
theorem cu_X5_44_4 : CU RX5 44 RX0 RX5 yX5_moveRows yX5_moveRows cX5_moveRows 4 3 none := by
  intro R s args rm2 mc ms hts hde h1 h2 hR
  exact ⟨⟨h1, h2, hR.1, hR.2, pay_in hts (lg_in wc_X5_moveRows), List.mem_cons_self⟩, hts _ wc_X5_moveRows, hts _ wn_X5, ⟨by decide, by decide⟩, np_of (y := yX5_moveRows) (by decide +kernel), hts _ wl_X5_44, hts _ (lg_t 633 (by decide +kernel) (by decide +kernel) : Cond.sameMethod yX5_moveRows.cls RX5 yX5_moveRows.name yX5_moveRows.desc ∈ lw_good), va_Decl.of (hts _ wi_X5_moveRows) (hts _ wc_X5_moveRows), hts _ (lg_t 634 (by decide +kernel) (by decide +kernel) : Cond.selects RX0 yX5_moveRows yX5_moveRows ∈ lw_good), hts _ wi_X5_moveRows⟩
theorem cu_X5_44_8 : CU RX5 44 RX4 RX5 yX5_moveRows yX5_moveRows cX5_moveRows 4 3 none := by
  intro R s args rm2 mc ms hts hde h1 h2 hR
  exact ⟨⟨h1, h2, hR.1, hR.2, pay_in hts (lg_in wc_X5_moveRows), List.mem_cons_self⟩, hts _ wc_X5_moveRows, hts _ wn_X5, ⟨by decide, by decide⟩, np_of (y := yX5_moveRows) (by decide +kernel), hts _ wl_X5_44, hts _ (lg_t 633 (by decide +kernel) (by decide +kernel) : Cond.sameMethod yX5_moveRows.cls RX5 yX5_moveRows.name yX5_moveRows.desc ∈ lw_good), va_Decl.of (hts _ wi_X5_moveRows) (hts _ wc_X5_moveRows), hts _ (lg_t 635 (by decide +kernel) (by decide +kernel) : Cond.selects RX4 yX5_moveRows yX5_moveRows ∈ lw_good), hts _ wi_X5_moveRows⟩
theorem cu_X5_48_4 : CU RX5 48 RX0 RX5 yX5_remove yX5_remove cX5_remove 2 1 none := by
  intro R s args rm2 mc ms hts hde h1 h2 hR
  exact ⟨⟨h1, h2, hR.1, hR.2, pay_in hts (lg_in wc_X5_remove), List.mem_cons_self⟩, hts _ wc_X5_remove, hts _ wn_X5, ⟨by decide, by decide⟩, np_of (y := yX5_remove) (by decide +kernel), hts _ wl_X5_48, hts _ (lg_t 639 (by decide +kernel) (by decide +kernel) : Cond.sameMethod yX5_remove.cls RX5 yX5_remove.name yX5_remove.desc ∈ lw_good), va_Decl.of (hts _ wi_X5_remove) (hts _ wc_X5_remove), hts _ (lg_t 640 (by decide +kernel) (by decide +kernel) : Cond.selects RX0 yX5_remove yX5_remove ∈ lw_good), hts _ wi_X5_remove⟩
theorem cu_X5_48_8 : CU RX5 48 RX4 RX5 yX5_remove yX5_remove cX5_remove 2 1 none := by
  intro R s args rm2 mc ms hts hde h1 h2 hR
  exact ⟨⟨h1, h2, hR.1, hR.2, pay_in hts (lg_in wc_X5_remove), List.mem_cons_self⟩, hts _ wc_X5_remove, hts _ wn_X5, ⟨by decide, by decide⟩, np_of (y := yX5_remove) (by decide +kernel), hts _ wl_X5_48, hts _ (lg_t 639 (by decide +kernel) (by decide +kernel) : Cond.sameMethod yX5_remove.cls RX5 yX5_remove.name yX5_remove.desc ∈ lw_good), va_Decl.of (hts _ wi_X5_remove) (hts _ wc_X5_remove), hts _ (lg_t 641 (by decide +kernel) (by decide +kernel) : Cond.selects RX4 yX5_remove yX5_remove ∈ lw_good), hts _ wi_X5_remove⟩
theorem cu_X5_52_4 : CU RX5 52 RX0 RX5 yX5_firstRowOf yX5_firstRowOf cX5_firstRowOf 3 1 (some .int) := by
  intro R s args rm2 mc ms hts hde h1 h2 hR
  exact ⟨⟨h1, h2, hR.1, hR.2, pay_in hts (lg_in wc_X5_firstRowOf), List.mem_cons_self⟩, hts _ wc_X5_firstRowOf, hts _ wn_X5, ⟨by decide, by decide⟩, np_of (y := yX5_firstRowOf) (by decide +kernel), hts _ wl_X5_52, hts _ (lg_t 425 (by decide +kernel) (by decide +kernel) : Cond.sameMethod yX5_firstRowOf.cls RX5 yX5_firstRowOf.name yX5_firstRowOf.desc ∈ lw_good), va_Decl.of (hts _ wi_X5_firstRowOf) (hts _ wc_X5_firstRowOf), hts _ (lg_t 426 (by decide +kernel) (by decide +kernel) : Cond.selects RX0 yX5_firstRowOf yX5_firstRowOf ∈ lw_good), hts _ wi_X5_firstRowOf⟩
theorem cu_X5_52_8 : CU RX5 52 RX4 RX5 yX5_firstRowOf yX5_firstRowOf cX5_firstRowOf 3 1 (some .int) := by
  intro R s args rm2 mc ms hts hde h1 h2 hR
  exact ⟨⟨h1, h2, hR.1, hR.2, pay_in hts (lg_in wc_X5_firstRowOf), List.mem_cons_self⟩, hts _ wc_X5_firstRowOf, hts _ wn_X5, ⟨by decide, by decide⟩, np_of (y := yX5_firstRowOf) (by decide +kernel), hts _ wl_X5_52, hts _ (lg_t 425 (by decide +kernel) (by decide +kernel) : Cond.sameMethod yX5_firstRowOf.cls RX5 yX5_firstRowOf.name yX5_firstRowOf.desc ∈ lw_good), va_Decl.of (hts _ wi_X5_firstRowOf) (hts _ wc_X5_firstRowOf), hts _ (lg_t 427 (by decide +kernel) (by decide +kernel) : Cond.selects RX4 yX5_firstRowOf yX5_firstRowOf ∈ lw_good), hts _ wi_X5_firstRowOf⟩
theorem cv_X6_36 : CV RX6 36 RX6 yX6_readCommand cX6_readCommand 5 1 (some .boolean) := ⟨wl_X6_36, wi_X6_readCommand, wv_X6_readCommand, wn_X6, wc_X6_readCommand, rfl, by decide, by decide, by decide +kernel⟩
theorem cv_X6_40 : CV RX6 40 RX6 yX6_readSign cX6_readSign 2 1 (some .boolean) := ⟨wl_X6_40, wi_X6_readSign, wv_X6_readSign, wn_X6, wc_X6_readSign, rfl, by decide, by decide, by decide +kernel⟩
theorem cvs_X6_44 : CS RX6 44 yX6_formOf cX6_formOf 1 1 (some (.object "java/lang/String")) := ⟨wl_X6_44, wt_X6_formOf, wn_X6, wc_X6_formOf, by decide, by decide, by decide +kernel⟩
theorem cv_X6_61 : CV RX6 61 RX6 yX6_readPart cX6_readPart 4 2 (some .boolean) := ⟨wl_X6_61, wi_X6_readPart, wv_X6_readPart, wn_X6, wc_X6_readPart, rfl, by decide, by decide, by decide +kernel⟩
theorem cv_X6_85 : CV RX6 85 RX6 yX6_isAtDigit cX6_isAtDigit 1 0 (some .boolean) := ⟨wl_X6_85, wi_X6_isAtDigit, wv_X6_isAtDigit, wn_X6, wc_X6_isAtDigit, rfl, by decide, by decide, by decide +kernel⟩
theorem cv_X6_88 : CV RX6 88 RX6 yX6_takeDigit cX6_takeDigit 2 0 (some .int) := ⟨wl_X6_88, wi_X6_takeDigit, wv_X6_takeDigit, wn_X6, wc_X6_takeDigit, rfl, by decide, by decide, by decide +kernel⟩
theorem cv_L_7 : CV RL 7 RX8 yX8_addShip cX8_addShip 3 2 (some .int) := ⟨wl_L_7, wi_X8_addShip, wv_X8_addShip, wn_X8, wc_X8_addShip, rfl, by decide, by decide, by decide +kernel⟩
theorem cv_L_17 : CV RL 17 RX8 yX8_addBarnacle cX8_addBarnacle 3 2 (some .int) := ⟨wl_L_17, wi_X8_addBarnacle, wv_X8_addBarnacle, wn_X8, wc_X8_addBarnacle, rfl, by decide, by decide, by decide +kernel⟩
theorem cv_L_22 : CV RL 22 RX8 yX8_giveCoins cX8_giveCoins 3 2 (some .int) := ⟨wl_L_22, wi_X8_giveCoins, wv_X8_giveCoins, wn_X8, wc_X8_giveCoins, rfl, by decide, by decide, by decide +kernel⟩
theorem cv_L_25 : CV RL 25 RX8 yX8_coinsOf cX8_coinsOf 2 1 (some .int) := ⟨wl_L_25, wi_X8_coinsOf, wv_X8_coinsOf, wn_X8, wc_X8_coinsOf, rfl, by decide, by decide, by decide +kernel⟩
theorem cv_L_29 : CV RL 29 RX8 yX8_reservedCoins cX8_reservedCoins 2 1 (some .int) := ⟨wl_L_29, wi_X8_reservedCoins, wv_X8_reservedCoins, wn_X8, wc_X8_reservedCoins, rfl, by decide, by decide, by decide +kernel⟩
theorem cv_L_32 : CV RL 32 RX8 yX8_capacityOf cX8_capacityOf 2 1 (some .int) := ⟨wl_L_32, wi_X8_capacityOf, wv_X8_capacityOf, wn_X8, wc_X8_capacityOf, rfl, by decide, by decide, by decide +kernel⟩
theorem cv_L_35 : CV RL 35 RX8 yX8_loadOf cX8_loadOf 2 1 (some .int) := ⟨wl_L_35, wi_X8_loadOf, wv_X8_loadOf, wn_X8, wc_X8_loadOf, rfl, by decide, by decide, by decide +kernel⟩
theorem cv_L_38 : CV RL 38 RX8 yX8_freePlaces cX8_freePlaces 2 1 (some .int) := ⟨wl_L_38, wi_X8_freePlaces, wv_X8_freePlaces, wn_X8, wc_X8_freePlaces, rfl, by decide, by decide, by decide +kernel⟩
theorem cv_L_41 : CV RL 41 RX8 yX8_barnacleAt cX8_barnacleAt 4 2 (some .int) := ⟨wl_L_41, wi_X8_barnacleAt, wv_X8_barnacleAt, wn_X8, wc_X8_barnacleAt, rfl, by decide, by decide, by decide +kernel⟩
theorem cv_L_46 : CV RL 46 RX8 yX8_shipOf cX8_shipOf 2 1 (some .int) := ⟨wl_L_46, wi_X8_shipOf, wv_X8_shipOf, wn_X8, wc_X8_shipOf, rfl, by decide, by decide, by decide +kernel⟩
theorem cv_L_49 : CV RL 49 RX8 yX8_gradeOf cX8_gradeOf 2 1 (some .int) := ⟨wl_L_49, wi_X8_gradeOf, wv_X8_gradeOf, wn_X8, wc_X8_gradeOf, rfl, by decide, by decide, by decide +kernel⟩
theorem cv_L_52 : CV RL 52 RX8 yX8_isOffered cX8_isOffered 2 1 (some .boolean) := ⟨wl_L_52, wi_X8_isOffered, wv_X8_isOffered, wn_X8, wc_X8_isOffered, rfl, by decide, by decide, by decide +kernel⟩
theorem cv_L_56 : CV RL 56 RX8 yX8_placeBid cX8_placeBid 4 3 (some .int) := ⟨wl_L_56, wi_X8_placeBid, wv_X8_placeBid, wn_X8, wc_X8_placeBid, rfl, by decide, by decide, by decide +kernel⟩
theorem cv_L_60 : CV RL 60 RX8 yX8_placeOffer cX8_placeOffer 3 2 (some .int) := ⟨wl_L_60, wi_X8_placeOffer, wv_X8_placeOffer, wn_X8, wc_X8_placeOffer, rfl, by decide, by decide, by decide +kernel⟩
theorem cv_L_63 : CV RL 63 RX8 yX8_cancelBid cX8_cancelBid 2 1 (some .int) := ⟨wl_L_63, wi_X8_cancelBid, wv_X8_cancelBid, wn_X8, wc_X8_cancelBid, rfl, by decide, by decide, by decide +kernel⟩
theorem cv_L_66 : CV RL 66 RX8 yX8_cancelOffer cX8_cancelOffer 2 1 (some .int) := ⟨wl_L_66, wi_X8_cancelOffer, wv_X8_cancelOffer, wn_X8, wc_X8_cancelOffer, rfl, by decide, by decide, by decide +kernel⟩
theorem cv_L_69 : CV RL 69 RX8 yX8_bidAt cX8_bidAt 2 1 (some .int) := ⟨wl_L_69, wi_X8_bidAt, wv_X8_bidAt, wn_X8, wc_X8_bidAt, rfl, by decide, by decide, by decide +kernel⟩
theorem cv_L_72 : CV RL 72 RX8 yX8_offerAt cX8_offerAt 2 1 (some .int) := ⟨wl_L_72, wi_X8_offerAt, wv_X8_offerAt, wn_X8, wc_X8_offerAt, rfl, by decide, by decide, by decide +kernel⟩
theorem cv_L_75 : CV RL 75 RX8 yX8_shipOfBid cX8_shipOfBid 2 1 (some .int) := ⟨wl_L_75, wi_X8_shipOfBid, wv_X8_shipOfBid, wn_X8, wc_X8_shipOfBid, rfl, by decide, by decide, by decide +kernel⟩
theorem cv_L_78 : CV RL 78 RX8 yX8_gradeOfBid cX8_gradeOfBid 2 1 (some .int) := ⟨wl_L_78, wi_X8_gradeOfBid, wv_X8_gradeOfBid, wn_X8, wc_X8_gradeOfBid, rfl, by decide, by decide, by decide +kernel⟩
theorem cv_L_81 : CV RL 81 RX8 yX8_priceOfBid cX8_priceOfBid 2 1 (some .int) := ⟨wl_L_81, wi_X8_priceOfBid, wv_X8_priceOfBid, wn_X8, wc_X8_priceOfBid, rfl, by decide, by decide, by decide +kernel⟩
theorem cv_L_84 : CV RL 84 RX8 yX8_ageOfBid cX8_ageOfBid 2 1 (some .int) := ⟨wl_L_84, wi_X8_ageOfBid, wv_X8_ageOfBid, wn_X8, wc_X8_ageOfBid, rfl, by decide, by decide, by decide +kernel⟩
theorem cv_L_87 : CV RL 87 RX8 yX8_barnacleOfOffer cX8_barnacleOfOffer 2 1 (some .int) := ⟨wl_L_87, wi_X8_barnacleOfOffer, wv_X8_barnacleOfOffer, wn_X8, wc_X8_barnacleOfOffer, rfl, by decide, by decide, by decide +kernel⟩
theorem cv_L_90 : CV RL 90 RX8 yX8_priceOfOffer cX8_priceOfOffer 2 1 (some .int) := ⟨wl_L_90, wi_X8_priceOfOffer, wv_X8_priceOfOffer, wn_X8, wc_X8_priceOfOffer, rfl, by decide, by decide, by decide +kernel⟩
theorem cv_L_93 : CV RL 93 RX8 yX8_ageOfOffer cX8_ageOfOffer 2 1 (some .int) := ⟨wl_L_93, wi_X8_ageOfOffer, wv_X8_ageOfOffer, wn_X8, wc_X8_ageOfOffer, rfl, by decide, by decide, by decide +kernel⟩
theorem cv_L_96 : CV RL 96 RX8 yX8_matchFor cX8_matchFor 2 1 (some .int) := ⟨wl_L_96, wi_X8_matchFor, wv_X8_matchFor, wn_X8, wc_X8_matchFor, rfl, by decide, by decide, by decide +kernel⟩
theorem cv_L_99 : CV RL 99 RX8 yX8_matchByBarnacles cX8_matchByBarnacles 2 1 (some .int) := ⟨wl_L_99, wi_X8_matchByBarnacles, wv_X8_matchByBarnacles, wn_X8, wc_X8_matchByBarnacles, rfl, by decide, by decide, by decide +kernel⟩
theorem cv_L_102 : CV RL 102 RX8 yX8_spread cX8_spread 1 0 (some .int) := ⟨wl_L_102, wi_X8_spread, wv_X8_spread, wn_X8, wc_X8_spread, rfl, by decide, by decide, by decide +kernel⟩
theorem cv_L_106 : CV RL 106 RX8 yX8_setFee cX8_setFee 2 1 (some .int) := ⟨wl_L_106, wi_X8_setFee, wv_X8_setFee, wn_X8, wc_X8_setFee, rfl, by decide, by decide, by decide +kernel⟩
theorem cv_L_109 : CV RL 109 RX8 yX8_buyerOf cX8_buyerOf 2 1 (some .int) := ⟨wl_L_109, wi_X8_buyerOf, wv_X8_buyerOf, wn_X8, wc_X8_buyerOf, rfl, by decide, by decide, by decide +kernel⟩
theorem cv_L_112 : CV RL 112 RX8 yX8_sellerOf cX8_sellerOf 2 1 (some .int) := ⟨wl_L_112, wi_X8_sellerOf, wv_X8_sellerOf, wn_X8, wc_X8_sellerOf, rfl, by decide, by decide, by decide +kernel⟩
theorem cv_L_115 : CV RL 115 RX8 yX8_barnacleOf cX8_barnacleOf 2 1 (some .int) := ⟨wl_L_115, wi_X8_barnacleOf, wv_X8_barnacleOf, wn_X8, wc_X8_barnacleOf, rfl, by decide, by decide, by decide +kernel⟩
theorem cv_L_118 : CV RL 118 RX8 yX8_priceOf cX8_priceOf 2 1 (some .int) := ⟨wl_L_118, wi_X8_priceOf, wv_X8_priceOf, wn_X8, wc_X8_priceOf, rfl, by decide, by decide, by decide +kernel⟩
theorem cv_L_121 : CV RL 121 RX8 yX8_shipByWealth cX8_shipByWealth 3 1 (some .int) := ⟨wl_L_121, wi_X8_shipByWealth, wv_X8_shipByWealth, wn_X8, wc_X8_shipByWealth, rfl, by decide, by decide, by decide +kernel⟩
theorem cv_L_124 : CV RL 124 RX8 yX8_meanPrice cX8_meanPrice 2 0 (some .double) := ⟨wl_L_124, wi_X8_meanPrice, wv_X8_meanPrice, wn_X8, wc_X8_meanPrice, rfl, by decide, by decide, by decide +kernel⟩
theorem cv_L_130 : CV RL 130 RX8 yX8_offeredShare cX8_offeredShare 2 0 (some .float) := ⟨wl_L_130, wi_X8_offeredShare, wv_X8_offeredShare, wn_X8, wc_X8_offeredShare, rfl, by decide, by decide, by decide +kernel⟩
theorem cv_L_134 : CV RL 134 RX8 yX8_writeShip cX8_writeShip 5 1 (some .int) := ⟨wl_L_134, wi_X8_writeShip, wv_X8_writeShip, wn_X8, wc_X8_writeShip, rfl, by decide, by decide, by decide +kernel⟩
theorem cv_L_137 : CV RL 137 RX8 yX8_outputAt cX8_outputAt 2 1 (some .char) := ⟨wl_L_137, wi_X8_outputAt, wv_X8_outputAt, wn_X8, wc_X8_outputAt, rfl, by decide, by decide, by decide +kernel⟩
theorem cv_L_141 : CV RL 141 RX8 yX8_appendInput cX8_appendInput 2 1 (some .int) := ⟨wl_L_141, wi_X8_appendInput, wv_X8_appendInput, wn_X8, wc_X8_appendInput, rfl, by decide, by decide, by decide +kernel⟩
theorem cv_L_147 : CV RL 147 RX8 yX8_execute cX8_execute 4 0 (some .int) := ⟨wl_L_147, wi_X8_execute, wv_X8_execute, wn_X8, wc_X8_execute, rfl, by decide, by decide, by decide +kernel⟩
theorem cv_L_150 : CV RL 150 RX8 yX8_syntaxErrorOffset cX8_syntaxErrorOffset 1 0 (some .int) := ⟨wl_L_150, wi_X8_syntaxErrorOffset, wv_X8_syntaxErrorOffset, wn_X8, wc_X8_syntaxErrorOffset, rfl, by decide, by decide, by decide +kernel⟩
theorem cv_L_153 : CV RL 153 RX8 yX8_rejectionReason cX8_rejectionReason 1 0 (some .int) := ⟨wl_L_153, wi_X8_rejectionReason, wv_X8_rejectionReason, wn_X8, wc_X8_rejectionReason, rfl, by decide, by decide, by decide +kernel⟩
theorem cv_L_156 : CV RL 156 RX8 yX8_rejectionDetail cX8_rejectionDetail 1 0 (some .int) := ⟨wl_L_156, wi_X8_rejectionDetail, wv_X8_rejectionDetail, wn_X8, wc_X8_rejectionDetail, rfl, by decide, by decide, by decide +kernel⟩
theorem cv_L_159 : CV RL 159 RX8 yX8_causeReason cX8_causeReason 1 0 (some .int) := ⟨wl_L_159, wi_X8_causeReason, wv_X8_causeReason, wn_X8, wc_X8_causeReason, rfl, by decide, by decide, by decide +kernel⟩
theorem cv_L_162 : CV RL 162 RX8 yX8_undo cX8_undo 1 0 (some .int) := ⟨wl_L_162, wi_X8_undo, wv_X8_undo, wn_X8, wc_X8_undo, rfl, by decide, by decide, by decide +kernel⟩
theorem cv_L_165 : CV RL 165 RX8 yX8_restoreSnapshot cX8_restoreSnapshot 1 0 (some .int) := ⟨wl_L_165, wi_X8_restoreSnapshot, wv_X8_restoreSnapshot, wn_X8, wc_X8_restoreSnapshot, rfl, by decide, by decide, by decide +kernel⟩
theorem cv_L_177 : CV RL 177 RX9 yX9_addShip cX9_addShip 3 2 (some .int) := ⟨wl_L_177, wi_X9_addShip, wv_X9_addShip, wn_X9, wc_X9_addShip, rfl, by decide, by decide, by decide +kernel⟩
theorem cv_L_178 : CV RL 178 RX9 yX9_thrown cX9_thrown 1 0 (some .int) := ⟨wl_L_178, wi_X9_thrown, wv_X9_thrown, wn_X9, wc_X9_thrown, rfl, by decide, by decide, by decide +kernel⟩
theorem cv_L_183 : CV RL 183 RX9 yX9_addBarnacle cX9_addBarnacle 3 2 (some .int) := ⟨wl_L_183, wi_X9_addBarnacle, wv_X9_addBarnacle, wn_X9, wc_X9_addBarnacle, rfl, by decide, by decide, by decide +kernel⟩
theorem cv_L_186 : CV RL 186 RX9 yX9_giveCoins cX9_giveCoins 3 2 (some .int) := ⟨wl_L_186, wi_X9_giveCoins, wv_X9_giveCoins, wn_X9, wc_X9_giveCoins, rfl, by decide, by decide, by decide +kernel⟩
theorem cv_L_187 : CV RL 187 RX8 yX8_shipCount cX8_shipCount 1 0 (some .int) := ⟨wl_L_187, wi_X8_shipCount, wv_X8_shipCount, wn_X8, wc_X8_shipCount, rfl, by decide, by decide, by decide +kernel⟩
theorem cv_L_190 : CV RL 190 RX9 yX9_shipCount cX9_shipCount 1 0 (some .int) := ⟨wl_L_190, wi_X9_shipCount, wv_X9_shipCount, wn_X9, wc_X9_shipCount, rfl, by decide, by decide, by decide +kernel⟩
theorem cv_L_194 : CV RL 194 RX9 yX9_coinsOf cX9_coinsOf 2 1 (some .int) := ⟨wl_L_194, wi_X9_coinsOf, wv_X9_coinsOf, wn_X9, wc_X9_coinsOf, rfl, by decide, by decide, by decide +kernel⟩
theorem cv_L_197 : CV RL 197 RX9 yX9_reservedCoins cX9_reservedCoins 2 1 (some .int) := ⟨wl_L_197, wi_X9_reservedCoins, wv_X9_reservedCoins, wn_X9, wc_X9_reservedCoins, rfl, by decide, by decide, by decide +kernel⟩
theorem cv_L_200 : CV RL 200 RX9 yX9_capacityOf cX9_capacityOf 2 1 (some .int) := ⟨wl_L_200, wi_X9_capacityOf, wv_X9_capacityOf, wn_X9, wc_X9_capacityOf, rfl, by decide, by decide, by decide +kernel⟩
theorem cv_L_203 : CV RL 203 RX9 yX9_loadOf cX9_loadOf 2 1 (some .int) := ⟨wl_L_203, wi_X9_loadOf, wv_X9_loadOf, wn_X9, wc_X9_loadOf, rfl, by decide, by decide, by decide +kernel⟩
theorem cv_L_206 : CV RL 206 RX9 yX9_freePlaces cX9_freePlaces 2 1 (some .int) := ⟨wl_L_206, wi_X9_freePlaces, wv_X9_freePlaces, wn_X9, wc_X9_freePlaces, rfl, by decide, by decide, by decide +kernel⟩
theorem cv_L_209 : CV RL 209 RX9 yX9_barnacleAt cX9_barnacleAt 4 2 (some .int) := ⟨wl_L_209, wi_X9_barnacleAt, wv_X9_barnacleAt, wn_X9, wc_X9_barnacleAt, rfl, by decide, by decide, by decide +kernel⟩
theorem cv_L_210 : CV RL 210 RX8 yX8_barnacleCount cX8_barnacleCount 1 0 (some .int) := ⟨wl_L_210, wi_X8_barnacleCount, wv_X8_barnacleCount, wn_X8, wc_X8_barnacleCount, rfl, by decide, by decide, by decide +kernel⟩
theorem cv_L_213 : CV RL 213 RX9 yX9_barnacleCount cX9_barnacleCount 1 0 (some .int) := ⟨wl_L_213, wi_X9_barnacleCount, wv_X9_barnacleCount, wn_X9, wc_X9_barnacleCount, rfl, by decide, by decide, by decide +kernel⟩
theorem cv_L_216 : CV RL 216 RX9 yX9_shipOf cX9_shipOf 2 1 (some .int) := ⟨wl_L_216, wi_X9_shipOf, wv_X9_shipOf, wn_X9, wc_X9_shipOf, rfl, by decide, by decide, by decide +kernel⟩
theorem cv_L_219 : CV RL 219 RX9 yX9_gradeOf cX9_gradeOf 2 1 (some .int) := ⟨wl_L_219, wi_X9_gradeOf, wv_X9_gradeOf, wn_X9, wc_X9_gradeOf, rfl, by decide, by decide, by decide +kernel⟩
theorem cv_L_222 : CV RL 222 RX9 yX9_isOffered cX9_isOffered 2 1 (some .boolean) := ⟨wl_L_222, wi_X9_isOffered, wv_X9_isOffered, wn_X9, wc_X9_isOffered, rfl, by decide, by decide, by decide +kernel⟩
theorem cv_L_226 : CV RL 226 RX9 yX9_placeBid cX9_placeBid 4 3 (some .int) := ⟨wl_L_226, wi_X9_placeBid, wv_X9_placeBid, wn_X9, wc_X9_placeBid, rfl, by decide, by decide, by decide +kernel⟩
theorem cv_L_229 : CV RL 229 RX9 yX9_placeOffer cX9_placeOffer 3 2 (some .int) := ⟨wl_L_229, wi_X9_placeOffer, wv_X9_placeOffer, wn_X9, wc_X9_placeOffer, rfl, by decide, by decide, by decide +kernel⟩
theorem cv_L_232 : CV RL 232 RX9 yX9_cancelBid cX9_cancelBid 2 1 (some .int) := ⟨wl_L_232, wi_X9_cancelBid, wv_X9_cancelBid, wn_X9, wc_X9_cancelBid, rfl, by decide, by decide, by decide +kernel⟩
theorem cv_L_235 : CV RL 235 RX9 yX9_cancelOffer cX9_cancelOffer 2 1 (some .int) := ⟨wl_L_235, wi_X9_cancelOffer, wv_X9_cancelOffer, wn_X9, wc_X9_cancelOffer, rfl, by decide, by decide, by decide +kernel⟩
theorem cv_L_236 : CV RL 236 RX8 yX8_bidCount cX8_bidCount 1 0 (some .int) := ⟨wl_L_236, wi_X8_bidCount, wv_X8_bidCount, wn_X8, wc_X8_bidCount, rfl, by decide, by decide, by decide +kernel⟩
theorem cv_L_239 : CV RL 239 RX9 yX9_bidCount cX9_bidCount 1 0 (some .int) := ⟨wl_L_239, wi_X9_bidCount, wv_X9_bidCount, wn_X9, wc_X9_bidCount, rfl, by decide, by decide, by decide +kernel⟩
theorem cv_L_240 : CV RL 240 RX8 yX8_offerCount cX8_offerCount 1 0 (some .int) := ⟨wl_L_240, wi_X8_offerCount, wv_X8_offerCount, wn_X8, wc_X8_offerCount, rfl, by decide, by decide, by decide +kernel⟩
theorem cv_L_243 : CV RL 243 RX9 yX9_offerCount cX9_offerCount 1 0 (some .int) := ⟨wl_L_243, wi_X9_offerCount, wv_X9_offerCount, wn_X9, wc_X9_offerCount, rfl, by decide, by decide, by decide +kernel⟩
theorem cv_L_246 : CV RL 246 RX9 yX9_bidAt cX9_bidAt 3 1 (some .int) := ⟨wl_L_246, wi_X9_bidAt, wv_X9_bidAt, wn_X9, wc_X9_bidAt, rfl, by decide, by decide, by decide +kernel⟩
theorem cv_L_249 : CV RL 249 RX9 yX9_offerAt cX9_offerAt 3 1 (some .int) := ⟨wl_L_249, wi_X9_offerAt, wv_X9_offerAt, wn_X9, wc_X9_offerAt, rfl, by decide, by decide, by decide +kernel⟩
theorem cv_L_252 : CV RL 252 RX9 yX9_shipOfBid cX9_shipOfBid 2 1 (some .int) := ⟨wl_L_252, wi_X9_shipOfBid, wv_X9_shipOfBid, wn_X9, wc_X9_shipOfBid, rfl, by decide, by decide, by decide +kernel⟩
theorem cv_L_255 : CV RL 255 RX9 yX9_gradeOfBid cX9_gradeOfBid 2 1 (some .int) := ⟨wl_L_255, wi_X9_gradeOfBid, wv_X9_gradeOfBid, wn_X9, wc_X9_gradeOfBid, rfl, by decide, by decide, by decide +kernel⟩
theorem cv_L_258 : CV RL 258 RX9 yX9_priceOfBid cX9_priceOfBid 2 1 (some .int) := ⟨wl_L_258, wi_X9_priceOfBid, wv_X9_priceOfBid, wn_X9, wc_X9_priceOfBid, rfl, by decide, by decide, by decide +kernel⟩
theorem cv_L_261 : CV RL 261 RX9 yX9_ageOfBid cX9_ageOfBid 2 1 (some .int) := ⟨wl_L_261, wi_X9_ageOfBid, wv_X9_ageOfBid, wn_X9, wc_X9_ageOfBid, rfl, by decide, by decide, by decide +kernel⟩
theorem cv_L_264 : CV RL 264 RX9 yX9_barnacleOfOffer cX9_barnacleOfOffer 2 1 (some .int) := ⟨wl_L_264, wi_X9_barnacleOfOffer, wv_X9_barnacleOfOffer, wn_X9, wc_X9_barnacleOfOffer, rfl, by decide, by decide, by decide +kernel⟩
theorem cv_L_267 : CV RL 267 RX9 yX9_priceOfOffer cX9_priceOfOffer 2 1 (some .int) := ⟨wl_L_267, wi_X9_priceOfOffer, wv_X9_priceOfOffer, wn_X9, wc_X9_priceOfOffer, rfl, by decide, by decide, by decide +kernel⟩
theorem cv_L_270 : CV RL 270 RX9 yX9_ageOfOffer cX9_ageOfOffer 2 1 (some .int) := ⟨wl_L_270, wi_X9_ageOfOffer, wv_X9_ageOfOffer, wn_X9, wc_X9_ageOfOffer, rfl, by decide, by decide, by decide +kernel⟩
theorem cv_L_273 : CV RL 273 RX9 yX9_matchFor cX9_matchFor 4 1 (some .int) := ⟨wl_L_273, wi_X9_matchFor, wv_X9_matchFor, wn_X9, wc_X9_matchFor, rfl, by decide, by decide, by decide +kernel⟩
theorem cv_L_276 : CV RL 276 RX9 yX9_matchByBarnacles cX9_matchByBarnacles 2 1 (some .int) := ⟨wl_L_276, wi_X9_matchByBarnacles, wv_X9_matchByBarnacles, wn_X9, wc_X9_matchByBarnacles, rfl, by decide, by decide, by decide +kernel⟩
theorem cv_L_280 : CV RL 280 RX9 yX9_spread cX9_spread 1 0 (some .int) := ⟨wl_L_280, wi_X9_spread, wv_X9_spread, wn_X9, wc_X9_spread, rfl, by decide, by decide, by decide +kernel⟩
theorem cv_L_281 : CV RL 281 RX8 yX8_passTide cX8_passTide 1 0 (some .int) := ⟨wl_L_281, wi_X8_passTide, wv_X8_passTide, wn_X8, wc_X8_passTide, rfl, by decide, by decide, by decide +kernel⟩
theorem cv_L_284 : CV RL 284 RX9 yX9_passTide cX9_passTide 1 0 (some .int) := ⟨wl_L_284, wi_X9_passTide, wv_X9_passTide, wn_X9, wc_X9_passTide, rfl, by decide, by decide, by decide +kernel⟩
theorem cv_L_285 : CV RL 285 RX8 yX8_wouldTrade cX8_wouldTrade 1 0 (some .int) := ⟨wl_L_285, wi_X8_wouldTrade, wv_X8_wouldTrade, wn_X8, wc_X8_wouldTrade, rfl, by decide, by decide, by decide +kernel⟩
theorem cv_L_288 : CV RL 288 RX9 yX9_wouldTrade cX9_wouldTrade 3 0 (some .int) := ⟨wl_L_288, wi_X9_wouldTrade, wv_X9_wouldTrade, wn_X9, wc_X9_wouldTrade, rfl, by decide, by decide, by decide +kernel⟩
theorem cv_L_291 : CV RL 291 RX9 yX9_setFee cX9_setFee 2 1 (some .int) := ⟨wl_L_291, wi_X9_setFee, wv_X9_setFee, wn_X9, wc_X9_setFee, rfl, by decide, by decide, by decide +kernel⟩
theorem cv_L_292 : CV RL 292 RX8 yX8_fee cX8_fee 1 0 (some .int) := ⟨wl_L_292, wi_X8_fee, wv_X8_fee, wn_X8, wc_X8_fee, rfl, by decide, by decide, by decide +kernel⟩
theorem cv_L_295 : CV RL 295 RX9 yX9_fee cX9_fee 1 0 (some .int) := ⟨wl_L_295, wi_X9_fee, wv_X9_fee, wn_X9, wc_X9_fee, rfl, by decide, by decide, by decide +kernel⟩
theorem cv_L_296 : CV RL 296 RX8 yX8_tideCount cX8_tideCount 1 0 (some .int) := ⟨wl_L_296, wi_X8_tideCount, wv_X8_tideCount, wn_X8, wc_X8_tideCount, rfl, by decide, by decide, by decide +kernel⟩
theorem cv_L_299 : CV RL 299 RX9 yX9_tideCount cX9_tideCount 1 0 (some .int) := ⟨wl_L_299, wi_X9_tideCount, wv_X9_tideCount, wn_X9, wc_X9_tideCount, rfl, by decide, by decide, by decide +kernel⟩
theorem cv_L_302 : CV RL 302 RX9 yX9_buyerOf cX9_buyerOf 2 1 (some .int) := ⟨wl_L_302, wi_X9_buyerOf, wv_X9_buyerOf, wn_X9, wc_X9_buyerOf, rfl, by decide, by decide, by decide +kernel⟩
theorem cv_L_305 : CV RL 305 RX9 yX9_sellerOf cX9_sellerOf 2 1 (some .int) := ⟨wl_L_305, wi_X9_sellerOf, wv_X9_sellerOf, wn_X9, wc_X9_sellerOf, rfl, by decide, by decide, by decide +kernel⟩
theorem cv_L_308 : CV RL 308 RX9 yX9_barnacleOf cX9_barnacleOf 2 1 (some .int) := ⟨wl_L_308, wi_X9_barnacleOf, wv_X9_barnacleOf, wn_X9, wc_X9_barnacleOf, rfl, by decide, by decide, by decide +kernel⟩
theorem cv_L_311 : CV RL 311 RX9 yX9_priceOf cX9_priceOf 2 1 (some .int) := ⟨wl_L_311, wi_X9_priceOf, wv_X9_priceOf, wn_X9, wc_X9_priceOf, rfl, by decide, by decide, by decide +kernel⟩
theorem cv_L_312 : CV RL 312 RX8 yX8_tradeCount cX8_tradeCount 1 0 (some .int) := ⟨wl_L_312, wi_X8_tradeCount, wv_X8_tradeCount, wn_X8, wc_X8_tradeCount, rfl, by decide, by decide, by decide +kernel⟩
theorem cv_L_315 : CV RL 315 RX9 yX9_tradeCount cX9_tradeCount 1 0 (some .int) := ⟨wl_L_315, wi_X9_tradeCount, wv_X9_tradeCount, wn_X9, wc_X9_tradeCount, rfl, by decide, by decide, by decide +kernel⟩
theorem cv_L_316 : CV RL 316 RX8 yX8_turnover cX8_turnover 1 0 (some .int) := ⟨wl_L_316, wi_X8_turnover, wv_X8_turnover, wn_X8, wc_X8_turnover, rfl, by decide, by decide, by decide +kernel⟩
theorem cv_L_319 : CV RL 319 RX9 yX9_turnover cX9_turnover 1 0 (some .int) := ⟨wl_L_319, wi_X9_turnover, wv_X9_turnover, wn_X9, wc_X9_turnover, rfl, by decide, by decide, by decide +kernel⟩
theorem cv_L_320 : CV RL 320 RX8 yX8_exchangeCoins cX8_exchangeCoins 1 0 (some .int) := ⟨wl_L_320, wi_X8_exchangeCoins, wv_X8_exchangeCoins, wn_X8, wc_X8_exchangeCoins, rfl, by decide, by decide, by decide +kernel⟩
theorem cv_L_323 : CV RL 323 RX9 yX9_exchangeCoins cX9_exchangeCoins 1 0 (some .int) := ⟨wl_L_323, wi_X9_exchangeCoins, wv_X9_exchangeCoins, wn_X9, wc_X9_exchangeCoins, rfl, by decide, by decide, by decide +kernel⟩
theorem cv_L_324 : CV RL 324 RX8 yX8_expiredCount cX8_expiredCount 1 0 (some .int) := ⟨wl_L_324, wi_X8_expiredCount, wv_X8_expiredCount, wn_X8, wc_X8_expiredCount, rfl, by decide, by decide, by decide +kernel⟩
theorem cv_L_327 : CV RL 327 RX9 yX9_expiredCount cX9_expiredCount 1 0 (some .int) := ⟨wl_L_327, wi_X9_expiredCount, wv_X9_expiredCount, wn_X9, wc_X9_expiredCount, rfl, by decide, by decide, by decide +kernel⟩
theorem cv_L_328 : CV RL 328 RX8 yX8_allCoins cX8_allCoins 1 0 (some .int) := ⟨wl_L_328, wi_X8_allCoins, wv_X8_allCoins, wn_X8, wc_X8_allCoins, rfl, by decide, by decide, by decide +kernel⟩
theorem cv_L_331 : CV RL 331 RX9 yX9_allCoins cX9_allCoins 3 0 (some .int) := ⟨wl_L_331, wi_X9_allCoins, wv_X9_allCoins, wn_X9, wc_X9_allCoins, rfl, by decide, by decide, by decide +kernel⟩
theorem cv_L_332 : CV RL 332 RX8 yX8_allCoinsGiven cX8_allCoinsGiven 1 0 (some .int) := ⟨wl_L_332, wi_X8_allCoinsGiven, wv_X8_allCoinsGiven, wn_X8, wc_X8_allCoinsGiven, rfl, by decide, by decide, by decide +kernel⟩
theorem cv_L_335 : CV RL 335 RX9 yX9_allCoinsGiven cX9_allCoinsGiven 1 0 (some .int) := ⟨wl_L_335, wi_X9_allCoinsGiven, wv_X9_allCoinsGiven, wn_X9, wc_X9_allCoinsGiven, rfl, by decide, by decide, by decide +kernel⟩
theorem cv_L_338 : CV RL 338 RX9 yX9_shipByWealth cX9_shipByWealth 6 1 (some .int) := ⟨wl_L_338, wi_X9_shipByWealth, wv_X9_shipByWealth, wn_X9, wc_X9_shipByWealth, rfl, by decide, by decide, by decide +kernel⟩
theorem cv_L_342 : CV RL 342 RX9 yX9_meanPrice cX9_meanPrice 1 0 (some .double) := ⟨wl_L_342, wi_X9_meanPrice, wv_X9_meanPrice, wn_X9, wc_X9_meanPrice, rfl, by decide, by decide, by decide +kernel⟩
theorem cv_L_345 : CV RL 345 RX9 yX9_offeredShare cX9_offeredShare 1 0 (some .float) := ⟨wl_L_345, wi_X9_offeredShare, wv_X9_offeredShare, wn_X9, wc_X9_offeredShare, rfl, by decide, by decide, by decide +kernel⟩
theorem cv_L_346 : CV RL 346 RX8 yX8_isConsistent cX8_isConsistent 1 0 (some .boolean) := ⟨wl_L_346, wi_X8_isConsistent, wv_X8_isConsistent, wn_X8, wc_X8_isConsistent, rfl, by decide, by decide, by decide +kernel⟩
theorem cv_L_350 : CV RL 350 RX9 yX9_isConsistent cX9_isConsistent 1 0 (some .boolean) := ⟨wl_L_350, wi_X9_isConsistent, wv_X9_isConsistent, wn_X9, wc_X9_isConsistent, rfl, by decide, by decide, by decide +kernel⟩
theorem cv_L_353 : CV RL 353 RX9 yX9_writeShip cX9_writeShip 4 1 (some .int) := ⟨wl_L_353, wi_X9_writeShip, wv_X9_writeShip, wn_X9, wc_X9_writeShip, rfl, by decide, by decide, by decide +kernel⟩
theorem cv_L_356 : CV RL 356 RX9 yX9_outputAt cX9_outputAt 2 1 (some .char) := ⟨wl_L_356, wi_X9_outputAt, wv_X9_outputAt, wn_X9, wc_X9_outputAt, rfl, by decide, by decide, by decide +kernel⟩
theorem cv_L_360 : CV RL 360 RX9 yX9_appendInput cX9_appendInput 2 1 (some .int) := ⟨wl_L_360, wi_X9_appendInput, wv_X9_appendInput, wn_X9, wc_X9_appendInput, rfl, by decide, by decide, by decide +kernel⟩
theorem cv_L_363 : CV RL 363 RX9 yX9_execute cX9_execute 3 0 (some .int) := ⟨wl_L_363, wi_X9_execute, wv_X9_execute, wn_X9, wc_X9_execute, rfl, by decide, by decide, by decide +kernel⟩
theorem cv_L_366 : CV RL 366 RX9 yX9_syntaxErrorOffset cX9_syntaxErrorOffset 1 0 (some .int) := ⟨wl_L_366, wi_X9_syntaxErrorOffset, wv_X9_syntaxErrorOffset, wn_X9, wc_X9_syntaxErrorOffset, rfl, by decide, by decide, by decide +kernel⟩
theorem cv_L_369 : CV RL 369 RX9 yX9_rejectionReason cX9_rejectionReason 1 0 (some .int) := ⟨wl_L_369, wi_X9_rejectionReason, wv_X9_rejectionReason, wn_X9, wc_X9_rejectionReason, rfl, by decide, by decide, by decide +kernel⟩
theorem cv_L_372 : CV RL 372 RX9 yX9_rejectionDetail cX9_rejectionDetail 1 0 (some .int) := ⟨wl_L_372, wi_X9_rejectionDetail, wv_X9_rejectionDetail, wn_X9, wc_X9_rejectionDetail, rfl, by decide, by decide, by decide +kernel⟩
theorem cv_L_375 : CV RL 375 RX9 yX9_causeReason cX9_causeReason 1 0 (some .int) := ⟨wl_L_375, wi_X9_causeReason, wv_X9_causeReason, wn_X9, wc_X9_causeReason, rfl, by decide, by decide, by decide +kernel⟩
theorem cv_L_378 : CV RL 378 RX9 yX9_undo cX9_undo 2 0 (some .int) := ⟨wl_L_378, wi_X9_undo, wv_X9_undo, wn_X9, wc_X9_undo, rfl, by decide, by decide, by decide +kernel⟩
theorem cv_L_379 : CV RL 379 RX8 yX8_saveSnapshot cX8_saveSnapshot 1 0 (some .int) := ⟨wl_L_379, wi_X8_saveSnapshot, wv_X8_saveSnapshot, wn_X8, wc_X8_saveSnapshot, rfl, by decide, by decide, by decide +kernel⟩
theorem cv_L_382 : CV RL 382 RX9 yX9_saveSnapshot cX9_saveSnapshot 2 0 (some .int) := ⟨wl_L_382, wi_X9_saveSnapshot, wv_X9_saveSnapshot, wn_X9, wc_X9_saveSnapshot, rfl, by decide, by decide, by decide +kernel⟩
theorem cv_L_385 : CV RL 385 RX9 yX9_restoreSnapshot cX9_restoreSnapshot 2 0 (some .int) := ⟨wl_L_385, wi_X9_restoreSnapshot, wv_X9_restoreSnapshot, wn_X9, wc_X9_restoreSnapshot, rfl, by decide, by decide, by decide +kernel⟩
theorem cv_X9_47 : CV RX9 47 RX9 yX9_throwing cX9_throwing 2 1 (some .int) := ⟨wl_X9_47, wi_X9_throwing, wv_X9_throwing, wn_X9, wc_X9_throwing, rfl, by decide, by decide, by decide +kernel⟩
theorem cvs_X9_63 : CS RX9 63 yX9_in cX9_in 6 3 (some .boolean) := ⟨wl_X9_63, wt_X9_in, wn_X9, wc_X9_in, by decide, by decide, by decide +kernel⟩
theorem cvs_X9_67 : CS RX9 67 yX9_shipAt cX9_shipAt 1 1 (some .int) := ⟨wl_X9_67, wt_X9_shipAt, wn_X9, wc_X9_shipAt, by decide, by decide, by decide +kernel⟩
theorem cvs_X9_70 : CS RX9 70 yX9_barnacleAtPlace cX9_barnacleAtPlace 1 1 (some .int) := ⟨wl_X9_70, wt_X9_barnacleAtPlace, wn_X9, wc_X9_barnacleAtPlace, by decide, by decide, by decide +kernel⟩
theorem cvs_X9_73 : CS RX9 73 yX9_bidAtPlace cX9_bidAtPlace 1 1 (some .int) := ⟨wl_X9_73, wt_X9_bidAtPlace, wn_X9, wc_X9_bidAtPlace, by decide, by decide, by decide +kernel⟩
theorem cv_X9_76 : CV RX9 76 RX9 yX9_capacity cX9_capacity 2 1 (some .int) := ⟨wl_X9_76, wi_X9_capacity, wv_X9_capacity, wn_X9, wc_X9_capacity, rfl, by decide, by decide, by decide +kernel⟩
theorem cv_X9_79 : CV RX9 79 RX9 yX9_load cX9_load 4 1 (some .int) := ⟨wl_X9_79, wi_X9_load, wv_X9_load, wn_X9, wc_X9_load, rfl, by decide, by decide, by decide +kernel⟩
theorem cvs_X9_82 : CS RX9 82 yX9_offerAtPlace cX9_offerAtPlace 1 1 (some .int) := ⟨wl_X9_82, wt_X9_offerAtPlace, wn_X9, wc_X9_offerAtPlace, by decide, by decide, by decide +kernel⟩
theorem cv_X9_85 : CV RX9 85 RX9 yX9_gradeOfBarnacle cX9_gradeOfBarnacle 2 1 (some .int) := ⟨wl_X9_85, wi_X9_gradeOfBarnacle, wv_X9_gradeOfBarnacle, wn_X9, wc_X9_gradeOfBarnacle, rfl, by decide, by decide, by decide +kernel⟩
theorem cv_X9_88 : CV RX9 88 RX9 yX9_isBidAhead cX9_isBidAhead 4 2 (some .boolean) := ⟨wl_X9_88, wi_X9_isBidAhead, wv_X9_isBidAhead, wn_X9, wc_X9_isBidAhead, rfl, by decide, by decide, by decide +kernel⟩
theorem cv_X9_92 : CV RX9 92 RX9 yX9_isOfferAhead cX9_isOfferAhead 6 2 (some .boolean) := ⟨wl_X9_92, wi_X9_isOfferAhead, wv_X9_isOfferAhead, wn_X9, wc_X9_isOfferAhead, rfl, by decide, by decide, by decide +kernel⟩
theorem cv_X9_95 : CV RX9 95 RX9 yX9_fits cX9_fits 5 2 (some .boolean) := ⟨wl_X9_95, wi_X9_fits, wv_X9_fits, wn_X9, wc_X9_fits, rfl, by decide, by decide, by decide +kernel⟩
theorem cv_X9_98 : CV RX9 98 RX9 yX9_closes cX9_closes 6 4 none := ⟨wl_X9_98, wi_X9_closes, wv_X9_closes, wn_X9, wc_X9_closes, rfl, by decide, by decide, by decide +kernel⟩
theorem cv_X9_106 : CV RX9 106 RX9 yX9_rejecting cX9_rejecting 4 3 (some .int) := ⟨wl_X9_106, wi_X9_rejecting, wv_X9_rejecting, wn_X9, wc_X9_rejecting, rfl, by decide, by decide, by decide +kernel⟩
theorem cv_X9_110 : CV RX9 110 RX9 yX9_starts cX9_starts 2 0 none := ⟨wl_X9_110, wi_X9_starts, wv_X9_starts, wn_X9, wc_X9_starts, rfl, by decide, by decide, by decide +kernel⟩
theorem cv_X9_113 : CV RX9 113 RX9 yX9_shipIt cX9_shipIt 3 2 (some .int) := ⟨wl_X9_113, wi_X9_shipIt, wv_X9_shipIt, wn_X9, wc_X9_shipIt, rfl, by decide, by decide, by decide +kernel⟩
theorem cv_X9_117 : CV RX9 117 RX9 yX9_changed cX9_changed 3 1 (some .int) := ⟨wl_X9_117, wi_X9_changed, wv_X9_changed, wn_X9, wc_X9_changed, rfl, by decide, by decide, by decide +kernel⟩
theorem cv_X9_120 : CV RX9 120 RX9 yX9_isShip cX9_isShip 2 1 (some .boolean) := ⟨wl_X9_120, wi_X9_isShip, wv_X9_isShip, wn_X9, wc_X9_isShip, rfl, by decide, by decide, by decide +kernel⟩
theorem cv_X9_126 : CV RX9 126 RX9 yX9_places cX9_places 4 1 (some .int) := ⟨wl_X9_126, wi_X9_places, wv_X9_places, wn_X9, wc_X9_places, rfl, by decide, by decide, by decide +kernel⟩
theorem cv_X9_129 : CV RX9 129 RX9 yX9_barnacleIt cX9_barnacleIt 3 2 (some .int) := ⟨wl_X9_129, wi_X9_barnacleIt, wv_X9_barnacleIt, wn_X9, wc_X9_barnacleIt, rfl, by decide, by decide, by decide +kernel⟩
theorem cv_X9_132 : CV RX9 132 RX9 yX9_giveIt cX9_giveIt 3 2 (some .int) := ⟨wl_X9_132, wi_X9_giveIt, wv_X9_giveIt, wn_X9, wc_X9_giveIt, rfl, by decide, by decide, by decide +kernel⟩
theorem cv_X9_135 : CV RX9 135 RX9 yX9_bidRanked cX9_bidRanked 5 1 (some .int) := ⟨wl_X9_135, wi_X9_bidRanked, wv_X9_bidRanked, wn_X9, wc_X9_bidRanked, rfl, by decide, by decide, by decide +kernel⟩
theorem cv_X9_138 : CV RX9 138 RX9 yX9_reserved cX9_reserved 4 1 (some .int) := ⟨wl_X9_138, wi_X9_reserved, wv_X9_reserved, wn_X9, wc_X9_reserved, rfl, by decide, by decide, by decide +kernel⟩
theorem cv_X9_141 : CV RX9 141 RX9 yX9_bidIt cX9_bidIt 6 3 (some .int) := ⟨wl_X9_141, wi_X9_bidIt, wv_X9_bidIt, wn_X9, wc_X9_bidIt, rfl, by decide, by decide, by decide +kernel⟩
theorem cv_X9_144 : CV RX9 144 RX9 yX9_isBarnacle cX9_isBarnacle 2 1 (some .boolean) := ⟨wl_X9_144, wi_X9_isBarnacle, wv_X9_isBarnacle, wn_X9, wc_X9_isBarnacle, rfl, by decide, by decide, by decide +kernel⟩
theorem cv_X9_147 : CV RX9 147 RX9 yX9_offerFor cX9_offerFor 3 1 (some .int) := ⟨wl_X9_147, wi_X9_offerFor, wv_X9_offerFor, wn_X9, wc_X9_offerFor, rfl, by decide, by decide, by decide +kernel⟩
theorem cv_X9_150 : CV RX9 150 RX9 yX9_offerIt cX9_offerIt 4 2 (some .int) := ⟨wl_X9_150, wi_X9_offerIt, wv_X9_offerIt, wn_X9, wc_X9_offerIt, rfl, by decide, by decide, by decide +kernel⟩
theorem cv_X9_153 : CV RX9 153 RX9 yX9_placeOfBid cX9_placeOfBid 3 1 (some .int) := ⟨wl_X9_153, wi_X9_placeOfBid, wv_X9_placeOfBid, wn_X9, wc_X9_placeOfBid, rfl, by decide, by decide, by decide +kernel⟩
theorem cv_X9_156 : CV RX9 156 RX9 yX9_closesBid cX9_closesBid 2 1 none := ⟨wl_X9_156, wi_X9_closesBid, wv_X9_closesBid, wn_X9, wc_X9_closesBid, rfl, by decide, by decide, by decide +kernel⟩
theorem cv_X9_160 : CV RX9 160 RX9 yX9_cancelBidIt cX9_cancelBidIt 2 1 (some .int) := ⟨wl_X9_160, wi_X9_cancelBidIt, wv_X9_cancelBidIt, wn_X9, wc_X9_cancelBidIt, rfl, by decide, by decide, by decide +kernel⟩
theorem cv_X9_163 : CV RX9 163 RX9 yX9_placeOfOffer cX9_placeOfOffer 3 1 (some .int) := ⟨wl_X9_163, wi_X9_placeOfOffer, wv_X9_placeOfOffer, wn_X9, wc_X9_placeOfOffer, rfl, by decide, by decide, by decide +kernel⟩
theorem cv_X9_166 : CV RX9 166 RX9 yX9_closesOffer cX9_closesOffer 2 1 none := ⟨wl_X9_166, wi_X9_closesOffer, wv_X9_closesOffer, wn_X9, wc_X9_closesOffer, rfl, by decide, by decide, by decide +kernel⟩
theorem cv_X9_169 : CV RX9 169 RX9 yX9_cancelOfferIt cX9_cancelOfferIt 2 1 (some .int) := ⟨wl_X9_169, wi_X9_cancelOfferIt, wv_X9_cancelOfferIt, wn_X9, wc_X9_cancelOfferIt, rfl, by decide, by decide, by decide +kernel⟩
theorem cv_X9_177 : CV RX9 177 RX9 yX9_remembers cX9_remembers 6 4 none := ⟨wl_X9_177, wi_X9_remembers, wv_X9_remembers, wn_X9, wc_X9_remembers, rfl, by decide, by decide, by decide +kernel⟩
theorem cv_X9_180 : CV RX9 180 RX9 yX9_match cX9_match 4 1 (some .int) := ⟨wl_X9_180, wi_X9_match, wv_X9_match, wn_X9, wc_X9_match, rfl, by decide, by decide, by decide +kernel⟩
theorem cv_X9_183 : CV RX9 183 RX9 yX9_trades cX9_trades 8 2 none := ⟨wl_X9_183, wi_X9_trades, wv_X9_trades, wn_X9, wc_X9_trades, rfl, by decide, by decide, by decide +kernel⟩
theorem cv_X9_187 : CV RX9 187 RX9 yX9_auctions cX9_auctions 5 0 (some .int) := ⟨wl_X9_187, wi_X9_auctions, wv_X9_auctions, wn_X9, wc_X9_auctions, rfl, by decide, by decide, by decide +kernel⟩
theorem cv_X9_191 : CV RX9 191 RX9 yX9_ages cX9_ages 2 0 none := ⟨wl_X9_191, wi_X9_ages, wv_X9_ages, wn_X9, wc_X9_ages, rfl, by decide, by decide, by decide +kernel⟩
theorem cv_X9_194 : CV RX9 194 RX9 yX9_tideIt cX9_tideIt 2 0 (some .int) := ⟨wl_X9_194, wi_X9_tideIt, wv_X9_tideIt, wn_X9, wc_X9_tideIt, rfl, by decide, by decide, by decide +kernel⟩
theorem cv_X9_197 : CV RX9 197 RX9 yX9_feeIt cX9_feeIt 3 1 (some .int) := ⟨wl_X9_197, wi_X9_feeIt, wv_X9_feeIt, wn_X9, wc_X9_feeIt, rfl, by decide, by decide, by decide +kernel⟩
theorem cv_X9_200 : CV RX9 200 RX9 yX9_total cX9_total 2 1 (some .int) := ⟨wl_X9_200, wi_X9_total, wv_X9_total, wn_X9, wc_X9_total, rfl, by decide, by decide, by decide +kernel⟩
theorem cv_X9_203 : CV RX9 203 RX9 yX9_barnacleRanked cX9_barnacleRanked 7 2 (some .int) := ⟨wl_X9_203, wi_X9_barnacleRanked, wv_X9_barnacleRanked, wn_X9, wc_X9_barnacleRanked, rfl, by decide, by decide, by decide +kernel⟩
theorem cv_X9_206 : CV RX9 206 RX9 yX9_offerRanked cX9_offerRanked 5 1 (some .int) := ⟨wl_X9_206, wi_X9_offerRanked, wv_X9_offerRanked, wn_X9, wc_X9_offerRanked, rfl, by decide, by decide, by decide +kernel⟩
theorem cv_X9_209 : CV RX9 209 RX9 yX9_ofBid cX9_ofBid 4 2 (some .int) := ⟨wl_X9_209, wi_X9_ofBid, wv_X9_ofBid, wn_X9, wc_X9_ofBid, rfl, by decide, by decide, by decide +kernel⟩
theorem cv_X9_212 : CV RX9 212 RX9 yX9_ofOffer cX9_ofOffer 4 2 (some .int) := ⟨wl_X9_212, wi_X9_ofOffer, wv_X9_ofOffer, wn_X9, wc_X9_ofOffer, rfl, by decide, by decide, by decide +kernel⟩
theorem cv_X9_215 : CV RX9 215 RX9 yX9_matchFor cX9_matchFor 4 1 (some .int) := ⟨wl_X9_215, wi_X9_matchFor, wv_X9_matchFor, wn_X9, wc_X9_matchFor, rfl, by decide, by decide, by decide +kernel⟩
theorem cv_X9_218 : CV RX9 218 RX9 yX9_ofTrade cX9_ofTrade 3 2 (some .int) := ⟨wl_X9_218, wi_X9_ofTrade, wv_X9_ofTrade, wn_X9, wc_X9_ofTrade, rfl, by decide, by decide, by decide +kernel⟩
theorem cv_X9_221 : CV RX9 221 RX9 yX9_wealth cX9_wealth 4 1 (some .int) := ⟨wl_X9_221, wi_X9_wealth, wv_X9_wealth, wn_X9, wc_X9_wealth, rfl, by decide, by decide, by decide +kernel⟩
theorem cv_X9_227 : CV RX9 227 RX9 yX9_sign cX9_sign 2 1 none := ⟨wl_X9_227, wi_X9_sign, wv_X9_sign, wn_X9, wc_X9_sign, rfl, by decide, by decide, by decide +kernel⟩
theorem cv_X9_230 : CV RX9 230 RX9 yX9_writesNumber cX9_writesNumber 3 1 none := ⟨wl_X9_230, wi_X9_writesNumber, wv_X9_writesNumber, wn_X9, wc_X9_writesNumber, rfl, by decide, by decide, by decide +kernel⟩
theorem cv_X9_250 : CV RX9 250 RX9 yX9_here cX9_here 1 0 (some .int) := ⟨wl_X9_250, wi_X9_here, wv_X9_here, wn_X9, wc_X9_here, rfl, by decide, by decide, by decide +kernel⟩
theorem cv_X9_257 : CV RX9 257 RX9 yX9_digit cX9_digit 2 0 (some .int) := ⟨wl_X9_257, wi_X9_digit, wv_X9_digit, wn_X9, wc_X9_digit, rfl, by decide, by decide, by decide +kernel⟩
theorem cv_X9_260 : CV RX9 260 RX9 yX9_expects cX9_expects 2 1 none := ⟨wl_X9_260, wi_X9_expects, wv_X9_expects, wn_X9, wc_X9_expects, rfl, by decide, by decide, by decide +kernel⟩
theorem cv_X9_263 : CV RX9 263 RX9 yX9_number cX9_number 2 0 (some .int) := ⟨wl_X9_263, wi_X9_number, wv_X9_number, wn_X9, wc_X9_number, rfl, by decide, by decide, by decide +kernel⟩
theorem cv_X9_266 : CV RX9 266 RX9 yX9_numberBehind cX9_numberBehind 2 1 (some .int) := ⟨wl_X9_266, wi_X9_numberBehind, wv_X9_numberBehind, wn_X9, wc_X9_numberBehind, rfl, by decide, by decide, by decide +kernel⟩
theorem cv_X9_272 : CV RX9 272 RX9 yX9_readArguments cX9_readArguments 3 2 none := ⟨wl_X9_272, wi_X9_readArguments, wv_X9_readArguments, wn_X9, wc_X9_readArguments, rfl, by decide, by decide, by decide +kernel⟩
theorem cv_X9_275 : CV RX9 275 RX9 yX9_readCommand cX9_readCommand 2 0 none := ⟨wl_X9_275, wi_X9_readCommand, wv_X9_readCommand, wn_X9, wc_X9_readCommand, rfl, by decide, by decide, by decide +kernel⟩
theorem cv_X9_278 : CV RX9 278 RX9 yX9_does cX9_does 4 1 none := ⟨wl_X9_278, wi_X9_does, wv_X9_does, wn_X9, wc_X9_does, rfl, by decide, by decide, by decide +kernel⟩
theorem cv_X9_281 : CV RX9 281 RX9 yX9_fails cX9_fails 3 1 (some .int) := ⟨wl_X9_281, wi_X9_fails, wv_X9_fails, wn_X9, wc_X9_fails, rfl, by decide, by decide, by decide +kernel⟩
theorem wx_IndexOutOfBoundsException : Cond.initialized "java/lang/IndexOutOfBoundsException" ∈ lw_good := lg_t 18 (by decide +kernel) (by decide +kernel)
theorem wx_IllegalArgumentException : Cond.initialized "java/lang/IllegalArgumentException" ∈ lw_good := lg_t 19 (by decide +kernel) (by decide +kernel)
theorem wx_UnsupportedOperationException : Cond.initialized "java/lang/UnsupportedOperationException" ∈ lw_good := lg_t 21 (by decide +kernel) (by decide +kernel)
theorem wx_IllegalStateException : Cond.initialized "java/lang/IllegalStateException" ∈ lw_good := lg_t 33 (by decide +kernel) (by decide +kernel)
theorem wx_ArithmeticException : Cond.initialized "java/lang/ArithmeticException" ∈ lw_good := lg_t 25 (by decide +kernel) (by decide +kernel)
theorem wx_NoSuchElementException : Cond.initialized "java/util/NoSuchElementException" ∈ lw_good := lg_t 20 (by decide +kernel) (by decide +kernel)
set_option maxRecDepth 100000 in
theorem at_X8_250 : ∀ w ∈ vx_atS RX8 250 "java/lang/IndexOutOfBoundsException" ["java/lang/RuntimeException", "java/lang/Exception"], w ∈ lw_good ∨ castOk w = true := by
  have h : (vx_atS RX8 250 "java/lang/IndexOutOfBoundsException" ["java/lang/RuntimeException", "java/lang/Exception"]).all (fun w => decide (w ∈ tables_1) && (goodWord w || castOk w)) = true := by decide +kernel
  intro w hw
  have h1 := List.all_eq_true.mp h w hw
  simp only [Bool.and_eq_true, Bool.or_eq_true, decide_eq_true_eq] at h1
  exact h1.2.elim (fun g => Or.inl (lg_mem (List.mem_append_right _ h1.1) g)) Or.inr
set_option maxRecDepth 100000 in
theorem at_X8_263 : ∀ w ∈ vx_atS RX8 263 "java/lang/IllegalArgumentException" ["java/lang/RuntimeException", "java/lang/Exception"], w ∈ lw_good ∨ castOk w = true := by
  have h : (vx_atS RX8 263 "java/lang/IllegalArgumentException" ["java/lang/RuntimeException", "java/lang/Exception"]).all (fun w => decide (w ∈ tables_1) && (goodWord w || castOk w)) = true := by decide +kernel
  intro w hw
  have h1 := List.all_eq_true.mp h w hw
  simp only [Bool.and_eq_true, Bool.or_eq_true, decide_eq_true_eq] at h1
  exact h1.2.elim (fun g => Or.inl (lg_mem (List.mem_append_right _ h1.1) g)) Or.inr
set_option maxRecDepth 100000 in
theorem at_X8_334 : ∀ w ∈ vx_atS RX8 334 "java/lang/UnsupportedOperationException" ["java/lang/RuntimeException", "java/lang/Exception"], w ∈ lw_good ∨ castOk w = true := by
  have h : (vx_atS RX8 334 "java/lang/UnsupportedOperationException" ["java/lang/RuntimeException", "java/lang/Exception"]).all (fun w => decide (w ∈ tables_1) && (goodWord w || castOk w)) = true := by decide +kernel
  intro w hw
  have h1 := List.all_eq_true.mp h w hw
  simp only [Bool.and_eq_true, Bool.or_eq_true, decide_eq_true_eq] at h1
  exact h1.2.elim (fun g => Or.inl (lg_mem (List.mem_append_right _ h1.1) g)) Or.inr
set_option maxRecDepth 100000 in
theorem at_X8_270 : ∀ w ∈ vx_atS RX8 270 "java/lang/IllegalStateException" ["java/lang/RuntimeException", "java/lang/Exception"], w ∈ lw_good ∨ castOk w = true := by
  have h : (vx_atS RX8 270 "java/lang/IllegalStateException" ["java/lang/RuntimeException", "java/lang/Exception"]).all (fun w => decide (w ∈ tables_1) && (goodWord w || castOk w)) = true := by decide +kernel
  intro w hw
  have h1 := List.all_eq_true.mp h w hw
  simp only [Bool.and_eq_true, Bool.or_eq_true, decide_eq_true_eq] at h1
  exact h1.2.elim (fun g => Or.inl (lg_mem (List.mem_append_right _ h1.1) g)) Or.inr
set_option maxRecDepth 100000 in
theorem at_X8_220 : ∀ w ∈ vx_atS RX8 220 "java/lang/ArithmeticException" ["java/lang/RuntimeException", "java/lang/Exception"], w ∈ lw_good ∨ castOk w = true := by
  have h : (vx_atS RX8 220 "java/lang/ArithmeticException" ["java/lang/RuntimeException", "java/lang/Exception"]).all (fun w => decide (w ∈ tables_1) && (goodWord w || castOk w)) = true := by decide +kernel
  intro w hw
  have h1 := List.all_eq_true.mp h w hw
  simp only [Bool.and_eq_true, Bool.or_eq_true, decide_eq_true_eq] at h1
  exact h1.2.elim (fun g => Or.inl (lg_mem (List.mem_append_right _ h1.1) g)) Or.inr
