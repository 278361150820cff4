/-! the reference: calls that change -/
def T0M (σ : Mem) : Mem := st3 σ 0 40 8 0
def wouldA (σ : Mem) : Mem := cpy (st3 σ 0 40 8 0) 0 41 0 0 43 0 212
noncomputable def wouldM (σ : Mem) : Mem := cpy (maucR (wouldA σ 0 41 2).toNat (wouldA σ) 0 0).1 0 43 0 0 41 0 212
def undoA (σ : Mem) : Mem :=
  let σ1 := st3 σ 0 40 8 0
  st3 σ1 0 40 6 (σ1 0 40 6 - 1)
def undoM (σ : Mem) : Mem := cpy (undoA σ) 0 45 (212 * undoA σ 0 40 6) 0 41 0 212
def msaveM (σ : Mem) : Mem := st3 (cpy (st3 σ 0 40 8 0) 0 41 0 0 44 0 212) 0 40 4 1
def mrestM (σ : Mem) : Mem := st3 (cpy (st3 σ 0 40 8 0) 0 44 0 0 41 0 212) 0 40 6 0
def failA (σ : Mem) : Mem := cpy σ 0 42 0 0 41 0 212
def failM (σ : Mem) (k : Int) : Mem :=
  let σ1 := st3 (failA σ) 0 40 11 7
  let σ2 := st3 σ1 0 40 12 k
  let σ3 := st3 σ2 0 40 13 (σ2 0 40 14)
  st3 σ3 0 40 8 3
def signM (σ : Mem) (c : Int) : Mem :=
  let σ1 := st3 σ 0 47 (σ 0 40 17) c
  st3 σ1 0 40 17 (σ1 0 40 17 + 1)
set_option maxHeartbeats 4000000 in
set_option maxRecDepth 100000 in
theorem f_addShip {l : Launch} {D : va_G} {K : Nat → ClassId} {ad : Adr} (hl0 : l.stackTraces = false) (σ : Mem) (hR : Rng σ) (σ1 σ2 : Mem) (r a b : Int) (hS : Cb l D K ad yX9_shipIt (.code yX9_shipIt cX9_shipIt 3 (some .int)) 5 0 0 (startM σ) [.ref (ad 0 40), .int (iN a), .int (iN b)] (.inl (some (.int (iN r)))) σ1) (hC : Cb l D K ad yX9_changed (.code yX9_changed cX9_changed 3 (some .int)) 2 0 0 σ1 [.ref (ad 0 40), .int (iN r)] (.inl (some (.int (iN r)))) σ2) : Cb l D K ad yX9_addShip (.code yX9_addShip cX9_addShip 3 (some .int)) 8 0 0 σ [.ref (ad 0 40), .int (iN a), .int (iN b)] (.inl (some (.int (iN (r))))) σ2 := by
  refine Cb.of (own := RX9) (ls0 := [some (.ref (ad 0 40)), some (.int (iN a)), some (.int (iN b))]) hl0 (by decide) rfl (Nat.le_of_ble_eq_true rfl) rfl ?_
  intro X hX1 hX2 hX3 hf he hh
  subst hX1 hX2 hX3
  refine V_aload_n hf dX9_addShip_0 rfl rfl ?_
  refine B_callVv hf (As := []) (e_starts hl0 σ hR) cv_X9_110 l01 rfl rfl rfl (Nat.le_of_ble_eq_true rfl) ⟨by decide, by decide, by decide, by decide⟩ dX9_addShip_1 ?_
  refine V_aload_n hf dX9_addShip_4 rfl rfl ?_
  refine V_aload_n hf dX9_addShip_5 rfl rfl ?_
  refine V_iload_n hf dX9_addShip_6 rfl rfl ?_
  refine V_iload_n hf dX9_addShip_7 rfl rfl ?_
  refine B_callVi hf (As := [_, _]) (hS) cv_X9_113 l01 rfl rfl rfl (Nat.le_of_ble_eq_true rfl) ⟨by decide, by decide, by decide, by decide⟩ dX9_addShip_8 ?_
  refine B_callVi hf (As := [_]) (hC) cv_X9_117 l01 rfl rfl rfl (Nat.le_of_ble_eq_true rfl) ⟨by decide, by decide, by decide, by decide⟩ dX9_addShip_11 ?_
  exact B_iret hf he rfl dX9_addShip_14 (by decide) (by decide) rfl rfl

set_option maxHeartbeats 4000000 in
set_option maxRecDepth 100000 in
theorem f_addBarnacle {l : Launch} {D : va_G} {K : Nat → ClassId} {ad : Adr} (hl0 : l.stackTraces = false) (σ : Mem) (hR : Rng σ) (σ1 σ2 : Mem) (r a b : Int) (hS : Cb l D K ad yX9_barnacleIt (.code yX9_barnacleIt cX9_barnacleIt 3 (some .int)) 5 0 0 (startM σ) [.ref (ad 0 40), .int (iN a), .int (iN b)] (.inl (some (.int (iN r)))) σ1) (hC : Cb l D K ad yX9_changed (.code yX9_changed cX9_changed 3 (some .int)) 2 0 0 σ1 [.ref (ad 0 40), .int (iN r)] (.inl (some (.int (iN r)))) σ2) : Cb l D K ad yX9_addBarnacle (.code yX9_addBarnacle cX9_addBarnacle 3 (some .int)) 8 0 0 σ [.ref (ad 0 40), .int (iN a), .int (iN b)] (.inl (some (.int (iN (r))))) σ2 := by
  refine Cb.of (own := RX9) (ls0 := [some (.ref (ad 0 40)), some (.int (iN a)), some (.int (iN b))]) hl0 (by decide) rfl (Nat.le_of_ble_eq_true rfl) rfl ?_
  intro X hX1 hX2 hX3 hf he hh
  subst hX1 hX2 hX3
  refine V_aload_n hf dX9_addBarnacle_0 rfl rfl ?_
  refine B_callVv hf (As := []) (e_starts hl0 σ hR) cv_X9_110 l01 rfl rfl rfl (Nat.le_of_ble_eq_true rfl) ⟨by decide, by decide, by decide, by decide⟩ dX9_addBarnacle_1 ?_
  refine V_aload_n hf dX9_addBarnacle_4 rfl rfl ?_
  refine V_aload_n hf dX9_addBarnacle_5 rfl rfl ?_
  refine V_iload_n hf dX9_addBarnacle_6 rfl rfl ?_
  refine V_iload_n hf dX9_addBarnacle_7 rfl rfl ?_
  refine B_callVi hf (As := [_, _]) (hS) cv_X9_129 l01 rfl rfl rfl (Nat.le_of_ble_eq_true rfl) ⟨by decide, by decide, by decide, by decide⟩ dX9_addBarnacle_8 ?_
  refine B_callVi hf (As := [_]) (hC) cv_X9_117 l01 rfl rfl rfl (Nat.le_of_ble_eq_true rfl) ⟨by decide, by decide, by decide, by decide⟩ dX9_addBarnacle_11 ?_
  exact B_iret hf he rfl dX9_addBarnacle_14 (by decide) (by decide) rfl rfl

set_option maxHeartbeats 4000000 in
set_option maxRecDepth 100000 in
theorem f_giveCoins {l : Launch} {D : va_G} {K : Nat → ClassId} {ad : Adr} (hl0 : l.stackTraces = false) (σ : Mem) (hR : Rng σ) (σ1 σ2 : Mem) (r a b : Int) (hS : Cb l D K ad yX9_giveIt (.code yX9_giveIt cX9_giveIt 3 (some .int)) 5 0 0 (startM σ) [.ref (ad 0 40), .int (iN a), .int (iN b)] (.inl (some (.int (iN r)))) σ1) (hC : Cb l D K ad yX9_changed (.code yX9_changed cX9_changed 3 (some .int)) 2 0 0 σ1 [.ref (ad 0 40), .int (iN r)] (.inl (some (.int (iN r)))) σ2) : Cb l D K ad yX9_giveCoins (.code yX9_giveCoins cX9_giveCoins 3 (some .int)) 8 0 0 σ [.ref (ad 0 40), .int (iN a), .int (iN b)] (.inl (some (.int (iN (r))))) σ2 := by
  refine Cb.of (own := RX9) (ls0 := [some (.ref (ad 0 40)), some (.int (iN a)), some (.int (iN b))]) hl0 (by decide) rfl (Nat.le_of_ble_eq_true rfl) rfl ?_
  intro X hX1 hX2 hX3 hf he hh
  subst hX1 hX2 hX3
  refine V_aload_n hf dX9_giveCoins_0 rfl rfl ?_
  refine B_callVv hf (As := []) (e_starts hl0 σ hR) cv_X9_110 l01 rfl rfl rfl (Nat.le_of_ble_eq_true rfl) ⟨by decide, by decide, by decide, by decide⟩ dX9_giveCoins_1 ?_
  refine V_aload_n hf dX9_giveCoins_4 rfl rfl ?_
  refine V_aload_n hf dX9_giveCoins_5 rfl rfl ?_
  refine V_iload_n hf dX9_giveCoins_6 rfl rfl ?_
  refine V_iload_n hf dX9_giveCoins_7 rfl rfl ?_
  refine B_callVi hf (As := [_, _]) (hS) cv_X9_132 l01 rfl rfl rfl (Nat.le_of_ble_eq_true rfl) ⟨by decide, by decide, by decide, by decide⟩ dX9_giveCoins_8 ?_
  refine B_callVi hf (As := [_]) (hC) cv_X9_117 l01 rfl rfl rfl (Nat.le_of_ble_eq_true rfl) ⟨by decide, by decide, by decide, by decide⟩ dX9_giveCoins_11 ?_
  exact B_iret hf he rfl dX9_giveCoins_14 (by decide) (by decide) rfl rfl

set_option maxHeartbeats 4000000 in
set_option maxRecDepth 100000 in
theorem f_placeBid {l : Launch} {D : va_G} {K : Nat → ClassId} {ad : Adr} (hl0 : l.stackTraces = false) (σ : Mem) (hR : Rng σ) (σ1 σ2 : Mem) (r a b c : Int) (hS : Cb l D K ad yX9_bidIt (.code yX9_bidIt cX9_bidIt 6 (some .int)) 5 0 0 (startM σ) [.ref (ad 0 40), .int (iN a), .int (iN b), .int (iN c)] (.inl (some (.int (iN r)))) σ1) (hC : Cb l D K ad yX9_changed (.code yX9_changed cX9_changed 3 (some .int)) 2 0 0 σ1 [.ref (ad 0 40), .int (iN r)] (.inl (some (.int (iN r)))) σ2) : Cb l D K ad yX9_placeBid (.code yX9_placeBid cX9_placeBid 4 (some .int)) 8 0 0 σ [.ref (ad 0 40), .int (iN a), .int (iN b), .int (iN c)] (.inl (some (.int (iN (r))))) σ2 := by
  refine Cb.of (own := RX9) (ls0 := [some (.ref (ad 0 40)), some (.int (iN a)), some (.int (iN b)), some (.int (iN c))]) hl0 (by decide) rfl (Nat.le_of_ble_eq_true rfl) rfl ?_
  intro X hX1 hX2 hX3 hf he hh
  subst hX1 hX2 hX3
  refine V_aload_n hf dX9_placeBid_0 rfl rfl ?_
  refine B_callVv hf (As := []) (e_starts hl0 σ hR) cv_X9_110 l01 rfl rfl rfl (Nat.le_of_ble_eq_true rfl) ⟨by decide, by decide, by decide, by decide⟩ dX9_placeBid_1 ?_
  refine V_aload_n hf dX9_placeBid_4 rfl rfl ?_
  refine V_aload_n hf dX9_placeBid_5 rfl rfl ?_
  refine V_iload_n hf dX9_placeBid_6 rfl rfl ?_
  refine V_iload_n hf dX9_placeBid_7 rfl rfl ?_
  refine V_iload_n hf dX9_placeBid_8 rfl rfl ?_
  refine B_callVi hf (As := [_, _, _]) (hS) cv_X9_141 l01 rfl rfl rfl (Nat.le_of_ble_eq_true rfl) ⟨by decide, by decide, by decide, by decide⟩ dX9_placeBid_9 ?_
  refine B_callVi hf (As := [_]) (hC) cv_X9_117 l01 rfl rfl rfl (Nat.le_of_ble_eq_true rfl) ⟨by decide, by decide, by decide, by decide⟩ dX9_placeBid_12 ?_
  exact B_iret hf he rfl dX9_placeBid_15 (by decide) (by decide) rfl rfl

set_option maxHeartbeats 4000000 in
set_option maxRecDepth 100000 in
theorem f_placeOffer {l : Launch} {D : va_G} {K : Nat → ClassId} {ad : Adr} (hl0 : l.stackTraces = false) (σ : Mem) (hR : Rng σ) (σ1 σ2 : Mem) (r a b : Int) (hS : Cb l D K ad yX9_offerIt (.code yX9_offerIt cX9_offerIt 4 (some .int)) 5 0 0 (startM σ) [.ref (ad 0 40), .int (iN a), .int (iN b)] (.inl (some (.int (iN r)))) σ1) (hC : Cb l D K ad yX9_changed (.code yX9_changed cX9_changed 3 (some .int)) 2 0 0 σ1 [.ref (ad 0 40), .int (iN r)] (.inl (some (.int (iN r)))) σ2) : Cb l D K ad yX9_placeOffer (.code yX9_placeOffer cX9_placeOffer 3 (some .int)) 8 0 0 σ [.ref (ad 0 40), .int (iN a), .int (iN b)] (.inl (some (.int (iN (r))))) σ2 := by
  refine Cb.of (own := RX9) (ls0 := [some (.ref (ad 0 40)), some (.int (iN a)), some (.int (iN b))]) hl0 (by decide) rfl (Nat.le_of_ble_eq_true rfl) rfl ?_
  intro X hX1 hX2 hX3 hf he hh
  subst hX1 hX2 hX3
  refine V_aload_n hf dX9_placeOffer_0 rfl rfl ?_
  refine B_callVv hf (As := []) (e_starts hl0 σ hR) cv_X9_110 l01 rfl rfl rfl (Nat.le_of_ble_eq_true rfl) ⟨by decide, by decide, by decide, by decide⟩ dX9_placeOffer_1 ?_
  refine V_aload_n hf dX9_placeOffer_4 rfl rfl ?_
  refine V_aload_n hf dX9_placeOffer_5 rfl rfl ?_
  refine V_iload_n hf dX9_placeOffer_6 rfl rfl ?_
  refine V_iload_n hf dX9_placeOffer_7 rfl rfl ?_
  refine B_callVi hf (As := [_, _]) (hS) cv_X9_150 l01 rfl rfl rfl (Nat.le_of_ble_eq_true rfl) ⟨by decide, by decide, by decide, by decide⟩ dX9_placeOffer_8 ?_
  refine B_callVi hf (As := [_]) (hC) cv_X9_117 l01 rfl rfl rfl (Nat.le_of_ble_eq_true rfl) ⟨by decide, by decide, by decide, by decide⟩ dX9_placeOffer_11 ?_
  exact B_iret hf he rfl dX9_placeOffer_14 (by decide) (by decide) rfl rfl

set_option maxHeartbeats 4000000 in
set_option maxRecDepth 100000 in
theorem f_cancelBid {l : Launch} {D : va_G} {K : Nat → ClassId} {ad : Adr} (hl0 : l.stackTraces = false) (σ : Mem) (hR : Rng σ) (σ1 σ2 : Mem) (r a : Int) (hS : Cb l D K ad yX9_cancelBidIt (.code yX9_cancelBidIt cX9_cancelBidIt 2 (some .int)) 5 0 0 (startM σ) [.ref (ad 0 40), .int (iN a)] (.inl (some (.int (iN r)))) σ1) (hC : Cb l D K ad yX9_changed (.code yX9_changed cX9_changed 3 (some .int)) 2 0 0 σ1 [.ref (ad 0 40), .int (iN r)] (.inl (some (.int (iN r)))) σ2) : Cb l D K ad yX9_cancelBid (.code yX9_cancelBid cX9_cancelBid 2 (some .int)) 8 0 0 σ [.ref (ad 0 40), .int (iN a)] (.inl (some (.int (iN (r))))) σ2 := by
  refine Cb.of (own := RX9) (ls0 := [some (.ref (ad 0 40)), some (.int (iN a))]) hl0 (by decide) rfl (Nat.le_of_ble_eq_true rfl) rfl ?_
  intro X hX1 hX2 hX3 hf he hh
  subst hX1 hX2 hX3
  refine V_aload_n hf dX9_cancelBid_0 rfl rfl ?_
  refine B_callVv hf (As := []) (e_starts hl0 σ hR) cv_X9_110 l01 rfl rfl rfl (Nat.le_of_ble_eq_true rfl) ⟨by decide, by decide, by decide, by decide⟩ dX9_cancelBid_1 ?_
  refine V_aload_n hf dX9_cancelBid_4 rfl rfl ?_
  refine V_aload_n hf dX9_cancelBid_5 rfl rfl ?_
  refine V_iload_n hf dX9_cancelBid_6 rfl rfl ?_
  refine B_callVi hf (As := [_]) (hS) cv_X9_160 l01 rfl rfl rfl (Nat.le_of_ble_eq_true rfl) ⟨by decide, by decide, by decide, by decide⟩ dX9_cancelBid_7 ?_
  refine B_callVi hf (As := [_]) (hC) cv_X9_117 l01 rfl rfl rfl (Nat.le_of_ble_eq_true rfl) ⟨by decide, by decide, by decide, by decide⟩ dX9_cancelBid_10 ?_
  exact B_iret hf he rfl dX9_cancelBid_13 (by decide) (by decide) rfl rfl

set_option maxHeartbeats 4000000 in
set_option maxRecDepth 100000 in
theorem f_cancelOffer {l : Launch} {D : va_G} {K : Nat → ClassId} {ad : Adr} (hl0 : l.stackTraces = false) (σ : Mem) (hR : Rng σ) (σ1 σ2 : Mem) (r a : Int) (hS : Cb l D K ad yX9_cancelOfferIt (.code yX9_cancelOfferIt cX9_cancelOfferIt 2 (some .int)) 5 0 0 (startM σ) [.ref (ad 0 40), .int (iN a)] (.inl (some (.int (iN r)))) σ1) (hC : Cb l D K ad yX9_changed (.code yX9_changed cX9_changed 3 (some .int)) 2 0 0 σ1 [.ref (ad 0 40), .int (iN r)] (.inl (some (.int (iN r)))) σ2) : Cb l D K ad yX9_cancelOffer (.code yX9_cancelOffer cX9_cancelOffer 2 (some .int)) 8 0 0 σ [.ref (ad 0 40), .int (iN a)] (.inl (some (.int (iN (r))))) σ2 := by
  refine Cb.of (own := RX9) (ls0 := [some (.ref (ad 0 40)), some (.int (iN a))]) hl0 (by decide) rfl (Nat.le_of_ble_eq_true rfl) rfl ?_
  intro X hX1 hX2 hX3 hf he hh
  subst hX1 hX2 hX3
  refine V_aload_n hf dX9_cancelOffer_0 rfl rfl ?_
  refine B_callVv hf (As := []) (e_starts hl0 σ hR) cv_X9_110 l01 rfl rfl rfl (Nat.le_of_ble_eq_true rfl) ⟨by decide, by decide, by decide, by decide⟩ dX9_cancelOffer_1 ?_
  refine V_aload_n hf dX9_cancelOffer_4 rfl rfl ?_
  refine V_aload_n hf dX9_cancelOffer_5 rfl rfl ?_
  refine V_iload_n hf dX9_cancelOffer_6 rfl rfl ?_
  refine B_callVi hf (As := [_]) (hS) cv_X9_169 l01 rfl rfl rfl (Nat.le_of_ble_eq_true rfl) ⟨by decide, by decide, by decide, by decide⟩ dX9_cancelOffer_7 ?_
  refine B_callVi hf (As := [_]) (hC) cv_X9_117 l01 rfl rfl rfl (Nat.le_of_ble_eq_true rfl) ⟨by decide, by decide, by decide, by decide⟩ dX9_cancelOffer_10 ?_
  exact B_iret hf he rfl dX9_cancelOffer_13 (by decide) (by decide) rfl rfl

set_option maxHeartbeats 4000000 in
set_option maxRecDepth 100000 in
theorem f_passTide {l : Launch} {D : va_G} {K : Nat → ClassId} {ad : Adr} (hl0 : l.stackTraces = false) (σ : Mem) (hR : Rng σ) (σ1 σ2 : Mem) (r : Int) (hS : Cb l D K ad yX9_tideIt (.code yX9_tideIt cX9_tideIt 2 (some .int)) 6 0 0 (startM σ) [.ref (ad 0 40)] (.inl (some (.int (iN r)))) σ1) (hC : Cb l D K ad yX9_changed (.code yX9_changed cX9_changed 3 (some .int)) 2 0 0 σ1 [.ref (ad 0 40), .int (iN r)] (.inl (some (.int (iN r)))) σ2) : Cb l D K ad yX9_passTide (.code yX9_passTide cX9_passTide 1 (some .int)) 8 0 0 σ [.ref (ad 0 40)] (.inl (some (.int (iN (r))))) σ2 := by
  refine Cb.of (own := RX9) (ls0 := [some (.ref (ad 0 40))]) hl0 (by decide) rfl (Nat.le_of_ble_eq_true rfl) rfl ?_
  intro X hX1 hX2 hX3 hf he hh
  subst hX1 hX2 hX3
  refine V_aload_n hf dX9_passTide_0 rfl rfl ?_
  refine B_callVv hf (As := []) (e_starts hl0 σ hR) cv_X9_110 l01 rfl rfl rfl (Nat.le_of_ble_eq_true rfl) ⟨by decide, by decide, by decide, by decide⟩ dX9_passTide_1 ?_
  refine V_aload_n hf dX9_passTide_4 rfl rfl ?_
  refine V_aload_n hf dX9_passTide_5 rfl rfl ?_
  refine B_callVi hf (As := []) (hS) cv_X9_194 l01 rfl rfl rfl (Nat.le_of_ble_eq_true rfl) ⟨by decide, by decide, by decide, by decide⟩ dX9_passTide_6 ?_
  refine B_callVi hf (As := [_]) (hC) cv_X9_117 l01 rfl rfl rfl (Nat.le_of_ble_eq_true rfl) ⟨by decide, by decide, by decide, by decide⟩ dX9_passTide_9 ?_
  exact B_iret hf he rfl dX9_passTide_12 (by decide) (by decide) rfl rfl

set_option maxHeartbeats 4000000 in
set_option maxRecDepth 100000 in
theorem f_setFee {l : Launch} {D : va_G} {K : Nat → ClassId} {ad : Adr} (hl0 : l.stackTraces = false) (σ : Mem) (hR : Rng σ) (σ1 σ2 : Mem) (r a : Int) (hS : Cb l D K ad yX9_feeIt (.code yX9_feeIt cX9_feeIt 3 (some .int)) 5 0 0 (startM σ) [.ref (ad 0 40), .int (iN a)] (.inl (some (.int (iN r)))) σ1) (hC : Cb l D K ad yX9_changed (.code yX9_changed cX9_changed 3 (some .int)) 2 0 0 σ1 [.ref (ad 0 40), .int (iN r)] (.inl (some (.int (iN r)))) σ2) : Cb l D K ad yX9_setFee (.code yX9_setFee cX9_setFee 2 (some .int)) 8 0 0 σ [.ref (ad 0 40), .int (iN a)] (.inl (some (.int (iN (r))))) σ2 := by
  refine Cb.of (own := RX9) (ls0 := [some (.ref (ad 0 40)), some (.int (iN a))]) hl0 (by decide) rfl (Nat.le_of_ble_eq_true rfl) rfl ?_
  intro X hX1 hX2 hX3 hf he hh
  subst hX1 hX2 hX3
  refine V_aload_n hf dX9_setFee_0 rfl rfl ?_
  refine B_callVv hf (As := []) (e_starts hl0 σ hR) cv_X9_110 l01 rfl rfl rfl (Nat.le_of_ble_eq_true rfl) ⟨by decide, by decide, by decide, by decide⟩ dX9_setFee_1 ?_
  refine V_aload_n hf dX9_setFee_4 rfl rfl ?_
  refine V_aload_n hf dX9_setFee_5 rfl rfl ?_
  refine V_iload_n hf dX9_setFee_6 rfl rfl ?_
  refine B_callVi hf (As := [_]) (hS) cv_X9_197 l01 rfl rfl rfl (Nat.le_of_ble_eq_true rfl) ⟨by decide, by decide, by decide, by decide⟩ dX9_setFee_7 ?_
  refine B_callVi hf (As := [_]) (hC) cv_X9_117 l01 rfl rfl rfl (Nat.le_of_ble_eq_true rfl) ⟨by decide, by decide, by decide, by decide⟩ dX9_setFee_10 ?_
  exact B_iret hf he rfl dX9_setFee_13 (by decide) (by decide) rfl rfl

set_option maxHeartbeats 4000000 in
set_option maxRecDepth 100000 in
theorem f_would {l : Launch} {D : va_G} {K : Nat → ClassId} {ad : Adr} (hl0 : l.stackTraces = false) (σ : Mem) (hR : Rng σ) (h2 : 0 ≤ wouldA σ 0 41 2 ∧ wouldA σ 0 41 2 ≤ 10) (hA : maucOk (wouldA σ 0 41 2).toNat (wouldA σ) 0) : Cb l D K ad yX9_wouldTrade (.code yX9_wouldTrade cX9_wouldTrade 3 (some .int)) 6 0 0 σ [.ref (ad 0 40)] (.inl (some (.int (iN (maucR (wouldA σ 0 41 2).toNat (wouldA σ) 0 0).2)))) (wouldM σ) := by
  refine Cb.of (own := RX9) (ls0 := [some (.ref (ad 0 40)), none, none]) hl0 (by decide) rfl (Nat.le_of_ble_eq_true rfl) rfl ?_
  intro X hX1 hX2 hX3 hf he hh
  subst hX1 hX2 hX3
  have hR1 : Rng (wouldA σ) := (hR.st ⟨by decide, by decide⟩).cpy (by decide)
  have loop2 : ∀ (n : Nat) (k : Int), 0 ≤ k → k ≤ 212 → ((212 : Int) - k).toNat < n → B X ad (cpy (maucR (wouldA σ 0 41 2).toNat (wouldA σ) 0 0).1 0 43 0 0 41 0 k) 39 [some (.ref (ad 0 40)), some (.int (iN ((maucR (wouldA σ 0 41 2).toNat (wouldA σ) 0 0).2))), some (.int (iN (k)))] [] 0 0 := by
    intro n
    induction n with
    | zero => intros; omega
    | succ n ih =>
      intro k hk0 hk1 hn
      refine V_iload_n hf dX9_wouldTrade_39 rfl rfl ?_
      refine V_sipush hf dX9_wouldTrade_40 (by decide +kernel) ?_
      refine V_icmp_ge (tgt := 64) hf (by first | exact hR _ _ _ (by decide) | exact ⟨by omega, by omega⟩ | exact Rng.st (Rng.st hR ⟨by decide, by decide⟩) ⟨by decide, by decide⟩ _ _ _ (by decide) | exact Rng.st hR ⟨by decide, by decide⟩ _ _ _ (by decide)) (by first | exact hR _ _ _ (by decide) | exact ⟨by omega, by omega⟩ | exact Rng.st (Rng.st hR ⟨by decide, by decide⟩) ⟨by decide, by decide⟩ _ _ _ (by decide) | exact Rng.st hR ⟨by decide, by decide⟩ _ _ _ (by decide)) dX9_wouldTrade_43 (by decide) (fun h43 => ?_) (fun h43 => ?_)
      · rw [show k = 212 by omega]
        refine V_iload_n hf dX9_wouldTrade_64 rfl rfl ?_
        exact B_iret hf he rfl dX9_wouldTrade_65 (by decide) (by decide) (by first | rfl | omega) rfl
      · refine V_aload_n hf dX9_wouldTrade_46 rfl rfl ?_
        refine B_get hf l01 rfl fl_X9_9_12 rfl dX9_wouldTrade_47 ?_
        refine V_iload_n hf dX9_wouldTrade_50 rfl rfl ?_
        refine V_aload_n hf dX9_wouldTrade_51 rfl rfl ?_
        refine B_get hf l01 rfl fl_X9_16_12 rfl dX9_wouldTrade_52 ?_
        refine V_iload_n hf dX9_wouldTrade_55 rfl rfl ?_
        refine B_iald hf l01 (fun _ => rfl) (by first | exact hR _ _ _ (by decide) | exact ⟨by omega, by omega⟩ | exact Rng.st (Rng.st hR ⟨by decide, by decide⟩) ⟨by decide, by decide⟩ _ _ _ (by decide) | exact Rng.st hR ⟨by decide, by decide⟩ _ _ _ (by decide)) (by omega) (by omega) dX9_wouldTrade_56 ?_
        refine B_iast hf l01 (by decide) (fun _ => rfl) (by first | exact hR _ _ _ (by decide) | exact ⟨by omega, by omega⟩ | exact Rng.st (Rng.st hR ⟨by decide, by decide⟩) ⟨by decide, by decide⟩ _ _ _ (by decide) | exact Rng.st hR ⟨by decide, by decide⟩ _ _ _ (by decide)) (by omega) (by omega) dX9_wouldTrade_57 ?_
        refine V_iinc (ls2 := [_, _, _]) hf dX9_wouldTrade_58 (by decide) rfl rfl rfl ?_
        refine V_goto (tgt := 39) hf dX9_wouldTrade_61 (by decide) ?_
        rw [cpy_s hk0 (by omega) (by omega) (fun q => absurd q.2.1 (by decide))]
        exact ih (k + 1) (by omega) (by omega) (by omega)
  have loop1 : ∀ (n : Nat) (k : Int), 0 ≤ k → k ≤ 212 → ((212 : Int) - k).toNat < n → B X ad (cpy (st3 σ 0 40 8 0) 0 41 0 0 43 0 k) 7 [some (.ref (ad 0 40)), some (.int (iN (k))), none] [] 0 0 := by
    intro n
    induction n with
    | zero => intros; omega
    | succ n ih =>
      intro k hk0 hk1 hn
      refine V_iload_n hf dX9_wouldTrade_7 rfl rfl ?_
      refine V_sipush hf dX9_wouldTrade_8 (by decide +kernel) ?_
      refine V_icmp_ge (tgt := 32) hf (by first | exact hR _ _ _ (by decide) | exact ⟨by omega, by omega⟩ | exact Rng.st (Rng.st hR ⟨by decide, by decide⟩) ⟨by decide, by decide⟩ _ _ _ (by decide) | exact Rng.st hR ⟨by decide, by decide⟩ _ _ _ (by decide)) (by first | exact hR _ _ _ (by decide) | exact ⟨by omega, by omega⟩ | exact Rng.st (Rng.st hR ⟨by decide, by decide⟩) ⟨by decide, by decide⟩ _ _ _ (by decide) | exact Rng.st hR ⟨by decide, by decide⟩ _ _ _ (by decide)) dX9_wouldTrade_11 (by decide) (fun h11 => ?_) (fun h11 => ?_)
      · rw [show k = 212 by omega]
        change B X ad (wouldA σ) 32 _ [] 0 0
        refine V_aload_n hf dX9_wouldTrade_32 rfl rfl ?_
        refine B_callVi hf (As := []) (e_auctions hl0 (wouldA σ) hR1 h2 hA) cv_X9_187 l01 rfl rfl rfl (Nat.le_of_ble_eq_true rfl) ⟨by decide, by decide, by decide, by decide⟩ dX9_wouldTrade_33 ?_
        refine V_istore_n (ls2 := [_, _, _]) hf dX9_wouldTrade_36 rfl (by decide) rfl rfl ?_
        refine V_iconst hf dX9_wouldTrade_37 ?_
        refine V_istore_n (ls2 := [_, _, _]) hf dX9_wouldTrade_38 rfl (by decide) rfl rfl ?_
        have bk := loop2 (212 + 1) 0 (by omega) (by omega) (by decide)
        rw [cpy_0] at bk
        exact bk
      · refine V_aload_n hf dX9_wouldTrade_14 rfl rfl ?_
        refine B_get hf l01 rfl fl_X9_16_12 rfl dX9_wouldTrade_15 ?_
        refine V_iload_n hf dX9_wouldTrade_18 rfl rfl ?_
        refine V_aload_n hf dX9_wouldTrade_19 rfl rfl ?_
        refine B_get hf l01 rfl fl_X9_9_12 rfl dX9_wouldTrade_20 ?_
        refine V_iload_n hf dX9_wouldTrade_23 rfl rfl ?_
        refine B_iald hf l01 (fun _ => rfl) (by first | exact hR _ _ _ (by decide) | exact ⟨by omega, by omega⟩ | exact Rng.st (Rng.st hR ⟨by decide, by decide⟩) ⟨by decide, by decide⟩ _ _ _ (by decide) | exact Rng.st hR ⟨by decide, by decide⟩ _ _ _ (by decide)) (by omega) (by omega) dX9_wouldTrade_24 ?_
        refine B_iast hf l01 (by decide) (fun _ => rfl) (by first | exact hR _ _ _ (by decide) | exact ⟨by omega, by omega⟩ | exact Rng.st (Rng.st hR ⟨by decide, by decide⟩) ⟨by decide, by decide⟩ _ _ _ (by decide) | exact Rng.st hR ⟨by decide, by decide⟩ _ _ _ (by decide)) (by omega) (by omega) dX9_wouldTrade_25 ?_
        refine V_iinc (ls2 := [_, _, _]) hf dX9_wouldTrade_26 (by decide) rfl rfl rfl ?_
        refine V_goto (tgt := 7) hf dX9_wouldTrade_29 (by decide) ?_
        rw [cpy_s hk0 (by omega) (by omega) (fun q => absurd q.2.1 (by decide))]
        exact ih (k + 1) (by omega) (by omega) (by omega)
  refine V_aload_n hf dX9_wouldTrade_0 rfl rfl ?_
  refine V_iconst hf dX9_wouldTrade_1 ?_
  refine B_putI (kI := 8) hf rfl l01 rfl fp_X9_38_12 rfl rfl (Nat.le_of_ble_eq_true rfl) (by decide) (cs_40_8 _ _ _ _ _) dX9_wouldTrade_2 ?_
  refine V_iconst hf dX9_wouldTrade_5 ?_
  refine V_istore_n (ls2 := [_, _, _]) hf dX9_wouldTrade_6 rfl (by decide) rfl rfl ?_
  have bk := loop1 (212 + 1) 0 (by omega) (by omega) (by decide)
  rw [cpy_0] at bk
  exact bk

set_option maxHeartbeats 4000000 in
set_option maxRecDepth 100000 in
theorem f_undo {l : Launch} {D : va_G} {K : Nat → ClassId} {ad : Adr} (hl0 : l.stackTraces = false) (σ : Mem) (hR : Rng σ) (hk : 1 ≤ σ 0 40 6 ∧ σ 0 40 6 ≤ 8) : Cb l D K ad yX9_undo (.code yX9_undo cX9_undo 2 (some .int)) 6 0 0 σ [.ref (ad 0 40)] (.inl (some (.int (iN (undoM σ 0 40 6))))) (undoM σ) := by
  refine Cb.of (own := RX9) (ls0 := [some (.ref (ad 0 40)), none]) hl0 (by decide) rfl (Nat.le_of_ble_eq_true rfl) rfl ?_
  intro X hX1 hX2 hX3 hf he hh
  subst hX1 hX2 hX3
  have y1 : st3 σ 0 40 8 0 0 40 6 = σ 0 40 6 := st3_k (by decide)
  have hR1 : Rng (st3 σ 0 40 8 0) := hR.st ⟨by decide, by decide⟩
  have y6 : undoA σ 0 40 6 = σ 0 40 6 - 1 := by
    unfold undoA
    rw [st3_self, y1]
  have loop : ∀ (n : Nat) (k : Int), 0 ≤ k → k ≤ 212 → ((212 : Int) - k).toNat < n → B X ad (cpy (undoA σ) 0 45 (212 * (undoA σ) 0 40 6) 0 41 0 k) 30 [some (.ref (ad 0 40)), some (.int (iN (k)))] [] 0 0 := by
    intro n
    induction n with
    | zero => intros; omega
    | succ n ih =>
      intro k hk0 hk1 hn
      refine V_iload_n hf dX9_undo_30 rfl rfl ?_
      refine V_sipush hf dX9_undo_31 (by decide +kernel) ?_
      refine V_icmp_ge (tgt := 64) hf (by first | exact hR _ _ _ (by decide) | exact ⟨by omega, by omega⟩ | exact Rng.st (Rng.st hR ⟨by decide, by decide⟩) ⟨by decide, by decide⟩ _ _ _ (by decide) | exact Rng.st hR ⟨by decide, by decide⟩ _ _ _ (by decide)) (by first | exact hR _ _ _ (by decide) | exact ⟨by omega, by omega⟩ | exact Rng.st (Rng.st hR ⟨by decide, by decide⟩) ⟨by decide, by decide⟩ _ _ _ (by decide) | exact Rng.st hR ⟨by decide, by decide⟩ _ _ _ (by decide)) dX9_undo_34 (by decide) (fun h34 => ?_) (fun h34 => ?_)
      · rw [show k = 212 by omega]
        refine V_aload_n hf dX9_undo_64 rfl rfl ?_
        refine B_get hf l01 rfl fl_X9_60_12 rfl dX9_undo_65 ?_
        exact B_iret hf he rfl dX9_undo_68 (by decide) (by decide) (by first | rfl | omega) rfl
      · refine V_aload_n hf dX9_undo_37 rfl rfl ?_
        refine B_get hf l01 rfl fl_X9_9_12 rfl dX9_undo_38 ?_
        refine V_iload_n hf dX9_undo_41 rfl rfl ?_
        refine V_aload_n hf dX9_undo_42 rfl rfl ?_
        refine B_get hf l01 rfl fl_X9_22_12 rfl dX9_undo_43 ?_
        refine V_sipush hf dX9_undo_46 (by decide +kernel) ?_
        refine V_aload_n hf dX9_undo_49 rfl rfl ?_
        refine B_get hf l01 rfl fl_X9_60_12 rfl dX9_undo_50 ?_
        refine V_imul hf dX9_undo_53 ?_
        refine V_iload_n hf dX9_undo_54 rfl rfl ?_
        refine V_iadd hf dX9_undo_55 ?_
        refine B_iald hf l01 (fun _ => rfl) (by rw [cpy_k (by decide), y6]; exact ⟨by omega, by omega⟩) (by rw [cpy_k (by decide), y6]; omega) (by rw [cpy_k (by decide), y6]; omega) dX9_undo_56 ?_
        refine B_iast hf l01 (by decide) (fun _ => rfl) (by first | exact hR _ _ _ (by decide) | exact ⟨by omega, by omega⟩ | exact Rng.st (Rng.st hR ⟨by decide, by decide⟩) ⟨by decide, by decide⟩ _ _ _ (by decide) | exact Rng.st hR ⟨by decide, by decide⟩ _ _ _ (by decide)) (by omega) (by omega) dX9_undo_57 ?_
        refine V_iinc (ls2 := [_, _]) hf dX9_undo_58 (by decide) rfl rfl rfl ?_
        refine V_goto (tgt := 30) hf dX9_undo_61 (by decide) ?_
        rw [show (cpy (undoA σ) 0 45 (212 * (undoA σ) 0 40 6) 0 41 0 k) 0 40 6 = (undoA σ) 0 40 6 from cpy_k (by decide)]
        rw [cpy_s hk0 (by omega) (by omega) (fun q => absurd q.2.1 (by decide))]
        exact ih (k + 1) (by omega) (by omega) (by omega)
  refine V_aload_n hf dX9_undo_0 rfl rfl ?_
  refine V_iconst hf dX9_undo_1 ?_
  refine B_putI (kI := 8) hf rfl l01 rfl fp_X9_38_12 rfl rfl (Nat.le_of_ble_eq_true rfl) (by decide) (cs_40_8 _ _ _ _ _) dX9_undo_2 ?_
  refine V_aload_n hf dX9_undo_5 rfl rfl ?_
  refine B_get hf l01 rfl fl_X9_60_12 rfl dX9_undo_6 ?_
  refine V_if_ne (tgt := 18) hf (by first | exact hR _ _ _ (by decide) | exact ⟨by omega, by omega⟩ | exact Rng.st (Rng.st hR ⟨by decide, by decide⟩) ⟨by decide, by decide⟩ _ _ _ (by decide) | exact Rng.st hR ⟨by decide, by decide⟩ _ _ _ (by decide)) dX9_undo_9 (by decide) (fun h9 => ?_) (fun h9 => ?_)
  · refine V_aload_n hf dX9_undo_18 rfl rfl ?_
    refine V_dup hf dX9_undo_19 rfl ?_
    refine B_get hf l01 rfl fl_X9_60_12 rfl dX9_undo_20 ?_
    refine V_iconst hf dX9_undo_23 ?_
    refine V_isub hf dX9_undo_24 ?_
    refine B_putI (kI := 6) hf rfl l01 rfl fp_X9_60_12 rfl rfl (Nat.le_of_ble_eq_true rfl) (by decide) (cs_40_6 _ _ _ _ _) dX9_undo_25 ?_
    refine V_iconst hf dX9_undo_28 ?_
    refine V_istore_n (ls2 := [_, _]) hf dX9_undo_29 rfl (by decide) rfl rfl ?_
    have bk := loop (212 + 1) 0 (by omega) (by omega) (by decide)
    rw [cpy_0] at bk
    exact bk
  · exact absurd h9 (by first | omega | (split at h9 <;> omega))

set_option maxHeartbeats 4000000 in
set_option maxRecDepth 100000 in
theorem fx_undo {l : Launch} {D : va_G} {K : Nat → ClassId} {ad : Adr} (hl0 : l.stackTraces = false) (σ : Mem) (hR : Rng σ) (hk : σ 0 40 6 = 0) : Cb l D K ad yX9_undo (.code yX9_undo cX9_undo 2 (some .int)) 6 0 0 σ [.ref (ad 0 40)] (.inl (some (.int (iN (-1))))) (thrM (st3 σ 0 40 8 0) 1) := by
  refine Cb.of (own := RX9) (ls0 := [some (.ref (ad 0 40)), none]) hl0 (by decide) rfl (Nat.le_of_ble_eq_true rfl) rfl ?_
  intro X hX1 hX2 hX3 hf he hh
  subst hX1 hX2 hX3
  have y1 : st3 σ 0 40 8 0 0 40 6 = σ 0 40 6 := st3_k (by decide)
  have hR1 : Rng (st3 σ 0 40 8 0) := hR.st ⟨by decide, by decide⟩
  refine V_aload_n hf dX9_undo_0 rfl rfl ?_
  refine V_iconst hf dX9_undo_1 ?_
  refine B_putI (kI := 8) hf rfl l01 rfl fp_X9_38_12 rfl rfl (Nat.le_of_ble_eq_true rfl) (by decide) (cs_40_8 _ _ _ _ _) dX9_undo_2 ?_
  refine V_aload_n hf dX9_undo_5 rfl rfl ?_
  refine B_get hf l01 rfl fl_X9_60_12 rfl dX9_undo_6 ?_
  refine V_if_ne (tgt := 18) hf (by first | exact hR _ _ _ (by decide) | exact ⟨by omega, by omega⟩ | exact Rng.st (Rng.st hR ⟨by decide, by decide⟩) ⟨by decide, by decide⟩ _ _ _ (by decide) | exact Rng.st hR ⟨by decide, by decide⟩ _ _ _ (by decide)) dX9_undo_9 (by decide) (fun h9 => ?_) (fun h9 => ?_)
  · exact absurd h9 (by first | omega | (split at h9 <;> omega))
  · refine V_aload_n hf dX9_undo_12 rfl rfl ?_
    refine V_iconst hf dX9_undo_13 ?_
    refine B_callVi hf (As := [_]) (d_throwing hl0 (st3 σ 0 40 8 0) hR1 1) cv_X9_47 l01 rfl rfl rfl (Nat.le_of_ble_eq_true rfl) ⟨by decide, by decide, by decide, by decide⟩ dX9_undo_14 ?_
    exact B_iret hf he rfl dX9_undo_17 (by decide) (by decide) rfl rfl

set_option maxHeartbeats 4000000 in
set_option maxRecDepth 100000 in
theorem f_save {l : Launch} {D : va_G} {K : Nat → ClassId} {ad : Adr} (hl0 : l.stackTraces = false) (σ : Mem) (hR : Rng σ) : Cb l D K ad yX9_saveSnapshot (.code yX9_saveSnapshot cX9_saveSnapshot 2 (some .int)) 6 0 0 σ [.ref (ad 0 40)] (.inl (some (.int (iN (msaveM σ 0 41 0))))) (msaveM σ) := by
  refine Cb.of (own := RX9) (ls0 := [some (.ref (ad 0 40)), none]) hl0 (by decide) rfl (Nat.le_of_ble_eq_true rfl) rfl ?_
  intro X hX1 hX2 hX3 hf he hh
  subst hX1 hX2 hX3
  have loop : ∀ (n : Nat) (k : Int), 0 ≤ k → k ≤ 212 → ((212 : Int) - k).toNat < n → B X ad (cpy (st3 σ 0 40 8 0) 0 41 0 0 44 0 k) 7 [some (.ref (ad 0 40)), some (.int (iN (k)))] [] 0 0 := by
    intro n
    induction n with
    | zero => intros; omega
    | succ n ih =>
      intro k hk0 hk1 hn
      refine V_iload_n hf dX9_saveSnapshot_7 rfl rfl ?_
      refine V_sipush hf dX9_saveSnapshot_8 (by decide +kernel) ?_
      refine V_icmp_ge (tgt := 32) hf (by first | exact hR _ _ _ (by decide) | exact ⟨by omega, by omega⟩ | exact Rng.st (Rng.st hR ⟨by decide, by decide⟩) ⟨by decide, by decide⟩ _ _ _ (by decide) | exact Rng.st hR ⟨by decide, by decide⟩ _ _ _ (by decide)) (by first | exact hR _ _ _ (by decide) | exact ⟨by omega, by omega⟩ | exact Rng.st (Rng.st hR ⟨by decide, by decide⟩) ⟨by decide, by decide⟩ _ _ _ (by decide) | exact Rng.st hR ⟨by decide, by decide⟩ _ _ _ (by decide)) dX9_saveSnapshot_11 (by decide) (fun h11 => ?_) (fun h11 => ?_)
      · rw [show k = 212 by omega]
        refine V_aload_n hf dX9_saveSnapshot_32 rfl rfl ?_
        refine V_iconst hf dX9_saveSnapshot_33 ?_
        refine B_putI (kI := 4) hf rfl l01 rfl fp_X9_284_12 (by decide +kernel) rfl (Nat.le_of_ble_eq_true rfl) (by decide) (cs_40_4 _ _ _ _ _) dX9_saveSnapshot_34 ?_
        refine V_aload_n hf dX9_saveSnapshot_37 rfl rfl ?_
        refine B_get hf l01 rfl fl_X9_9_12 rfl dX9_saveSnapshot_38 ?_
        refine V_iconst hf dX9_saveSnapshot_41 ?_
        refine B_iald hf l01 (fun _ => rfl) (by first | exact hR _ _ _ (by decide) | exact ⟨by omega, by omega⟩ | exact Rng.st (Rng.st hR ⟨by decide, by decide⟩) ⟨by decide, by decide⟩ _ _ _ (by decide) | exact Rng.st hR ⟨by decide, by decide⟩ _ _ _ (by decide)) (by omega) (by omega) dX9_saveSnapshot_42 ?_
        exact B_iret hf he rfl dX9_saveSnapshot_43 (by decide) (by decide) (by first | rfl | omega) rfl
      · refine V_aload_n hf dX9_saveSnapshot_14 rfl rfl ?_
        refine B_get hf l01 rfl fl_X9_19_12 rfl dX9_saveSnapshot_15 ?_
        refine V_iload_n hf dX9_saveSnapshot_18 rfl rfl ?_
        refine V_aload_n hf dX9_saveSnapshot_19 rfl rfl ?_
        refine B_get hf l01 rfl fl_X9_9_12 rfl dX9_saveSnapshot_20 ?_
        refine V_iload_n hf dX9_saveSnapshot_23 rfl rfl ?_
        refine B_iald hf l01 (fun _ => rfl) (by first | exact hR _ _ _ (by decide) | exact ⟨by omega, by omega⟩ | exact Rng.st (Rng.st hR ⟨by decide, by decide⟩) ⟨by decide, by decide⟩ _ _ _ (by decide) | exact Rng.st hR ⟨by decide, by decide⟩ _ _ _ (by decide)) (by omega) (by omega) dX9_saveSnapshot_24 ?_
        refine B_iast hf l01 (by decide) (fun _ => rfl) (by first | exact hR _ _ _ (by decide) | exact ⟨by omega, by omega⟩ | exact Rng.st (Rng.st hR ⟨by decide, by decide⟩) ⟨by decide, by decide⟩ _ _ _ (by decide) | exact Rng.st hR ⟨by decide, by decide⟩ _ _ _ (by decide)) (by omega) (by omega) dX9_saveSnapshot_25 ?_
        refine V_iinc (ls2 := [_, _]) hf dX9_saveSnapshot_26 (by decide) rfl rfl rfl ?_
        refine V_goto (tgt := 7) hf dX9_saveSnapshot_29 (by decide) ?_
        rw [cpy_s hk0 (by omega) (by omega) (fun q => absurd q.2.1 (by decide))]
        exact ih (k + 1) (by omega) (by omega) (by omega)
  refine V_aload_n hf dX9_saveSnapshot_0 rfl rfl ?_
  refine V_iconst hf dX9_saveSnapshot_1 ?_
  refine B_putI (kI := 8) hf rfl l01 rfl fp_X9_38_12 rfl rfl (Nat.le_of_ble_eq_true rfl) (by decide) (cs_40_8 _ _ _ _ _) dX9_saveSnapshot_2 ?_
  refine V_iconst hf dX9_saveSnapshot_5 ?_
  refine V_istore_n (ls2 := [_, _]) hf dX9_saveSnapshot_6 rfl (by decide) rfl rfl ?_
  have bk := loop (212 + 1) 0 (by omega) (by omega) (by decide)
  rw [cpy_0] at bk
  exact bk

set_option maxHeartbeats 4000000 in
set_option maxRecDepth 100000 in
theorem f_restore {l : Launch} {D : va_G} {K : Nat → ClassId} {ad : Adr} (hl0 : l.stackTraces = false) (σ : Mem) (hR : Rng σ) (hk : σ 0 40 4 ≠ 0) : Cb l D K ad yX9_restoreSnapshot (.code yX9_restoreSnapshot cX9_restoreSnapshot 2 (some .int)) 6 0 0 σ [.ref (ad 0 40)] (.inl (some (.int (iN (mrestM σ 0 41 0))))) (mrestM σ) := by
  refine Cb.of (own := RX9) (ls0 := [some (.ref (ad 0 40)), none]) hl0 (by decide) rfl (Nat.le_of_ble_eq_true rfl) rfl ?_
  intro X hX1 hX2 hX3 hf he hh
  subst hX1 hX2 hX3
  have y1 : st3 σ 0 40 8 0 0 40 4 = σ 0 40 4 := st3_k (by decide)
  have hR1 : Rng (st3 σ 0 40 8 0) := hR.st ⟨by decide, by decide⟩
  have loop : ∀ (n : Nat) (k : Int), 0 ≤ k → k ≤ 212 → ((212 : Int) - k).toNat < n → B X ad (cpy (st3 σ 0 40 8 0) 0 44 0 0 41 0 k) 20 [some (.ref (ad 0 40)), some (.int (iN (k)))] [] 0 0 := by
    intro n
    induction n with
    | zero => intros; omega
    | succ n ih =>
      intro k hk0 hk1 hn
      refine V_iload_n hf dX9_restoreSnapshot_20 rfl rfl ?_
      refine V_sipush hf dX9_restoreSnapshot_21 (by decide +kernel) ?_
      refine V_icmp_ge (tgt := 45) hf (by first | exact hR _ _ _ (by decide) | exact ⟨by omega, by omega⟩ | exact Rng.st (Rng.st hR ⟨by decide, by decide⟩) ⟨by decide, by decide⟩ _ _ _ (by decide) | exact Rng.st hR ⟨by decide, by decide⟩ _ _ _ (by decide)) (by first | exact hR _ _ _ (by decide) | exact ⟨by omega, by omega⟩ | exact Rng.st (Rng.st hR ⟨by decide, by decide⟩) ⟨by decide, by decide⟩ _ _ _ (by decide) | exact Rng.st hR ⟨by decide, by decide⟩ _ _ _ (by decide)) dX9_restoreSnapshot_24 (by decide) (fun h24 => ?_) (fun h24 => ?_)
      · rw [show k = 212 by omega]
        refine V_aload_n hf dX9_restoreSnapshot_45 rfl rfl ?_
        refine V_iconst hf dX9_restoreSnapshot_46 ?_
        refine B_putI (kI := 6) hf rfl l01 rfl fp_X9_60_12 rfl rfl (Nat.le_of_ble_eq_true rfl) (by decide) (cs_40_6 _ _ _ _ _) dX9_restoreSnapshot_47 ?_
        refine V_aload_n hf dX9_restoreSnapshot_50 rfl rfl ?_
        refine B_get hf l01 rfl fl_X9_9_12 rfl dX9_restoreSnapshot_51 ?_
        refine V_iconst hf dX9_restoreSnapshot_54 ?_
        refine B_iald hf l01 (fun _ => rfl) (by first | exact hR _ _ _ (by decide) | exact ⟨by omega, by omega⟩ | exact Rng.st (Rng.st hR ⟨by decide, by decide⟩) ⟨by decide, by decide⟩ _ _ _ (by decide) | exact Rng.st hR ⟨by decide, by decide⟩ _ _ _ (by decide)) (by omega) (by omega) dX9_restoreSnapshot_55 ?_
        exact B_iret hf he rfl dX9_restoreSnapshot_56 (by decide) (by decide) (by first | rfl | omega) rfl
      · refine V_aload_n hf dX9_restoreSnapshot_27 rfl rfl ?_
        refine B_get hf l01 rfl fl_X9_9_12 rfl dX9_restoreSnapshot_28 ?_
        refine V_iload_n hf dX9_restoreSnapshot_31 rfl rfl ?_
        refine V_aload_n hf dX9_restoreSnapshot_32 rfl rfl ?_
        refine B_get hf l01 rfl fl_X9_19_12 rfl dX9_restoreSnapshot_33 ?_
        refine V_iload_n hf dX9_restoreSnapshot_36 rfl rfl ?_
        refine B_iald hf l01 (fun _ => rfl) (by first | exact hR _ _ _ (by decide) | exact ⟨by omega, by omega⟩ | exact Rng.st (Rng.st hR ⟨by decide, by decide⟩) ⟨by decide, by decide⟩ _ _ _ (by decide) | exact Rng.st hR ⟨by decide, by decide⟩ _ _ _ (by decide)) (by omega) (by omega) dX9_restoreSnapshot_37 ?_
        refine B_iast hf l01 (by decide) (fun _ => rfl) (by first | exact hR _ _ _ (by decide) | exact ⟨by omega, by omega⟩ | exact Rng.st (Rng.st hR ⟨by decide, by decide⟩) ⟨by decide, by decide⟩ _ _ _ (by decide) | exact Rng.st hR ⟨by decide, by decide⟩ _ _ _ (by decide)) (by omega) (by omega) dX9_restoreSnapshot_38 ?_
        refine V_iinc (ls2 := [_, _]) hf dX9_restoreSnapshot_39 (by decide) rfl rfl rfl ?_
        refine V_goto (tgt := 20) hf dX9_restoreSnapshot_42 (by decide) ?_
        rw [cpy_s hk0 (by omega) (by omega) (fun q => absurd q.2.1 (by decide))]
        exact ih (k + 1) (by omega) (by omega) (by omega)
  refine V_aload_n hf dX9_restoreSnapshot_0 rfl rfl ?_
  refine V_iconst hf dX9_restoreSnapshot_1 ?_
  refine B_putI (kI := 8) hf rfl l01 rfl fp_X9_38_12 rfl rfl (Nat.le_of_ble_eq_true rfl) (by decide) (cs_40_8 _ _ _ _ _) dX9_restoreSnapshot_2 ?_
  refine V_aload_n hf dX9_restoreSnapshot_5 rfl rfl ?_
  refine B_get hf l01 rfl fl_X9_284_12 rfl dX9_restoreSnapshot_6 ?_
  refine V_if_ne (tgt := 18) hf (by first | exact hR _ _ _ (by decide) | exact ⟨by omega, by omega⟩ | exact Rng.st (Rng.st hR ⟨by decide, by decide⟩) ⟨by decide, by decide⟩ _ _ _ (by decide) | exact Rng.st hR ⟨by decide, by decide⟩ _ _ _ (by decide)) dX9_restoreSnapshot_9 (by decide) (fun h9 => ?_) (fun h9 => ?_)
  · refine V_iconst hf dX9_restoreSnapshot_18 ?_
    refine V_istore_n (ls2 := [_, _]) hf dX9_restoreSnapshot_19 rfl (by decide) rfl rfl ?_
    have bk := loop (212 + 1) 0 (by omega) (by omega) (by decide)
    rw [cpy_0] at bk
    exact bk
  · exact absurd h9 (by first | omega | (split at h9 <;> omega))

set_option maxHeartbeats 4000000 in
set_option maxRecDepth 100000 in
theorem fx_restore {l : Launch} {D : va_G} {K : Nat → ClassId} {ad : Adr} (hl0 : l.stackTraces = false) (σ : Mem) (hR : Rng σ) (hk : σ 0 40 4 = 0) : Cb l D K ad yX9_restoreSnapshot (.code yX9_restoreSnapshot cX9_restoreSnapshot 2 (some .int)) 6 0 0 σ [.ref (ad 0 40)] (.inl (some (.int (iN (-1))))) (thrM (st3 σ 0 40 8 0) 1) := by
  refine Cb.of (own := RX9) (ls0 := [some (.ref (ad 0 40)), none]) hl0 (by decide) rfl (Nat.le_of_ble_eq_true rfl) rfl ?_
  intro X hX1 hX2 hX3 hf he hh
  subst hX1 hX2 hX3
  have y1 : st3 σ 0 40 8 0 0 40 4 = σ 0 40 4 := st3_k (by decide)
  have hR1 : Rng (st3 σ 0 40 8 0) := hR.st ⟨by decide, by decide⟩
  refine V_aload_n hf dX9_restoreSnapshot_0 rfl rfl ?_
  refine V_iconst hf dX9_restoreSnapshot_1 ?_
  refine B_putI (kI := 8) hf rfl l01 rfl fp_X9_38_12 rfl rfl (Nat.le_of_ble_eq_true rfl) (by decide) (cs_40_8 _ _ _ _ _) dX9_restoreSnapshot_2 ?_
  refine V_aload_n hf dX9_restoreSnapshot_5 rfl rfl ?_
  refine B_get hf l01 rfl fl_X9_284_12 rfl dX9_restoreSnapshot_6 ?_
  refine V_if_ne (tgt := 18) hf (by first | exact hR _ _ _ (by decide) | exact ⟨by omega, by omega⟩ | exact Rng.st (Rng.st hR ⟨by decide, by decide⟩) ⟨by decide, by decide⟩ _ _ _ (by decide) | exact Rng.st hR ⟨by decide, by decide⟩ _ _ _ (by decide)) dX9_restoreSnapshot_9 (by decide) (fun h9 => ?_) (fun h9 => ?_)
  · exact absurd h9 (by first | omega | (split at h9 <;> omega))
  · refine V_aload_n hf dX9_restoreSnapshot_12 rfl rfl ?_
    refine V_iconst hf dX9_restoreSnapshot_13 ?_
    refine B_callVi hf (As := [_]) (d_throwing hl0 (st3 σ 0 40 8 0) hR1 1) cv_X9_47 l01 rfl rfl rfl (Nat.le_of_ble_eq_true rfl) ⟨by decide, by decide, by decide, by decide⟩ dX9_restoreSnapshot_14 ?_
    exact B_iret hf he rfl dX9_restoreSnapshot_17 (by decide) (by decide) rfl rfl

set_option maxHeartbeats 4000000 in
set_option maxRecDepth 100000 in
theorem f_fails0 {l : Launch} {D : va_G} {K : Nat → ClassId} {ad : Adr} (hl0 : l.stackTraces = false) (σ : Mem) (hR : Rng σ) (q : Int) (h14 : σ 0 40 14 = 0) : Cb l D K ad yX9_fails (.code yX9_fails cX9_fails 3 (some .int)) 3 0 0 σ [.ref (ad 0 40), .int (iN q)] (.inl (some (.int (iN (-1))))) (thrM (failA σ) 2) := by
  refine Cb.of (own := RX9) (ls0 := [some (.ref (ad 0 40)), some (.int (iN q)), none]) hl0 (by decide) rfl (Nat.le_of_ble_eq_true rfl) rfl ?_
  intro X hX1 hX2 hX3 hf he hh
  subst hX1 hX2 hX3
  have hF : Rng (failA σ) := hR.cpy (by decide)
  have y1 : failA σ 0 40 14 = σ 0 40 14 := cpy_k (by decide)
  have loop : ∀ (n : Nat) (k : Int), 0 ≤ k → k ≤ 212 → ((212 : Int) - k).toNat < n → B X ad (cpy σ 0 42 0 0 41 0 k) 2 [some (.ref (ad 0 40)), some (.int (iN (q))), some (.int (iN (k)))] [] 0 0 := by
    intro n
    induction n with
    | zero => intros; omega
    | succ n ih =>
      intro k hk0 hk1 hn
      refine V_iload_n hf dX9_fails_2 rfl rfl ?_
      refine V_sipush hf dX9_fails_3 (by decide +kernel) ?_
      refine V_icmp_ge (tgt := 27) hf (by first | exact hR _ _ _ (by decide) | exact ⟨by omega, by omega⟩ | exact Rng.st (Rng.st hR ⟨by decide, by decide⟩) ⟨by decide, by decide⟩ _ _ _ (by decide) | exact Rng.st hR ⟨by decide, by decide⟩ _ _ _ (by decide)) (by first | exact hR _ _ _ (by decide) | exact ⟨by omega, by omega⟩ | exact Rng.st (Rng.st hR ⟨by decide, by decide⟩) ⟨by decide, by decide⟩ _ _ _ (by decide) | exact Rng.st hR ⟨by decide, by decide⟩ _ _ _ (by decide)) dX9_fails_6 (by decide) (fun h6 => ?_) (fun h6 => ?_)
      · rw [show k = 212 by omega]
        change B X ad (failA σ) 27 _ [] 0 0
        refine V_aload_n hf dX9_fails_27 rfl rfl ?_
        refine B_get hf l01 rfl fl_X9_41_12 rfl dX9_fails_28 ?_
        refine V_if_ne (tgt := 40) hf (hF _ _ _ (by decide)) dX9_fails_31 (by decide) (fun h31 => ?_) (fun h31 => ?_)
        · exact absurd h31 (by first | omega | (split at h31 <;> omega))
        · refine V_aload_n hf dX9_fails_34 rfl rfl ?_
          refine V_iconst hf dX9_fails_35 ?_
          refine B_callVi hf (As := [_]) (d_throwing hl0 (failA σ) (hR.cpy (by decide)) 2) cv_X9_47 l01 rfl rfl rfl (Nat.le_of_ble_eq_true rfl) ⟨by decide, by decide, by decide, by decide⟩ dX9_fails_36 ?_
          exact B_iret hf he rfl dX9_fails_39 (by decide) (by decide) (by first | rfl | omega) rfl
      · refine V_aload_n hf dX9_fails_9 rfl rfl ?_
        refine B_get hf l01 rfl fl_X9_9_12 rfl dX9_fails_10 ?_
        refine V_iload_n hf dX9_fails_13 rfl rfl ?_
        refine V_aload_n hf dX9_fails_14 rfl rfl ?_
        refine B_get hf l01 rfl fl_X9_13_12 rfl dX9_fails_15 ?_
        refine V_iload_n hf dX9_fails_18 rfl rfl ?_
        refine B_iald hf l01 (fun _ => rfl) (by first | exact hR _ _ _ (by decide) | exact ⟨by omega, by omega⟩ | exact Rng.st (Rng.st hR ⟨by decide, by decide⟩) ⟨by decide, by decide⟩ _ _ _ (by decide) | exact Rng.st hR ⟨by decide, by decide⟩ _ _ _ (by decide)) (by omega) (by omega) dX9_fails_19 ?_
        refine B_iast hf l01 (by decide) (fun _ => rfl) (by first | exact hR _ _ _ (by decide) | exact ⟨by omega, by omega⟩ | exact Rng.st (Rng.st hR ⟨by decide, by decide⟩) ⟨by decide, by decide⟩ _ _ _ (by decide) | exact Rng.st hR ⟨by decide, by decide⟩ _ _ _ (by decide)) (by omega) (by omega) dX9_fails_20 ?_
        refine V_iinc (ls2 := [_, _, _]) hf dX9_fails_21 (by decide) rfl rfl rfl ?_
        refine V_goto (tgt := 2) hf dX9_fails_24 (by decide) ?_
        rw [cpy_s hk0 (by omega) (by omega) (fun q => absurd q.2.1 (by decide))]
        exact ih (k + 1) (by omega) (by omega) (by omega)
  refine V_iconst hf dX9_fails_0 ?_
  refine V_istore_n (ls2 := [_, _, _]) hf dX9_fails_1 rfl (by decide) rfl rfl ?_
  have bk := loop (212 + 1) 0 (by omega) (by omega) (by decide)
  rw [cpy_0] at bk
  exact bk

set_option maxHeartbeats 4000000 in
set_option maxRecDepth 100000 in
theorem f_fails1 {l : Launch} {D : va_G} {K : Nat → ClassId} {ad : Adr} (hl0 : l.stackTraces = false) (σ : Mem) (hR : Rng σ) (q : Int) (h14 : σ 0 40 14 ≠ 0) (hq : inR q) : Cb l D K ad yX9_fails (.code yX9_fails cX9_fails 3 (some .int)) 3 0 0 σ [.ref (ad 0 40), .int (iN q)] (.inl (some (.int (iN (-1))))) (failM σ q) := by
  refine Cb.of (own := RX9) (ls0 := [some (.ref (ad 0 40)), some (.int (iN q)), none]) hl0 (by decide) rfl (Nat.le_of_ble_eq_true rfl) rfl ?_
  intro X hX1 hX2 hX3 hf he hh
  subst hX1 hX2 hX3
  have hF : Rng (failA σ) := hR.cpy (by decide)
  have y1 : failA σ 0 40 14 = σ 0 40 14 := cpy_k (by decide)
  have loop : ∀ (n : Nat) (k : Int), 0 ≤ k → k ≤ 212 → ((212 : Int) - k).toNat < n → B X ad (cpy σ 0 42 0 0 41 0 k) 2 [some (.ref (ad 0 40)), some (.int (iN (q))), some (.int (iN (k)))] [] 0 0 := by
    intro n
    induction n with
    | zero => intros; omega
    | succ n ih =>
      intro k hk0 hk1 hn
      refine V_iload_n hf dX9_fails_2 rfl rfl ?_
      refine V_sipush hf dX9_fails_3 (by decide +kernel) ?_
      refine V_icmp_ge (tgt := 27) hf (by first | exact hR _ _ _ (by decide) | exact ⟨by omega, by omega⟩ | exact Rng.st (Rng.st hR ⟨by decide, by decide⟩) ⟨by decide, by decide⟩ _ _ _ (by decide) | exact Rng.st hR ⟨by decide, by decide⟩ _ _ _ (by decide)) (by first | exact hR _ _ _ (by decide) | exact ⟨by omega, by omega⟩ | exact Rng.st (Rng.st hR ⟨by decide, by decide⟩) ⟨by decide, by decide⟩ _ _ _ (by decide) | exact Rng.st hR ⟨by decide, by decide⟩ _ _ _ (by decide)) dX9_fails_6 (by decide) (fun h6 => ?_) (fun h6 => ?_)
      · rw [show k = 212 by omega]
        change B X ad (failA σ) 27 _ [] 0 0
        refine V_aload_n hf dX9_fails_27 rfl rfl ?_
        refine B_get hf l01 rfl fl_X9_41_12 rfl dX9_fails_28 ?_
        refine V_if_ne (tgt := 40) hf (hF _ _ _ (by decide)) dX9_fails_31 (by decide) (fun h31 => ?_) (fun h31 => ?_)
        · refine V_aload_n hf dX9_fails_40 rfl rfl ?_
          refine V_bipush hf dX9_fails_41 (by decide +kernel) ?_
          refine B_putI (kI := 11) hf rfl l01 rfl fp_X9_51_12 rfl rfl (Nat.le_of_ble_eq_true rfl) (by decide) (cs_40_11 _ _ _ _ _) dX9_fails_43 ?_
          refine V_aload_n hf dX9_fails_46 rfl rfl ?_
          refine V_iload_n hf dX9_fails_47 rfl rfl ?_
          refine B_putI (kI := 12) hf rfl l01 rfl fp_X9_54_12 rfl rfl (Nat.le_of_ble_eq_true rfl) (by decide) (cs_40_12 _ _ _ _ _) dX9_fails_48 ?_
          refine V_aload_n hf dX9_fails_51 rfl rfl ?_
          refine V_aload_n hf dX9_fails_52 rfl rfl ?_
          refine B_get hf l01 rfl fl_X9_41_12 rfl dX9_fails_53 ?_
          refine B_putI (kI := 13) hf rfl l01 rfl fp_X9_57_12 rfl rfl (Nat.le_of_ble_eq_true rfl) (by decide) (cs_40_13 _ _ _ _ _) dX9_fails_56 ?_
          refine V_aload_n hf dX9_fails_59 rfl rfl ?_
          refine V_iconst hf dX9_fails_60 ?_
          refine B_callVi hf (As := [_]) (d_throwing hl0 _ (((hF.st ⟨by decide, by decide⟩).st hq).st (((hF.st ⟨by decide, by decide⟩).st hq) _ _ _ (by decide))) 3) cv_X9_47 l01 rfl rfl rfl (Nat.le_of_ble_eq_true rfl) ⟨by decide, by decide, by decide, by decide⟩ dX9_fails_61 ?_
          exact B_iret hf he rfl dX9_fails_64 (by decide) (by decide) (by first | rfl | omega) rfl
        · exact absurd h31 (by first | omega | (split at h31 <;> omega))
      · refine V_aload_n hf dX9_fails_9 rfl rfl ?_
        refine B_get hf l01 rfl fl_X9_9_12 rfl dX9_fails_10 ?_
        refine V_iload_n hf dX9_fails_13 rfl rfl ?_
        refine V_aload_n hf dX9_fails_14 rfl rfl ?_
        refine B_get hf l01 rfl fl_X9_13_12 rfl dX9_fails_15 ?_
        refine V_iload_n hf dX9_fails_18 rfl rfl ?_
        refine B_iald hf l01 (fun _ => rfl) (by first | exact hR _ _ _ (by decide) | exact ⟨by omega, by omega⟩ | exact Rng.st (Rng.st hR ⟨by decide, by decide⟩) ⟨by decide, by decide⟩ _ _ _ (by decide) | exact Rng.st hR ⟨by decide, by decide⟩ _ _ _ (by decide)) (by omega) (by omega) dX9_fails_19 ?_
        refine B_iast hf l01 (by decide) (fun _ => rfl) (by first | exact hR _ _ _ (by decide) | exact ⟨by omega, by omega⟩ | exact Rng.st (Rng.st hR ⟨by decide, by decide⟩) ⟨by decide, by decide⟩ _ _ _ (by decide) | exact Rng.st hR ⟨by decide, by decide⟩ _ _ _ (by decide)) (by omega) (by omega) dX9_fails_20 ?_
        refine V_iinc (ls2 := [_, _, _]) hf dX9_fails_21 (by decide) rfl rfl rfl ?_
        refine V_goto (tgt := 2) hf dX9_fails_24 (by decide) ?_
        rw [cpy_s hk0 (by omega) (by omega) (fun q => absurd q.2.1 (by decide))]
        exact ih (k + 1) (by omega) (by omega) (by omega)
  refine V_iconst hf dX9_fails_0 ?_
  refine V_istore_n (ls2 := [_, _, _]) hf dX9_fails_1 rfl (by decide) rfl rfl ?_
  have bk := loop (212 + 1) 0 (by omega) (by omega) (by decide)
  rw [cpy_0] at bk
  exact bk

set_option maxHeartbeats 4000000 in
set_option maxRecDepth 100000 in
theorem f_sign {l : Launch} {D : va_G} {K : Nat → ClassId} {ad : Adr} (hl0 : l.stackTraces = false) (σ : Mem) (hR : Rng σ) (c : Int) (hl : 0 ≤ σ 0 40 17 ∧ σ 0 40 17 < 160) : Cb l D K ad yX9_sign (.code yX9_sign cX9_sign 2 none) 1 0 0 σ [.ref (ad 0 40), .int (iN c)] (.inl none) (signM σ c) := by
  refine Cb.of (own := RX9) (ls0 := [some (.ref (ad 0 40)), some (.int (iN c))]) hl0 (by decide) rfl (Nat.le_of_ble_eq_true rfl) rfl ?_
  intro X hX1 hX2 hX3 hf he hh
  subst hX1 hX2 hX3
  refine V_aload_n hf dX9_sign_0 rfl rfl ?_
  refine B_get hf l01 rfl fl_X9_32_12 rfl dX9_sign_1 ?_
  refine V_aload_n hf dX9_sign_4 rfl rfl ?_
  refine B_get hf l01 rfl fl_X9_224_12 rfl dX9_sign_5 ?_
  refine V_iload_n hf dX9_sign_8 rfl rfl ?_
  refine B_iast hf l01 (by decide) (fun _ => rfl) (by first | exact hR _ _ _ (by decide) | exact ⟨by omega, by omega⟩ | exact Rng.st (Rng.st hR ⟨by decide, by decide⟩) ⟨by decide, by decide⟩ _ _ _ (by decide) | exact Rng.st hR ⟨by decide, by decide⟩ _ _ _ (by decide)) (by omega) (by omega) dX9_sign_9 ?_
  refine V_aload_n hf dX9_sign_10 rfl rfl ?_
  refine V_dup hf dX9_sign_11 rfl ?_
  refine B_get hf l01 rfl fl_X9_224_12 rfl dX9_sign_12 ?_
  refine V_iconst hf dX9_sign_15 ?_
  refine V_iadd hf dX9_sign_16 ?_
  refine B_putI (kI := 17) hf rfl l01 rfl fp_X9_224_12 rfl rfl (Nat.le_of_ble_eq_true rfl) (by decide) (cs_40_17 _ _ _ _ _) dX9_sign_17 ?_
  exact B_vret hf he dX9_sign_20 (by decide) (by decide) rfl
