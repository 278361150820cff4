/-! the reference: calls that read -/

set_option maxHeartbeats 4000000 in
set_option maxRecDepth 100000 in
theorem d_total {l : Launch} {D : va_G} {K : Nat → ClassId} {ad : Adr} (hl0 : l.stackTraces = false) (σ : Mem) (hR : Rng σ) (w : Int) (hw : 0 ≤ w ∧ w < 212) : Cb l D K ad yX9_total (.code yX9_total cX9_total 2 (some .int)) 1 0 0 σ [.ref (ad 0 40), .int (iN w)] (.inl (some (.int (iN (σ 0 41 w))))) (st3 σ 0 40 8 0) := by
  refine Cb.of (own := RX9) (ls0 := [some (.ref (ad 0 40)), some (.int (iN w))]) hl0 (by decide) rfl (Nat.le_of_ble_eq_true rfl) rfl ?_
  intro X hX1 hX2 hX3 hf he hh
  subst hX1 hX2 hX3
  refine V_aload_n hf dX9_total_0 rfl rfl ?_
  refine V_iconst hf dX9_total_1 ?_
  refine B_putI (kI := 8) hf rfl l01 rfl fp_X9_38_12 rfl rfl (Nat.le_of_ble_eq_true rfl) (by decide) (cs_40_8 _ _ _ _ _) dX9_total_2 ?_
  refine V_aload_n hf dX9_total_5 rfl rfl ?_
  refine B_get hf l01 rfl fl_X9_9_12 rfl dX9_total_6 ?_
  refine V_iload_n hf dX9_total_9 rfl rfl ?_
  refine B_iald hf l01 (fun _ => rfl) (by first | exact hR _ _ _ (by decide) | exact ⟨by omega, by omega⟩ | exact Rng.st (Rng.st hR ⟨by decide, by decide⟩) ⟨by decide, by decide⟩ _ _ _ (by decide) | exact Rng.st hR ⟨by decide, by decide⟩ _ _ _ (by decide)) (by omega) (by omega) dX9_total_10 ?_
  exact B_iret hf he rfl dX9_total_11 (by decide) (by decide) (by rw [st3_j (by decide)]) rfl

set_option maxHeartbeats 4000000 in
set_option maxRecDepth 100000 in
theorem d_shipCount {l : Launch} {D : va_G} {K : Nat → ClassId} {ad : Adr} (hl0 : l.stackTraces = false) (σ : Mem) (hR : Rng σ) : Cb l D K ad yX9_shipCount (.code yX9_shipCount cX9_shipCount 1 (some .int)) 5 0 0 σ [.ref (ad 0 40)] (.inl (some (.int (iN (σ 0 41 0))))) (st3 σ 0 40 8 0) := by
  refine Cb.of (own := RX9) (ls0 := [some (.ref (ad 0 40))]) hl0 (by decide) rfl (Nat.le_of_ble_eq_true rfl) rfl ?_
  intro X hX1 hX2 hX3 hf he hh
  subst hX1 hX2 hX3
  refine V_aload_n hf dX9_shipCount_0 rfl rfl ?_
  refine V_iconst hf dX9_shipCount_1 ?_
  refine B_callVi hf (As := [_]) (d_total hl0 σ hR 0 (by decide)) cv_X9_200 l01 rfl rfl rfl (Nat.le_of_ble_eq_true rfl) ⟨by decide, by decide, by decide, by decide⟩ dX9_shipCount_2 ?_
  exact B_iret hf he rfl dX9_shipCount_5 (by decide) (by decide) rfl rfl

set_option maxHeartbeats 4000000 in
set_option maxRecDepth 100000 in
theorem d_barnacleCount {l : Launch} {D : va_G} {K : Nat → ClassId} {ad : Adr} (hl0 : l.stackTraces = false) (σ : Mem) (hR : Rng σ) : Cb l D K ad yX9_barnacleCount (.code yX9_barnacleCount cX9_barnacleCount 1 (some .int)) 5 0 0 σ [.ref (ad 0 40)] (.inl (some (.int (iN (σ 0 41 1))))) (st3 σ 0 40 8 0) := by
  refine Cb.of (own := RX9) (ls0 := [some (.ref (ad 0 40))]) hl0 (by decide) rfl (Nat.le_of_ble_eq_true rfl) rfl ?_
  intro X hX1 hX2 hX3 hf he hh
  subst hX1 hX2 hX3
  refine V_aload_n hf dX9_barnacleCount_0 rfl rfl ?_
  refine V_iconst hf dX9_barnacleCount_1 ?_
  refine B_callVi hf (As := [_]) (d_total hl0 σ hR 1 (by decide)) cv_X9_200 l01 rfl rfl rfl (Nat.le_of_ble_eq_true rfl) ⟨by decide, by decide, by decide, by decide⟩ dX9_barnacleCount_2 ?_
  exact B_iret hf he rfl dX9_barnacleCount_5 (by decide) (by decide) rfl rfl

set_option maxHeartbeats 4000000 in
set_option maxRecDepth 100000 in
theorem d_bidCount {l : Launch} {D : va_G} {K : Nat → ClassId} {ad : Adr} (hl0 : l.stackTraces = false) (σ : Mem) (hR : Rng σ) : Cb l D K ad yX9_bidCount (.code yX9_bidCount cX9_bidCount 1 (some .int)) 5 0 0 σ [.ref (ad 0 40)] (.inl (some (.int (iN (σ 0 41 2))))) (st3 σ 0 40 8 0) := by
  refine Cb.of (own := RX9) (ls0 := [some (.ref (ad 0 40))]) hl0 (by decide) rfl (Nat.le_of_ble_eq_true rfl) rfl ?_
  intro X hX1 hX2 hX3 hf he hh
  subst hX1 hX2 hX3
  refine V_aload_n hf dX9_bidCount_0 rfl rfl ?_
  refine V_iconst hf dX9_bidCount_1 ?_
  refine B_callVi hf (As := [_]) (d_total hl0 σ hR 2 (by decide)) cv_X9_200 l01 rfl rfl rfl (Nat.le_of_ble_eq_true rfl) ⟨by decide, by decide, by decide, by decide⟩ dX9_bidCount_2 ?_
  exact B_iret hf he rfl dX9_bidCount_5 (by decide) (by decide) rfl rfl

set_option maxHeartbeats 4000000 in
set_option maxRecDepth 100000 in
theorem d_offerCount {l : Launch} {D : va_G} {K : Nat → ClassId} {ad : Adr} (hl0 : l.stackTraces = false) (σ : Mem) (hR : Rng σ) : Cb l D K ad yX9_offerCount (.code yX9_offerCount cX9_offerCount 1 (some .int)) 5 0 0 σ [.ref (ad 0 40)] (.inl (some (.int (iN (σ 0 41 3))))) (st3 σ 0 40 8 0) := by
  refine Cb.of (own := RX9) (ls0 := [some (.ref (ad 0 40))]) hl0 (by decide) rfl (Nat.le_of_ble_eq_true rfl) rfl ?_
  intro X hX1 hX2 hX3 hf he hh
  subst hX1 hX2 hX3
  refine V_aload_n hf dX9_offerCount_0 rfl rfl ?_
  refine V_iconst hf dX9_offerCount_1 ?_
  refine B_callVi hf (As := [_]) (d_total hl0 σ hR 3 (by decide)) cv_X9_200 l01 rfl rfl rfl (Nat.le_of_ble_eq_true rfl) ⟨by decide, by decide, by decide, by decide⟩ dX9_offerCount_2 ?_
  exact B_iret hf he rfl dX9_offerCount_5 (by decide) (by decide) rfl rfl

set_option maxHeartbeats 4000000 in
set_option maxRecDepth 100000 in
theorem d_fee {l : Launch} {D : va_G} {K : Nat → ClassId} {ad : Adr} (hl0 : l.stackTraces = false) (σ : Mem) (hR : Rng σ) : Cb l D K ad yX9_fee (.code yX9_fee cX9_fee 1 (some .int)) 5 0 0 σ [.ref (ad 0 40)] (.inl (some (.int (iN (σ 0 41 6))))) (st3 σ 0 40 8 0) := by
  refine Cb.of (own := RX9) (ls0 := [some (.ref (ad 0 40))]) hl0 (by decide) rfl (Nat.le_of_ble_eq_true rfl) rfl ?_
  intro X hX1 hX2 hX3 hf he hh
  subst hX1 hX2 hX3
  refine V_aload_n hf dX9_fee_0 rfl rfl ?_
  refine V_bipush hf dX9_fee_1 (by decide +kernel) ?_
  refine B_callVi hf (As := [_]) (d_total hl0 σ hR 6 (by decide)) cv_X9_200 l01 rfl rfl rfl (Nat.le_of_ble_eq_true rfl) ⟨by decide, by decide, by decide, by decide⟩ dX9_fee_3 ?_
  exact B_iret hf he rfl dX9_fee_6 (by decide) (by decide) rfl rfl

set_option maxHeartbeats 4000000 in
set_option maxRecDepth 100000 in
theorem d_tideCount {l : Launch} {D : va_G} {K : Nat → ClassId} {ad : Adr} (hl0 : l.stackTraces = false) (σ : Mem) (hR : Rng σ) : Cb l D K ad yX9_tideCount (.code yX9_tideCount cX9_tideCount 1 (some .int)) 5 0 0 σ [.ref (ad 0 40)] (.inl (some (.int (iN (σ 0 41 7))))) (st3 σ 0 40 8 0) := by
  refine Cb.of (own := RX9) (ls0 := [some (.ref (ad 0 40))]) hl0 (by decide) rfl (Nat.le_of_ble_eq_true rfl) rfl ?_
  intro X hX1 hX2 hX3 hf he hh
  subst hX1 hX2 hX3
  refine V_aload_n hf dX9_tideCount_0 rfl rfl ?_
  refine V_bipush hf dX9_tideCount_1 (by decide +kernel) ?_
  refine B_callVi hf (As := [_]) (d_total hl0 σ hR 7 (by decide)) cv_X9_200 l01 rfl rfl rfl (Nat.le_of_ble_eq_true rfl) ⟨by decide, by decide, by decide, by decide⟩ dX9_tideCount_3 ?_
  exact B_iret hf he rfl dX9_tideCount_6 (by decide) (by decide) rfl rfl

set_option maxHeartbeats 4000000 in
set_option maxRecDepth 100000 in
theorem d_tradeCount {l : Launch} {D : va_G} {K : Nat → ClassId} {ad : Adr} (hl0 : l.stackTraces = false) (σ : Mem) (hR : Rng σ) : Cb l D K ad yX9_tradeCount (.code yX9_tradeCount cX9_tradeCount 1 (some .int)) 5 0 0 σ [.ref (ad 0 40)] (.inl (some (.int (iN (σ 0 41 8))))) (st3 σ 0 40 8 0) := by
  refine Cb.of (own := RX9) (ls0 := [some (.ref (ad 0 40))]) hl0 (by decide) rfl (Nat.le_of_ble_eq_true rfl) rfl ?_
  intro X hX1 hX2 hX3 hf he hh
  subst hX1 hX2 hX3
  refine V_aload_n hf dX9_tradeCount_0 rfl rfl ?_
  refine V_bipush hf dX9_tradeCount_1 (by decide +kernel) ?_
  refine B_callVi hf (As := [_]) (d_total hl0 σ hR 8 (by decide)) cv_X9_200 l01 rfl rfl rfl (Nat.le_of_ble_eq_true rfl) ⟨by decide, by decide, by decide, by decide⟩ dX9_tradeCount_3 ?_
  exact B_iret hf he rfl dX9_tradeCount_6 (by decide) (by decide) rfl rfl

set_option maxHeartbeats 4000000 in
set_option maxRecDepth 100000 in
theorem d_turnover {l : Launch} {D : va_G} {K : Nat → ClassId} {ad : Adr} (hl0 : l.stackTraces = false) (σ : Mem) (hR : Rng σ) : Cb l D K ad yX9_turnover (.code yX9_turnover cX9_turnover 1 (some .int)) 5 0 0 σ [.ref (ad 0 40)] (.inl (some (.int (iN (σ 0 41 9))))) (st3 σ 0 40 8 0) := by
  refine Cb.of (own := RX9) (ls0 := [some (.ref (ad 0 40))]) hl0 (by decide) rfl (Nat.le_of_ble_eq_true rfl) rfl ?_
  intro X hX1 hX2 hX3 hf he hh
  subst hX1 hX2 hX3
  refine V_aload_n hf dX9_turnover_0 rfl rfl ?_
  refine V_bipush hf dX9_turnover_1 (by decide +kernel) ?_
  refine B_callVi hf (As := [_]) (d_total hl0 σ hR 9 (by decide)) cv_X9_200 l01 rfl rfl rfl (Nat.le_of_ble_eq_true rfl) ⟨by decide, by decide, by decide, by decide⟩ dX9_turnover_3 ?_
  exact B_iret hf he rfl dX9_turnover_6 (by decide) (by decide) rfl rfl

set_option maxHeartbeats 4000000 in
set_option maxRecDepth 100000 in
theorem d_exchangeCoins {l : Launch} {D : va_G} {K : Nat → ClassId} {ad : Adr} (hl0 : l.stackTraces = false) (σ : Mem) (hR : Rng σ) : Cb l D K ad yX9_exchangeCoins (.code yX9_exchangeCoins cX9_exchangeCoins 1 (some .int)) 5 0 0 σ [.ref (ad 0 40)] (.inl (some (.int (iN (σ 0 41 10))))) (st3 σ 0 40 8 0) := by
  refine Cb.of (own := RX9) (ls0 := [some (.ref (ad 0 40))]) hl0 (by decide) rfl (Nat.le_of_ble_eq_true rfl) rfl ?_
  intro X hX1 hX2 hX3 hf he hh
  subst hX1 hX2 hX3
  refine V_aload_n hf dX9_exchangeCoins_0 rfl rfl ?_
  refine V_bipush hf dX9_exchangeCoins_1 (by decide +kernel) ?_
  refine B_callVi hf (As := [_]) (d_total hl0 σ hR 10 (by decide)) cv_X9_200 l01 rfl rfl rfl (Nat.le_of_ble_eq_true rfl) ⟨by decide, by decide, by decide, by decide⟩ dX9_exchangeCoins_3 ?_
  exact B_iret hf he rfl dX9_exchangeCoins_6 (by decide) (by decide) rfl rfl

set_option maxHeartbeats 4000000 in
set_option maxRecDepth 100000 in
theorem d_expiredCount {l : Launch} {D : va_G} {K : Nat → ClassId} {ad : Adr} (hl0 : l.stackTraces = false) (σ : Mem) (hR : Rng σ) : Cb l D K ad yX9_expiredCount (.code yX9_expiredCount cX9_expiredCount 1 (some .int)) 5 0 0 σ [.ref (ad 0 40)] (.inl (some (.int (iN (σ 0 41 11))))) (st3 σ 0 40 8 0) := by
  refine Cb.of (own := RX9) (ls0 := [some (.ref (ad 0 40))]) hl0 (by decide) rfl (Nat.le_of_ble_eq_true rfl) rfl ?_
  intro X hX1 hX2 hX3 hf he hh
  subst hX1 hX2 hX3
  refine V_aload_n hf dX9_expiredCount_0 rfl rfl ?_
  refine V_bipush hf dX9_expiredCount_1 (by decide +kernel) ?_
  refine B_callVi hf (As := [_]) (d_total hl0 σ hR 11 (by decide)) cv_X9_200 l01 rfl rfl rfl (Nat.le_of_ble_eq_true rfl) ⟨by decide, by decide, by decide, by decide⟩ dX9_expiredCount_3 ?_
  exact B_iret hf he rfl dX9_expiredCount_6 (by decide) (by decide) rfl rfl

set_option maxHeartbeats 4000000 in
set_option maxRecDepth 100000 in
theorem d_allCoinsGiven {l : Launch} {D : va_G} {K : Nat → ClassId} {ad : Adr} (hl0 : l.stackTraces = false) (σ : Mem) (hR : Rng σ) : Cb l D K ad yX9_allCoinsGiven (.code yX9_allCoinsGiven cX9_allCoinsGiven 1 (some .int)) 5 0 0 σ [.ref (ad 0 40)] (.inl (some (.int (iN (σ 0 41 12))))) (st3 σ 0 40 8 0) := by
  refine Cb.of (own := RX9) (ls0 := [some (.ref (ad 0 40))]) hl0 (by decide) rfl (Nat.le_of_ble_eq_true rfl) rfl ?_
  intro X hX1 hX2 hX3 hf he hh
  subst hX1 hX2 hX3
  refine V_aload_n hf dX9_allCoinsGiven_0 rfl rfl ?_
  refine V_bipush hf dX9_allCoinsGiven_1 (by decide +kernel) ?_
  refine B_callVi hf (As := [_]) (d_total hl0 σ hR 12 (by decide)) cv_X9_200 l01 rfl rfl rfl (Nat.le_of_ble_eq_true rfl) ⟨by decide, by decide, by decide, by decide⟩ dX9_allCoinsGiven_3 ?_
  exact B_iret hf he rfl dX9_allCoinsGiven_6 (by decide) (by decide) rfl rfl

set_option maxHeartbeats 4000000 in
set_option maxRecDepth 100000 in
theorem d_coinsOf {l : Launch} {D : va_G} {K : Nat → ClassId} {ad : Adr} (hl0 : l.stackTraces = false) (σ : Mem) (hR : Rng σ) (hN : NI (σ 0 41)) (s : Int) (hs : inR s) (hk : 0 ≤ s ∧ s < σ 0 41 0) : Cb l D K ad yX9_coinsOf (.code yX9_coinsOf cX9_coinsOf 2 (some .int)) 5 0 0 σ [.ref (ad 0 40), .int (iN s)] (.inl (some (.int (iN (σ 0 41 (14 + 2 * s)))))) (st3 σ 0 40 8 0) := by
  refine Cb.of (own := RX9) (ls0 := [some (.ref (ad 0 40)), some (.int (iN s))]) hl0 (by decide) rfl (Nat.le_of_ble_eq_true rfl) rfl ?_
  intro X hX1 hX2 hX3 hf he hh
  subst hX1 hX2 hX3
  have e41 : st3 σ 0 40 8 0 0 41 = σ 0 41 := by
    funext k
    exact st3_j (by decide)
  have z0 := congrFun e41 0
  have z1 := congrFun e41 1
  have z2 := congrFun e41 2
  have z3 := congrFun e41 3
  have hN1 : NI (st3 σ 0 40 8 0 0 41) := by
    rw [e41]
    exact hN
  have hR1 : Rng (st3 σ 0 40 8 0) := hR.st ⟨by decide, by decide⟩
  have n0 := hN.n0
  have n1 := hN.n1
  have n2 := hN.n2
  have n3 := hN.n3
  refine V_aload_n hf dX9_coinsOf_0 rfl rfl ?_
  refine V_iconst hf dX9_coinsOf_1 ?_
  refine B_putI (kI := 8) hf rfl l01 rfl fp_X9_38_12 rfl rfl (Nat.le_of_ble_eq_true rfl) (by decide) (cs_40_8 _ _ _ _ _) dX9_coinsOf_2 ?_
  refine V_aload_n hf dX9_coinsOf_5 rfl rfl ?_
  refine V_iload_n hf dX9_coinsOf_6 rfl rfl ?_
  refine B_callVi hf (As := [_]) (d_isShip hl0 (st3 σ 0 40 8 0) hR1 hN1 s hs) cv_X9_120 l01 rfl rfl rfl (Nat.le_of_ble_eq_true rfl) ⟨by decide, by decide, by decide, by decide⟩ dX9_coinsOf_7 ?_
  refine V_if_eq (tgt := 25) hf (by split <;> exact ⟨by decide, by decide⟩) dX9_coinsOf_10 (by decide) (fun h10 => ?_) (fun h10 => ?_)
  · exact absurd h10 (by first | omega | (split at h10 <;> omega))
  · refine V_aload_n hf dX9_coinsOf_13 rfl rfl ?_
    refine B_get hf l01 rfl fl_X9_9_12 rfl dX9_coinsOf_14 ?_
    refine V_iload_n hf dX9_coinsOf_17 rfl rfl ?_
    refine B_callSi hf (As := [_]) (d_shipAt hl0 (st3 σ 0 40 8 0) s) cvs_X9_67 rfl (Nat.le_of_ble_eq_true rfl) ⟨by decide, by decide, by decide, by decide⟩ dX9_coinsOf_18 ?_
    refine B_iald hf l01 (fun _ => rfl) ⟨by omega, by omega⟩ (by omega) (by omega) dX9_coinsOf_21 ?_
    refine V_goto (tgt := 30) hf dX9_coinsOf_22 (by decide) ?_
    exact B_iret hf he rfl dX9_coinsOf_30 (by decide) (by decide) (by first | rw [e41] | (simp only [e41]; done) | rfl) rfl

set_option maxHeartbeats 4000000 in
set_option maxRecDepth 100000 in
theorem dx_coinsOf {l : Launch} {D : va_G} {K : Nat → ClassId} {ad : Adr} (hl0 : l.stackTraces = false) (σ : Mem) (hR : Rng σ) (hN : NI (σ 0 41)) (s : Int) (hs : inR s) (hk : ¬ (0 ≤ s ∧ s < σ 0 41 0)) : Cb l D K ad yX9_coinsOf (.code yX9_coinsOf cX9_coinsOf 2 (some .int)) 5 0 0 σ [.ref (ad 0 40), .int (iN s)] (.inl (some (.int (iN (-1))))) (st3 (st3 σ 0 40 8 0) 0 40 8 1) := by
  refine Cb.of (own := RX9) (ls0 := [some (.ref (ad 0 40)), some (.int (iN s))]) hl0 (by decide) rfl (Nat.le_of_ble_eq_true rfl) rfl ?_
  intro X hX1 hX2 hX3 hf he hh
  subst hX1 hX2 hX3
  have e41 : st3 σ 0 40 8 0 0 41 = σ 0 41 := by
    funext k
    exact st3_j (by decide)
  have z0 := congrFun e41 0
  have z1 := congrFun e41 1
  have z2 := congrFun e41 2
  have z3 := congrFun e41 3
  have hN1 : NI (st3 σ 0 40 8 0 0 41) := by
    rw [e41]
    exact hN
  have hR1 : Rng (st3 σ 0 40 8 0) := hR.st ⟨by decide, by decide⟩
  have n0 := hN.n0
  have n1 := hN.n1
  have n2 := hN.n2
  have n3 := hN.n3
  refine V_aload_n hf dX9_coinsOf_0 rfl rfl ?_
  refine V_iconst hf dX9_coinsOf_1 ?_
  refine B_putI (kI := 8) hf rfl l01 rfl fp_X9_38_12 rfl rfl (Nat.le_of_ble_eq_true rfl) (by decide) (cs_40_8 _ _ _ _ _) dX9_coinsOf_2 ?_
  refine V_aload_n hf dX9_coinsOf_5 rfl rfl ?_
  refine V_iload_n hf dX9_coinsOf_6 rfl rfl ?_
  refine B_callVi hf (As := [_]) (d_isShip hl0 (st3 σ 0 40 8 0) hR1 hN1 s hs) cv_X9_120 l01 rfl rfl rfl (Nat.le_of_ble_eq_true rfl) ⟨by decide, by decide, by decide, by decide⟩ dX9_coinsOf_7 ?_
  refine V_if_eq (tgt := 25) hf (by split <;> exact ⟨by decide, by decide⟩) dX9_coinsOf_10 (by decide) (fun h10 => ?_) (fun h10 => ?_)
  · refine V_aload_n hf dX9_coinsOf_25 rfl rfl ?_
    refine V_iconst hf dX9_coinsOf_26 ?_
    refine B_callVi hf (As := [_]) (d_throwing hl0 (st3 σ 0 40 8 0) hR1 1) cv_X9_47 l01 rfl rfl rfl (Nat.le_of_ble_eq_true rfl) ⟨by decide, by decide, by decide, by decide⟩ dX9_coinsOf_27 ?_
    exact B_iret hf he rfl dX9_coinsOf_30 (by decide) (by decide) rfl rfl
  · exact absurd h10 (by first | omega | (split at h10 <;> omega))

set_option maxHeartbeats 4000000 in
set_option maxRecDepth 100000 in
theorem d_reservedCoins {l : Launch} {D : va_G} {K : Nat → ClassId} {ad : Adr} (hl0 : l.stackTraces = false) (σ : Mem) (hR : Rng σ) (hN : NI (σ 0 41)) (s : Int) (hs : inR s) (hk : 0 ≤ s ∧ s < σ 0 41 0) : Cb l D K ad yX9_reservedCoins (.code yX9_reservedCoins cX9_reservedCoins 2 (some .int)) 5 0 0 σ [.ref (ad 0 40), .int (iN s)] (.inl (some (.int (iN (mres (σ 0 41) s))))) (st3 σ 0 40 8 0) := by
  refine Cb.of (own := RX9) (ls0 := [some (.ref (ad 0 40)), some (.int (iN s))]) hl0 (by decide) rfl (Nat.le_of_ble_eq_true rfl) rfl ?_
  intro X hX1 hX2 hX3 hf he hh
  subst hX1 hX2 hX3
  have e41 : st3 σ 0 40 8 0 0 41 = σ 0 41 := by
    funext k
    exact st3_j (by decide)
  have z0 := congrFun e41 0
  have z1 := congrFun e41 1
  have z2 := congrFun e41 2
  have z3 := congrFun e41 3
  have hN1 : NI (st3 σ 0 40 8 0 0 41) := by
    rw [e41]
    exact hN
  have hR1 : Rng (st3 σ 0 40 8 0) := hR.st ⟨by decide, by decide⟩
  have n0 := hN.n0
  have n1 := hN.n1
  have n2 := hN.n2
  have n3 := hN.n3
  refine V_aload_n hf dX9_reservedCoins_0 rfl rfl ?_
  refine V_iconst hf dX9_reservedCoins_1 ?_
  refine B_putI (kI := 8) hf rfl l01 rfl fp_X9_38_12 rfl rfl (Nat.le_of_ble_eq_true rfl) (by decide) (cs_40_8 _ _ _ _ _) dX9_reservedCoins_2 ?_
  refine V_aload_n hf dX9_reservedCoins_5 rfl rfl ?_
  refine V_iload_n hf dX9_reservedCoins_6 rfl rfl ?_
  refine B_callVi hf (As := [_]) (d_isShip hl0 (st3 σ 0 40 8 0) hR1 hN1 s hs) cv_X9_120 l01 rfl rfl rfl (Nat.le_of_ble_eq_true rfl) ⟨by decide, by decide, by decide, by decide⟩ dX9_reservedCoins_7 ?_
  refine V_if_eq (tgt := 21) hf (by split <;> exact ⟨by decide, by decide⟩) dX9_reservedCoins_10 (by decide) (fun h10 => ?_) (fun h10 => ?_)
  · exact absurd h10 (by first | omega | (split at h10 <;> omega))
  · refine V_aload_n hf dX9_reservedCoins_13 rfl rfl ?_
    refine V_iload_n hf dX9_reservedCoins_14 rfl rfl ?_
    refine B_callVi hf (As := [_]) (d_res hl0 (st3 σ 0 40 8 0) hR1 hN1 s hs) cv_X9_138 l01 rfl rfl rfl (Nat.le_of_ble_eq_true rfl) ⟨by decide, by decide, by decide, by decide⟩ dX9_reservedCoins_15 ?_
    refine V_goto (tgt := 26) hf dX9_reservedCoins_18 (by decide) ?_
    exact B_iret hf he rfl dX9_reservedCoins_26 (by decide) (by decide) (by first | rw [e41] | (simp only [e41]; done) | rfl) rfl

set_option maxHeartbeats 4000000 in
set_option maxRecDepth 100000 in
theorem dx_reservedCoins {l : Launch} {D : va_G} {K : Nat → ClassId} {ad : Adr} (hl0 : l.stackTraces = false) (σ : Mem) (hR : Rng σ) (hN : NI (σ 0 41)) (s : Int) (hs : inR s) (hk : ¬ (0 ≤ s ∧ s < σ 0 41 0)) : Cb l D K ad yX9_reservedCoins (.code yX9_reservedCoins cX9_reservedCoins 2 (some .int)) 5 0 0 σ [.ref (ad 0 40), .int (iN s)] (.inl (some (.int (iN (-1))))) (st3 (st3 σ 0 40 8 0) 0 40 8 1) := by
  refine Cb.of (own := RX9) (ls0 := [some (.ref (ad 0 40)), some (.int (iN s))]) hl0 (by decide) rfl (Nat.le_of_ble_eq_true rfl) rfl ?_
  intro X hX1 hX2 hX3 hf he hh
  subst hX1 hX2 hX3
  have e41 : st3 σ 0 40 8 0 0 41 = σ 0 41 := by
    funext k
    exact st3_j (by decide)
  have z0 := congrFun e41 0
  have z1 := congrFun e41 1
  have z2 := congrFun e41 2
  have z3 := congrFun e41 3
  have hN1 : NI (st3 σ 0 40 8 0 0 41) := by
    rw [e41]
    exact hN
  have hR1 : Rng (st3 σ 0 40 8 0) := hR.st ⟨by decide, by decide⟩
  have n0 := hN.n0
  have n1 := hN.n1
  have n2 := hN.n2
  have n3 := hN.n3
  refine V_aload_n hf dX9_reservedCoins_0 rfl rfl ?_
  refine V_iconst hf dX9_reservedCoins_1 ?_
  refine B_putI (kI := 8) hf rfl l01 rfl fp_X9_38_12 rfl rfl (Nat.le_of_ble_eq_true rfl) (by decide) (cs_40_8 _ _ _ _ _) dX9_reservedCoins_2 ?_
  refine V_aload_n hf dX9_reservedCoins_5 rfl rfl ?_
  refine V_iload_n hf dX9_reservedCoins_6 rfl rfl ?_
  refine B_callVi hf (As := [_]) (d_isShip hl0 (st3 σ 0 40 8 0) hR1 hN1 s hs) cv_X9_120 l01 rfl rfl rfl (Nat.le_of_ble_eq_true rfl) ⟨by decide, by decide, by decide, by decide⟩ dX9_reservedCoins_7 ?_
  refine V_if_eq (tgt := 21) hf (by split <;> exact ⟨by decide, by decide⟩) dX9_reservedCoins_10 (by decide) (fun h10 => ?_) (fun h10 => ?_)
  · refine V_aload_n hf dX9_reservedCoins_21 rfl rfl ?_
    refine V_iconst hf dX9_reservedCoins_22 ?_
    refine B_callVi hf (As := [_]) (d_throwing hl0 (st3 σ 0 40 8 0) hR1 1) cv_X9_47 l01 rfl rfl rfl (Nat.le_of_ble_eq_true rfl) ⟨by decide, by decide, by decide, by decide⟩ dX9_reservedCoins_23 ?_
    exact B_iret hf he rfl dX9_reservedCoins_26 (by decide) (by decide) rfl rfl
  · exact absurd h10 (by first | omega | (split at h10 <;> omega))

set_option maxHeartbeats 4000000 in
set_option maxRecDepth 100000 in
theorem d_capacityOf {l : Launch} {D : va_G} {K : Nat → ClassId} {ad : Adr} (hl0 : l.stackTraces = false) (σ : Mem) (hR : Rng σ) (hN : NI (σ 0 41)) (s : Int) (hs : inR s) (hk : 0 ≤ s ∧ s < σ 0 41 0) : Cb l D K ad yX9_capacityOf (.code yX9_capacityOf cX9_capacityOf 2 (some .int)) 5 0 0 σ [.ref (ad 0 40), .int (iN s)] (.inl (some (.int (iN (mcap (σ 0 41) s))))) (st3 σ 0 40 8 0) := by
  refine Cb.of (own := RX9) (ls0 := [some (.ref (ad 0 40)), some (.int (iN s))]) hl0 (by decide) rfl (Nat.le_of_ble_eq_true rfl) rfl ?_
  intro X hX1 hX2 hX3 hf he hh
  subst hX1 hX2 hX3
  have e41 : st3 σ 0 40 8 0 0 41 = σ 0 41 := by
    funext k
    exact st3_j (by decide)
  have z0 := congrFun e41 0
  have z1 := congrFun e41 1
  have z2 := congrFun e41 2
  have z3 := congrFun e41 3
  have hN1 : NI (st3 σ 0 40 8 0 0 41) := by
    rw [e41]
    exact hN
  have hR1 : Rng (st3 σ 0 40 8 0) := hR.st ⟨by decide, by decide⟩
  have n0 := hN.n0
  have n1 := hN.n1
  have n2 := hN.n2
  have n3 := hN.n3
  refine V_aload_n hf dX9_capacityOf_0 rfl rfl ?_
  refine V_iconst hf dX9_capacityOf_1 ?_
  refine B_putI (kI := 8) hf rfl l01 rfl fp_X9_38_12 rfl rfl (Nat.le_of_ble_eq_true rfl) (by decide) (cs_40_8 _ _ _ _ _) dX9_capacityOf_2 ?_
  refine V_aload_n hf dX9_capacityOf_5 rfl rfl ?_
  refine V_iload_n hf dX9_capacityOf_6 rfl rfl ?_
  refine B_callVi hf (As := [_]) (d_isShip hl0 (st3 σ 0 40 8 0) hR1 hN1 s hs) cv_X9_120 l01 rfl rfl rfl (Nat.le_of_ble_eq_true rfl) ⟨by decide, by decide, by decide, by decide⟩ dX9_capacityOf_7 ?_
  refine V_if_eq (tgt := 21) hf (by split <;> exact ⟨by decide, by decide⟩) dX9_capacityOf_10 (by decide) (fun h10 => ?_) (fun h10 => ?_)
  · exact absurd h10 (by first | omega | (split at h10 <;> omega))
  · refine V_aload_n hf dX9_capacityOf_13 rfl rfl ?_
    refine V_iload_n hf dX9_capacityOf_14 rfl rfl ?_
    refine B_callVi hf (As := [_]) (d_cap hl0 (st3 σ 0 40 8 0) hR1 s ⟨by omega, by omega⟩) cv_X9_76 l01 rfl rfl rfl (Nat.le_of_ble_eq_true rfl) ⟨by decide, by decide, by decide, by decide⟩ dX9_capacityOf_15 ?_
    refine V_goto (tgt := 26) hf dX9_capacityOf_18 (by decide) ?_
    exact B_iret hf he rfl dX9_capacityOf_26 (by decide) (by decide) (by first | rw [e41] | (simp only [e41]; done) | rfl) rfl

set_option maxHeartbeats 4000000 in
set_option maxRecDepth 100000 in
theorem dx_capacityOf {l : Launch} {D : va_G} {K : Nat → ClassId} {ad : Adr} (hl0 : l.stackTraces = false) (σ : Mem) (hR : Rng σ) (hN : NI (σ 0 41)) (s : Int) (hs : inR s) (hk : ¬ (0 ≤ s ∧ s < σ 0 41 0)) : Cb l D K ad yX9_capacityOf (.code yX9_capacityOf cX9_capacityOf 2 (some .int)) 5 0 0 σ [.ref (ad 0 40), .int (iN s)] (.inl (some (.int (iN (-1))))) (st3 (st3 σ 0 40 8 0) 0 40 8 1) := by
  refine Cb.of (own := RX9) (ls0 := [some (.ref (ad 0 40)), some (.int (iN s))]) hl0 (by decide) rfl (Nat.le_of_ble_eq_true rfl) rfl ?_
  intro X hX1 hX2 hX3 hf he hh
  subst hX1 hX2 hX3
  have e41 : st3 σ 0 40 8 0 0 41 = σ 0 41 := by
    funext k
    exact st3_j (by decide)
  have z0 := congrFun e41 0
  have z1 := congrFun e41 1
  have z2 := congrFun e41 2
  have z3 := congrFun e41 3
  have hN1 : NI (st3 σ 0 40 8 0 0 41) := by
    rw [e41]
    exact hN
  have hR1 : Rng (st3 σ 0 40 8 0) := hR.st ⟨by decide, by decide⟩
  have n0 := hN.n0
  have n1 := hN.n1
  have n2 := hN.n2
  have n3 := hN.n3
  refine V_aload_n hf dX9_capacityOf_0 rfl rfl ?_
  refine V_iconst hf dX9_capacityOf_1 ?_
  refine B_putI (kI := 8) hf rfl l01 rfl fp_X9_38_12 rfl rfl (Nat.le_of_ble_eq_true rfl) (by decide) (cs_40_8 _ _ _ _ _) dX9_capacityOf_2 ?_
  refine V_aload_n hf dX9_capacityOf_5 rfl rfl ?_
  refine V_iload_n hf dX9_capacityOf_6 rfl rfl ?_
  refine B_callVi hf (As := [_]) (d_isShip hl0 (st3 σ 0 40 8 0) hR1 hN1 s hs) cv_X9_120 l01 rfl rfl rfl (Nat.le_of_ble_eq_true rfl) ⟨by decide, by decide, by decide, by decide⟩ dX9_capacityOf_7 ?_
  refine V_if_eq (tgt := 21) hf (by split <;> exact ⟨by decide, by decide⟩) dX9_capacityOf_10 (by decide) (fun h10 => ?_) (fun h10 => ?_)
  · refine V_aload_n hf dX9_capacityOf_21 rfl rfl ?_
    refine V_iconst hf dX9_capacityOf_22 ?_
    refine B_callVi hf (As := [_]) (d_throwing hl0 (st3 σ 0 40 8 0) hR1 1) cv_X9_47 l01 rfl rfl rfl (Nat.le_of_ble_eq_true rfl) ⟨by decide, by decide, by decide, by decide⟩ dX9_capacityOf_23 ?_
    exact B_iret hf he rfl dX9_capacityOf_26 (by decide) (by decide) rfl rfl
  · exact absurd h10 (by first | omega | (split at h10 <;> omega))

set_option maxHeartbeats 4000000 in
set_option maxRecDepth 100000 in
theorem d_loadOf {l : Launch} {D : va_G} {K : Nat → ClassId} {ad : Adr} (hl0 : l.stackTraces = false) (σ : Mem) (hR : Rng σ) (hN : NI (σ 0 41)) (s : Int) (hs : inR s) (hk : 0 ≤ s ∧ s < σ 0 41 0) : Cb l D K ad yX9_loadOf (.code yX9_loadOf cX9_loadOf 2 (some .int)) 5 0 0 σ [.ref (ad 0 40), .int (iN s)] (.inl (some (.int (iN (mload (σ 0 41) s))))) (st3 σ 0 40 8 0) := by
  refine Cb.of (own := RX9) (ls0 := [some (.ref (ad 0 40)), some (.int (iN s))]) hl0 (by decide) rfl (Nat.le_of_ble_eq_true rfl) rfl ?_
  intro X hX1 hX2 hX3 hf he hh
  subst hX1 hX2 hX3
  have e41 : st3 σ 0 40 8 0 0 41 = σ 0 41 := by
    funext k
    exact st3_j (by decide)
  have z0 := congrFun e41 0
  have z1 := congrFun e41 1
  have z2 := congrFun e41 2
  have z3 := congrFun e41 3
  have hN1 : NI (st3 σ 0 40 8 0 0 41) := by
    rw [e41]
    exact hN
  have hR1 : Rng (st3 σ 0 40 8 0) := hR.st ⟨by decide, by decide⟩
  have n0 := hN.n0
  have n1 := hN.n1
  have n2 := hN.n2
  have n3 := hN.n3
  refine V_aload_n hf dX9_loadOf_0 rfl rfl ?_
  refine V_iconst hf dX9_loadOf_1 ?_
  refine B_putI (kI := 8) hf rfl l01 rfl fp_X9_38_12 rfl rfl (Nat.le_of_ble_eq_true rfl) (by decide) (cs_40_8 _ _ _ _ _) dX9_loadOf_2 ?_
  refine V_aload_n hf dX9_loadOf_5 rfl rfl ?_
  refine V_iload_n hf dX9_loadOf_6 rfl rfl ?_
  refine B_callVi hf (As := [_]) (d_isShip hl0 (st3 σ 0 40 8 0) hR1 hN1 s hs) cv_X9_120 l01 rfl rfl rfl (Nat.le_of_ble_eq_true rfl) ⟨by decide, by decide, by decide, by decide⟩ dX9_loadOf_7 ?_
  refine V_if_eq (tgt := 21) hf (by split <;> exact ⟨by decide, by decide⟩) dX9_loadOf_10 (by decide) (fun h10 => ?_) (fun h10 => ?_)
  · exact absurd h10 (by first | omega | (split at h10 <;> omega))
  · refine V_aload_n hf dX9_loadOf_13 rfl rfl ?_
    refine V_iload_n hf dX9_loadOf_14 rfl rfl ?_
    refine B_callVi hf (As := [_]) (d_load hl0 (st3 σ 0 40 8 0) hR1 hN1 s hs) cv_X9_79 l01 rfl rfl rfl (Nat.le_of_ble_eq_true rfl) ⟨by decide, by decide, by decide, by decide⟩ dX9_loadOf_15 ?_
    refine V_goto (tgt := 26) hf dX9_loadOf_18 (by decide) ?_
    exact B_iret hf he rfl dX9_loadOf_26 (by decide) (by decide) (by first | rw [e41] | (simp only [e41]; done) | rfl) rfl

set_option maxHeartbeats 4000000 in
set_option maxRecDepth 100000 in
theorem dx_loadOf {l : Launch} {D : va_G} {K : Nat → ClassId} {ad : Adr} (hl0 : l.stackTraces = false) (σ : Mem) (hR : Rng σ) (hN : NI (σ 0 41)) (s : Int) (hs : inR s) (hk : ¬ (0 ≤ s ∧ s < σ 0 41 0)) : Cb l D K ad yX9_loadOf (.code yX9_loadOf cX9_loadOf 2 (some .int)) 5 0 0 σ [.ref (ad 0 40), .int (iN s)] (.inl (some (.int (iN (-1))))) (st3 (st3 σ 0 40 8 0) 0 40 8 1) := by
  refine Cb.of (own := RX9) (ls0 := [some (.ref (ad 0 40)), some (.int (iN s))]) hl0 (by decide) rfl (Nat.le_of_ble_eq_true rfl) rfl ?_
  intro X hX1 hX2 hX3 hf he hh
  subst hX1 hX2 hX3
  have e41 : st3 σ 0 40 8 0 0 41 = σ 0 41 := by
    funext k
    exact st3_j (by decide)
  have z0 := congrFun e41 0
  have z1 := congrFun e41 1
  have z2 := congrFun e41 2
  have z3 := congrFun e41 3
  have hN1 : NI (st3 σ 0 40 8 0 0 41) := by
    rw [e41]
    exact hN
  have hR1 : Rng (st3 σ 0 40 8 0) := hR.st ⟨by decide, by decide⟩
  have n0 := hN.n0
  have n1 := hN.n1
  have n2 := hN.n2
  have n3 := hN.n3
  refine V_aload_n hf dX9_loadOf_0 rfl rfl ?_
  refine V_iconst hf dX9_loadOf_1 ?_
  refine B_putI (kI := 8) hf rfl l01 rfl fp_X9_38_12 rfl rfl (Nat.le_of_ble_eq_true rfl) (by decide) (cs_40_8 _ _ _ _ _) dX9_loadOf_2 ?_
  refine V_aload_n hf dX9_loadOf_5 rfl rfl ?_
  refine V_iload_n hf dX9_loadOf_6 rfl rfl ?_
  refine B_callVi hf (As := [_]) (d_isShip hl0 (st3 σ 0 40 8 0) hR1 hN1 s hs) cv_X9_120 l01 rfl rfl rfl (Nat.le_of_ble_eq_true rfl) ⟨by decide, by decide, by decide, by decide⟩ dX9_loadOf_7 ?_
  refine V_if_eq (tgt := 21) hf (by split <;> exact ⟨by decide, by decide⟩) dX9_loadOf_10 (by decide) (fun h10 => ?_) (fun h10 => ?_)
  · refine V_aload_n hf dX9_loadOf_21 rfl rfl ?_
    refine V_iconst hf dX9_loadOf_22 ?_
    refine B_callVi hf (As := [_]) (d_throwing hl0 (st3 σ 0 40 8 0) hR1 1) cv_X9_47 l01 rfl rfl rfl (Nat.le_of_ble_eq_true rfl) ⟨by decide, by decide, by decide, by decide⟩ dX9_loadOf_23 ?_
    exact B_iret hf he rfl dX9_loadOf_26 (by decide) (by decide) rfl rfl
  · exact absurd h10 (by first | omega | (split at h10 <;> omega))

set_option maxHeartbeats 4000000 in
set_option maxRecDepth 100000 in
theorem d_freePlaces {l : Launch} {D : va_G} {K : Nat → ClassId} {ad : Adr} (hl0 : l.stackTraces = false) (σ : Mem) (hR : Rng σ) (hN : NI (σ 0 41)) (s : Int) (hs : inR s) (hk : 0 ≤ s ∧ s < σ 0 41 0) : Cb l D K ad yX9_freePlaces (.code yX9_freePlaces cX9_freePlaces 2 (some .int)) 5 0 0 σ [.ref (ad 0 40), .int (iN s)] (.inl (some (.int (iN (mplaces (σ 0 41) s))))) (st3 σ 0 40 8 0) := by
  refine Cb.of (own := RX9) (ls0 := [some (.ref (ad 0 40)), some (.int (iN s))]) hl0 (by decide) rfl (Nat.le_of_ble_eq_true rfl) rfl ?_
  intro X hX1 hX2 hX3 hf he hh
  subst hX1 hX2 hX3
  have e41 : st3 σ 0 40 8 0 0 41 = σ 0 41 := by
    funext k
    exact st3_j (by decide)
  have z0 := congrFun e41 0
  have z1 := congrFun e41 1
  have z2 := congrFun e41 2
  have z3 := congrFun e41 3
  have hN1 : NI (st3 σ 0 40 8 0 0 41) := by
    rw [e41]
    exact hN
  have hR1 : Rng (st3 σ 0 40 8 0) := hR.st ⟨by decide, by decide⟩
  have n0 := hN.n0
  have n1 := hN.n1
  have n2 := hN.n2
  have n3 := hN.n3
  refine V_aload_n hf dX9_freePlaces_0 rfl rfl ?_
  refine V_iconst hf dX9_freePlaces_1 ?_
  refine B_putI (kI := 8) hf rfl l01 rfl fp_X9_38_12 rfl rfl (Nat.le_of_ble_eq_true rfl) (by decide) (cs_40_8 _ _ _ _ _) dX9_freePlaces_2 ?_
  refine V_aload_n hf dX9_freePlaces_5 rfl rfl ?_
  refine V_iload_n hf dX9_freePlaces_6 rfl rfl ?_
  refine B_callVi hf (As := [_]) (d_isShip hl0 (st3 σ 0 40 8 0) hR1 hN1 s hs) cv_X9_120 l01 rfl rfl rfl (Nat.le_of_ble_eq_true rfl) ⟨by decide, by decide, by decide, by decide⟩ dX9_freePlaces_7 ?_
  refine V_if_eq (tgt := 21) hf (by split <;> exact ⟨by decide, by decide⟩) dX9_freePlaces_10 (by decide) (fun h10 => ?_) (fun h10 => ?_)
  · exact absurd h10 (by first | omega | (split at h10 <;> omega))
  · refine V_aload_n hf dX9_freePlaces_13 rfl rfl ?_
    refine V_iload_n hf dX9_freePlaces_14 rfl rfl ?_
    refine B_callVi hf (As := [_]) (d_places hl0 (st3 σ 0 40 8 0) hR1 hN1 s ⟨by omega, by omega⟩) cv_X9_126 l01 rfl rfl rfl (Nat.le_of_ble_eq_true rfl) ⟨by decide, by decide, by decide, by decide⟩ dX9_freePlaces_15 ?_
    refine V_goto (tgt := 26) hf dX9_freePlaces_18 (by decide) ?_
    exact B_iret hf he rfl dX9_freePlaces_26 (by decide) (by decide) (by first | rw [e41] | (simp only [e41]; done) | rfl) rfl

set_option maxHeartbeats 4000000 in
set_option maxRecDepth 100000 in
theorem dx_freePlaces {l : Launch} {D : va_G} {K : Nat → ClassId} {ad : Adr} (hl0 : l.stackTraces = false) (σ : Mem) (hR : Rng σ) (hN : NI (σ 0 41)) (s : Int) (hs : inR s) (hk : ¬ (0 ≤ s ∧ s < σ 0 41 0)) : Cb l D K ad yX9_freePlaces (.code yX9_freePlaces cX9_freePlaces 2 (some .int)) 5 0 0 σ [.ref (ad 0 40), .int (iN s)] (.inl (some (.int (iN (-1))))) (st3 (st3 σ 0 40 8 0) 0 40 8 1) := by
  refine Cb.of (own := RX9) (ls0 := [some (.ref (ad 0 40)), some (.int (iN s))]) hl0 (by decide) rfl (Nat.le_of_ble_eq_true rfl) rfl ?_
  intro X hX1 hX2 hX3 hf he hh
  subst hX1 hX2 hX3
  have e41 : st3 σ 0 40 8 0 0 41 = σ 0 41 := by
    funext k
    exact st3_j (by decide)
  have z0 := congrFun e41 0
  have z1 := congrFun e41 1
  have z2 := congrFun e41 2
  have z3 := congrFun e41 3
  have hN1 : NI (st3 σ 0 40 8 0 0 41) := by
    rw [e41]
    exact hN
  have hR1 : Rng (st3 σ 0 40 8 0) := hR.st ⟨by decide, by decide⟩
  have n0 := hN.n0
  have n1 := hN.n1
  have n2 := hN.n2
  have n3 := hN.n3
  refine V_aload_n hf dX9_freePlaces_0 rfl rfl ?_
  refine V_iconst hf dX9_freePlaces_1 ?_
  refine B_putI (kI := 8) hf rfl l01 rfl fp_X9_38_12 rfl rfl (Nat.le_of_ble_eq_true rfl) (by decide) (cs_40_8 _ _ _ _ _) dX9_freePlaces_2 ?_
  refine V_aload_n hf dX9_freePlaces_5 rfl rfl ?_
  refine V_iload_n hf dX9_freePlaces_6 rfl rfl ?_
  refine B_callVi hf (As := [_]) (d_isShip hl0 (st3 σ 0 40 8 0) hR1 hN1 s hs) cv_X9_120 l01 rfl rfl rfl (Nat.le_of_ble_eq_true rfl) ⟨by decide, by decide, by decide, by decide⟩ dX9_freePlaces_7 ?_
  refine V_if_eq (tgt := 21) hf (by split <;> exact ⟨by decide, by decide⟩) dX9_freePlaces_10 (by decide) (fun h10 => ?_) (fun h10 => ?_)
  · refine V_aload_n hf dX9_freePlaces_21 rfl rfl ?_
    refine V_iconst hf dX9_freePlaces_22 ?_
    refine B_callVi hf (As := [_]) (d_throwing hl0 (st3 σ 0 40 8 0) hR1 1) cv_X9_47 l01 rfl rfl rfl (Nat.le_of_ble_eq_true rfl) ⟨by decide, by decide, by decide, by decide⟩ dX9_freePlaces_23 ?_
    exact B_iret hf he rfl dX9_freePlaces_26 (by decide) (by decide) rfl rfl
  · exact absurd h10 (by first | omega | (split at h10 <;> omega))

set_option maxHeartbeats 4000000 in
set_option maxRecDepth 100000 in
theorem d_shipOf {l : Launch} {D : va_G} {K : Nat → ClassId} {ad : Adr} (hl0 : l.stackTraces = false) (σ : Mem) (hR : Rng σ) (hN : NI (σ 0 41)) (s : Int) (hs : inR s) (hk : 0 ≤ s ∧ s < σ 0 41 1) : Cb l D K ad yX9_shipOf (.code yX9_shipOf cX9_shipOf 2 (some .int)) 5 0 0 σ [.ref (ad 0 40), .int (iN s)] (.inl (some (.int (iN (σ 0 41 (26 + 2 * s)))))) (st3 σ 0 40 8 0) := by
  refine Cb.of (own := RX9) (ls0 := [some (.ref (ad 0 40)), some (.int (iN s))]) hl0 (by decide) rfl (Nat.le_of_ble_eq_true rfl) rfl ?_
  intro X hX1 hX2 hX3 hf he hh
  subst hX1 hX2 hX3
  have e41 : st3 σ 0 40 8 0 0 41 = σ 0 41 := by
    funext k
    exact st3_j (by decide)
  have z0 := congrFun e41 0
  have z1 := congrFun e41 1
  have z2 := congrFun e41 2
  have z3 := congrFun e41 3
  have hN1 : NI (st3 σ 0 40 8 0 0 41) := by
    rw [e41]
    exact hN
  have hR1 : Rng (st3 σ 0 40 8 0) := hR.st ⟨by decide, by decide⟩
  have n0 := hN.n0
  have n1 := hN.n1
  have n2 := hN.n2
  have n3 := hN.n3
  refine V_aload_n hf dX9_shipOf_0 rfl rfl ?_
  refine V_iconst hf dX9_shipOf_1 ?_
  refine B_putI (kI := 8) hf rfl l01 rfl fp_X9_38_12 rfl rfl (Nat.le_of_ble_eq_true rfl) (by decide) (cs_40_8 _ _ _ _ _) dX9_shipOf_2 ?_
  refine V_aload_n hf dX9_shipOf_5 rfl rfl ?_
  refine V_iload_n hf dX9_shipOf_6 rfl rfl ?_
  refine B_callVi hf (As := [_]) (d_isBarn hl0 (st3 σ 0 40 8 0) hR1 hN1 s hs) cv_X9_144 l01 rfl rfl rfl (Nat.le_of_ble_eq_true rfl) ⟨by decide, by decide, by decide, by decide⟩ dX9_shipOf_7 ?_
  refine V_if_eq (tgt := 25) hf (by split <;> exact ⟨by decide, by decide⟩) dX9_shipOf_10 (by decide) (fun h10 => ?_) (fun h10 => ?_)
  · exact absurd h10 (by first | omega | (split at h10 <;> omega))
  · refine V_aload_n hf dX9_shipOf_13 rfl rfl ?_
    refine B_get hf l01 rfl fl_X9_9_12 rfl dX9_shipOf_14 ?_
    refine V_iload_n hf dX9_shipOf_17 rfl rfl ?_
    refine B_callSi hf (As := [_]) (d_barnacleAtPlace hl0 (st3 σ 0 40 8 0) s) cvs_X9_70 rfl (Nat.le_of_ble_eq_true rfl) ⟨by decide, by decide, by decide, by decide⟩ dX9_shipOf_18 ?_
    refine B_iald hf l01 (fun _ => rfl) ⟨by omega, by omega⟩ (by omega) (by omega) dX9_shipOf_21 ?_
    refine V_goto (tgt := 30) hf dX9_shipOf_22 (by decide) ?_
    exact B_iret hf he rfl dX9_shipOf_30 (by decide) (by decide) (by first | rw [e41] | (simp only [e41]; done) | rfl) rfl

set_option maxHeartbeats 4000000 in
set_option maxRecDepth 100000 in
theorem dx_shipOf {l : Launch} {D : va_G} {K : Nat → ClassId} {ad : Adr} (hl0 : l.stackTraces = false) (σ : Mem) (hR : Rng σ) (hN : NI (σ 0 41)) (s : Int) (hs : inR s) (hk : ¬ (0 ≤ s ∧ s < σ 0 41 1)) : Cb l D K ad yX9_shipOf (.code yX9_shipOf cX9_shipOf 2 (some .int)) 5 0 0 σ [.ref (ad 0 40), .int (iN s)] (.inl (some (.int (iN (-1))))) (st3 (st3 σ 0 40 8 0) 0 40 8 1) := by
  refine Cb.of (own := RX9) (ls0 := [some (.ref (ad 0 40)), some (.int (iN s))]) hl0 (by decide) rfl (Nat.le_of_ble_eq_true rfl) rfl ?_
  intro X hX1 hX2 hX3 hf he hh
  subst hX1 hX2 hX3
  have e41 : st3 σ 0 40 8 0 0 41 = σ 0 41 := by
    funext k
    exact st3_j (by decide)
  have z0 := congrFun e41 0
  have z1 := congrFun e41 1
  have z2 := congrFun e41 2
  have z3 := congrFun e41 3
  have hN1 : NI (st3 σ 0 40 8 0 0 41) := by
    rw [e41]
    exact hN
  have hR1 : Rng (st3 σ 0 40 8 0) := hR.st ⟨by decide, by decide⟩
  have n0 := hN.n0
  have n1 := hN.n1
  have n2 := hN.n2
  have n3 := hN.n3
  refine V_aload_n hf dX9_shipOf_0 rfl rfl ?_
  refine V_iconst hf dX9_shipOf_1 ?_
  refine B_putI (kI := 8) hf rfl l01 rfl fp_X9_38_12 rfl rfl (Nat.le_of_ble_eq_true rfl) (by decide) (cs_40_8 _ _ _ _ _) dX9_shipOf_2 ?_
  refine V_aload_n hf dX9_shipOf_5 rfl rfl ?_
  refine V_iload_n hf dX9_shipOf_6 rfl rfl ?_
  refine B_callVi hf (As := [_]) (d_isBarn hl0 (st3 σ 0 40 8 0) hR1 hN1 s hs) cv_X9_144 l01 rfl rfl rfl (Nat.le_of_ble_eq_true rfl) ⟨by decide, by decide, by decide, by decide⟩ dX9_shipOf_7 ?_
  refine V_if_eq (tgt := 25) hf (by split <;> exact ⟨by decide, by decide⟩) dX9_shipOf_10 (by decide) (fun h10 => ?_) (fun h10 => ?_)
  · refine V_aload_n hf dX9_shipOf_25 rfl rfl ?_
    refine V_iconst hf dX9_shipOf_26 ?_
    refine B_callVi hf (As := [_]) (d_throwing hl0 (st3 σ 0 40 8 0) hR1 1) cv_X9_47 l01 rfl rfl rfl (Nat.le_of_ble_eq_true rfl) ⟨by decide, by decide, by decide, by decide⟩ dX9_shipOf_27 ?_
    exact B_iret hf he rfl dX9_shipOf_30 (by decide) (by decide) rfl rfl
  · exact absurd h10 (by first | omega | (split at h10 <;> omega))

set_option maxHeartbeats 4000000 in
set_option maxRecDepth 100000 in
theorem d_gradeOf {l : Launch} {D : va_G} {K : Nat → ClassId} {ad : Adr} (hl0 : l.stackTraces = false) (σ : Mem) (hR : Rng σ) (hN : NI (σ 0 41)) (s : Int) (hs : inR s) (hk : 0 ≤ s ∧ s < σ 0 41 1) : Cb l D K ad yX9_gradeOf (.code yX9_gradeOf cX9_gradeOf 2 (some .int)) 5 0 0 σ [.ref (ad 0 40), .int (iN s)] (.inl (some (.int (iN (mgr (σ 0 41) s))))) (st3 σ 0 40 8 0) := by
  refine Cb.of (own := RX9) (ls0 := [some (.ref (ad 0 40)), some (.int (iN s))]) hl0 (by decide) rfl (Nat.le_of_ble_eq_true rfl) rfl ?_
  intro X hX1 hX2 hX3 hf he hh
  subst hX1 hX2 hX3
  have e41 : st3 σ 0 40 8 0 0 41 = σ 0 41 := by
    funext k
    exact st3_j (by decide)
  have z0 := congrFun e41 0
  have z1 := congrFun e41 1
  have z2 := congrFun e41 2
  have z3 := congrFun e41 3
  have hN1 : NI (st3 σ 0 40 8 0 0 41) := by
    rw [e41]
    exact hN
  have hR1 : Rng (st3 σ 0 40 8 0) := hR.st ⟨by decide, by decide⟩
  have n0 := hN.n0
  have n1 := hN.n1
  have n2 := hN.n2
  have n3 := hN.n3
  refine V_aload_n hf dX9_gradeOf_0 rfl rfl ?_
  refine V_iconst hf dX9_gradeOf_1 ?_
  refine B_putI (kI := 8) hf rfl l01 rfl fp_X9_38_12 rfl rfl (Nat.le_of_ble_eq_true rfl) (by decide) (cs_40_8 _ _ _ _ _) dX9_gradeOf_2 ?_
  refine V_aload_n hf dX9_gradeOf_5 rfl rfl ?_
  refine V_iload_n hf dX9_gradeOf_6 rfl rfl ?_
  refine B_callVi hf (As := [_]) (d_isBarn hl0 (st3 σ 0 40 8 0) hR1 hN1 s hs) cv_X9_144 l01 rfl rfl rfl (Nat.le_of_ble_eq_true rfl) ⟨by decide, by decide, by decide, by decide⟩ dX9_gradeOf_7 ?_
  refine V_if_eq (tgt := 21) hf (by split <;> exact ⟨by decide, by decide⟩) dX9_gradeOf_10 (by decide) (fun h10 => ?_) (fun h10 => ?_)
  · exact absurd h10 (by first | omega | (split at h10 <;> omega))
  · refine V_aload_n hf dX9_gradeOf_13 rfl rfl ?_
    refine V_iload_n hf dX9_gradeOf_14 rfl rfl ?_
    refine B_callVi hf (As := [_]) (d_gr hl0 (st3 σ 0 40 8 0) hR1 s ⟨by omega, by omega⟩) cv_X9_85 l01 rfl rfl rfl (Nat.le_of_ble_eq_true rfl) ⟨by decide, by decide, by decide, by decide⟩ dX9_gradeOf_15 ?_
    refine V_goto (tgt := 26) hf dX9_gradeOf_18 (by decide) ?_
    exact B_iret hf he rfl dX9_gradeOf_26 (by decide) (by decide) (by first | rw [e41] | (simp only [e41]; done) | rfl) rfl

set_option maxHeartbeats 4000000 in
set_option maxRecDepth 100000 in
theorem dx_gradeOf {l : Launch} {D : va_G} {K : Nat → ClassId} {ad : Adr} (hl0 : l.stackTraces = false) (σ : Mem) (hR : Rng σ) (hN : NI (σ 0 41)) (s : Int) (hs : inR s) (hk : ¬ (0 ≤ s ∧ s < σ 0 41 1)) : Cb l D K ad yX9_gradeOf (.code yX9_gradeOf cX9_gradeOf 2 (some .int)) 5 0 0 σ [.ref (ad 0 40), .int (iN s)] (.inl (some (.int (iN (-1))))) (st3 (st3 σ 0 40 8 0) 0 40 8 1) := by
  refine Cb.of (own := RX9) (ls0 := [some (.ref (ad 0 40)), some (.int (iN s))]) hl0 (by decide) rfl (Nat.le_of_ble_eq_true rfl) rfl ?_
  intro X hX1 hX2 hX3 hf he hh
  subst hX1 hX2 hX3
  have e41 : st3 σ 0 40 8 0 0 41 = σ 0 41 := by
    funext k
    exact st3_j (by decide)
  have z0 := congrFun e41 0
  have z1 := congrFun e41 1
  have z2 := congrFun e41 2
  have z3 := congrFun e41 3
  have hN1 : NI (st3 σ 0 40 8 0 0 41) := by
    rw [e41]
    exact hN
  have hR1 : Rng (st3 σ 0 40 8 0) := hR.st ⟨by decide, by decide⟩
  have n0 := hN.n0
  have n1 := hN.n1
  have n2 := hN.n2
  have n3 := hN.n3
  refine V_aload_n hf dX9_gradeOf_0 rfl rfl ?_
  refine V_iconst hf dX9_gradeOf_1 ?_
  refine B_putI (kI := 8) hf rfl l01 rfl fp_X9_38_12 rfl rfl (Nat.le_of_ble_eq_true rfl) (by decide) (cs_40_8 _ _ _ _ _) dX9_gradeOf_2 ?_
  refine V_aload_n hf dX9_gradeOf_5 rfl rfl ?_
  refine V_iload_n hf dX9_gradeOf_6 rfl rfl ?_
  refine B_callVi hf (As := [_]) (d_isBarn hl0 (st3 σ 0 40 8 0) hR1 hN1 s hs) cv_X9_144 l01 rfl rfl rfl (Nat.le_of_ble_eq_true rfl) ⟨by decide, by decide, by decide, by decide⟩ dX9_gradeOf_7 ?_
  refine V_if_eq (tgt := 21) hf (by split <;> exact ⟨by decide, by decide⟩) dX9_gradeOf_10 (by decide) (fun h10 => ?_) (fun h10 => ?_)
  · refine V_aload_n hf dX9_gradeOf_21 rfl rfl ?_
    refine V_iconst hf dX9_gradeOf_22 ?_
    refine B_callVi hf (As := [_]) (d_throwing hl0 (st3 σ 0 40 8 0) hR1 1) cv_X9_47 l01 rfl rfl rfl (Nat.le_of_ble_eq_true rfl) ⟨by decide, by decide, by decide, by decide⟩ dX9_gradeOf_23 ?_
    exact B_iret hf he rfl dX9_gradeOf_26 (by decide) (by decide) rfl rfl
  · exact absurd h10 (by first | omega | (split at h10 <;> omega))

set_option maxHeartbeats 4000000 in
set_option maxRecDepth 100000 in
theorem d_isOffered {l : Launch} {D : va_G} {K : Nat → ClassId} {ad : Adr} (hl0 : l.stackTraces = false) (σ : Mem) (hR : Rng σ) (hN : NI (σ 0 41)) (s : Int) (hs : inR s) (hk : 0 ≤ s ∧ s < σ 0 41 1) : Cb l D K ad yX9_isOffered (.code yX9_isOffered cX9_isOffered 2 (some .boolean)) 5 0 0 σ [.ref (ad 0 40), .int (iN s)] (.inl (some (.int (iN (if mofferFor (σ 0 41) s = -1 then 0 else 1))))) (st3 σ 0 40 8 0) := by
  refine Cb.of (own := RX9) (ls0 := [some (.ref (ad 0 40)), some (.int (iN s))]) hl0 (by decide) rfl (Nat.le_of_ble_eq_true rfl) rfl ?_
  intro X hX1 hX2 hX3 hf he hh
  subst hX1 hX2 hX3
  have e41 : st3 σ 0 40 8 0 0 41 = σ 0 41 := by
    funext k
    exact st3_j (by decide)
  have z0 := congrFun e41 0
  have z1 := congrFun e41 1
  have z2 := congrFun e41 2
  have z3 := congrFun e41 3
  have hN1 : NI (st3 σ 0 40 8 0 0 41) := by
    rw [e41]
    exact hN
  have hR1 : Rng (st3 σ 0 40 8 0) := hR.st ⟨by decide, by decide⟩
  have n0 := hN.n0
  have n1 := hN.n1
  have n2 := hN.n2
  have n3 := hN.n3
  refine V_aload_n hf dX9_isOffered_0 rfl rfl ?_
  refine V_iconst hf dX9_isOffered_1 ?_
  refine B_putI (kI := 8) hf rfl l01 rfl fp_X9_38_12 rfl rfl (Nat.le_of_ble_eq_true rfl) (by decide) (cs_40_8 _ _ _ _ _) dX9_isOffered_2 ?_
  refine V_aload_n hf dX9_isOffered_5 rfl rfl ?_
  refine V_iload_n hf dX9_isOffered_6 rfl rfl ?_
  refine B_callVi hf (As := [_]) (d_isBarn hl0 (st3 σ 0 40 8 0) hR1 hN1 s hs) cv_X9_144 l01 rfl rfl rfl (Nat.le_of_ble_eq_true rfl) ⟨by decide, by decide, by decide, by decide⟩ dX9_isOffered_7 ?_
  refine V_if_ne (tgt := 21) hf (by split <;> exact ⟨by decide, by decide⟩) dX9_isOffered_10 (by decide) (fun h10 => ?_) (fun h10 => ?_)
  · refine V_aload_n hf dX9_isOffered_21 rfl rfl ?_
    refine V_iload_n hf dX9_isOffered_22 rfl rfl ?_
    refine B_callVi hf (As := [_]) (d_offerFor hl0 (st3 σ 0 40 8 0) hR1 hN1 s hs) cv_X9_147 l01 rfl rfl rfl (Nat.le_of_ble_eq_true rfl) ⟨by decide, by decide, by decide, by decide⟩ dX9_isOffered_23 ?_
    rw [e41]
    have r9 : -1 ≤ mofferFor (σ 0 41) s ∧ (mofferFor (σ 0 41) s < σ 0 41 3 ∨ mofferFor (σ 0 41) s = -1) := fst_r
    refine V_iconst hf dX9_isOffered_26 ?_
    refine V_icmp_eq (tgt := 34) hf ⟨by omega, by omega⟩ ⟨by omega, by omega⟩ dX9_isOffered_27 (by decide) (fun h27 => ?_) (fun h27 => ?_)
    · refine V_iconst hf dX9_isOffered_34 ?_
      exact B_iret hf he (by split <;> decide +kernel) dX9_isOffered_35 (by decide) (by decide) (by first | rw [if_pos (by omega)] | rw [if_neg (by omega)]) rfl
    · refine V_iconst hf dX9_isOffered_30 ?_
      refine V_goto (tgt := 35) hf dX9_isOffered_31 (by decide) ?_
      exact B_iret hf he (by split <;> decide +kernel) dX9_isOffered_35 (by decide) (by decide) (by first | rw [if_pos (by omega)] | rw [if_neg (by omega)]) rfl
  · exact absurd h10 (by first | omega | (split at h10 <;> omega))

set_option maxHeartbeats 4000000 in
set_option maxRecDepth 100000 in
theorem dx_isOffered {l : Launch} {D : va_G} {K : Nat → ClassId} {ad : Adr} (hl0 : l.stackTraces = false) (σ : Mem) (hR : Rng σ) (hN : NI (σ 0 41)) (s : Int) (hs : inR s) (hk : ¬ (0 ≤ s ∧ s < σ 0 41 1)) : Cb l D K ad yX9_isOffered (.code yX9_isOffered cX9_isOffered 2 (some .boolean)) 5 0 0 σ [.ref (ad 0 40), .int (iN s)] (.inl (some (.int (iN (0))))) (st3 (st3 σ 0 40 8 0) 0 40 8 1) := by
  refine Cb.of (own := RX9) (ls0 := [some (.ref (ad 0 40)), some (.int (iN s))]) hl0 (by decide) rfl (Nat.le_of_ble_eq_true rfl) rfl ?_
  intro X hX1 hX2 hX3 hf he hh
  subst hX1 hX2 hX3
  have e41 : st3 σ 0 40 8 0 0 41 = σ 0 41 := by
    funext k
    exact st3_j (by decide)
  have z0 := congrFun e41 0
  have z1 := congrFun e41 1
  have z2 := congrFun e41 2
  have z3 := congrFun e41 3
  have hN1 : NI (st3 σ 0 40 8 0 0 41) := by
    rw [e41]
    exact hN
  have hR1 : Rng (st3 σ 0 40 8 0) := hR.st ⟨by decide, by decide⟩
  have n0 := hN.n0
  have n1 := hN.n1
  have n2 := hN.n2
  have n3 := hN.n3
  refine V_aload_n hf dX9_isOffered_0 rfl rfl ?_
  refine V_iconst hf dX9_isOffered_1 ?_
  refine B_putI (kI := 8) hf rfl l01 rfl fp_X9_38_12 rfl rfl (Nat.le_of_ble_eq_true rfl) (by decide) (cs_40_8 _ _ _ _ _) dX9_isOffered_2 ?_
  refine V_aload_n hf dX9_isOffered_5 rfl rfl ?_
  refine V_iload_n hf dX9_isOffered_6 rfl rfl ?_
  refine B_callVi hf (As := [_]) (d_isBarn hl0 (st3 σ 0 40 8 0) hR1 hN1 s hs) cv_X9_144 l01 rfl rfl rfl (Nat.le_of_ble_eq_true rfl) ⟨by decide, by decide, by decide, by decide⟩ dX9_isOffered_7 ?_
  refine V_if_ne (tgt := 21) hf (by split <;> exact ⟨by decide, by decide⟩) dX9_isOffered_10 (by decide) (fun h10 => ?_) (fun h10 => ?_)
  · exact absurd h10 (by first | omega | (split at h10 <;> omega))
  · refine V_aload_n hf dX9_isOffered_13 rfl rfl ?_
    refine V_iconst hf dX9_isOffered_14 ?_
    refine B_callVi hf (As := [_]) (d_throwing hl0 (st3 σ 0 40 8 0) hR1 1) cv_X9_47 l01 rfl rfl rfl (Nat.le_of_ble_eq_true rfl) ⟨by decide, by decide, by decide, by decide⟩ dX9_isOffered_15 ?_
    refine V_pop hf dX9_isOffered_18 rfl ?_
    refine V_iconst hf dX9_isOffered_19 ?_
    exact B_iret hf he (by decide +kernel) dX9_isOffered_20 (by decide) (by decide) rfl rfl

set_option maxHeartbeats 4000000 in
set_option maxRecDepth 100000 in
theorem d_barnacleAt {l : Launch} {D : va_G} {K : Nat → ClassId} {ad : Adr} (hl0 : l.stackTraces = false) (σ : Mem) (hR : Rng σ) (hN : NI (σ 0 41)) (s : Int) (hs : inR s) (p : Int) (hp : inR p) (hk : 0 ≤ s ∧ s < σ 0 41 0) (hq : mbarn (σ 0 41) s p ≠ -1) : Cb l D K ad yX9_barnacleAt (.code yX9_barnacleAt cX9_barnacleAt 4 (some .int)) 5 0 0 σ [.ref (ad 0 40), .int (iN s), .int (iN p)] (.inl (some (.int (iN (mbarn (σ 0 41) s p))))) (st3 σ 0 40 8 0) := by
  refine Cb.of (own := RX9) (ls0 := [some (.ref (ad 0 40)), some (.int (iN s)), some (.int (iN p)), none]) hl0 (by decide) rfl (Nat.le_of_ble_eq_true rfl) rfl ?_
  intro X hX1 hX2 hX3 hf he hh
  subst hX1 hX2 hX3
  have e41 : st3 σ 0 40 8 0 0 41 = σ 0 41 := by
    funext k
    exact st3_j (by decide)
  have z0 := congrFun e41 0
  have z1 := congrFun e41 1
  have z2 := congrFun e41 2
  have z3 := congrFun e41 3
  have hN1 : NI (st3 σ 0 40 8 0 0 41) := by
    rw [e41]
    exact hN
  have hR1 : Rng (st3 σ 0 40 8 0) := hR.st ⟨by decide, by decide⟩
  have n0 := hN.n0
  have n1 := hN.n1
  have n2 := hN.n2
  have n3 := hN.n3
  refine V_aload_n hf dX9_barnacleAt_0 rfl rfl ?_
  refine V_iconst hf dX9_barnacleAt_1 ?_
  refine B_putI (kI := 8) hf rfl l01 rfl fp_X9_38_12 rfl rfl (Nat.le_of_ble_eq_true rfl) (by decide) (cs_40_8 _ _ _ _ _) dX9_barnacleAt_2 ?_
  refine V_aload_n hf dX9_barnacleAt_5 rfl rfl ?_
  refine V_iload_n hf dX9_barnacleAt_6 rfl rfl ?_
  refine B_callVi hf (As := [_]) (d_isShip hl0 (st3 σ 0 40 8 0) hR1 hN1 s hs) cv_X9_120 l01 rfl rfl rfl (Nat.le_of_ble_eq_true rfl) ⟨by decide, by decide, by decide, by decide⟩ dX9_barnacleAt_7 ?_
  refine V_if_ne (tgt := 19) hf (by split <;> exact ⟨by decide, by decide⟩) dX9_barnacleAt_10 (by decide) (fun h10 => ?_) (fun h10 => ?_)
  · refine V_aload_n hf dX9_barnacleAt_19 rfl rfl ?_
    refine V_iload_n hf dX9_barnacleAt_20 rfl rfl ?_
    refine V_iload_n hf dX9_barnacleAt_21 rfl rfl ?_
    refine B_callVi hf (As := [_, _]) (d_barn hl0 (st3 σ 0 40 8 0) hR1 hN1 s hs p hp) cv_X9_203 l01 rfl rfl rfl (Nat.le_of_ble_eq_true rfl) ⟨by decide, by decide, by decide, by decide⟩ dX9_barnacleAt_22 ?_
    rw [e41]
    have r9 : -1 ≤ mbarn (σ 0 41) s p ∧ (mbarn (σ 0 41) s p < σ 0 41 1 ∨ mbarn (σ 0 41) s p = -1) := fst_r
    refine V_istore_n (ls2 := [_, _, _, _]) hf dX9_barnacleAt_25 rfl (by decide) rfl rfl ?_
    refine V_iload_n hf dX9_barnacleAt_26 rfl rfl ?_
    refine V_iconst hf dX9_barnacleAt_27 ?_
    refine V_icmp_ne (tgt := 39) hf ⟨by omega, by omega⟩ ⟨by omega, by omega⟩ dX9_barnacleAt_28 (by decide) (fun h28 => ?_) (fun h28 => ?_)
    · refine V_iload_n hf dX9_barnacleAt_39 rfl rfl ?_
      exact B_iret hf he rfl dX9_barnacleAt_40 (by decide) (by decide) rfl rfl
    · exact absurd h28 (by first | omega | (split at h28 <;> omega))
  · exact absurd h10 (by first | omega | (split at h10 <;> omega))

set_option maxHeartbeats 4000000 in
set_option maxRecDepth 100000 in
theorem dx_barnacleAt {l : Launch} {D : va_G} {K : Nat → ClassId} {ad : Adr} (hl0 : l.stackTraces = false) (σ : Mem) (hR : Rng σ) (hN : NI (σ 0 41)) (s : Int) (hs : inR s) (p : Int) (hp : inR p) (hk : 0 ≤ s ∧ s < σ 0 41 0) (hq : mbarn (σ 0 41) s p = -1) : Cb l D K ad yX9_barnacleAt (.code yX9_barnacleAt cX9_barnacleAt 4 (some .int)) 5 0 0 σ [.ref (ad 0 40), .int (iN s), .int (iN p)] (.inl (some (.int (iN (-1))))) (st3 (st3 σ 0 40 8 0) 0 40 8 2) := by
  refine Cb.of (own := RX9) (ls0 := [some (.ref (ad 0 40)), some (.int (iN s)), some (.int (iN p)), none]) hl0 (by decide) rfl (Nat.le_of_ble_eq_true rfl) rfl ?_
  intro X hX1 hX2 hX3 hf he hh
  subst hX1 hX2 hX3
  have e41 : st3 σ 0 40 8 0 0 41 = σ 0 41 := by
    funext k
    exact st3_j (by decide)
  have z0 := congrFun e41 0
  have z1 := congrFun e41 1
  have z2 := congrFun e41 2
  have z3 := congrFun e41 3
  have hN1 : NI (st3 σ 0 40 8 0 0 41) := by
    rw [e41]
    exact hN
  have hR1 : Rng (st3 σ 0 40 8 0) := hR.st ⟨by decide, by decide⟩
  have n0 := hN.n0
  have n1 := hN.n1
  have n2 := hN.n2
  have n3 := hN.n3
  refine V_aload_n hf dX9_barnacleAt_0 rfl rfl ?_
  refine V_iconst hf dX9_barnacleAt_1 ?_
  refine B_putI (kI := 8) hf rfl l01 rfl fp_X9_38_12 rfl rfl (Nat.le_of_ble_eq_true rfl) (by decide) (cs_40_8 _ _ _ _ _) dX9_barnacleAt_2 ?_
  refine V_aload_n hf dX9_barnacleAt_5 rfl rfl ?_
  refine V_iload_n hf dX9_barnacleAt_6 rfl rfl ?_
  refine B_callVi hf (As := [_]) (d_isShip hl0 (st3 σ 0 40 8 0) hR1 hN1 s hs) cv_X9_120 l01 rfl rfl rfl (Nat.le_of_ble_eq_true rfl) ⟨by decide, by decide, by decide, by decide⟩ dX9_barnacleAt_7 ?_
  refine V_if_ne (tgt := 19) hf (by split <;> exact ⟨by decide, by decide⟩) dX9_barnacleAt_10 (by decide) (fun h10 => ?_) (fun h10 => ?_)
  · refine V_aload_n hf dX9_barnacleAt_19 rfl rfl ?_
    refine V_iload_n hf dX9_barnacleAt_20 rfl rfl ?_
    refine V_iload_n hf dX9_barnacleAt_21 rfl rfl ?_
    refine B_callVi hf (As := [_, _]) (d_barn hl0 (st3 σ 0 40 8 0) hR1 hN1 s hs p hp) cv_X9_203 l01 rfl rfl rfl (Nat.le_of_ble_eq_true rfl) ⟨by decide, by decide, by decide, by decide⟩ dX9_barnacleAt_22 ?_
    rw [e41]
    have r9 : -1 ≤ mbarn (σ 0 41) s p ∧ (mbarn (σ 0 41) s p < σ 0 41 1 ∨ mbarn (σ 0 41) s p = -1) := fst_r
    refine V_istore_n (ls2 := [_, _, _, _]) hf dX9_barnacleAt_25 rfl (by decide) rfl rfl ?_
    refine V_iload_n hf dX9_barnacleAt_26 rfl rfl ?_
    refine V_iconst hf dX9_barnacleAt_27 ?_
    refine V_icmp_ne (tgt := 39) hf ⟨by omega, by omega⟩ ⟨by omega, by omega⟩ dX9_barnacleAt_28 (by decide) (fun h28 => ?_) (fun h28 => ?_)
    · exact absurd h28 (by first | omega | (split at h28 <;> omega))
    · refine V_aload_n hf dX9_barnacleAt_31 rfl rfl ?_
      refine V_iconst hf dX9_barnacleAt_32 ?_
      refine B_callVi hf (As := [_]) (d_throwing hl0 (st3 σ 0 40 8 0) hR1 2) cv_X9_47 l01 rfl rfl rfl (Nat.le_of_ble_eq_true rfl) ⟨by decide, by decide, by decide, by decide⟩ dX9_barnacleAt_33 ?_
      refine V_goto (tgt := 40) hf dX9_barnacleAt_36 (by decide) ?_
      exact B_iret hf he rfl dX9_barnacleAt_40 (by decide) (by decide) rfl rfl
  · exact absurd h10 (by first | omega | (split at h10 <;> omega))

set_option maxHeartbeats 4000000 in
set_option maxRecDepth 100000 in
theorem dy_barnacleAt {l : Launch} {D : va_G} {K : Nat → ClassId} {ad : Adr} (hl0 : l.stackTraces = false) (σ : Mem) (hR : Rng σ) (hN : NI (σ 0 41)) (s : Int) (hs : inR s) (p : Int) (hp : inR p) (hk : ¬ (0 ≤ s ∧ s < σ 0 41 0)) : Cb l D K ad yX9_barnacleAt (.code yX9_barnacleAt cX9_barnacleAt 4 (some .int)) 5 0 0 σ [.ref (ad 0 40), .int (iN s), .int (iN p)] (.inl (some (.int (iN (-1))))) (st3 (st3 σ 0 40 8 0) 0 40 8 1) := by
  refine Cb.of (own := RX9) (ls0 := [some (.ref (ad 0 40)), some (.int (iN s)), some (.int (iN p)), none]) hl0 (by decide) rfl (Nat.le_of_ble_eq_true rfl) rfl ?_
  intro X hX1 hX2 hX3 hf he hh
  subst hX1 hX2 hX3
  have e41 : st3 σ 0 40 8 0 0 41 = σ 0 41 := by
    funext k
    exact st3_j (by decide)
  have z0 := congrFun e41 0
  have z1 := congrFun e41 1
  have z2 := congrFun e41 2
  have z3 := congrFun e41 3
  have hN1 : NI (st3 σ 0 40 8 0 0 41) := by
    rw [e41]
    exact hN
  have hR1 : Rng (st3 σ 0 40 8 0) := hR.st ⟨by decide, by decide⟩
  have n0 := hN.n0
  have n1 := hN.n1
  have n2 := hN.n2
  have n3 := hN.n3
  refine V_aload_n hf dX9_barnacleAt_0 rfl rfl ?_
  refine V_iconst hf dX9_barnacleAt_1 ?_
  refine B_putI (kI := 8) hf rfl l01 rfl fp_X9_38_12 rfl rfl (Nat.le_of_ble_eq_true rfl) (by decide) (cs_40_8 _ _ _ _ _) dX9_barnacleAt_2 ?_
  refine V_aload_n hf dX9_barnacleAt_5 rfl rfl ?_
  refine V_iload_n hf dX9_barnacleAt_6 rfl rfl ?_
  refine B_callVi hf (As := [_]) (d_isShip hl0 (st3 σ 0 40 8 0) hR1 hN1 s hs) cv_X9_120 l01 rfl rfl rfl (Nat.le_of_ble_eq_true rfl) ⟨by decide, by decide, by decide, by decide⟩ dX9_barnacleAt_7 ?_
  refine V_if_ne (tgt := 19) hf (by split <;> exact ⟨by decide, by decide⟩) dX9_barnacleAt_10 (by decide) (fun h10 => ?_) (fun h10 => ?_)
  · exact absurd h10 (by first | omega | (split at h10 <;> omega))
  · refine V_aload_n hf dX9_barnacleAt_13 rfl rfl ?_
    refine V_iconst hf dX9_barnacleAt_14 ?_
    refine B_callVi hf (As := [_]) (d_throwing hl0 (st3 σ 0 40 8 0) hR1 1) cv_X9_47 l01 rfl rfl rfl (Nat.le_of_ble_eq_true rfl) ⟨by decide, by decide, by decide, by decide⟩ dX9_barnacleAt_15 ?_
    exact B_iret hf he rfl dX9_barnacleAt_18 (by decide) (by decide) rfl rfl

set_option maxHeartbeats 4000000 in
set_option maxRecDepth 100000 in
theorem d_bidAt {l : Launch} {D : va_G} {K : Nat → ClassId} {ad : Adr} (hl0 : l.stackTraces = false) (σ : Mem) (hR : Rng σ) (hN : NI (σ 0 41)) (i : Int) (hi : inR i) (hq : mbRank (σ 0 41) i ≠ -1) : Cb l D K ad yX9_bidAt (.code yX9_bidAt cX9_bidAt 3 (some .int)) 5 0 0 σ [.ref (ad 0 40), .int (iN i)] (.inl (some (.int (iN (σ 0 41 (58 + 5 * mbRank (σ 0 41) i)))))) (st3 σ 0 40 8 0) := by
  refine Cb.of (own := RX9) (ls0 := [some (.ref (ad 0 40)), some (.int (iN i)), none]) hl0 (by decide) rfl (Nat.le_of_ble_eq_true rfl) rfl ?_
  intro X hX1 hX2 hX3 hf he hh
  subst hX1 hX2 hX3
  have e41 : st3 σ 0 40 8 0 0 41 = σ 0 41 := by
    funext k
    exact st3_j (by decide)
  have z0 := congrFun e41 0
  have z1 := congrFun e41 1
  have z2 := congrFun e41 2
  have z3 := congrFun e41 3
  have hN1 : NI (st3 σ 0 40 8 0 0 41) := by
    rw [e41]
    exact hN
  have hR1 : Rng (st3 σ 0 40 8 0) := hR.st ⟨by decide, by decide⟩
  have n0 := hN.n0
  have n1 := hN.n1
  have n2 := hN.n2
  have n3 := hN.n3
  refine V_aload_n hf dX9_bidAt_0 rfl rfl ?_
  refine V_iconst hf dX9_bidAt_1 ?_
  refine B_putI (kI := 8) hf rfl l01 rfl fp_X9_38_12 rfl rfl (Nat.le_of_ble_eq_true rfl) (by decide) (cs_40_8 _ _ _ _ _) dX9_bidAt_2 ?_
  refine V_aload_n hf dX9_bidAt_5 rfl rfl ?_
  refine V_iload_n hf dX9_bidAt_6 rfl rfl ?_
  refine B_callVi hf (As := [_]) (d_bRank hl0 (st3 σ 0 40 8 0) hR1 hN1 i hi) cv_X9_135 l01 rfl rfl rfl (Nat.le_of_ble_eq_true rfl) ⟨by decide, by decide, by decide, by decide⟩ dX9_bidAt_7 ?_
  rw [e41]
  have r9 : -1 ≤ mbRank (σ 0 41) i ∧ (mbRank (σ 0 41) i < σ 0 41 2 ∨ mbRank (σ 0 41) i = -1) := fst_r
  refine V_istore_n (ls2 := [_, _, _]) hf dX9_bidAt_10 rfl (by decide) rfl rfl ?_
  refine V_iload_n hf dX9_bidAt_11 rfl rfl ?_
  refine V_iconst hf dX9_bidAt_12 ?_
  refine V_icmp_ne (tgt := 24) hf ⟨by omega, by omega⟩ ⟨by omega, by omega⟩ dX9_bidAt_13 (by decide) (fun h13 => ?_) (fun h13 => ?_)
  · refine V_aload_n hf dX9_bidAt_24 rfl rfl ?_
    refine B_get hf l01 rfl fl_X9_9_12 rfl dX9_bidAt_25 ?_
    refine V_iload_n hf dX9_bidAt_28 rfl rfl ?_
    refine B_callSi hf (As := [_]) (d_bidAtPlace hl0 (st3 σ 0 40 8 0) (mbRank (σ 0 41) i)) cvs_X9_73 rfl (Nat.le_of_ble_eq_true rfl) ⟨by decide, by decide, by decide, by decide⟩ dX9_bidAt_29 ?_
    refine B_iald hf l01 (fun _ => rfl) ⟨by omega, by omega⟩ (by omega) (by omega) dX9_bidAt_32 ?_
    exact B_iret hf he rfl dX9_bidAt_33 (by decide) (by decide) (by first | rw [e41] | (simp only [e41]; done) | rfl) rfl
  · exact absurd h13 (by first | omega | (split at h13 <;> omega))

set_option maxHeartbeats 4000000 in
set_option maxRecDepth 100000 in
theorem dx_bidAt {l : Launch} {D : va_G} {K : Nat → ClassId} {ad : Adr} (hl0 : l.stackTraces = false) (σ : Mem) (hR : Rng σ) (hN : NI (σ 0 41)) (i : Int) (hi : inR i) (hq : mbRank (σ 0 41) i = -1) : Cb l D K ad yX9_bidAt (.code yX9_bidAt cX9_bidAt 3 (some .int)) 5 0 0 σ [.ref (ad 0 40), .int (iN i)] (.inl (some (.int (iN (-1))))) (st3 (st3 σ 0 40 8 0) 0 40 8 1) := by
  refine Cb.of (own := RX9) (ls0 := [some (.ref (ad 0 40)), some (.int (iN i)), none]) hl0 (by decide) rfl (Nat.le_of_ble_eq_true rfl) rfl ?_
  intro X hX1 hX2 hX3 hf he hh
  subst hX1 hX2 hX3
  have e41 : st3 σ 0 40 8 0 0 41 = σ 0 41 := by
    funext k
    exact st3_j (by decide)
  have z0 := congrFun e41 0
  have z1 := congrFun e41 1
  have z2 := congrFun e41 2
  have z3 := congrFun e41 3
  have hN1 : NI (st3 σ 0 40 8 0 0 41) := by
    rw [e41]
    exact hN
  have hR1 : Rng (st3 σ 0 40 8 0) := hR.st ⟨by decide, by decide⟩
  have n0 := hN.n0
  have n1 := hN.n1
  have n2 := hN.n2
  have n3 := hN.n3
  refine V_aload_n hf dX9_bidAt_0 rfl rfl ?_
  refine V_iconst hf dX9_bidAt_1 ?_
  refine B_putI (kI := 8) hf rfl l01 rfl fp_X9_38_12 rfl rfl (Nat.le_of_ble_eq_true rfl) (by decide) (cs_40_8 _ _ _ _ _) dX9_bidAt_2 ?_
  refine V_aload_n hf dX9_bidAt_5 rfl rfl ?_
  refine V_iload_n hf dX9_bidAt_6 rfl rfl ?_
  refine B_callVi hf (As := [_]) (d_bRank hl0 (st3 σ 0 40 8 0) hR1 hN1 i hi) cv_X9_135 l01 rfl rfl rfl (Nat.le_of_ble_eq_true rfl) ⟨by decide, by decide, by decide, by decide⟩ dX9_bidAt_7 ?_
  rw [e41]
  have r9 : -1 ≤ mbRank (σ 0 41) i ∧ (mbRank (σ 0 41) i < σ 0 41 2 ∨ mbRank (σ 0 41) i = -1) := fst_r
  refine V_istore_n (ls2 := [_, _, _]) hf dX9_bidAt_10 rfl (by decide) rfl rfl ?_
  refine V_iload_n hf dX9_bidAt_11 rfl rfl ?_
  refine V_iconst hf dX9_bidAt_12 ?_
  refine V_icmp_ne (tgt := 24) hf ⟨by omega, by omega⟩ ⟨by omega, by omega⟩ dX9_bidAt_13 (by decide) (fun h13 => ?_) (fun h13 => ?_)
  · exact absurd h13 (by first | omega | (split at h13 <;> omega))
  · refine V_aload_n hf dX9_bidAt_16 rfl rfl ?_
    refine V_iconst hf dX9_bidAt_17 ?_
    refine B_callVi hf (As := [_]) (d_throwing hl0 (st3 σ 0 40 8 0) hR1 1) cv_X9_47 l01 rfl rfl rfl (Nat.le_of_ble_eq_true rfl) ⟨by decide, by decide, by decide, by decide⟩ dX9_bidAt_18 ?_
    refine V_goto (tgt := 33) hf dX9_bidAt_21 (by decide) ?_
    exact B_iret hf he rfl dX9_bidAt_33 (by decide) (by decide) rfl rfl

set_option maxHeartbeats 4000000 in
set_option maxRecDepth 100000 in
theorem d_offerAt {l : Launch} {D : va_G} {K : Nat → ClassId} {ad : Adr} (hl0 : l.stackTraces = false) (σ : Mem) (hR : Rng σ) (hN : NI (σ 0 41)) (i : Int) (hi : inR i) (hq : moRank (σ 0 41) i ≠ -1) : Cb l D K ad yX9_offerAt (.code yX9_offerAt cX9_offerAt 3 (some .int)) 5 0 0 σ [.ref (ad 0 40), .int (iN i)] (.inl (some (.int (iN (σ 0 41 (108 + 4 * moRank (σ 0 41) i)))))) (st3 σ 0 40 8 0) := by
  refine Cb.of (own := RX9) (ls0 := [some (.ref (ad 0 40)), some (.int (iN i)), none]) hl0 (by decide) rfl (Nat.le_of_ble_eq_true rfl) rfl ?_
  intro X hX1 hX2 hX3 hf he hh
  subst hX1 hX2 hX3
  have e41 : st3 σ 0 40 8 0 0 41 = σ 0 41 := by
    funext k
    exact st3_j (by decide)
  have z0 := congrFun e41 0
  have z1 := congrFun e41 1
  have z2 := congrFun e41 2
  have z3 := congrFun e41 3
  have hN1 : NI (st3 σ 0 40 8 0 0 41) := by
    rw [e41]
    exact hN
  have hR1 : Rng (st3 σ 0 40 8 0) := hR.st ⟨by decide, by decide⟩
  have n0 := hN.n0
  have n1 := hN.n1
  have n2 := hN.n2
  have n3 := hN.n3
  refine V_aload_n hf dX9_offerAt_0 rfl rfl ?_
  refine V_iconst hf dX9_offerAt_1 ?_
  refine B_putI (kI := 8) hf rfl l01 rfl fp_X9_38_12 rfl rfl (Nat.le_of_ble_eq_true rfl) (by decide) (cs_40_8 _ _ _ _ _) dX9_offerAt_2 ?_
  refine V_aload_n hf dX9_offerAt_5 rfl rfl ?_
  refine V_iload_n hf dX9_offerAt_6 rfl rfl ?_
  refine B_callVi hf (As := [_]) (d_oRank hl0 (st3 σ 0 40 8 0) hR1 hN1 i hi) cv_X9_206 l01 rfl rfl rfl (Nat.le_of_ble_eq_true rfl) ⟨by decide, by decide, by decide, by decide⟩ dX9_offerAt_7 ?_
  rw [e41]
  have r9 : -1 ≤ moRank (σ 0 41) i ∧ (moRank (σ 0 41) i < σ 0 41 3 ∨ moRank (σ 0 41) i = -1) := fst_r
  refine V_istore_n (ls2 := [_, _, _]) hf dX9_offerAt_10 rfl (by decide) rfl rfl ?_
  refine V_iload_n hf dX9_offerAt_11 rfl rfl ?_
  refine V_iconst hf dX9_offerAt_12 ?_
  refine V_icmp_ne (tgt := 24) hf ⟨by omega, by omega⟩ ⟨by omega, by omega⟩ dX9_offerAt_13 (by decide) (fun h13 => ?_) (fun h13 => ?_)
  · refine V_aload_n hf dX9_offerAt_24 rfl rfl ?_
    refine B_get hf l01 rfl fl_X9_9_12 rfl dX9_offerAt_25 ?_
    refine V_iload_n hf dX9_offerAt_28 rfl rfl ?_
    refine B_callSi hf (As := [_]) (d_offerAtPlace hl0 (st3 σ 0 40 8 0) (moRank (σ 0 41) i)) cvs_X9_82 rfl (Nat.le_of_ble_eq_true rfl) ⟨by decide, by decide, by decide, by decide⟩ dX9_offerAt_29 ?_
    refine B_iald hf l01 (fun _ => rfl) ⟨by omega, by omega⟩ (by omega) (by omega) dX9_offerAt_32 ?_
    exact B_iret hf he rfl dX9_offerAt_33 (by decide) (by decide) (by first | rw [e41] | (simp only [e41]; done) | rfl) rfl
  · exact absurd h13 (by first | omega | (split at h13 <;> omega))

set_option maxHeartbeats 4000000 in
set_option maxRecDepth 100000 in
theorem dx_offerAt {l : Launch} {D : va_G} {K : Nat → ClassId} {ad : Adr} (hl0 : l.stackTraces = false) (σ : Mem) (hR : Rng σ) (hN : NI (σ 0 41)) (i : Int) (hi : inR i) (hq : moRank (σ 0 41) i = -1) : Cb l D K ad yX9_offerAt (.code yX9_offerAt cX9_offerAt 3 (some .int)) 5 0 0 σ [.ref (ad 0 40), .int (iN i)] (.inl (some (.int (iN (-1))))) (st3 (st3 σ 0 40 8 0) 0 40 8 1) := by
  refine Cb.of (own := RX9) (ls0 := [some (.ref (ad 0 40)), some (.int (iN i)), none]) hl0 (by decide) rfl (Nat.le_of_ble_eq_true rfl) rfl ?_
  intro X hX1 hX2 hX3 hf he hh
  subst hX1 hX2 hX3
  have e41 : st3 σ 0 40 8 0 0 41 = σ 0 41 := by
    funext k
    exact st3_j (by decide)
  have z0 := congrFun e41 0
  have z1 := congrFun e41 1
  have z2 := congrFun e41 2
  have z3 := congrFun e41 3
  have hN1 : NI (st3 σ 0 40 8 0 0 41) := by
    rw [e41]
    exact hN
  have hR1 : Rng (st3 σ 0 40 8 0) := hR.st ⟨by decide, by decide⟩
  have n0 := hN.n0
  have n1 := hN.n1
  have n2 := hN.n2
  have n3 := hN.n3
  refine V_aload_n hf dX9_offerAt_0 rfl rfl ?_
  refine V_iconst hf dX9_offerAt_1 ?_
  refine B_putI (kI := 8) hf rfl l01 rfl fp_X9_38_12 rfl rfl (Nat.le_of_ble_eq_true rfl) (by decide) (cs_40_8 _ _ _ _ _) dX9_offerAt_2 ?_
  refine V_aload_n hf dX9_offerAt_5 rfl rfl ?_
  refine V_iload_n hf dX9_offerAt_6 rfl rfl ?_
  refine B_callVi hf (As := [_]) (d_oRank hl0 (st3 σ 0 40 8 0) hR1 hN1 i hi) cv_X9_206 l01 rfl rfl rfl (Nat.le_of_ble_eq_true rfl) ⟨by decide, by decide, by decide, by decide⟩ dX9_offerAt_7 ?_
  rw [e41]
  have r9 : -1 ≤ moRank (σ 0 41) i ∧ (moRank (σ 0 41) i < σ 0 41 3 ∨ moRank (σ 0 41) i = -1) := fst_r
  refine V_istore_n (ls2 := [_, _, _]) hf dX9_offerAt_10 rfl (by decide) rfl rfl ?_
  refine V_iload_n hf dX9_offerAt_11 rfl rfl ?_
  refine V_iconst hf dX9_offerAt_12 ?_
  refine V_icmp_ne (tgt := 24) hf ⟨by omega, by omega⟩ ⟨by omega, by omega⟩ dX9_offerAt_13 (by decide) (fun h13 => ?_) (fun h13 => ?_)
  · exact absurd h13 (by first | omega | (split at h13 <;> omega))
  · refine V_aload_n hf dX9_offerAt_16 rfl rfl ?_
    refine V_iconst hf dX9_offerAt_17 ?_
    refine B_callVi hf (As := [_]) (d_throwing hl0 (st3 σ 0 40 8 0) hR1 1) cv_X9_47 l01 rfl rfl rfl (Nat.le_of_ble_eq_true rfl) ⟨by decide, by decide, by decide, by decide⟩ dX9_offerAt_18 ?_
    refine V_goto (tgt := 33) hf dX9_offerAt_21 (by decide) ?_
    exact B_iret hf he rfl dX9_offerAt_33 (by decide) (by decide) rfl rfl

set_option maxHeartbeats 4000000 in
set_option maxRecDepth 100000 in
theorem d_ofBid {l : Launch} {D : va_G} {K : Nat → ClassId} {ad : Adr} (hl0 : l.stackTraces = false) (σ : Mem) (hR : Rng σ) (hN : NI (σ 0 41)) (i : Int) (hi : inR i) (q : Int) (hw : 0 ≤ q ∧ q < 5) (hq : mplB (σ 0 41) i ≠ -1) : Cb l D K ad yX9_ofBid (.code yX9_ofBid cX9_ofBid 4 (some .int)) 4 0 0 σ [.ref (ad 0 40), .int (iN i), .int (iN q)] (.inl (some (.int (iN (σ 0 41 (58 + 5 * mplB (σ 0 41) i + q)))))) (st3 σ 0 40 8 0) := by
  refine Cb.of (own := RX9) (ls0 := [some (.ref (ad 0 40)), some (.int (iN i)), some (.int (iN q)), none]) hl0 (by decide) rfl (Nat.le_of_ble_eq_true rfl) rfl ?_
  intro X hX1 hX2 hX3 hf he hh
  subst hX1 hX2 hX3
  have e41 : st3 σ 0 40 8 0 0 41 = σ 0 41 := by
    funext k
    exact st3_j (by decide)
  have z0 := congrFun e41 0
  have z1 := congrFun e41 1
  have z2 := congrFun e41 2
  have z3 := congrFun e41 3
  have hN1 : NI (st3 σ 0 40 8 0 0 41) := by
    rw [e41]
    exact hN
  have hR1 : Rng (st3 σ 0 40 8 0) := hR.st ⟨by decide, by decide⟩
  have n0 := hN.n0
  have n1 := hN.n1
  have n2 := hN.n2
  have n3 := hN.n3
  refine V_aload_n hf dX9_ofBid_0 rfl rfl ?_
  refine V_iconst hf dX9_ofBid_1 ?_
  refine B_putI (kI := 8) hf rfl l01 rfl fp_X9_38_12 rfl rfl (Nat.le_of_ble_eq_true rfl) (by decide) (cs_40_8 _ _ _ _ _) dX9_ofBid_2 ?_
  refine V_aload_n hf dX9_ofBid_5 rfl rfl ?_
  refine V_iload_n hf dX9_ofBid_6 rfl rfl ?_
  refine B_callVi hf (As := [_]) (d_plB hl0 (st3 σ 0 40 8 0) hR1 hN1 i hi) cv_X9_153 l01 rfl rfl rfl (Nat.le_of_ble_eq_true rfl) ⟨by decide, by decide, by decide, by decide⟩ dX9_ofBid_7 ?_
  rw [e41]
  have r9 : -1 ≤ mplB (σ 0 41) i ∧ (mplB (σ 0 41) i < σ 0 41 2 ∨ mplB (σ 0 41) i = -1) := fst_r
  refine V_istore_n (ls2 := [_, _, _, _]) hf dX9_ofBid_10 rfl (by decide) rfl rfl ?_
  refine V_iload_n hf dX9_ofBid_11 rfl rfl ?_
  refine V_iconst hf dX9_ofBid_12 ?_
  refine V_icmp_ne (tgt := 24) hf ⟨by omega, by omega⟩ ⟨by omega, by omega⟩ dX9_ofBid_13 (by decide) (fun h13 => ?_) (fun h13 => ?_)
  · refine V_aload_n hf dX9_ofBid_24 rfl rfl ?_
    refine B_get hf l01 rfl fl_X9_9_12 rfl dX9_ofBid_25 ?_
    refine V_iload_n hf dX9_ofBid_28 rfl rfl ?_
    refine B_callSi hf (As := [_]) (d_bidAtPlace hl0 (st3 σ 0 40 8 0) (mplB (σ 0 41) i)) cvs_X9_73 rfl (Nat.le_of_ble_eq_true rfl) ⟨by decide, by decide, by decide, by decide⟩ dX9_ofBid_29 ?_
    refine V_iload_n hf dX9_ofBid_32 rfl rfl ?_
    refine V_iadd hf dX9_ofBid_33 ?_
    refine B_iald hf l01 (fun _ => rfl) ⟨by omega, by omega⟩ (by omega) (by omega) dX9_ofBid_34 ?_
    exact B_iret hf he rfl dX9_ofBid_35 (by decide) (by decide) (by first | rw [e41] | (simp only [e41]; done) | rfl) rfl
  · exact absurd h13 (by first | omega | (split at h13 <;> omega))

set_option maxHeartbeats 4000000 in
set_option maxRecDepth 100000 in
theorem dx_ofBid {l : Launch} {D : va_G} {K : Nat → ClassId} {ad : Adr} (hl0 : l.stackTraces = false) (σ : Mem) (hR : Rng σ) (hN : NI (σ 0 41)) (i : Int) (hi : inR i) (q : Int) (hq : mplB (σ 0 41) i = -1) : Cb l D K ad yX9_ofBid (.code yX9_ofBid cX9_ofBid 4 (some .int)) 4 0 0 σ [.ref (ad 0 40), .int (iN i), .int (iN q)] (.inl (some (.int (iN (-1))))) (st3 (st3 σ 0 40 8 0) 0 40 8 1) := by
  refine Cb.of (own := RX9) (ls0 := [some (.ref (ad 0 40)), some (.int (iN i)), some (.int (iN q)), none]) hl0 (by decide) rfl (Nat.le_of_ble_eq_true rfl) rfl ?_
  intro X hX1 hX2 hX3 hf he hh
  subst hX1 hX2 hX3
  have e41 : st3 σ 0 40 8 0 0 41 = σ 0 41 := by
    funext k
    exact st3_j (by decide)
  have z0 := congrFun e41 0
  have z1 := congrFun e41 1
  have z2 := congrFun e41 2
  have z3 := congrFun e41 3
  have hN1 : NI (st3 σ 0 40 8 0 0 41) := by
    rw [e41]
    exact hN
  have hR1 : Rng (st3 σ 0 40 8 0) := hR.st ⟨by decide, by decide⟩
  have n0 := hN.n0
  have n1 := hN.n1
  have n2 := hN.n2
  have n3 := hN.n3
  refine V_aload_n hf dX9_ofBid_0 rfl rfl ?_
  refine V_iconst hf dX9_ofBid_1 ?_
  refine B_putI (kI := 8) hf rfl l01 rfl fp_X9_38_12 rfl rfl (Nat.le_of_ble_eq_true rfl) (by decide) (cs_40_8 _ _ _ _ _) dX9_ofBid_2 ?_
  refine V_aload_n hf dX9_ofBid_5 rfl rfl ?_
  refine V_iload_n hf dX9_ofBid_6 rfl rfl ?_
  refine B_callVi hf (As := [_]) (d_plB hl0 (st3 σ 0 40 8 0) hR1 hN1 i hi) cv_X9_153 l01 rfl rfl rfl (Nat.le_of_ble_eq_true rfl) ⟨by decide, by decide, by decide, by decide⟩ dX9_ofBid_7 ?_
  rw [e41]
  have r9 : -1 ≤ mplB (σ 0 41) i ∧ (mplB (σ 0 41) i < σ 0 41 2 ∨ mplB (σ 0 41) i = -1) := fst_r
  refine V_istore_n (ls2 := [_, _, _, _]) hf dX9_ofBid_10 rfl (by decide) rfl rfl ?_
  refine V_iload_n hf dX9_ofBid_11 rfl rfl ?_
  refine V_iconst hf dX9_ofBid_12 ?_
  refine V_icmp_ne (tgt := 24) hf ⟨by omega, by omega⟩ ⟨by omega, by omega⟩ dX9_ofBid_13 (by decide) (fun h13 => ?_) (fun h13 => ?_)
  · exact absurd h13 (by first | omega | (split at h13 <;> omega))
  · refine V_aload_n hf dX9_ofBid_16 rfl rfl ?_
    refine V_iconst hf dX9_ofBid_17 ?_
    refine B_callVi hf (As := [_]) (d_throwing hl0 (st3 σ 0 40 8 0) hR1 1) cv_X9_47 l01 rfl rfl rfl (Nat.le_of_ble_eq_true rfl) ⟨by decide, by decide, by decide, by decide⟩ dX9_ofBid_18 ?_
    refine V_goto (tgt := 35) hf dX9_ofBid_21 (by decide) ?_
    exact B_iret hf he rfl dX9_ofBid_35 (by decide) (by decide) rfl rfl

set_option maxHeartbeats 4000000 in
set_option maxRecDepth 100000 in
theorem d_ofOffer {l : Launch} {D : va_G} {K : Nat → ClassId} {ad : Adr} (hl0 : l.stackTraces = false) (σ : Mem) (hR : Rng σ) (hN : NI (σ 0 41)) (i : Int) (hi : inR i) (q : Int) (hw : 0 ≤ q ∧ q < 4) (hq : mplO (σ 0 41) i ≠ -1) : Cb l D K ad yX9_ofOffer (.code yX9_ofOffer cX9_ofOffer 4 (some .int)) 4 0 0 σ [.ref (ad 0 40), .int (iN i), .int (iN q)] (.inl (some (.int (iN (σ 0 41 (108 + 4 * mplO (σ 0 41) i + q)))))) (st3 σ 0 40 8 0) := by
  refine Cb.of (own := RX9) (ls0 := [some (.ref (ad 0 40)), some (.int (iN i)), some (.int (iN q)), none]) hl0 (by decide) rfl (Nat.le_of_ble_eq_true rfl) rfl ?_
  intro X hX1 hX2 hX3 hf he hh
  subst hX1 hX2 hX3
  have e41 : st3 σ 0 40 8 0 0 41 = σ 0 41 := by
    funext k
    exact st3_j (by decide)
  have z0 := congrFun e41 0
  have z1 := congrFun e41 1
  have z2 := congrFun e41 2
  have z3 := congrFun e41 3
  have hN1 : NI (st3 σ 0 40 8 0 0 41) := by
    rw [e41]
    exact hN
  have hR1 : Rng (st3 σ 0 40 8 0) := hR.st ⟨by decide, by decide⟩
  have n0 := hN.n0
  have n1 := hN.n1
  have n2 := hN.n2
  have n3 := hN.n3
  refine V_aload_n hf dX9_ofOffer_0 rfl rfl ?_
  refine V_iconst hf dX9_ofOffer_1 ?_
  refine B_putI (kI := 8) hf rfl l01 rfl fp_X9_38_12 rfl rfl (Nat.le_of_ble_eq_true rfl) (by decide) (cs_40_8 _ _ _ _ _) dX9_ofOffer_2 ?_
  refine V_aload_n hf dX9_ofOffer_5 rfl rfl ?_
  refine V_iload_n hf dX9_ofOffer_6 rfl rfl ?_
  refine B_callVi hf (As := [_]) (d_plO hl0 (st3 σ 0 40 8 0) hR1 hN1 i hi) cv_X9_163 l01 rfl rfl rfl (Nat.le_of_ble_eq_true rfl) ⟨by decide, by decide, by decide, by decide⟩ dX9_ofOffer_7 ?_
  rw [e41]
  have r9 : -1 ≤ mplO (σ 0 41) i ∧ (mplO (σ 0 41) i < σ 0 41 3 ∨ mplO (σ 0 41) i = -1) := fst_r
  refine V_istore_n (ls2 := [_, _, _, _]) hf dX9_ofOffer_10 rfl (by decide) rfl rfl ?_
  refine V_iload_n hf dX9_ofOffer_11 rfl rfl ?_
  refine V_iconst hf dX9_ofOffer_12 ?_
  refine V_icmp_ne (tgt := 24) hf ⟨by omega, by omega⟩ ⟨by omega, by omega⟩ dX9_ofOffer_13 (by decide) (fun h13 => ?_) (fun h13 => ?_)
  · refine V_aload_n hf dX9_ofOffer_24 rfl rfl ?_
    refine B_get hf l01 rfl fl_X9_9_12 rfl dX9_ofOffer_25 ?_
    refine V_iload_n hf dX9_ofOffer_28 rfl rfl ?_
    refine B_callSi hf (As := [_]) (d_offerAtPlace hl0 (st3 σ 0 40 8 0) (mplO (σ 0 41) i)) cvs_X9_82 rfl (Nat.le_of_ble_eq_true rfl) ⟨by decide, by decide, by decide, by decide⟩ dX9_ofOffer_29 ?_
    refine V_iload_n hf dX9_ofOffer_32 rfl rfl ?_
    refine V_iadd hf dX9_ofOffer_33 ?_
    refine B_iald hf l01 (fun _ => rfl) ⟨by omega, by omega⟩ (by omega) (by omega) dX9_ofOffer_34 ?_
    exact B_iret hf he rfl dX9_ofOffer_35 (by decide) (by decide) (by first | rw [e41] | (simp only [e41]; done) | rfl) rfl
  · exact absurd h13 (by first | omega | (split at h13 <;> omega))

set_option maxHeartbeats 4000000 in
set_option maxRecDepth 100000 in
theorem dx_ofOffer {l : Launch} {D : va_G} {K : Nat → ClassId} {ad : Adr} (hl0 : l.stackTraces = false) (σ : Mem) (hR : Rng σ) (hN : NI (σ 0 41)) (i : Int) (hi : inR i) (q : Int) (hq : mplO (σ 0 41) i = -1) : Cb l D K ad yX9_ofOffer (.code yX9_ofOffer cX9_ofOffer 4 (some .int)) 4 0 0 σ [.ref (ad 0 40), .int (iN i), .int (iN q)] (.inl (some (.int (iN (-1))))) (st3 (st3 σ 0 40 8 0) 0 40 8 1) := by
  refine Cb.of (own := RX9) (ls0 := [some (.ref (ad 0 40)), some (.int (iN i)), some (.int (iN q)), none]) hl0 (by decide) rfl (Nat.le_of_ble_eq_true rfl) rfl ?_
  intro X hX1 hX2 hX3 hf he hh
  subst hX1 hX2 hX3
  have e41 : st3 σ 0 40 8 0 0 41 = σ 0 41 := by
    funext k
    exact st3_j (by decide)
  have z0 := congrFun e41 0
  have z1 := congrFun e41 1
  have z2 := congrFun e41 2
  have z3 := congrFun e41 3
  have hN1 : NI (st3 σ 0 40 8 0 0 41) := by
    rw [e41]
    exact hN
  have hR1 : Rng (st3 σ 0 40 8 0) := hR.st ⟨by decide, by decide⟩
  have n0 := hN.n0
  have n1 := hN.n1
  have n2 := hN.n2
  have n3 := hN.n3
  refine V_aload_n hf dX9_ofOffer_0 rfl rfl ?_
  refine V_iconst hf dX9_ofOffer_1 ?_
  refine B_putI (kI := 8) hf rfl l01 rfl fp_X9_38_12 rfl rfl (Nat.le_of_ble_eq_true rfl) (by decide) (cs_40_8 _ _ _ _ _) dX9_ofOffer_2 ?_
  refine V_aload_n hf dX9_ofOffer_5 rfl rfl ?_
  refine V_iload_n hf dX9_ofOffer_6 rfl rfl ?_
  refine B_callVi hf (As := [_]) (d_plO hl0 (st3 σ 0 40 8 0) hR1 hN1 i hi) cv_X9_163 l01 rfl rfl rfl (Nat.le_of_ble_eq_true rfl) ⟨by decide, by decide, by decide, by decide⟩ dX9_ofOffer_7 ?_
  rw [e41]
  have r9 : -1 ≤ mplO (σ 0 41) i ∧ (mplO (σ 0 41) i < σ 0 41 3 ∨ mplO (σ 0 41) i = -1) := fst_r
  refine V_istore_n (ls2 := [_, _, _, _]) hf dX9_ofOffer_10 rfl (by decide) rfl rfl ?_
  refine V_iload_n hf dX9_ofOffer_11 rfl rfl ?_
  refine V_iconst hf dX9_ofOffer_12 ?_
  refine V_icmp_ne (tgt := 24) hf ⟨by omega, by omega⟩ ⟨by omega, by omega⟩ dX9_ofOffer_13 (by decide) (fun h13 => ?_) (fun h13 => ?_)
  · exact absurd h13 (by first | omega | (split at h13 <;> omega))
  · refine V_aload_n hf dX9_ofOffer_16 rfl rfl ?_
    refine V_iconst hf dX9_ofOffer_17 ?_
    refine B_callVi hf (As := [_]) (d_throwing hl0 (st3 σ 0 40 8 0) hR1 1) cv_X9_47 l01 rfl rfl rfl (Nat.le_of_ble_eq_true rfl) ⟨by decide, by decide, by decide, by decide⟩ dX9_ofOffer_18 ?_
    refine V_goto (tgt := 35) hf dX9_ofOffer_21 (by decide) ?_
    exact B_iret hf he rfl dX9_ofOffer_35 (by decide) (by decide) rfl rfl

set_option maxHeartbeats 4000000 in
set_option maxRecDepth 100000 in
theorem d_shipOfBid {l : Launch} {D : va_G} {K : Nat → ClassId} {ad : Adr} (hl0 : l.stackTraces = false) (σ : Mem) (hR : Rng σ) (hN : NI (σ 0 41)) (i : Int) (hi : inR i) (hq : mplB (σ 0 41) i ≠ -1) : Cb l D K ad yX9_shipOfBid (.code yX9_shipOfBid cX9_shipOfBid 2 (some .int)) 5 0 0 σ [.ref (ad 0 40), .int (iN i)] (.inl (some (.int (iN (σ 0 41 (58 + 5 * mplB (σ 0 41) i + 1)))))) (st3 σ 0 40 8 0) := by
  refine Cb.of (own := RX9) (ls0 := [some (.ref (ad 0 40)), some (.int (iN i))]) hl0 (by decide) rfl (Nat.le_of_ble_eq_true rfl) rfl ?_
  intro X hX1 hX2 hX3 hf he hh
  subst hX1 hX2 hX3
  refine V_aload_n hf dX9_shipOfBid_0 rfl rfl ?_
  refine V_iload_n hf dX9_shipOfBid_1 rfl rfl ?_
  refine V_iconst hf dX9_shipOfBid_2 ?_
  refine B_callVi hf (As := [_, _]) (d_ofBid hl0 σ hR hN i hi 1 (by decide) hq) cv_X9_209 l01 rfl rfl rfl (Nat.le_of_ble_eq_true rfl) ⟨by decide, by decide, by decide, by decide⟩ dX9_shipOfBid_3 ?_
  exact B_iret hf he rfl dX9_shipOfBid_6 (by decide) (by decide) rfl rfl

set_option maxHeartbeats 4000000 in
set_option maxRecDepth 100000 in
theorem dx_shipOfBid {l : Launch} {D : va_G} {K : Nat → ClassId} {ad : Adr} (hl0 : l.stackTraces = false) (σ : Mem) (hR : Rng σ) (hN : NI (σ 0 41)) (i : Int) (hi : inR i) (hq : mplB (σ 0 41) i = -1) : Cb l D K ad yX9_shipOfBid (.code yX9_shipOfBid cX9_shipOfBid 2 (some .int)) 5 0 0 σ [.ref (ad 0 40), .int (iN i)] (.inl (some (.int (iN (-1))))) (st3 (st3 σ 0 40 8 0) 0 40 8 1) := by
  refine Cb.of (own := RX9) (ls0 := [some (.ref (ad 0 40)), some (.int (iN i))]) hl0 (by decide) rfl (Nat.le_of_ble_eq_true rfl) rfl ?_
  intro X hX1 hX2 hX3 hf he hh
  subst hX1 hX2 hX3
  refine V_aload_n hf dX9_shipOfBid_0 rfl rfl ?_
  refine V_iload_n hf dX9_shipOfBid_1 rfl rfl ?_
  refine V_iconst hf dX9_shipOfBid_2 ?_
  refine B_callVi hf (As := [_, _]) (dx_ofBid hl0 σ hR hN i hi 1 hq) cv_X9_209 l01 rfl rfl rfl (Nat.le_of_ble_eq_true rfl) ⟨by decide, by decide, by decide, by decide⟩ dX9_shipOfBid_3 ?_
  exact B_iret hf he rfl dX9_shipOfBid_6 (by decide) (by decide) rfl rfl

set_option maxHeartbeats 4000000 in
set_option maxRecDepth 100000 in
theorem d_gradeOfBid {l : Launch} {D : va_G} {K : Nat → ClassId} {ad : Adr} (hl0 : l.stackTraces = false) (σ : Mem) (hR : Rng σ) (hN : NI (σ 0 41)) (i : Int) (hi : inR i) (hq : mplB (σ 0 41) i ≠ -1) : Cb l D K ad yX9_gradeOfBid (.code yX9_gradeOfBid cX9_gradeOfBid 2 (some .int)) 5 0 0 σ [.ref (ad 0 40), .int (iN i)] (.inl (some (.int (iN (σ 0 41 (58 + 5 * mplB (σ 0 41) i + 2)))))) (st3 σ 0 40 8 0) := by
  refine Cb.of (own := RX9) (ls0 := [some (.ref (ad 0 40)), some (.int (iN i))]) hl0 (by decide) rfl (Nat.le_of_ble_eq_true rfl) rfl ?_
  intro X hX1 hX2 hX3 hf he hh
  subst hX1 hX2 hX3
  refine V_aload_n hf dX9_gradeOfBid_0 rfl rfl ?_
  refine V_iload_n hf dX9_gradeOfBid_1 rfl rfl ?_
  refine V_iconst hf dX9_gradeOfBid_2 ?_
  refine B_callVi hf (As := [_, _]) (d_ofBid hl0 σ hR hN i hi 2 (by decide) hq) cv_X9_209 l01 rfl rfl rfl (Nat.le_of_ble_eq_true rfl) ⟨by decide, by decide, by decide, by decide⟩ dX9_gradeOfBid_3 ?_
  exact B_iret hf he rfl dX9_gradeOfBid_6 (by decide) (by decide) rfl rfl

set_option maxHeartbeats 4000000 in
set_option maxRecDepth 100000 in
theorem dx_gradeOfBid {l : Launch} {D : va_G} {K : Nat → ClassId} {ad : Adr} (hl0 : l.stackTraces = false) (σ : Mem) (hR : Rng σ) (hN : NI (σ 0 41)) (i : Int) (hi : inR i) (hq : mplB (σ 0 41) i = -1) : Cb l D K ad yX9_gradeOfBid (.code yX9_gradeOfBid cX9_gradeOfBid 2 (some .int)) 5 0 0 σ [.ref (ad 0 40), .int (iN i)] (.inl (some (.int (iN (-1))))) (st3 (st3 σ 0 40 8 0) 0 40 8 1) := by
  refine Cb.of (own := RX9) (ls0 := [some (.ref (ad 0 40)), some (.int (iN i))]) hl0 (by decide) rfl (Nat.le_of_ble_eq_true rfl) rfl ?_
  intro X hX1 hX2 hX3 hf he hh
  subst hX1 hX2 hX3
  refine V_aload_n hf dX9_gradeOfBid_0 rfl rfl ?_
  refine V_iload_n hf dX9_gradeOfBid_1 rfl rfl ?_
  refine V_iconst hf dX9_gradeOfBid_2 ?_
  refine B_callVi hf (As := [_, _]) (dx_ofBid hl0 σ hR hN i hi 2 hq) cv_X9_209 l01 rfl rfl rfl (Nat.le_of_ble_eq_true rfl) ⟨by decide, by decide, by decide, by decide⟩ dX9_gradeOfBid_3 ?_
  exact B_iret hf he rfl dX9_gradeOfBid_6 (by decide) (by decide) rfl rfl

set_option maxHeartbeats 4000000 in
set_option maxRecDepth 100000 in
theorem d_priceOfBid {l : Launch} {D : va_G} {K : Nat → ClassId} {ad : Adr} (hl0 : l.stackTraces = false) (σ : Mem) (hR : Rng σ) (hN : NI (σ 0 41)) (i : Int) (hi : inR i) (hq : mplB (σ 0 41) i ≠ -1) : Cb l D K ad yX9_priceOfBid (.code yX9_priceOfBid cX9_priceOfBid 2 (some .int)) 5 0 0 σ [.ref (ad 0 40), .int (iN i)] (.inl (some (.int (iN (σ 0 41 (58 + 5 * mplB (σ 0 41) i + 3)))))) (st3 σ 0 40 8 0) := by
  refine Cb.of (own := RX9) (ls0 := [some (.ref (ad 0 40)), some (.int (iN i))]) hl0 (by decide) rfl (Nat.le_of_ble_eq_true rfl) rfl ?_
  intro X hX1 hX2 hX3 hf he hh
  subst hX1 hX2 hX3
  refine V_aload_n hf dX9_priceOfBid_0 rfl rfl ?_
  refine V_iload_n hf dX9_priceOfBid_1 rfl rfl ?_
  refine V_iconst hf dX9_priceOfBid_2 ?_
  refine B_callVi hf (As := [_, _]) (d_ofBid hl0 σ hR hN i hi 3 (by decide) hq) cv_X9_209 l01 rfl rfl rfl (Nat.le_of_ble_eq_true rfl) ⟨by decide, by decide, by decide, by decide⟩ dX9_priceOfBid_3 ?_
  exact B_iret hf he rfl dX9_priceOfBid_6 (by decide) (by decide) rfl rfl

set_option maxHeartbeats 4000000 in
set_option maxRecDepth 100000 in
theorem dx_priceOfBid {l : Launch} {D : va_G} {K : Nat → ClassId} {ad : Adr} (hl0 : l.stackTraces = false) (σ : Mem) (hR : Rng σ) (hN : NI (σ 0 41)) (i : Int) (hi : inR i) (hq : mplB (σ 0 41) i = -1) : Cb l D K ad yX9_priceOfBid (.code yX9_priceOfBid cX9_priceOfBid 2 (some .int)) 5 0 0 σ [.ref (ad 0 40), .int (iN i)] (.inl (some (.int (iN (-1))))) (st3 (st3 σ 0 40 8 0) 0 40 8 1) := by
  refine Cb.of (own := RX9) (ls0 := [some (.ref (ad 0 40)), some (.int (iN i))]) hl0 (by decide) rfl (Nat.le_of_ble_eq_true rfl) rfl ?_
  intro X hX1 hX2 hX3 hf he hh
  subst hX1 hX2 hX3
  refine V_aload_n hf dX9_priceOfBid_0 rfl rfl ?_
  refine V_iload_n hf dX9_priceOfBid_1 rfl rfl ?_
  refine V_iconst hf dX9_priceOfBid_2 ?_
  refine B_callVi hf (As := [_, _]) (dx_ofBid hl0 σ hR hN i hi 3 hq) cv_X9_209 l01 rfl rfl rfl (Nat.le_of_ble_eq_true rfl) ⟨by decide, by decide, by decide, by decide⟩ dX9_priceOfBid_3 ?_
  exact B_iret hf he rfl dX9_priceOfBid_6 (by decide) (by decide) rfl rfl

set_option maxHeartbeats 4000000 in
set_option maxRecDepth 100000 in
theorem d_ageOfBid {l : Launch} {D : va_G} {K : Nat → ClassId} {ad : Adr} (hl0 : l.stackTraces = false) (σ : Mem) (hR : Rng σ) (hN : NI (σ 0 41)) (i : Int) (hi : inR i) (hq : mplB (σ 0 41) i ≠ -1) : Cb l D K ad yX9_ageOfBid (.code yX9_ageOfBid cX9_ageOfBid 2 (some .int)) 5 0 0 σ [.ref (ad 0 40), .int (iN i)] (.inl (some (.int (iN (σ 0 41 (58 + 5 * mplB (σ 0 41) i + 4)))))) (st3 σ 0 40 8 0) := by
  refine Cb.of (own := RX9) (ls0 := [some (.ref (ad 0 40)), some (.int (iN i))]) hl0 (by decide) rfl (Nat.le_of_ble_eq_true rfl) rfl ?_
  intro X hX1 hX2 hX3 hf he hh
  subst hX1 hX2 hX3
  refine V_aload_n hf dX9_ageOfBid_0 rfl rfl ?_
  refine V_iload_n hf dX9_ageOfBid_1 rfl rfl ?_
  refine V_iconst hf dX9_ageOfBid_2 ?_
  refine B_callVi hf (As := [_, _]) (d_ofBid hl0 σ hR hN i hi 4 (by decide) hq) cv_X9_209 l01 rfl rfl rfl (Nat.le_of_ble_eq_true rfl) ⟨by decide, by decide, by decide, by decide⟩ dX9_ageOfBid_3 ?_
  exact B_iret hf he rfl dX9_ageOfBid_6 (by decide) (by decide) rfl rfl

set_option maxHeartbeats 4000000 in
set_option maxRecDepth 100000 in
theorem dx_ageOfBid {l : Launch} {D : va_G} {K : Nat → ClassId} {ad : Adr} (hl0 : l.stackTraces = false) (σ : Mem) (hR : Rng σ) (hN : NI (σ 0 41)) (i : Int) (hi : inR i) (hq : mplB (σ 0 41) i = -1) : Cb l D K ad yX9_ageOfBid (.code yX9_ageOfBid cX9_ageOfBid 2 (some .int)) 5 0 0 σ [.ref (ad 0 40), .int (iN i)] (.inl (some (.int (iN (-1))))) (st3 (st3 σ 0 40 8 0) 0 40 8 1) := by
  refine Cb.of (own := RX9) (ls0 := [some (.ref (ad 0 40)), some (.int (iN i))]) hl0 (by decide) rfl (Nat.le_of_ble_eq_true rfl) rfl ?_
  intro X hX1 hX2 hX3 hf he hh
  subst hX1 hX2 hX3
  refine V_aload_n hf dX9_ageOfBid_0 rfl rfl ?_
  refine V_iload_n hf dX9_ageOfBid_1 rfl rfl ?_
  refine V_iconst hf dX9_ageOfBid_2 ?_
  refine B_callVi hf (As := [_, _]) (dx_ofBid hl0 σ hR hN i hi 4 hq) cv_X9_209 l01 rfl rfl rfl (Nat.le_of_ble_eq_true rfl) ⟨by decide, by decide, by decide, by decide⟩ dX9_ageOfBid_3 ?_
  exact B_iret hf he rfl dX9_ageOfBid_6 (by decide) (by decide) rfl rfl

set_option maxHeartbeats 4000000 in
set_option maxRecDepth 100000 in
theorem d_barnacleOfOffer {l : Launch} {D : va_G} {K : Nat → ClassId} {ad : Adr} (hl0 : l.stackTraces = false) (σ : Mem) (hR : Rng σ) (hN : NI (σ 0 41)) (i : Int) (hi : inR i) (hq : mplO (σ 0 41) i ≠ -1) : Cb l D K ad yX9_barnacleOfOffer (.code yX9_barnacleOfOffer cX9_barnacleOfOffer 2 (some .int)) 5 0 0 σ [.ref (ad 0 40), .int (iN i)] (.inl (some (.int (iN (σ 0 41 (108 + 4 * mplO (σ 0 41) i + 1)))))) (st3 σ 0 40 8 0) := by
  refine Cb.of (own := RX9) (ls0 := [some (.ref (ad 0 40)), some (.int (iN i))]) hl0 (by decide) rfl (Nat.le_of_ble_eq_true rfl) rfl ?_
  intro X hX1 hX2 hX3 hf he hh
  subst hX1 hX2 hX3
  refine V_aload_n hf dX9_barnacleOfOffer_0 rfl rfl ?_
  refine V_iload_n hf dX9_barnacleOfOffer_1 rfl rfl ?_
  refine V_iconst hf dX9_barnacleOfOffer_2 ?_
  refine B_callVi hf (As := [_, _]) (d_ofOffer hl0 σ hR hN i hi 1 (by decide) hq) cv_X9_212 l01 rfl rfl rfl (Nat.le_of_ble_eq_true rfl) ⟨by decide, by decide, by decide, by decide⟩ dX9_barnacleOfOffer_3 ?_
  exact B_iret hf he rfl dX9_barnacleOfOffer_6 (by decide) (by decide) rfl rfl

set_option maxHeartbeats 4000000 in
set_option maxRecDepth 100000 in
theorem dx_barnacleOfOffer {l : Launch} {D : va_G} {K : Nat → ClassId} {ad : Adr} (hl0 : l.stackTraces = false) (σ : Mem) (hR : Rng σ) (hN : NI (σ 0 41)) (i : Int) (hi : inR i) (hq : mplO (σ 0 41) i = -1) : Cb l D K ad yX9_barnacleOfOffer (.code yX9_barnacleOfOffer cX9_barnacleOfOffer 2 (some .int)) 5 0 0 σ [.ref (ad 0 40), .int (iN i)] (.inl (some (.int (iN (-1))))) (st3 (st3 σ 0 40 8 0) 0 40 8 1) := by
  refine Cb.of (own := RX9) (ls0 := [some (.ref (ad 0 40)), some (.int (iN i))]) hl0 (by decide) rfl (Nat.le_of_ble_eq_true rfl) rfl ?_
  intro X hX1 hX2 hX3 hf he hh
  subst hX1 hX2 hX3
  refine V_aload_n hf dX9_barnacleOfOffer_0 rfl rfl ?_
  refine V_iload_n hf dX9_barnacleOfOffer_1 rfl rfl ?_
  refine V_iconst hf dX9_barnacleOfOffer_2 ?_
  refine B_callVi hf (As := [_, _]) (dx_ofOffer hl0 σ hR hN i hi 1 hq) cv_X9_212 l01 rfl rfl rfl (Nat.le_of_ble_eq_true rfl) ⟨by decide, by decide, by decide, by decide⟩ dX9_barnacleOfOffer_3 ?_
  exact B_iret hf he rfl dX9_barnacleOfOffer_6 (by decide) (by decide) rfl rfl

set_option maxHeartbeats 4000000 in
set_option maxRecDepth 100000 in
theorem d_priceOfOffer {l : Launch} {D : va_G} {K : Nat → ClassId} {ad : Adr} (hl0 : l.stackTraces = false) (σ : Mem) (hR : Rng σ) (hN : NI (σ 0 41)) (i : Int) (hi : inR i) (hq : mplO (σ 0 41) i ≠ -1) : Cb l D K ad yX9_priceOfOffer (.code yX9_priceOfOffer cX9_priceOfOffer 2 (some .int)) 5 0 0 σ [.ref (ad 0 40), .int (iN i)] (.inl (some (.int (iN (σ 0 41 (108 + 4 * mplO (σ 0 41) i + 2)))))) (st3 σ 0 40 8 0) := by
  refine Cb.of (own := RX9) (ls0 := [some (.ref (ad 0 40)), some (.int (iN i))]) hl0 (by decide) rfl (Nat.le_of_ble_eq_true rfl) rfl ?_
  intro X hX1 hX2 hX3 hf he hh
  subst hX1 hX2 hX3
  refine V_aload_n hf dX9_priceOfOffer_0 rfl rfl ?_
  refine V_iload_n hf dX9_priceOfOffer_1 rfl rfl ?_
  refine V_iconst hf dX9_priceOfOffer_2 ?_
  refine B_callVi hf (As := [_, _]) (d_ofOffer hl0 σ hR hN i hi 2 (by decide) hq) cv_X9_212 l01 rfl rfl rfl (Nat.le_of_ble_eq_true rfl) ⟨by decide, by decide, by decide, by decide⟩ dX9_priceOfOffer_3 ?_
  exact B_iret hf he rfl dX9_priceOfOffer_6 (by decide) (by decide) rfl rfl

set_option maxHeartbeats 4000000 in
set_option maxRecDepth 100000 in
theorem dx_priceOfOffer {l : Launch} {D : va_G} {K : Nat → ClassId} {ad : Adr} (hl0 : l.stackTraces = false) (σ : Mem) (hR : Rng σ) (hN : NI (σ 0 41)) (i : Int) (hi : inR i) (hq : mplO (σ 0 41) i = -1) : Cb l D K ad yX9_priceOfOffer (.code yX9_priceOfOffer cX9_priceOfOffer 2 (some .int)) 5 0 0 σ [.ref (ad 0 40), .int (iN i)] (.inl (some (.int (iN (-1))))) (st3 (st3 σ 0 40 8 0) 0 40 8 1) := by
  refine Cb.of (own := RX9) (ls0 := [some (.ref (ad 0 40)), some (.int (iN i))]) hl0 (by decide) rfl (Nat.le_of_ble_eq_true rfl) rfl ?_
  intro X hX1 hX2 hX3 hf he hh
  subst hX1 hX2 hX3
  refine V_aload_n hf dX9_priceOfOffer_0 rfl rfl ?_
  refine V_iload_n hf dX9_priceOfOffer_1 rfl rfl ?_
  refine V_iconst hf dX9_priceOfOffer_2 ?_
  refine B_callVi hf (As := [_, _]) (dx_ofOffer hl0 σ hR hN i hi 2 hq) cv_X9_212 l01 rfl rfl rfl (Nat.le_of_ble_eq_true rfl) ⟨by decide, by decide, by decide, by decide⟩ dX9_priceOfOffer_3 ?_
  exact B_iret hf he rfl dX9_priceOfOffer_6 (by decide) (by decide) rfl rfl

set_option maxHeartbeats 4000000 in
set_option maxRecDepth 100000 in
theorem d_ageOfOffer {l : Launch} {D : va_G} {K : Nat → ClassId} {ad : Adr} (hl0 : l.stackTraces = false) (σ : Mem) (hR : Rng σ) (hN : NI (σ 0 41)) (i : Int) (hi : inR i) (hq : mplO (σ 0 41) i ≠ -1) : Cb l D K ad yX9_ageOfOffer (.code yX9_ageOfOffer cX9_ageOfOffer 2 (some .int)) 5 0 0 σ [.ref (ad 0 40), .int (iN i)] (.inl (some (.int (iN (σ 0 41 (108 + 4 * mplO (σ 0 41) i + 3)))))) (st3 σ 0 40 8 0) := by
  refine Cb.of (own := RX9) (ls0 := [some (.ref (ad 0 40)), some (.int (iN i))]) hl0 (by decide) rfl (Nat.le_of_ble_eq_true rfl) rfl ?_
  intro X hX1 hX2 hX3 hf he hh
  subst hX1 hX2 hX3
  refine V_aload_n hf dX9_ageOfOffer_0 rfl rfl ?_
  refine V_iload_n hf dX9_ageOfOffer_1 rfl rfl ?_
  refine V_iconst hf dX9_ageOfOffer_2 ?_
  refine B_callVi hf (As := [_, _]) (d_ofOffer hl0 σ hR hN i hi 3 (by decide) hq) cv_X9_212 l01 rfl rfl rfl (Nat.le_of_ble_eq_true rfl) ⟨by decide, by decide, by decide, by decide⟩ dX9_ageOfOffer_3 ?_
  exact B_iret hf he rfl dX9_ageOfOffer_6 (by decide) (by decide) rfl rfl

set_option maxHeartbeats 4000000 in
set_option maxRecDepth 100000 in
theorem dx_ageOfOffer {l : Launch} {D : va_G} {K : Nat → ClassId} {ad : Adr} (hl0 : l.stackTraces = false) (σ : Mem) (hR : Rng σ) (hN : NI (σ 0 41)) (i : Int) (hi : inR i) (hq : mplO (σ 0 41) i = -1) : Cb l D K ad yX9_ageOfOffer (.code yX9_ageOfOffer cX9_ageOfOffer 2 (some .int)) 5 0 0 σ [.ref (ad 0 40), .int (iN i)] (.inl (some (.int (iN (-1))))) (st3 (st3 σ 0 40 8 0) 0 40 8 1) := by
  refine Cb.of (own := RX9) (ls0 := [some (.ref (ad 0 40)), some (.int (iN i))]) hl0 (by decide) rfl (Nat.le_of_ble_eq_true rfl) rfl ?_
  intro X hX1 hX2 hX3 hf he hh
  subst hX1 hX2 hX3
  refine V_aload_n hf dX9_ageOfOffer_0 rfl rfl ?_
  refine V_iload_n hf dX9_ageOfOffer_1 rfl rfl ?_
  refine V_iconst hf dX9_ageOfOffer_2 ?_
  refine B_callVi hf (As := [_, _]) (dx_ofOffer hl0 σ hR hN i hi 3 hq) cv_X9_212 l01 rfl rfl rfl (Nat.le_of_ble_eq_true rfl) ⟨by decide, by decide, by decide, by decide⟩ dX9_ageOfOffer_3 ?_
  exact B_iret hf he rfl dX9_ageOfOffer_6 (by decide) (by decide) rfl rfl

set_option maxHeartbeats 4000000 in
set_option maxRecDepth 100000 in
theorem d_matchFor {l : Launch} {D : va_G} {K : Nat → ClassId} {ad : Adr} (hl0 : l.stackTraces = false) (σ : Mem) (hR : Rng σ) (hN : NI (σ 0 41)) (i : Int) (hi : inR i) (hk : mplB (σ 0 41) i ≠ -1) (hq : mmatch (σ 0 41) (mplB (σ 0 41) i) ≠ -1) : Cb l D K ad yX9_matchFor (.code yX9_matchFor cX9_matchFor 4 (some .int)) 5 0 0 σ [.ref (ad 0 40), .int (iN i)] (.inl (some (.int (iN (σ 0 41 (108 + 4 * mmatch (σ 0 41) (mplB (σ 0 41) i))))))) (st3 σ 0 40 8 0) := by
  refine Cb.of (own := RX9) (ls0 := [some (.ref (ad 0 40)), some (.int (iN i)), none, none]) hl0 (by decide) rfl (Nat.le_of_ble_eq_true rfl) rfl ?_
  intro X hX1 hX2 hX3 hf he hh
  subst hX1 hX2 hX3
  have e41 : st3 σ 0 40 8 0 0 41 = σ 0 41 := by
    funext k
    exact st3_j (by decide)
  have z0 := congrFun e41 0
  have z1 := congrFun e41 1
  have z2 := congrFun e41 2
  have z3 := congrFun e41 3
  have hN1 : NI (st3 σ 0 40 8 0 0 41) := by
    rw [e41]
    exact hN
  have hR1 : Rng (st3 σ 0 40 8 0) := hR.st ⟨by decide, by decide⟩
  have n0 := hN.n0
  have n1 := hN.n1
  have n2 := hN.n2
  have n3 := hN.n3
  refine V_aload_n hf dX9_matchFor_0 rfl rfl ?_
  refine V_iconst hf dX9_matchFor_1 ?_
  refine B_putI (kI := 8) hf rfl l01 rfl fp_X9_38_12 rfl rfl (Nat.le_of_ble_eq_true rfl) (by decide) (cs_40_8 _ _ _ _ _) dX9_matchFor_2 ?_
  refine V_aload_n hf dX9_matchFor_5 rfl rfl ?_
  refine V_iload_n hf dX9_matchFor_6 rfl rfl ?_
  refine B_callVi hf (As := [_]) (d_plB hl0 (st3 σ 0 40 8 0) hR1 hN1 i hi) cv_X9_153 l01 rfl rfl rfl (Nat.le_of_ble_eq_true rfl) ⟨by decide, by decide, by decide, by decide⟩ dX9_matchFor_7 ?_
  rw [e41]
  have r9 : -1 ≤ mplB (σ 0 41) i ∧ (mplB (σ 0 41) i < σ 0 41 2 ∨ mplB (σ 0 41) i = -1) := fst_r
  refine V_istore_n (ls2 := [_, _, _, _]) hf dX9_matchFor_10 rfl (by decide) rfl rfl ?_
  refine V_iload_n hf dX9_matchFor_11 rfl rfl ?_
  refine V_iconst hf dX9_matchFor_12 ?_
  refine V_icmp_ne (tgt := 20) hf ⟨by omega, by omega⟩ ⟨by omega, by omega⟩ dX9_matchFor_13 (by decide) (fun h13 => ?_) (fun h13 => ?_)
  · refine V_aload_n hf dX9_matchFor_20 rfl rfl ?_
    refine V_iload_n hf dX9_matchFor_21 rfl rfl ?_
    refine B_callVi hf (As := [_]) (d_match hl0 (st3 σ 0 40 8 0) hR1 hN1 (mplB (σ 0 41) i) ⟨by omega, by omega⟩) cv_X9_180 l01 rfl rfl rfl (Nat.le_of_ble_eq_true rfl) ⟨by decide, by decide, by decide, by decide⟩ dX9_matchFor_22 ?_
    rw [e41]
    have r8 : -1 ≤ mmatch (σ 0 41) (mplB (σ 0 41) i) ∧ mmatch (σ 0 41) (mplB (σ 0 41) i) < ((σ 0 41 3).toNat : Int) := mbestN_r _ _ _
    refine V_istore_n (ls2 := [_, _, _, _]) hf dX9_matchFor_25 rfl (by decide) rfl rfl ?_
    refine V_iload_n hf dX9_matchFor_26 rfl rfl ?_
    refine V_iconst hf dX9_matchFor_27 ?_
    refine V_icmp_ne (tgt := 39) hf ⟨by omega, by omega⟩ ⟨by omega, by omega⟩ dX9_matchFor_28 (by decide) (fun h28 => ?_) (fun h28 => ?_)
    · refine V_aload_n hf dX9_matchFor_39 rfl rfl ?_
      refine B_get hf l01 rfl fl_X9_9_12 rfl dX9_matchFor_40 ?_
      refine V_iload_n hf dX9_matchFor_43 rfl rfl ?_
      refine B_callSi hf (As := [_]) (d_offerAtPlace hl0 (st3 σ 0 40 8 0) (mmatch (σ 0 41) (mplB (σ 0 41) i))) cvs_X9_82 rfl (Nat.le_of_ble_eq_true rfl) ⟨by decide, by decide, by decide, by decide⟩ dX9_matchFor_44 ?_
      refine B_iald hf l01 (fun _ => rfl) ⟨by omega, by omega⟩ (by omega) (by omega) dX9_matchFor_47 ?_
      exact B_iret hf he rfl dX9_matchFor_48 (by decide) (by decide) (by first | rw [e41] | (simp only [e41]; done) | rfl) rfl
    · exact absurd h28 (by first | omega | (split at h28 <;> omega))
  · exact absurd h13 (by first | omega | (split at h13 <;> omega))

set_option maxHeartbeats 4000000 in
set_option maxRecDepth 100000 in
theorem dx_matchFor {l : Launch} {D : va_G} {K : Nat → ClassId} {ad : Adr} (hl0 : l.stackTraces = false) (σ : Mem) (hR : Rng σ) (hN : NI (σ 0 41)) (i : Int) (hi : inR i) (hq : mplB (σ 0 41) i = -1 ∨ mmatch (σ 0 41) (mplB (σ 0 41) i) = -1) : Cb l D K ad yX9_matchFor (.code yX9_matchFor cX9_matchFor 4 (some .int)) 5 0 0 σ [.ref (ad 0 40), .int (iN i)] (.inl (some (.int (iN (-1))))) (st3 (st3 σ 0 40 8 0) 0 40 8 1) := by
  refine Cb.of (own := RX9) (ls0 := [some (.ref (ad 0 40)), some (.int (iN i)), none, none]) hl0 (by decide) rfl (Nat.le_of_ble_eq_true rfl) rfl ?_
  intro X hX1 hX2 hX3 hf he hh
  subst hX1 hX2 hX3
  have e41 : st3 σ 0 40 8 0 0 41 = σ 0 41 := by
    funext k
    exact st3_j (by decide)
  have z0 := congrFun e41 0
  have z1 := congrFun e41 1
  have z2 := congrFun e41 2
  have z3 := congrFun e41 3
  have hN1 : NI (st3 σ 0 40 8 0 0 41) := by
    rw [e41]
    exact hN
  have hR1 : Rng (st3 σ 0 40 8 0) := hR.st ⟨by decide, by decide⟩
  have n0 := hN.n0
  have n1 := hN.n1
  have n2 := hN.n2
  have n3 := hN.n3
  refine V_aload_n hf dX9_matchFor_0 rfl rfl ?_
  refine V_iconst hf dX9_matchFor_1 ?_
  refine B_putI (kI := 8) hf rfl l01 rfl fp_X9_38_12 rfl rfl (Nat.le_of_ble_eq_true rfl) (by decide) (cs_40_8 _ _ _ _ _) dX9_matchFor_2 ?_
  refine V_aload_n hf dX9_matchFor_5 rfl rfl ?_
  refine V_iload_n hf dX9_matchFor_6 rfl rfl ?_
  refine B_callVi hf (As := [_]) (d_plB hl0 (st3 σ 0 40 8 0) hR1 hN1 i hi) cv_X9_153 l01 rfl rfl rfl (Nat.le_of_ble_eq_true rfl) ⟨by decide, by decide, by decide, by decide⟩ dX9_matchFor_7 ?_
  rw [e41]
  have r9 : -1 ≤ mplB (σ 0 41) i ∧ (mplB (σ 0 41) i < σ 0 41 2 ∨ mplB (σ 0 41) i = -1) := fst_r
  refine V_istore_n (ls2 := [_, _, _, _]) hf dX9_matchFor_10 rfl (by decide) rfl rfl ?_
  refine V_iload_n hf dX9_matchFor_11 rfl rfl ?_
  refine V_iconst hf dX9_matchFor_12 ?_
  refine V_icmp_ne (tgt := 20) hf ⟨by omega, by omega⟩ ⟨by omega, by omega⟩ dX9_matchFor_13 (by decide) (fun h13 => ?_) (fun h13 => ?_)
  · refine V_aload_n hf dX9_matchFor_20 rfl rfl ?_
    refine V_iload_n hf dX9_matchFor_21 rfl rfl ?_
    refine B_callVi hf (As := [_]) (d_match hl0 (st3 σ 0 40 8 0) hR1 hN1 (mplB (σ 0 41) i) ⟨by omega, by omega⟩) cv_X9_180 l01 rfl rfl rfl (Nat.le_of_ble_eq_true rfl) ⟨by decide, by decide, by decide, by decide⟩ dX9_matchFor_22 ?_
    rw [e41]
    have r8 : -1 ≤ mmatch (σ 0 41) (mplB (σ 0 41) i) ∧ mmatch (σ 0 41) (mplB (σ 0 41) i) < ((σ 0 41 3).toNat : Int) := mbestN_r _ _ _
    refine V_istore_n (ls2 := [_, _, _, _]) hf dX9_matchFor_25 rfl (by decide) rfl rfl ?_
    refine V_iload_n hf dX9_matchFor_26 rfl rfl ?_
    refine V_iconst hf dX9_matchFor_27 ?_
    refine V_icmp_ne (tgt := 39) hf ⟨by omega, by omega⟩ ⟨by omega, by omega⟩ dX9_matchFor_28 (by decide) (fun h28 => ?_) (fun h28 => ?_)
    · first | exact absurd rfl h28 | exact absurd (hq.resolve_left (by omega)) h28 | exact absurd h28 (by omega)
    · refine V_aload_n hf dX9_matchFor_31 rfl rfl ?_
      refine V_iconst hf dX9_matchFor_32 ?_
      refine B_callVi hf (As := [_]) (d_throwing hl0 (st3 σ 0 40 8 0) hR1 1) cv_X9_47 l01 rfl rfl rfl (Nat.le_of_ble_eq_true rfl) ⟨by decide, by decide, by decide, by decide⟩ dX9_matchFor_33 ?_
      refine V_goto (tgt := 48) hf dX9_matchFor_36 (by decide) ?_
      exact B_iret hf he rfl dX9_matchFor_48 (by decide) (by decide) rfl rfl
  · refine V_iconst hf dX9_matchFor_16 ?_
    refine V_goto (tgt := 25) hf dX9_matchFor_17 (by decide) ?_
    refine V_istore_n (ls2 := [_, _, _, _]) hf dX9_matchFor_25 rfl (by decide) rfl rfl ?_
    refine V_iload_n hf dX9_matchFor_26 rfl rfl ?_
    refine V_iconst hf dX9_matchFor_27 ?_
    refine V_icmp_ne (tgt := 39) hf ⟨by omega, by omega⟩ ⟨by omega, by omega⟩ dX9_matchFor_28 (by decide) (fun h28 => ?_) (fun h28 => ?_)
    · first | exact absurd rfl h28 | exact absurd (hq.resolve_left (by omega)) h28 | exact absurd h28 (by omega)
    · refine V_aload_n hf dX9_matchFor_31 rfl rfl ?_
      refine V_iconst hf dX9_matchFor_32 ?_
      refine B_callVi hf (As := [_]) (d_throwing hl0 (st3 σ 0 40 8 0) hR1 1) cv_X9_47 l01 rfl rfl rfl (Nat.le_of_ble_eq_true rfl) ⟨by decide, by decide, by decide, by decide⟩ dX9_matchFor_33 ?_
      refine V_goto (tgt := 48) hf dX9_matchFor_36 (by decide) ?_
      exact B_iret hf he rfl dX9_matchFor_48 (by decide) (by decide) rfl rfl

set_option maxHeartbeats 4000000 in
set_option maxRecDepth 100000 in
theorem d_matchByBarnacles {l : Launch} {D : va_G} {K : Nat → ClassId} {ad : Adr} (hl0 : l.stackTraces = false) (σ : Mem) (hR : Rng σ) (hN : NI (σ 0 41)) (i : Int) (hi : inR i) (hk : mplB (σ 0 41) i ≠ -1) (hq : mmatch (σ 0 41) (mplB (σ 0 41) i) ≠ -1) : Cb l D K ad yX9_matchByBarnacles (.code yX9_matchByBarnacles cX9_matchByBarnacles 2 (some .int)) 6 0 0 σ [.ref (ad 0 40), .int (iN i)] (.inl (some (.int (iN (σ 0 41 (108 + 4 * mmatch (σ 0 41) (mplB (σ 0 41) i))))))) (st3 σ 0 40 8 0) := by
  refine Cb.of (own := RX9) (ls0 := [some (.ref (ad 0 40)), some (.int (iN i))]) hl0 (by decide) rfl (Nat.le_of_ble_eq_true rfl) rfl ?_
  intro X hX1 hX2 hX3 hf he hh
  subst hX1 hX2 hX3
  refine V_aload_n hf dX9_matchByBarnacles_0 rfl rfl ?_
  refine V_iload_n hf dX9_matchByBarnacles_1 rfl rfl ?_
  refine B_callVi hf (As := [_]) (d_matchFor hl0 σ hR hN i hi hk hq) cv_X9_215 l01 rfl rfl rfl (Nat.le_of_ble_eq_true rfl) ⟨by decide, by decide, by decide, by decide⟩ dX9_matchByBarnacles_2 ?_
  exact B_iret hf he rfl dX9_matchByBarnacles_5 (by decide) (by decide) rfl rfl

set_option maxHeartbeats 4000000 in
set_option maxRecDepth 100000 in
theorem dx_matchByBarnacles {l : Launch} {D : va_G} {K : Nat → ClassId} {ad : Adr} (hl0 : l.stackTraces = false) (σ : Mem) (hR : Rng σ) (hN : NI (σ 0 41)) (i : Int) (hi : inR i) (hq : mplB (σ 0 41) i = -1 ∨ mmatch (σ 0 41) (mplB (σ 0 41) i) = -1) : Cb l D K ad yX9_matchByBarnacles (.code yX9_matchByBarnacles cX9_matchByBarnacles 2 (some .int)) 6 0 0 σ [.ref (ad 0 40), .int (iN i)] (.inl (some (.int (iN (-1))))) (st3 (st3 σ 0 40 8 0) 0 40 8 1) := by
  refine Cb.of (own := RX9) (ls0 := [some (.ref (ad 0 40)), some (.int (iN i))]) hl0 (by decide) rfl (Nat.le_of_ble_eq_true rfl) rfl ?_
  intro X hX1 hX2 hX3 hf he hh
  subst hX1 hX2 hX3
  refine V_aload_n hf dX9_matchByBarnacles_0 rfl rfl ?_
  refine V_iload_n hf dX9_matchByBarnacles_1 rfl rfl ?_
  refine B_callVi hf (As := [_]) (dx_matchFor hl0 σ hR hN i hi hq) cv_X9_215 l01 rfl rfl rfl (Nat.le_of_ble_eq_true rfl) ⟨by decide, by decide, by decide, by decide⟩ dX9_matchByBarnacles_2 ?_
  exact B_iret hf he rfl dX9_matchByBarnacles_5 (by decide) (by decide) rfl rfl

set_option maxHeartbeats 4000000 in
set_option maxRecDepth 100000 in
theorem d_spread {l : Launch} {D : va_G} {K : Nat → ClassId} {ad : Adr} (hl0 : l.stackTraces = false) (σ : Mem) (hR : Rng σ) (hN : NI (σ 0 41)) (hk : ¬ (σ 0 41 2 = 0 ∨ σ 0 41 3 = 0)) (hq : mbRank (σ 0 41) 0 ≠ -1) (hw : moRank (σ 0 41) 0 ≠ -1) : Cb l D K ad yX9_spread (.code yX9_spread cX9_spread 1 (some .int)) 5 0 0 σ [.ref (ad 0 40)] (.inl (some (.int (iN (σ 0 41 (58 + 5 * mbRank (σ 0 41) 0 + 3) - σ 0 41 (108 + 4 * moRank (σ 0 41) 0 + 2)))))) (st3 σ 0 40 8 0) := by
  refine Cb.of (own := RX9) (ls0 := [some (.ref (ad 0 40))]) hl0 (by decide) rfl (Nat.le_of_ble_eq_true rfl) rfl ?_
  intro X hX1 hX2 hX3 hf he hh
  subst hX1 hX2 hX3
  have e41 : st3 σ 0 40 8 0 0 41 = σ 0 41 := by
    funext k
    exact st3_j (by decide)
  have z0 := congrFun e41 0
  have z1 := congrFun e41 1
  have z2 := congrFun e41 2
  have z3 := congrFun e41 3
  have hN1 : NI (st3 σ 0 40 8 0 0 41) := by
    rw [e41]
    exact hN
  have hR1 : Rng (st3 σ 0 40 8 0) := hR.st ⟨by decide, by decide⟩
  have n0 := hN.n0
  have n1 := hN.n1
  have n2 := hN.n2
  have n3 := hN.n3
  refine V_aload_n hf dX9_spread_0 rfl rfl ?_
  refine V_iconst hf dX9_spread_1 ?_
  refine B_putI (kI := 8) hf rfl l01 rfl fp_X9_38_12 rfl rfl (Nat.le_of_ble_eq_true rfl) (by decide) (cs_40_8 _ _ _ _ _) dX9_spread_2 ?_
  refine V_aload_n hf dX9_spread_5 rfl rfl ?_
  refine B_get hf l01 rfl fl_X9_9_12 rfl dX9_spread_6 ?_
  refine V_iconst hf dX9_spread_9 ?_
  refine B_iald hf l01 (fun _ => rfl) (by first | exact hR _ _ _ (by decide) | exact ⟨by omega, by omega⟩ | exact Rng.st (Rng.st hR ⟨by decide, by decide⟩) ⟨by decide, by decide⟩ _ _ _ (by decide) | exact Rng.st hR ⟨by decide, by decide⟩ _ _ _ (by decide)) (by omega) (by omega) dX9_spread_10 ?_
  refine V_if_eq (tgt := 23) hf (by first | exact hR _ _ _ (by decide) | exact ⟨by omega, by omega⟩ | exact Rng.st (Rng.st hR ⟨by decide, by decide⟩) ⟨by decide, by decide⟩ _ _ _ (by decide) | exact Rng.st hR ⟨by decide, by decide⟩ _ _ _ (by decide)) dX9_spread_11 (by decide) (fun h11 => ?_) (fun h11 => ?_)
  · exact absurd h11 (by first | omega | (split at h11 <;> omega))
  · refine V_aload_n hf dX9_spread_14 rfl rfl ?_
    refine B_get hf l01 rfl fl_X9_9_12 rfl dX9_spread_15 ?_
    refine V_iconst hf dX9_spread_18 ?_
    refine B_iald hf l01 (fun _ => rfl) (by first | exact hR _ _ _ (by decide) | exact ⟨by omega, by omega⟩ | exact Rng.st (Rng.st hR ⟨by decide, by decide⟩) ⟨by decide, by decide⟩ _ _ _ (by decide) | exact Rng.st hR ⟨by decide, by decide⟩ _ _ _ (by decide)) (by omega) (by omega) dX9_spread_19 ?_
    refine V_if_ne (tgt := 29) hf (by first | exact hR _ _ _ (by decide) | exact ⟨by omega, by omega⟩ | exact Rng.st (Rng.st hR ⟨by decide, by decide⟩) ⟨by decide, by decide⟩ _ _ _ (by decide) | exact Rng.st hR ⟨by decide, by decide⟩ _ _ _ (by decide)) dX9_spread_20 (by decide) (fun h20 => ?_) (fun h20 => ?_)
    · refine V_aload_n hf dX9_spread_29 rfl rfl ?_
      refine B_get hf l01 rfl fl_X9_9_12 rfl dX9_spread_30 ?_
      refine V_aload_n hf dX9_spread_33 rfl rfl ?_
      refine V_iconst hf dX9_spread_34 ?_
      refine B_callVi hf (As := [_]) (d_bRank hl0 (st3 σ 0 40 8 0) hR1 hN1 0 ⟨by decide, by decide⟩) cv_X9_135 l01 rfl rfl rfl (Nat.le_of_ble_eq_true rfl) ⟨by decide, by decide, by decide, by decide⟩ dX9_spread_35 ?_
      rw [e41]
      have r9 : -1 ≤ mbRank (σ 0 41) 0 ∧ (mbRank (σ 0 41) 0 < σ 0 41 2 ∨ mbRank (σ 0 41) 0 = -1) := fst_r
      refine B_callSi hf (As := [_]) (d_bidAtPlace hl0 (st3 σ 0 40 8 0) (mbRank (σ 0 41) 0)) cvs_X9_73 rfl (Nat.le_of_ble_eq_true rfl) ⟨by decide, by decide, by decide, by decide⟩ dX9_spread_38 ?_
      refine V_iconst hf dX9_spread_41 ?_
      refine V_iadd hf dX9_spread_42 ?_
      refine B_iald hf l01 (fun _ => rfl) ⟨by omega, by omega⟩ (by omega) (by omega) dX9_spread_43 ?_
      refine V_aload_n hf dX9_spread_44 rfl rfl ?_
      refine B_get hf l01 rfl fl_X9_9_12 rfl dX9_spread_45 ?_
      refine V_aload_n hf dX9_spread_48 rfl rfl ?_
      refine V_iconst hf dX9_spread_49 ?_
      refine B_callVi hf (As := [_]) (d_oRank hl0 (st3 σ 0 40 8 0) hR1 hN1 0 ⟨by decide, by decide⟩) cv_X9_206 l01 rfl rfl rfl (Nat.le_of_ble_eq_true rfl) ⟨by decide, by decide, by decide, by decide⟩ dX9_spread_50 ?_
      rw [e41]
      have r8 : -1 ≤ moRank (σ 0 41) 0 ∧ (moRank (σ 0 41) 0 < σ 0 41 3 ∨ moRank (σ 0 41) 0 = -1) := fst_r
      refine B_callSi hf (As := [_]) (d_offerAtPlace hl0 (st3 σ 0 40 8 0) (moRank (σ 0 41) 0)) cvs_X9_82 rfl (Nat.le_of_ble_eq_true rfl) ⟨by decide, by decide, by decide, by decide⟩ dX9_spread_53 ?_
      refine V_iconst hf dX9_spread_56 ?_
      refine V_iadd hf dX9_spread_57 ?_
      refine B_iald hf l01 (fun _ => rfl) ⟨by omega, by omega⟩ (by omega) (by omega) dX9_spread_58 ?_
      refine V_isub hf dX9_spread_59 ?_
      exact B_iret hf he rfl dX9_spread_60 (by decide) (by decide) (by first | rw [e41] | (simp only [e41]; done) | rfl) rfl
    · exact absurd h20 (by first | omega | (split at h20 <;> omega))

set_option maxHeartbeats 4000000 in
set_option maxRecDepth 100000 in
theorem dx_spread {l : Launch} {D : va_G} {K : Nat → ClassId} {ad : Adr} (hl0 : l.stackTraces = false) (σ : Mem) (hR : Rng σ) (hN : NI (σ 0 41)) (hk : σ 0 41 2 = 0 ∨ σ 0 41 3 = 0) : Cb l D K ad yX9_spread (.code yX9_spread cX9_spread 1 (some .int)) 5 0 0 σ [.ref (ad 0 40)] (.inl (some (.int (iN (-1))))) (st3 (st3 σ 0 40 8 0) 0 40 8 1) := by
  refine Cb.of (own := RX9) (ls0 := [some (.ref (ad 0 40))]) hl0 (by decide) rfl (Nat.le_of_ble_eq_true rfl) rfl ?_
  intro X hX1 hX2 hX3 hf he hh
  subst hX1 hX2 hX3
  have e41 : st3 σ 0 40 8 0 0 41 = σ 0 41 := by
    funext k
    exact st3_j (by decide)
  have z0 := congrFun e41 0
  have z1 := congrFun e41 1
  have z2 := congrFun e41 2
  have z3 := congrFun e41 3
  have hN1 : NI (st3 σ 0 40 8 0 0 41) := by
    rw [e41]
    exact hN
  have hR1 : Rng (st3 σ 0 40 8 0) := hR.st ⟨by decide, by decide⟩
  have n0 := hN.n0
  have n1 := hN.n1
  have n2 := hN.n2
  have n3 := hN.n3
  refine V_aload_n hf dX9_spread_0 rfl rfl ?_
  refine V_iconst hf dX9_spread_1 ?_
  refine B_putI (kI := 8) hf rfl l01 rfl fp_X9_38_12 rfl rfl (Nat.le_of_ble_eq_true rfl) (by decide) (cs_40_8 _ _ _ _ _) dX9_spread_2 ?_
  refine V_aload_n hf dX9_spread_5 rfl rfl ?_
  refine B_get hf l01 rfl fl_X9_9_12 rfl dX9_spread_6 ?_
  refine V_iconst hf dX9_spread_9 ?_
  refine B_iald hf l01 (fun _ => rfl) (by first | exact hR _ _ _ (by decide) | exact ⟨by omega, by omega⟩ | exact Rng.st (Rng.st hR ⟨by decide, by decide⟩) ⟨by decide, by decide⟩ _ _ _ (by decide) | exact Rng.st hR ⟨by decide, by decide⟩ _ _ _ (by decide)) (by omega) (by omega) dX9_spread_10 ?_
  refine V_if_eq (tgt := 23) hf (by first | exact hR _ _ _ (by decide) | exact ⟨by omega, by omega⟩ | exact Rng.st (Rng.st hR ⟨by decide, by decide⟩) ⟨by decide, by decide⟩ _ _ _ (by decide) | exact Rng.st hR ⟨by decide, by decide⟩ _ _ _ (by decide)) dX9_spread_11 (by decide) (fun h11 => ?_) (fun h11 => ?_)
  · refine V_aload_n hf dX9_spread_23 rfl rfl ?_
    refine V_iconst hf dX9_spread_24 ?_
    refine B_callVi hf (As := [_]) (d_throwing hl0 (st3 σ 0 40 8 0) hR1 1) cv_X9_47 l01 rfl rfl rfl (Nat.le_of_ble_eq_true rfl) ⟨by decide, by decide, by decide, by decide⟩ dX9_spread_25 ?_
    exact B_iret hf he rfl dX9_spread_28 (by decide) (by decide) rfl rfl
  · refine V_aload_n hf dX9_spread_14 rfl rfl ?_
    refine B_get hf l01 rfl fl_X9_9_12 rfl dX9_spread_15 ?_
    refine V_iconst hf dX9_spread_18 ?_
    refine B_iald hf l01 (fun _ => rfl) (by first | exact hR _ _ _ (by decide) | exact ⟨by omega, by omega⟩ | exact Rng.st (Rng.st hR ⟨by decide, by decide⟩) ⟨by decide, by decide⟩ _ _ _ (by decide) | exact Rng.st hR ⟨by decide, by decide⟩ _ _ _ (by decide)) (by omega) (by omega) dX9_spread_19 ?_
    refine V_if_ne (tgt := 29) hf (by first | exact hR _ _ _ (by decide) | exact ⟨by omega, by omega⟩ | exact Rng.st (Rng.st hR ⟨by decide, by decide⟩) ⟨by decide, by decide⟩ _ _ _ (by decide) | exact Rng.st hR ⟨by decide, by decide⟩ _ _ _ (by decide)) dX9_spread_20 (by decide) (fun h20 => ?_) (fun h20 => ?_)
    · exact absurd h20 (by first | omega | (split at h20 <;> omega))
    · refine V_aload_n hf dX9_spread_23 rfl rfl ?_
      refine V_iconst hf dX9_spread_24 ?_
      refine B_callVi hf (As := [_]) (d_throwing hl0 (st3 σ 0 40 8 0) hR1 1) cv_X9_47 l01 rfl rfl rfl (Nat.le_of_ble_eq_true rfl) ⟨by decide, by decide, by decide, by decide⟩ dX9_spread_25 ?_
      exact B_iret hf he rfl dX9_spread_28 (by decide) (by decide) rfl rfl

set_option maxHeartbeats 4000000 in
set_option maxRecDepth 100000 in
theorem d_ofTrade {l : Launch} {D : va_G} {K : Nat → ClassId} {ad : Adr} (hl0 : l.stackTraces = false) (σ : Mem) (hR : Rng σ) (hN : NI (σ 0 41)) (i : Int) (hi : inR i) (q : Int) (hw : 0 ≤ q ∧ q < 4) (hk : 0 ≤ i ∧ i < σ 0 41 13) (hk2 : i < 10) : Cb l D K ad yX9_ofTrade (.code yX9_ofTrade cX9_ofTrade 3 (some .int)) 4 0 0 σ [.ref (ad 0 40), .int (iN i), .int (iN q)] (.inl (some (.int (iN (σ 0 41 (172 + 4 * i + q)))))) (st3 σ 0 40 8 0) := by
  refine Cb.of (own := RX9) (ls0 := [some (.ref (ad 0 40)), some (.int (iN i)), some (.int (iN q))]) hl0 (by decide) rfl (Nat.le_of_ble_eq_true rfl) rfl ?_
  intro X hX1 hX2 hX3 hf he hh
  subst hX1 hX2 hX3
  have e41 : st3 σ 0 40 8 0 0 41 = σ 0 41 := by
    funext k
    exact st3_j (by decide)
  have z0 := congrFun e41 0
  have z1 := congrFun e41 1
  have z2 := congrFun e41 2
  have z3 := congrFun e41 3
  have hN1 : NI (st3 σ 0 40 8 0 0 41) := by
    rw [e41]
    exact hN
  have hR1 : Rng (st3 σ 0 40 8 0) := hR.st ⟨by decide, by decide⟩
  have n0 := hN.n0
  have n1 := hN.n1
  have n2 := hN.n2
  have n3 := hN.n3
  have z13 := congrFun e41 13
  have c13 := hN.cr 13 (by decide)
  refine V_aload_n hf dX9_ofTrade_0 rfl rfl ?_
  refine V_iconst hf dX9_ofTrade_1 ?_
  refine B_putI (kI := 8) hf rfl l01 rfl fp_X9_38_12 rfl rfl (Nat.le_of_ble_eq_true rfl) (by decide) (cs_40_8 _ _ _ _ _) dX9_ofTrade_2 ?_
  refine V_iload_n hf dX9_ofTrade_5 rfl rfl ?_
  refine V_i2l hf (by first | exact hR _ _ _ (by decide) | exact ⟨by omega, by omega⟩ | exact Rng.st (Rng.st hR ⟨by decide, by decide⟩) ⟨by decide, by decide⟩ _ _ _ (by decide) | exact Rng.st hR ⟨by decide, by decide⟩ _ _ _ (by decide)) dX9_ofTrade_6 ?_
  refine V_lconst (a := 0) hf (by decide +kernel) dX9_ofTrade_7 ?_
  refine V_aload_n hf dX9_ofTrade_8 rfl rfl ?_
  refine B_get hf l01 rfl fl_X9_9_12 rfl dX9_ofTrade_9 ?_
  refine V_bipush hf dX9_ofTrade_12 (by decide +kernel) ?_
  refine B_iald hf l01 (fun _ => rfl) (by first | exact hR _ _ _ (by decide) | exact ⟨by omega, by omega⟩ | exact Rng.st (Rng.st hR ⟨by decide, by decide⟩) ⟨by decide, by decide⟩ _ _ _ (by decide) | exact Rng.st hR ⟨by decide, by decide⟩ _ _ _ (by decide)) (by omega) (by omega) dX9_ofTrade_14 ?_
  refine V_iconst hf dX9_ofTrade_15 ?_
  refine V_isub hf dX9_ofTrade_16 ?_
  refine V_i2l hf ⟨by omega, by omega⟩ dX9_ofTrade_17 ?_
  refine B_callSi hf (As := [_, _, _]) (d_in hl0 (st3 σ 0 40 8 0) i 0 (st3 σ 0 40 8 0 0 41 13 - 1) hi ⟨by decide, by decide⟩ ⟨by omega, by omega⟩) cvs_X9_63 rfl (Nat.le_of_ble_eq_true rfl) ⟨by decide, by decide, by decide, by decide⟩ dX9_ofTrade_18 ?_
  refine V_if_eq (tgt := 41) hf (by split <;> exact ⟨by decide, by decide⟩) dX9_ofTrade_21 (by decide) (fun h21 => ?_) (fun h21 => ?_)
  · exact absurd h21 (by first | omega | (split at h21 <;> omega))
  · refine V_aload_n hf dX9_ofTrade_24 rfl rfl ?_
    refine B_get hf l01 rfl fl_X9_9_12 rfl dX9_ofTrade_25 ?_
    refine V_sipush hf dX9_ofTrade_28 (by decide +kernel) ?_
    refine V_iconst hf dX9_ofTrade_31 ?_
    refine V_iload_n hf dX9_ofTrade_32 rfl rfl ?_
    refine V_imul hf dX9_ofTrade_33 ?_
    refine V_iadd hf dX9_ofTrade_34 ?_
    refine V_iload_n hf dX9_ofTrade_35 rfl rfl ?_
    refine V_iadd hf dX9_ofTrade_36 ?_
    refine B_iald hf l01 (fun _ => rfl) ⟨by omega, by omega⟩ (by omega) (by omega) dX9_ofTrade_37 ?_
    refine V_goto (tgt := 46) hf dX9_ofTrade_38 (by decide) ?_
    exact B_iret hf he rfl dX9_ofTrade_46 (by decide) (by decide) (by first | rw [e41] | (simp only [e41]; done) | rfl) rfl

set_option maxHeartbeats 4000000 in
set_option maxRecDepth 100000 in
theorem dx_ofTrade {l : Launch} {D : va_G} {K : Nat → ClassId} {ad : Adr} (hl0 : l.stackTraces = false) (σ : Mem) (hR : Rng σ) (hN : NI (σ 0 41)) (i : Int) (hi : inR i) (q : Int) (hk : ¬ (0 ≤ i ∧ i < σ 0 41 13)) : Cb l D K ad yX9_ofTrade (.code yX9_ofTrade cX9_ofTrade 3 (some .int)) 4 0 0 σ [.ref (ad 0 40), .int (iN i), .int (iN q)] (.inl (some (.int (iN (-1))))) (st3 (st3 σ 0 40 8 0) 0 40 8 1) := by
  refine Cb.of (own := RX9) (ls0 := [some (.ref (ad 0 40)), some (.int (iN i)), some (.int (iN q))]) hl0 (by decide) rfl (Nat.le_of_ble_eq_true rfl) rfl ?_
  intro X hX1 hX2 hX3 hf he hh
  subst hX1 hX2 hX3
  have e41 : st3 σ 0 40 8 0 0 41 = σ 0 41 := by
    funext k
    exact st3_j (by decide)
  have z0 := congrFun e41 0
  have z1 := congrFun e41 1
  have z2 := congrFun e41 2
  have z3 := congrFun e41 3
  have hN1 : NI (st3 σ 0 40 8 0 0 41) := by
    rw [e41]
    exact hN
  have hR1 : Rng (st3 σ 0 40 8 0) := hR.st ⟨by decide, by decide⟩
  have n0 := hN.n0
  have n1 := hN.n1
  have n2 := hN.n2
  have n3 := hN.n3
  have z13 := congrFun e41 13
  have c13 := hN.cr 13 (by decide)
  refine V_aload_n hf dX9_ofTrade_0 rfl rfl ?_
  refine V_iconst hf dX9_ofTrade_1 ?_
  refine B_putI (kI := 8) hf rfl l01 rfl fp_X9_38_12 rfl rfl (Nat.le_of_ble_eq_true rfl) (by decide) (cs_40_8 _ _ _ _ _) dX9_ofTrade_2 ?_
  refine V_iload_n hf dX9_ofTrade_5 rfl rfl ?_
  refine V_i2l hf (by first | exact hR _ _ _ (by decide) | exact ⟨by omega, by omega⟩ | exact Rng.st (Rng.st hR ⟨by decide, by decide⟩) ⟨by decide, by decide⟩ _ _ _ (by decide) | exact Rng.st hR ⟨by decide, by decide⟩ _ _ _ (by decide)) dX9_ofTrade_6 ?_
  refine V_lconst (a := 0) hf (by decide +kernel) dX9_ofTrade_7 ?_
  refine V_aload_n hf dX9_ofTrade_8 rfl rfl ?_
  refine B_get hf l01 rfl fl_X9_9_12 rfl dX9_ofTrade_9 ?_
  refine V_bipush hf dX9_ofTrade_12 (by decide +kernel) ?_
  refine B_iald hf l01 (fun _ => rfl) (by first | exact hR _ _ _ (by decide) | exact ⟨by omega, by omega⟩ | exact Rng.st (Rng.st hR ⟨by decide, by decide⟩) ⟨by decide, by decide⟩ _ _ _ (by decide) | exact Rng.st hR ⟨by decide, by decide⟩ _ _ _ (by decide)) (by omega) (by omega) dX9_ofTrade_14 ?_
  refine V_iconst hf dX9_ofTrade_15 ?_
  refine V_isub hf dX9_ofTrade_16 ?_
  refine V_i2l hf ⟨by omega, by omega⟩ dX9_ofTrade_17 ?_
  refine B_callSi hf (As := [_, _, _]) (d_in hl0 (st3 σ 0 40 8 0) i 0 (st3 σ 0 40 8 0 0 41 13 - 1) hi ⟨by decide, by decide⟩ ⟨by omega, by omega⟩) cvs_X9_63 rfl (Nat.le_of_ble_eq_true rfl) ⟨by decide, by decide, by decide, by decide⟩ dX9_ofTrade_18 ?_
  refine V_if_eq (tgt := 41) hf (by split <;> exact ⟨by decide, by decide⟩) dX9_ofTrade_21 (by decide) (fun h21 => ?_) (fun h21 => ?_)
  · refine V_aload_n hf dX9_ofTrade_41 rfl rfl ?_
    refine V_iconst hf dX9_ofTrade_42 ?_
    refine B_callVi hf (As := [_]) (d_throwing hl0 (st3 σ 0 40 8 0) hR1 1) cv_X9_47 l01 rfl rfl rfl (Nat.le_of_ble_eq_true rfl) ⟨by decide, by decide, by decide, by decide⟩ dX9_ofTrade_43 ?_
    exact B_iret hf he rfl dX9_ofTrade_46 (by decide) (by decide) rfl rfl
  · exact absurd h21 (by first | omega | (split at h21 <;> omega))

set_option maxHeartbeats 4000000 in
set_option maxRecDepth 100000 in
theorem d_buyerOf {l : Launch} {D : va_G} {K : Nat → ClassId} {ad : Adr} (hl0 : l.stackTraces = false) (σ : Mem) (hR : Rng σ) (hN : NI (σ 0 41)) (i : Int) (hi : inR i) (hk : 0 ≤ i ∧ i < σ 0 41 13) (hk2 : i < 10) : Cb l D K ad yX9_buyerOf (.code yX9_buyerOf cX9_buyerOf 2 (some .int)) 5 0 0 σ [.ref (ad 0 40), .int (iN i)] (.inl (some (.int (iN (σ 0 41 (172 + 4 * i + 0)))))) (st3 σ 0 40 8 0) := by
  refine Cb.of (own := RX9) (ls0 := [some (.ref (ad 0 40)), some (.int (iN i))]) hl0 (by decide) rfl (Nat.le_of_ble_eq_true rfl) rfl ?_
  intro X hX1 hX2 hX3 hf he hh
  subst hX1 hX2 hX3
  refine V_aload_n hf dX9_buyerOf_0 rfl rfl ?_
  refine V_iload_n hf dX9_buyerOf_1 rfl rfl ?_
  refine V_iconst hf dX9_buyerOf_2 ?_
  refine B_callVi hf (As := [_, _]) (d_ofTrade hl0 σ hR hN i hi 0 (by decide) hk hk2) cv_X9_218 l01 rfl rfl rfl (Nat.le_of_ble_eq_true rfl) ⟨by decide, by decide, by decide, by decide⟩ dX9_buyerOf_3 ?_
  exact B_iret hf he rfl dX9_buyerOf_6 (by decide) (by decide) rfl rfl

set_option maxHeartbeats 4000000 in
set_option maxRecDepth 100000 in
theorem dx_buyerOf {l : Launch} {D : va_G} {K : Nat → ClassId} {ad : Adr} (hl0 : l.stackTraces = false) (σ : Mem) (hR : Rng σ) (hN : NI (σ 0 41)) (i : Int) (hi : inR i) (hk : ¬ (0 ≤ i ∧ i < σ 0 41 13)) : Cb l D K ad yX9_buyerOf (.code yX9_buyerOf cX9_buyerOf 2 (some .int)) 5 0 0 σ [.ref (ad 0 40), .int (iN i)] (.inl (some (.int (iN (-1))))) (st3 (st3 σ 0 40 8 0) 0 40 8 1) := by
  refine Cb.of (own := RX9) (ls0 := [some (.ref (ad 0 40)), some (.int (iN i))]) hl0 (by decide) rfl (Nat.le_of_ble_eq_true rfl) rfl ?_
  intro X hX1 hX2 hX3 hf he hh
  subst hX1 hX2 hX3
  refine V_aload_n hf dX9_buyerOf_0 rfl rfl ?_
  refine V_iload_n hf dX9_buyerOf_1 rfl rfl ?_
  refine V_iconst hf dX9_buyerOf_2 ?_
  refine B_callVi hf (As := [_, _]) (dx_ofTrade hl0 σ hR hN i hi 0 hk) cv_X9_218 l01 rfl rfl rfl (Nat.le_of_ble_eq_true rfl) ⟨by decide, by decide, by decide, by decide⟩ dX9_buyerOf_3 ?_
  exact B_iret hf he rfl dX9_buyerOf_6 (by decide) (by decide) rfl rfl

set_option maxHeartbeats 4000000 in
set_option maxRecDepth 100000 in
theorem d_sellerOf {l : Launch} {D : va_G} {K : Nat → ClassId} {ad : Adr} (hl0 : l.stackTraces = false) (σ : Mem) (hR : Rng σ) (hN : NI (σ 0 41)) (i : Int) (hi : inR i) (hk : 0 ≤ i ∧ i < σ 0 41 13) (hk2 : i < 10) : Cb l D K ad yX9_sellerOf (.code yX9_sellerOf cX9_sellerOf 2 (some .int)) 5 0 0 σ [.ref (ad 0 40), .int (iN i)] (.inl (some (.int (iN (σ 0 41 (172 + 4 * i + 1)))))) (st3 σ 0 40 8 0) := by
  refine Cb.of (own := RX9) (ls0 := [some (.ref (ad 0 40)), some (.int (iN i))]) hl0 (by decide) rfl (Nat.le_of_ble_eq_true rfl) rfl ?_
  intro X hX1 hX2 hX3 hf he hh
  subst hX1 hX2 hX3
  refine V_aload_n hf dX9_sellerOf_0 rfl rfl ?_
  refine V_iload_n hf dX9_sellerOf_1 rfl rfl ?_
  refine V_iconst hf dX9_sellerOf_2 ?_
  refine B_callVi hf (As := [_, _]) (d_ofTrade hl0 σ hR hN i hi 1 (by decide) hk hk2) cv_X9_218 l01 rfl rfl rfl (Nat.le_of_ble_eq_true rfl) ⟨by decide, by decide, by decide, by decide⟩ dX9_sellerOf_3 ?_
  exact B_iret hf he rfl dX9_sellerOf_6 (by decide) (by decide) rfl rfl

set_option maxHeartbeats 4000000 in
set_option maxRecDepth 100000 in
theorem dx_sellerOf {l : Launch} {D : va_G} {K : Nat → ClassId} {ad : Adr} (hl0 : l.stackTraces = false) (σ : Mem) (hR : Rng σ) (hN : NI (σ 0 41)) (i : Int) (hi : inR i) (hk : ¬ (0 ≤ i ∧ i < σ 0 41 13)) : Cb l D K ad yX9_sellerOf (.code yX9_sellerOf cX9_sellerOf 2 (some .int)) 5 0 0 σ [.ref (ad 0 40), .int (iN i)] (.inl (some (.int (iN (-1))))) (st3 (st3 σ 0 40 8 0) 0 40 8 1) := by
  refine Cb.of (own := RX9) (ls0 := [some (.ref (ad 0 40)), some (.int (iN i))]) hl0 (by decide) rfl (Nat.le_of_ble_eq_true rfl) rfl ?_
  intro X hX1 hX2 hX3 hf he hh
  subst hX1 hX2 hX3
  refine V_aload_n hf dX9_sellerOf_0 rfl rfl ?_
  refine V_iload_n hf dX9_sellerOf_1 rfl rfl ?_
  refine V_iconst hf dX9_sellerOf_2 ?_
  refine B_callVi hf (As := [_, _]) (dx_ofTrade hl0 σ hR hN i hi 1 hk) cv_X9_218 l01 rfl rfl rfl (Nat.le_of_ble_eq_true rfl) ⟨by decide, by decide, by decide, by decide⟩ dX9_sellerOf_3 ?_
  exact B_iret hf he rfl dX9_sellerOf_6 (by decide) (by decide) rfl rfl

set_option maxHeartbeats 4000000 in
set_option maxRecDepth 100000 in
theorem d_barnacleOf {l : Launch} {D : va_G} {K : Nat → ClassId} {ad : Adr} (hl0 : l.stackTraces = false) (σ : Mem) (hR : Rng σ) (hN : NI (σ 0 41)) (i : Int) (hi : inR i) (hk : 0 ≤ i ∧ i < σ 0 41 13) (hk2 : i < 10) : Cb l D K ad yX9_barnacleOf (.code yX9_barnacleOf cX9_barnacleOf 2 (some .int)) 5 0 0 σ [.ref (ad 0 40), .int (iN i)] (.inl (some (.int (iN (σ 0 41 (172 + 4 * i + 2)))))) (st3 σ 0 40 8 0) := by
  refine Cb.of (own := RX9) (ls0 := [some (.ref (ad 0 40)), some (.int (iN i))]) hl0 (by decide) rfl (Nat.le_of_ble_eq_true rfl) rfl ?_
  intro X hX1 hX2 hX3 hf he hh
  subst hX1 hX2 hX3
  refine V_aload_n hf dX9_barnacleOf_0 rfl rfl ?_
  refine V_iload_n hf dX9_barnacleOf_1 rfl rfl ?_
  refine V_iconst hf dX9_barnacleOf_2 ?_
  refine B_callVi hf (As := [_, _]) (d_ofTrade hl0 σ hR hN i hi 2 (by decide) hk hk2) cv_X9_218 l01 rfl rfl rfl (Nat.le_of_ble_eq_true rfl) ⟨by decide, by decide, by decide, by decide⟩ dX9_barnacleOf_3 ?_
  exact B_iret hf he rfl dX9_barnacleOf_6 (by decide) (by decide) rfl rfl

set_option maxHeartbeats 4000000 in
set_option maxRecDepth 100000 in
theorem dx_barnacleOf {l : Launch} {D : va_G} {K : Nat → ClassId} {ad : Adr} (hl0 : l.stackTraces = false) (σ : Mem) (hR : Rng σ) (hN : NI (σ 0 41)) (i : Int) (hi : inR i) (hk : ¬ (0 ≤ i ∧ i < σ 0 41 13)) : Cb l D K ad yX9_barnacleOf (.code yX9_barnacleOf cX9_barnacleOf 2 (some .int)) 5 0 0 σ [.ref (ad 0 40), .int (iN i)] (.inl (some (.int (iN (-1))))) (st3 (st3 σ 0 40 8 0) 0 40 8 1) := by
  refine Cb.of (own := RX9) (ls0 := [some (.ref (ad 0 40)), some (.int (iN i))]) hl0 (by decide) rfl (Nat.le_of_ble_eq_true rfl) rfl ?_
  intro X hX1 hX2 hX3 hf he hh
  subst hX1 hX2 hX3
  refine V_aload_n hf dX9_barnacleOf_0 rfl rfl ?_
  refine V_iload_n hf dX9_barnacleOf_1 rfl rfl ?_
  refine V_iconst hf dX9_barnacleOf_2 ?_
  refine B_callVi hf (As := [_, _]) (dx_ofTrade hl0 σ hR hN i hi 2 hk) cv_X9_218 l01 rfl rfl rfl (Nat.le_of_ble_eq_true rfl) ⟨by decide, by decide, by decide, by decide⟩ dX9_barnacleOf_3 ?_
  exact B_iret hf he rfl dX9_barnacleOf_6 (by decide) (by decide) rfl rfl

set_option maxHeartbeats 4000000 in
set_option maxRecDepth 100000 in
theorem d_priceOf {l : Launch} {D : va_G} {K : Nat → ClassId} {ad : Adr} (hl0 : l.stackTraces = false) (σ : Mem) (hR : Rng σ) (hN : NI (σ 0 41)) (i : Int) (hi : inR i) (hk : 0 ≤ i ∧ i < σ 0 41 13) (hk2 : i < 10) : Cb l D K ad yX9_priceOf (.code yX9_priceOf cX9_priceOf 2 (some .int)) 5 0 0 σ [.ref (ad 0 40), .int (iN i)] (.inl (some (.int (iN (σ 0 41 (172 + 4 * i + 3)))))) (st3 σ 0 40 8 0) := by
  refine Cb.of (own := RX9) (ls0 := [some (.ref (ad 0 40)), some (.int (iN i))]) hl0 (by decide) rfl (Nat.le_of_ble_eq_true rfl) rfl ?_
  intro X hX1 hX2 hX3 hf he hh
  subst hX1 hX2 hX3
  refine V_aload_n hf dX9_priceOf_0 rfl rfl ?_
  refine V_iload_n hf dX9_priceOf_1 rfl rfl ?_
  refine V_iconst hf dX9_priceOf_2 ?_
  refine B_callVi hf (As := [_, _]) (d_ofTrade hl0 σ hR hN i hi 3 (by decide) hk hk2) cv_X9_218 l01 rfl rfl rfl (Nat.le_of_ble_eq_true rfl) ⟨by decide, by decide, by decide, by decide⟩ dX9_priceOf_3 ?_
  exact B_iret hf he rfl dX9_priceOf_6 (by decide) (by decide) rfl rfl

set_option maxHeartbeats 4000000 in
set_option maxRecDepth 100000 in
theorem dx_priceOf {l : Launch} {D : va_G} {K : Nat → ClassId} {ad : Adr} (hl0 : l.stackTraces = false) (σ : Mem) (hR : Rng σ) (hN : NI (σ 0 41)) (i : Int) (hi : inR i) (hk : ¬ (0 ≤ i ∧ i < σ 0 41 13)) : Cb l D K ad yX9_priceOf (.code yX9_priceOf cX9_priceOf 2 (some .int)) 5 0 0 σ [.ref (ad 0 40), .int (iN i)] (.inl (some (.int (iN (-1))))) (st3 (st3 σ 0 40 8 0) 0 40 8 1) := by
  refine Cb.of (own := RX9) (ls0 := [some (.ref (ad 0 40)), some (.int (iN i))]) hl0 (by decide) rfl (Nat.le_of_ble_eq_true rfl) rfl ?_
  intro X hX1 hX2 hX3 hf he hh
  subst hX1 hX2 hX3
  refine V_aload_n hf dX9_priceOf_0 rfl rfl ?_
  refine V_iload_n hf dX9_priceOf_1 rfl rfl ?_
  refine V_iconst hf dX9_priceOf_2 ?_
  refine B_callVi hf (As := [_, _]) (dx_ofTrade hl0 σ hR hN i hi 3 hk) cv_X9_218 l01 rfl rfl rfl (Nat.le_of_ble_eq_true rfl) ⟨by decide, by decide, by decide, by decide⟩ dX9_priceOf_3 ?_
  exact B_iret hf he rfl dX9_priceOf_6 (by decide) (by decide) rfl rfl

set_option maxHeartbeats 4000000 in
set_option maxRecDepth 100000 in
theorem d_consistent {l : Launch} {D : va_G} {K : Nat → ClassId} {ad : Adr} (hl0 : l.stackTraces = false) (σ : Mem) (hR : Rng σ) : Cb l D K ad yX9_isConsistent (.code yX9_isConsistent cX9_isConsistent 1 (some .boolean)) 5 0 0 σ [.ref (ad 0 40)] (.inl (some (.int (iN (1))))) (st3 σ 0 40 8 0) := by
  refine Cb.of (own := RX9) (ls0 := [some (.ref (ad 0 40))]) hl0 (by decide) rfl (Nat.le_of_ble_eq_true rfl) rfl ?_
  intro X hX1 hX2 hX3 hf he hh
  subst hX1 hX2 hX3
  refine V_aload_n hf dX9_isConsistent_0 rfl rfl ?_
  refine V_iconst hf dX9_isConsistent_1 ?_
  refine B_putI (kI := 8) hf rfl l01 rfl fp_X9_38_12 rfl rfl (Nat.le_of_ble_eq_true rfl) (by decide) (cs_40_8 _ _ _ _ _) dX9_isConsistent_2 ?_
  refine V_iconst hf dX9_isConsistent_5 ?_
  exact B_iret hf he (by decide +kernel) dX9_isConsistent_6 (by decide) (by decide) rfl rfl

set_option maxHeartbeats 4000000 in
set_option maxRecDepth 100000 in
theorem d_syntaxErrorOffset {l : Launch} {D : va_G} {K : Nat → ClassId} {ad : Adr} (hl0 : l.stackTraces = false) (σ : Mem) (hR : Rng σ) (hk : ¬ σ 0 40 7 = -1) : Cb l D K ad yX9_syntaxErrorOffset (.code yX9_syntaxErrorOffset cX9_syntaxErrorOffset 1 (some .int)) 5 0 0 σ [.ref (ad 0 40)] (.inl (some (.int (iN (σ 0 40 7))))) (st3 σ 0 40 8 0) := by
  refine Cb.of (own := RX9) (ls0 := [some (.ref (ad 0 40))]) hl0 (by decide) rfl (Nat.le_of_ble_eq_true rfl) rfl ?_
  intro X hX1 hX2 hX3 hf he hh
  subst hX1 hX2 hX3
  have y1 : st3 σ 0 40 8 0 0 40 7 = σ 0 40 7 := st3_k (by decide)
  have hR1 : Rng (st3 σ 0 40 8 0) := hR.st ⟨by decide, by decide⟩
  refine V_aload_n hf dX9_syntaxErrorOffset_0 rfl rfl ?_
  refine V_iconst hf dX9_syntaxErrorOffset_1 ?_
  refine B_putI (kI := 8) hf rfl l01 rfl fp_X9_38_12 rfl rfl (Nat.le_of_ble_eq_true rfl) (by decide) (cs_40_8 _ _ _ _ _) dX9_syntaxErrorOffset_2 ?_
  refine V_aload_n hf dX9_syntaxErrorOffset_5 rfl rfl ?_
  refine B_get hf l01 rfl fl_X9_25_12 rfl dX9_syntaxErrorOffset_6 ?_
  refine V_iconst hf dX9_syntaxErrorOffset_9 ?_
  refine V_icmp_ne (tgt := 21) hf (by first | exact hR _ _ _ (by decide) | exact ⟨by omega, by omega⟩ | exact Rng.st (Rng.st hR ⟨by decide, by decide⟩) ⟨by decide, by decide⟩ _ _ _ (by decide) | exact Rng.st hR ⟨by decide, by decide⟩ _ _ _ (by decide)) (by first | exact hR _ _ _ (by decide) | exact ⟨by omega, by omega⟩ | exact Rng.st (Rng.st hR ⟨by decide, by decide⟩) ⟨by decide, by decide⟩ _ _ _ (by decide) | exact Rng.st hR ⟨by decide, by decide⟩ _ _ _ (by decide)) dX9_syntaxErrorOffset_10 (by decide) (fun h10 => ?_) (fun h10 => ?_)
  · refine V_aload_n hf dX9_syntaxErrorOffset_21 rfl rfl ?_
    refine B_get hf l01 rfl fl_X9_25_12 rfl dX9_syntaxErrorOffset_22 ?_
    exact B_iret hf he rfl dX9_syntaxErrorOffset_25 (by decide) (by decide) (st3_k (by decide)) rfl
  · exact absurd h10 (by first | omega | (split at h10 <;> omega))

set_option maxHeartbeats 4000000 in
set_option maxRecDepth 100000 in
theorem dx_syntaxErrorOffset {l : Launch} {D : va_G} {K : Nat → ClassId} {ad : Adr} (hl0 : l.stackTraces = false) (σ : Mem) (hR : Rng σ) (hk : σ 0 40 7 = -1) : Cb l D K ad yX9_syntaxErrorOffset (.code yX9_syntaxErrorOffset cX9_syntaxErrorOffset 1 (some .int)) 5 0 0 σ [.ref (ad 0 40)] (.inl (some (.int (iN (-1))))) (st3 (st3 σ 0 40 8 0) 0 40 8 1) := by
  refine Cb.of (own := RX9) (ls0 := [some (.ref (ad 0 40))]) hl0 (by decide) rfl (Nat.le_of_ble_eq_true rfl) rfl ?_
  intro X hX1 hX2 hX3 hf he hh
  subst hX1 hX2 hX3
  have y1 : st3 σ 0 40 8 0 0 40 7 = σ 0 40 7 := st3_k (by decide)
  have hR1 : Rng (st3 σ 0 40 8 0) := hR.st ⟨by decide, by decide⟩
  refine V_aload_n hf dX9_syntaxErrorOffset_0 rfl rfl ?_
  refine V_iconst hf dX9_syntaxErrorOffset_1 ?_
  refine B_putI (kI := 8) hf rfl l01 rfl fp_X9_38_12 rfl rfl (Nat.le_of_ble_eq_true rfl) (by decide) (cs_40_8 _ _ _ _ _) dX9_syntaxErrorOffset_2 ?_
  refine V_aload_n hf dX9_syntaxErrorOffset_5 rfl rfl ?_
  refine B_get hf l01 rfl fl_X9_25_12 rfl dX9_syntaxErrorOffset_6 ?_
  refine V_iconst hf dX9_syntaxErrorOffset_9 ?_
  refine V_icmp_ne (tgt := 21) hf (by first | exact hR _ _ _ (by decide) | exact ⟨by omega, by omega⟩ | exact Rng.st (Rng.st hR ⟨by decide, by decide⟩) ⟨by decide, by decide⟩ _ _ _ (by decide) | exact Rng.st hR ⟨by decide, by decide⟩ _ _ _ (by decide)) (by first | exact hR _ _ _ (by decide) | exact ⟨by omega, by omega⟩ | exact Rng.st (Rng.st hR ⟨by decide, by decide⟩) ⟨by decide, by decide⟩ _ _ _ (by decide) | exact Rng.st hR ⟨by decide, by decide⟩ _ _ _ (by decide)) dX9_syntaxErrorOffset_10 (by decide) (fun h10 => ?_) (fun h10 => ?_)
  · exact absurd h10 (by first | omega | (split at h10 <;> omega))
  · refine V_aload_n hf dX9_syntaxErrorOffset_13 rfl rfl ?_
    refine V_iconst hf dX9_syntaxErrorOffset_14 ?_
    refine B_callVi hf (As := [_]) (d_throwing hl0 (st3 σ 0 40 8 0) hR1 1) cv_X9_47 l01 rfl rfl rfl (Nat.le_of_ble_eq_true rfl) ⟨by decide, by decide, by decide, by decide⟩ dX9_syntaxErrorOffset_15 ?_
    refine V_goto (tgt := 25) hf dX9_syntaxErrorOffset_18 (by decide) ?_
    exact B_iret hf he rfl dX9_syntaxErrorOffset_25 (by decide) (by decide) rfl rfl

set_option maxHeartbeats 4000000 in
set_option maxRecDepth 100000 in
theorem d_rejectionReason {l : Launch} {D : va_G} {K : Nat → ClassId} {ad : Adr} (hl0 : l.stackTraces = false) (σ : Mem) (hR : Rng σ) (hk : ¬ σ 0 40 11 = 0) : Cb l D K ad yX9_rejectionReason (.code yX9_rejectionReason cX9_rejectionReason 1 (some .int)) 5 0 0 σ [.ref (ad 0 40)] (.inl (some (.int (iN (σ 0 40 11))))) (st3 σ 0 40 8 0) := by
  refine Cb.of (own := RX9) (ls0 := [some (.ref (ad 0 40))]) hl0 (by decide) rfl (Nat.le_of_ble_eq_true rfl) rfl ?_
  intro X hX1 hX2 hX3 hf he hh
  subst hX1 hX2 hX3
  have y1 : st3 σ 0 40 8 0 0 40 11 = σ 0 40 11 := st3_k (by decide)
  have hR1 : Rng (st3 σ 0 40 8 0) := hR.st ⟨by decide, by decide⟩
  refine V_aload_n hf dX9_rejectionReason_0 rfl rfl ?_
  refine V_iconst hf dX9_rejectionReason_1 ?_
  refine B_putI (kI := 8) hf rfl l01 rfl fp_X9_38_12 rfl rfl (Nat.le_of_ble_eq_true rfl) (by decide) (cs_40_8 _ _ _ _ _) dX9_rejectionReason_2 ?_
  refine V_aload_n hf dX9_rejectionReason_5 rfl rfl ?_
  refine B_get hf l01 rfl fl_X9_51_12 rfl dX9_rejectionReason_6 ?_
  refine V_if_ne (tgt := 20) hf (by first | exact hR _ _ _ (by decide) | exact ⟨by omega, by omega⟩ | exact Rng.st (Rng.st hR ⟨by decide, by decide⟩) ⟨by decide, by decide⟩ _ _ _ (by decide) | exact Rng.st hR ⟨by decide, by decide⟩ _ _ _ (by decide)) dX9_rejectionReason_9 (by decide) (fun h9 => ?_) (fun h9 => ?_)
  · refine V_aload_n hf dX9_rejectionReason_20 rfl rfl ?_
    refine B_get hf l01 rfl fl_X9_51_12 rfl dX9_rejectionReason_21 ?_
    exact B_iret hf he rfl dX9_rejectionReason_24 (by decide) (by decide) (st3_k (by decide)) rfl
  · exact absurd h9 (by first | omega | (split at h9 <;> omega))

set_option maxHeartbeats 4000000 in
set_option maxRecDepth 100000 in
theorem dx_rejectionReason {l : Launch} {D : va_G} {K : Nat → ClassId} {ad : Adr} (hl0 : l.stackTraces = false) (σ : Mem) (hR : Rng σ) (hk : σ 0 40 11 = 0) : Cb l D K ad yX9_rejectionReason (.code yX9_rejectionReason cX9_rejectionReason 1 (some .int)) 5 0 0 σ [.ref (ad 0 40)] (.inl (some (.int (iN (-1))))) (st3 (st3 σ 0 40 8 0) 0 40 8 1) := by
  refine Cb.of (own := RX9) (ls0 := [some (.ref (ad 0 40))]) hl0 (by decide) rfl (Nat.le_of_ble_eq_true rfl) rfl ?_
  intro X hX1 hX2 hX3 hf he hh
  subst hX1 hX2 hX3
  have y1 : st3 σ 0 40 8 0 0 40 11 = σ 0 40 11 := st3_k (by decide)
  have hR1 : Rng (st3 σ 0 40 8 0) := hR.st ⟨by decide, by decide⟩
  refine V_aload_n hf dX9_rejectionReason_0 rfl rfl ?_
  refine V_iconst hf dX9_rejectionReason_1 ?_
  refine B_putI (kI := 8) hf rfl l01 rfl fp_X9_38_12 rfl rfl (Nat.le_of_ble_eq_true rfl) (by decide) (cs_40_8 _ _ _ _ _) dX9_rejectionReason_2 ?_
  refine V_aload_n hf dX9_rejectionReason_5 rfl rfl ?_
  refine B_get hf l01 rfl fl_X9_51_12 rfl dX9_rejectionReason_6 ?_
  refine V_if_ne (tgt := 20) hf (by first | exact hR _ _ _ (by decide) | exact ⟨by omega, by omega⟩ | exact Rng.st (Rng.st hR ⟨by decide, by decide⟩) ⟨by decide, by decide⟩ _ _ _ (by decide) | exact Rng.st hR ⟨by decide, by decide⟩ _ _ _ (by decide)) dX9_rejectionReason_9 (by decide) (fun h9 => ?_) (fun h9 => ?_)
  · exact absurd h9 (by first | omega | (split at h9 <;> omega))
  · refine V_aload_n hf dX9_rejectionReason_12 rfl rfl ?_
    refine V_iconst hf dX9_rejectionReason_13 ?_
    refine B_callVi hf (As := [_]) (d_throwing hl0 (st3 σ 0 40 8 0) hR1 1) cv_X9_47 l01 rfl rfl rfl (Nat.le_of_ble_eq_true rfl) ⟨by decide, by decide, by decide, by decide⟩ dX9_rejectionReason_14 ?_
    refine V_goto (tgt := 24) hf dX9_rejectionReason_17 (by decide) ?_
    exact B_iret hf he rfl dX9_rejectionReason_24 (by decide) (by decide) rfl rfl

set_option maxHeartbeats 4000000 in
set_option maxRecDepth 100000 in
theorem d_rejectionDetail {l : Launch} {D : va_G} {K : Nat → ClassId} {ad : Adr} (hl0 : l.stackTraces = false) (σ : Mem) (hR : Rng σ) (hk : ¬ σ 0 40 11 = 0) : Cb l D K ad yX9_rejectionDetail (.code yX9_rejectionDetail cX9_rejectionDetail 1 (some .int)) 5 0 0 σ [.ref (ad 0 40)] (.inl (some (.int (iN (σ 0 40 12))))) (st3 σ 0 40 8 0) := by
  refine Cb.of (own := RX9) (ls0 := [some (.ref (ad 0 40))]) hl0 (by decide) rfl (Nat.le_of_ble_eq_true rfl) rfl ?_
  intro X hX1 hX2 hX3 hf he hh
  subst hX1 hX2 hX3
  have y1 : st3 σ 0 40 8 0 0 40 11 = σ 0 40 11 := st3_k (by decide)
  have hR1 : Rng (st3 σ 0 40 8 0) := hR.st ⟨by decide, by decide⟩
  refine V_aload_n hf dX9_rejectionDetail_0 rfl rfl ?_
  refine V_iconst hf dX9_rejectionDetail_1 ?_
  refine B_putI (kI := 8) hf rfl l01 rfl fp_X9_38_12 rfl rfl (Nat.le_of_ble_eq_true rfl) (by decide) (cs_40_8 _ _ _ _ _) dX9_rejectionDetail_2 ?_
  refine V_aload_n hf dX9_rejectionDetail_5 rfl rfl ?_
  refine B_get hf l01 rfl fl_X9_51_12 rfl dX9_rejectionDetail_6 ?_
  refine V_if_ne (tgt := 20) hf (by first | exact hR _ _ _ (by decide) | exact ⟨by omega, by omega⟩ | exact Rng.st (Rng.st hR ⟨by decide, by decide⟩) ⟨by decide, by decide⟩ _ _ _ (by decide) | exact Rng.st hR ⟨by decide, by decide⟩ _ _ _ (by decide)) dX9_rejectionDetail_9 (by decide) (fun h9 => ?_) (fun h9 => ?_)
  · refine V_aload_n hf dX9_rejectionDetail_20 rfl rfl ?_
    refine B_get hf l01 rfl fl_X9_54_12 rfl dX9_rejectionDetail_21 ?_
    exact B_iret hf he rfl dX9_rejectionDetail_24 (by decide) (by decide) (st3_k (by decide)) rfl
  · exact absurd h9 (by first | omega | (split at h9 <;> omega))

set_option maxHeartbeats 4000000 in
set_option maxRecDepth 100000 in
theorem dx_rejectionDetail {l : Launch} {D : va_G} {K : Nat → ClassId} {ad : Adr} (hl0 : l.stackTraces = false) (σ : Mem) (hR : Rng σ) (hk : σ 0 40 11 = 0) : Cb l D K ad yX9_rejectionDetail (.code yX9_rejectionDetail cX9_rejectionDetail 1 (some .int)) 5 0 0 σ [.ref (ad 0 40)] (.inl (some (.int (iN (-1))))) (st3 (st3 σ 0 40 8 0) 0 40 8 1) := by
  refine Cb.of (own := RX9) (ls0 := [some (.ref (ad 0 40))]) hl0 (by decide) rfl (Nat.le_of_ble_eq_true rfl) rfl ?_
  intro X hX1 hX2 hX3 hf he hh
  subst hX1 hX2 hX3
  have y1 : st3 σ 0 40 8 0 0 40 11 = σ 0 40 11 := st3_k (by decide)
  have hR1 : Rng (st3 σ 0 40 8 0) := hR.st ⟨by decide, by decide⟩
  refine V_aload_n hf dX9_rejectionDetail_0 rfl rfl ?_
  refine V_iconst hf dX9_rejectionDetail_1 ?_
  refine B_putI (kI := 8) hf rfl l01 rfl fp_X9_38_12 rfl rfl (Nat.le_of_ble_eq_true rfl) (by decide) (cs_40_8 _ _ _ _ _) dX9_rejectionDetail_2 ?_
  refine V_aload_n hf dX9_rejectionDetail_5 rfl rfl ?_
  refine B_get hf l01 rfl fl_X9_51_12 rfl dX9_rejectionDetail_6 ?_
  refine V_if_ne (tgt := 20) hf (by first | exact hR _ _ _ (by decide) | exact ⟨by omega, by omega⟩ | exact Rng.st (Rng.st hR ⟨by decide, by decide⟩) ⟨by decide, by decide⟩ _ _ _ (by decide) | exact Rng.st hR ⟨by decide, by decide⟩ _ _ _ (by decide)) dX9_rejectionDetail_9 (by decide) (fun h9 => ?_) (fun h9 => ?_)
  · exact absurd h9 (by first | omega | (split at h9 <;> omega))
  · refine V_aload_n hf dX9_rejectionDetail_12 rfl rfl ?_
    refine V_iconst hf dX9_rejectionDetail_13 ?_
    refine B_callVi hf (As := [_]) (d_throwing hl0 (st3 σ 0 40 8 0) hR1 1) cv_X9_47 l01 rfl rfl rfl (Nat.le_of_ble_eq_true rfl) ⟨by decide, by decide, by decide, by decide⟩ dX9_rejectionDetail_14 ?_
    refine V_goto (tgt := 24) hf dX9_rejectionDetail_17 (by decide) ?_
    exact B_iret hf he rfl dX9_rejectionDetail_24 (by decide) (by decide) rfl rfl

set_option maxHeartbeats 4000000 in
set_option maxRecDepth 100000 in
theorem d_causeReason {l : Launch} {D : va_G} {K : Nat → ClassId} {ad : Adr} (hl0 : l.stackTraces = false) (σ : Mem) (hR : Rng σ) (hk : ¬ σ 0 40 13 = 0) : Cb l D K ad yX9_causeReason (.code yX9_causeReason cX9_causeReason 1 (some .int)) 5 0 0 σ [.ref (ad 0 40)] (.inl (some (.int (iN (σ 0 40 13))))) (st3 σ 0 40 8 0) := by
  refine Cb.of (own := RX9) (ls0 := [some (.ref (ad 0 40))]) hl0 (by decide) rfl (Nat.le_of_ble_eq_true rfl) rfl ?_
  intro X hX1 hX2 hX3 hf he hh
  subst hX1 hX2 hX3
  have y1 : st3 σ 0 40 8 0 0 40 13 = σ 0 40 13 := st3_k (by decide)
  have hR1 : Rng (st3 σ 0 40 8 0) := hR.st ⟨by decide, by decide⟩
  refine V_aload_n hf dX9_causeReason_0 rfl rfl ?_
  refine V_iconst hf dX9_causeReason_1 ?_
  refine B_putI (kI := 8) hf rfl l01 rfl fp_X9_38_12 rfl rfl (Nat.le_of_ble_eq_true rfl) (by decide) (cs_40_8 _ _ _ _ _) dX9_causeReason_2 ?_
  refine V_aload_n hf dX9_causeReason_5 rfl rfl ?_
  refine B_get hf l01 rfl fl_X9_57_12 rfl dX9_causeReason_6 ?_
  refine V_if_ne (tgt := 20) hf (by first | exact hR _ _ _ (by decide) | exact ⟨by omega, by omega⟩ | exact Rng.st (Rng.st hR ⟨by decide, by decide⟩) ⟨by decide, by decide⟩ _ _ _ (by decide) | exact Rng.st hR ⟨by decide, by decide⟩ _ _ _ (by decide)) dX9_causeReason_9 (by decide) (fun h9 => ?_) (fun h9 => ?_)
  · refine V_aload_n hf dX9_causeReason_20 rfl rfl ?_
    refine B_get hf l01 rfl fl_X9_57_12 rfl dX9_causeReason_21 ?_
    exact B_iret hf he rfl dX9_causeReason_24 (by decide) (by decide) (st3_k (by decide)) rfl
  · exact absurd h9 (by first | omega | (split at h9 <;> omega))

set_option maxHeartbeats 4000000 in
set_option maxRecDepth 100000 in
theorem dx_causeReason {l : Launch} {D : va_G} {K : Nat → ClassId} {ad : Adr} (hl0 : l.stackTraces = false) (σ : Mem) (hR : Rng σ) (hk : σ 0 40 13 = 0) : Cb l D K ad yX9_causeReason (.code yX9_causeReason cX9_causeReason 1 (some .int)) 5 0 0 σ [.ref (ad 0 40)] (.inl (some (.int (iN (-1))))) (st3 (st3 σ 0 40 8 0) 0 40 8 1) := by
  refine Cb.of (own := RX9) (ls0 := [some (.ref (ad 0 40))]) hl0 (by decide) rfl (Nat.le_of_ble_eq_true rfl) rfl ?_
  intro X hX1 hX2 hX3 hf he hh
  subst hX1 hX2 hX3
  have y1 : st3 σ 0 40 8 0 0 40 13 = σ 0 40 13 := st3_k (by decide)
  have hR1 : Rng (st3 σ 0 40 8 0) := hR.st ⟨by decide, by decide⟩
  refine V_aload_n hf dX9_causeReason_0 rfl rfl ?_
  refine V_iconst hf dX9_causeReason_1 ?_
  refine B_putI (kI := 8) hf rfl l01 rfl fp_X9_38_12 rfl rfl (Nat.le_of_ble_eq_true rfl) (by decide) (cs_40_8 _ _ _ _ _) dX9_causeReason_2 ?_
  refine V_aload_n hf dX9_causeReason_5 rfl rfl ?_
  refine B_get hf l01 rfl fl_X9_57_12 rfl dX9_causeReason_6 ?_
  refine V_if_ne (tgt := 20) hf (by first | exact hR _ _ _ (by decide) | exact ⟨by omega, by omega⟩ | exact Rng.st (Rng.st hR ⟨by decide, by decide⟩) ⟨by decide, by decide⟩ _ _ _ (by decide) | exact Rng.st hR ⟨by decide, by decide⟩ _ _ _ (by decide)) dX9_causeReason_9 (by decide) (fun h9 => ?_) (fun h9 => ?_)
  · exact absurd h9 (by first | omega | (split at h9 <;> omega))
  · refine V_aload_n hf dX9_causeReason_12 rfl rfl ?_
    refine V_iconst hf dX9_causeReason_13 ?_
    refine B_callVi hf (As := [_]) (d_throwing hl0 (st3 σ 0 40 8 0) hR1 1) cv_X9_47 l01 rfl rfl rfl (Nat.le_of_ble_eq_true rfl) ⟨by decide, by decide, by decide, by decide⟩ dX9_causeReason_14 ?_
    refine V_goto (tgt := 24) hf dX9_causeReason_17 (by decide) ?_
    exact B_iret hf he rfl dX9_causeReason_24 (by decide) (by decide) rfl rfl

set_option maxHeartbeats 4000000 in
set_option maxRecDepth 100000 in
theorem d_allCoins {l : Launch} {D : va_G} {K : Nat → ClassId} {ad : Adr} (hl0 : l.stackTraces = false) (σ : Mem) (hR : Rng σ) (hN : NI (σ 0 41)) : Cb l D K ad yX9_allCoins (.code yX9_allCoins cX9_allCoins 3 (some .int)) 5 0 0 σ [.ref (ad 0 40)] (.inl (some (.int (iN (σ 0 41 10 + sumI (mcoinF (σ 0 41)) (σ 0 41 0)))))) (st3 σ 0 40 8 0) := by
  refine Cb.of (own := RX9) (ls0 := [some (.ref (ad 0 40)), none, none]) hl0 (by decide) rfl (Nat.le_of_ble_eq_true rfl) rfl ?_
  intro X hX1 hX2 hX3 hf he hh
  subst hX1 hX2 hX3
  have e41 : st3 σ 0 40 8 0 0 41 = σ 0 41 := by
    funext k
    exact st3_j (by decide)
  have z0 := congrFun e41 0
  have z1 := congrFun e41 1
  have z2 := congrFun e41 2
  have z3 := congrFun e41 3
  have hN1 : NI (st3 σ 0 40 8 0 0 41) := by
    rw [e41]
    exact hN
  have hR1 : Rng (st3 σ 0 40 8 0) := hR.st ⟨by decide, by decide⟩
  have n0 := hN.n0
  have n1 := hN.n1
  have n2 := hN.n2
  have n3 := hN.n3
  have z10 := congrFun e41 10
  have loop : ∀ (n : Nat) (k : Int), 0 ≤ k → k ≤ σ 0 41 0 → (σ 0 41 0 - k).toNat < n → B X ad (st3 σ 0 40 8 0) 15 [some (.ref (ad 0 40)), some (.int (iN (σ 0 41 10 + sumI (mcoinF (σ 0 41)) k))), some (.int (iN (k)))] [] 0 0 := by
    intro n
    induction n with
    | zero => intros; omega
    | succ n ih =>
      intro k hk0 hk1 hn
      refine V_iload_n hf dX9_allCoins_15 rfl rfl ?_
      refine V_aload_n hf dX9_allCoins_16 rfl rfl ?_
      refine B_get hf l01 rfl fl_X9_9_12 rfl dX9_allCoins_17 ?_
      refine V_iconst hf dX9_allCoins_20 ?_
      refine B_iald hf l01 (fun _ => rfl) (by first | exact hR _ _ _ (by decide) | exact ⟨by omega, by omega⟩ | exact Rng.st (Rng.st hR ⟨by decide, by decide⟩) ⟨by decide, by decide⟩ _ _ _ (by decide) | exact Rng.st hR ⟨by decide, by decide⟩ _ _ _ (by decide)) (by omega) (by omega) dX9_allCoins_21 ?_
      refine V_icmp_ge (tgt := 43) hf (by first | exact hR _ _ _ (by decide) | exact ⟨by omega, by omega⟩ | exact Rng.st (Rng.st hR ⟨by decide, by decide⟩) ⟨by decide, by decide⟩ _ _ _ (by decide) | exact Rng.st hR ⟨by decide, by decide⟩ _ _ _ (by decide)) ⟨by omega, by omega⟩ dX9_allCoins_22 (by decide) (fun h22 => ?_) (fun h22 => ?_)
      · refine V_iload_n hf dX9_allCoins_43 rfl rfl ?_
        exact B_iret hf he rfl dX9_allCoins_44 (by decide) (by decide) (by rw [show k = σ 0 41 0 by omega]) rfl
      · refine V_iload_n hf dX9_allCoins_25 rfl rfl ?_
        refine V_aload_n hf dX9_allCoins_26 rfl rfl ?_
        refine B_get hf l01 rfl fl_X9_9_12 rfl dX9_allCoins_27 ?_
        refine V_iload_n hf dX9_allCoins_30 rfl rfl ?_
        refine B_callSi hf (As := [_]) (d_shipAt hl0 (st3 σ 0 40 8 0) k) cvs_X9_67 rfl (Nat.le_of_ble_eq_true rfl) ⟨by decide, by decide, by decide, by decide⟩ dX9_allCoins_31 ?_
        refine B_iald hf l01 (fun _ => rfl) ⟨by omega, by omega⟩ (by omega) (by omega) dX9_allCoins_34 ?_
        refine V_iadd hf dX9_allCoins_35 ?_
        refine V_istore_n (ls2 := [_, _, _]) hf dX9_allCoins_36 rfl (by decide) rfl rfl ?_
        refine V_iinc (ls2 := [_, _, _]) hf dX9_allCoins_37 (by decide) rfl rfl rfl ?_
        refine V_goto (tgt := 15) hf dX9_allCoins_40 (by decide) ?_
        have bk := ih (k + 1) (by omega) (by omega) (by omega)
        rw [sumI_s (mcoinF (σ 0 41)) hk0, ← Int.add_assoc, show mcoinF (σ 0 41) k = st3 σ 0 40 8 0 0 41 (14 + 2 * k) from (congrFun e41 _).symm] at bk
        exact bk
  refine V_aload_n hf dX9_allCoins_0 rfl rfl ?_
  refine V_iconst hf dX9_allCoins_1 ?_
  refine B_putI (kI := 8) hf rfl l01 rfl fp_X9_38_12 rfl rfl (Nat.le_of_ble_eq_true rfl) (by decide) (cs_40_8 _ _ _ _ _) dX9_allCoins_2 ?_
  refine V_aload_n hf dX9_allCoins_5 rfl rfl ?_
  refine B_get hf l01 rfl fl_X9_9_12 rfl dX9_allCoins_6 ?_
  refine V_bipush hf dX9_allCoins_9 (by decide +kernel) ?_
  refine B_iald hf l01 (fun _ => rfl) (by first | exact hR _ _ _ (by decide) | exact ⟨by omega, by omega⟩ | exact Rng.st (Rng.st hR ⟨by decide, by decide⟩) ⟨by decide, by decide⟩ _ _ _ (by decide) | exact Rng.st hR ⟨by decide, by decide⟩ _ _ _ (by decide)) (by omega) (by omega) dX9_allCoins_11 ?_
  refine V_istore_n (ls2 := [_, _, _]) hf dX9_allCoins_12 rfl (by decide) rfl rfl ?_
  refine V_iconst hf dX9_allCoins_13 ?_
  refine V_istore_n (ls2 := [_, _, _]) hf dX9_allCoins_14 rfl (by decide) rfl rfl ?_
  have bk := loop ((σ 0 41 0).toNat + 1) 0 (by omega) (by omega) (by omega)
  rw [sumI_0, Int.add_zero, ← z10] at bk
  exact bk

set_option maxHeartbeats 4000000 in
set_option maxRecDepth 100000 in
theorem d_shipByWealth {l : Launch} {D : va_G} {K : Nat → ClassId} {ad : Adr} (hl0 : l.stackTraces = false) (σ : Mem) (hR : Rng σ) (hN : NI (σ 0 41)) (i : Int) (hi : inR i) (hq : mshipBy (σ 0 41) i ≠ -1) : Cb l D K ad yX9_shipByWealth (.code yX9_shipByWealth cX9_shipByWealth 6 (some .int)) 5 0 0 σ [.ref (ad 0 40), .int (iN i)] (.inl (some (.int (iN (mshipBy (σ 0 41) i))))) (st3 σ 0 40 8 0) := by
  refine Cb.of (own := RX9) (ls0 := [some (.ref (ad 0 40)), some (.int (iN i)), none, none, none, none]) hl0 (by decide) rfl (Nat.le_of_ble_eq_true rfl) rfl ?_
  intro X hX1 hX2 hX3 hf he hh
  subst hX1 hX2 hX3
  have e41 : st3 σ 0 40 8 0 0 41 = σ 0 41 := by
    funext k
    exact st3_j (by decide)
  have z0 := congrFun e41 0
  have z1 := congrFun e41 1
  have z2 := congrFun e41 2
  have z3 := congrFun e41 3
  have hN1 : NI (st3 σ 0 40 8 0 0 41) := by
    rw [e41]
    exact hN
  have hR1 : Rng (st3 σ 0 40 8 0) := hR.st ⟨by decide, by decide⟩
  have n0 := hN.n0
  have n1 := hN.n1
  have n2 := hN.n2
  have n3 := hN.n3
  have inner : ∀ k : Int, 0 ≤ k → k < σ 0 41 0 → B X ad (st3 σ 0 40 8 0) 101 [some (.ref (ad 0 40)), some (.int (iN (i))), some (.int (iN (k))), some (.int (iN (sumI (msaF (σ 0 41) k) (σ 0 41 0)))), none, none] [] 0 0 → ∀ (n : Nat) (j : Int), 0 ≤ j → j ≤ σ 0 41 0 → (σ 0 41 0 - j).toNat < n → B X ad (st3 σ 0 40 8 0) 22 [some (.ref (ad 0 40)), some (.int (iN (i))), some (.int (iN (k))), some (.int (iN (sumI (msaF (σ 0 41) k) j))), some (.int (iN (j))), none] [] 0 0 := by
    intro k hk0 hk1 kont n
    induction n with
    | zero => intros; omega
    | succ n ih2 =>
      intro j hj0 hj1 hn
      refine V_iload hf dX9_shipByWealth_22 rfl ?_
      refine V_aload_n hf dX9_shipByWealth_24 rfl rfl ?_
      refine B_get hf l01 rfl fl_X9_9_12 rfl dX9_shipByWealth_25 ?_
      refine V_iconst hf dX9_shipByWealth_28 ?_
      refine B_iald hf l01 (fun _ => rfl) (by first | exact hR _ _ _ (by decide) | exact ⟨by omega, by omega⟩ | exact Rng.st (Rng.st hR ⟨by decide, by decide⟩) ⟨by decide, by decide⟩ _ _ _ (by decide) | exact Rng.st hR ⟨by decide, by decide⟩ _ _ _ (by decide)) (by omega) (by omega) dX9_shipByWealth_29 ?_
      refine V_icmp_ge (tgt := 101) hf (by first | exact hR _ _ _ (by decide) | exact ⟨by omega, by omega⟩ | exact Rng.st (Rng.st hR ⟨by decide, by decide⟩) ⟨by decide, by decide⟩ _ _ _ (by decide) | exact Rng.st hR ⟨by decide, by decide⟩ _ _ _ (by decide)) ⟨by omega, by omega⟩ dX9_shipByWealth_30 (by decide) (fun h30 => ?_) (fun h30 => ?_)
      · refine V_fg (ls2 := [some _, some _, some _, some _, none, none]) ⟨rfl, rfl, rfl, rfl, trivial⟩ ?_
        rw [show j = σ 0 41 0 by omega]
        exact kont
      · have w1 := mwealth_r hN hj0 (by omega : j < σ 0 41 0)
        have w2 := mwealth_r hN hk0 (by omega : k < σ 0 41 0)
        have w3 := mload_r n1 j
        have w4 := mload_r n1 k
        refine V_aload_n hf dX9_shipByWealth_33 rfl rfl ?_
        refine V_iload hf dX9_shipByWealth_34 rfl ?_
        refine B_callVi hf (As := [_]) (d_wealth hl0 (st3 σ 0 40 8 0) hR1 hN1 (j) ⟨by omega, by omega⟩) cv_X9_221 l01 rfl rfl rfl (Nat.le_of_ble_eq_true rfl) ⟨by decide, by decide, by decide, by decide⟩ dX9_shipByWealth_36 ?_
        rw [e41]
        refine V_aload_n hf dX9_shipByWealth_39 rfl rfl ?_
        refine V_iload_n hf dX9_shipByWealth_40 rfl rfl ?_
        refine B_callVi hf (As := [_]) (d_wealth hl0 (st3 σ 0 40 8 0) hR1 hN1 (k) ⟨by omega, by omega⟩) cv_X9_221 l01 rfl rfl rfl (Nat.le_of_ble_eq_true rfl) ⟨by decide, by decide, by decide, by decide⟩ dX9_shipByWealth_41 ?_
        rw [e41]
        refine V_isub hf dX9_shipByWealth_44 ?_
        refine V_istore (ls2 := [_, _, _, _, _, _]) hf dX9_shipByWealth_45 (by decide) rfl rfl ?_
        refine V_iload hf dX9_shipByWealth_47 rfl ?_
        refine V_if_ne (tgt := 67) hf ⟨by omega, by omega⟩ dX9_shipByWealth_49 (by decide) (fun h49 => ?_) (fun h49 => ?_)
        · refine V_iload hf dX9_shipByWealth_67 rfl ?_
          refine V_istore (ls2 := [_, _, _, _, _, _]) hf dX9_shipByWealth_69 (by decide) rfl rfl ?_
          refine V_iload_n hf dX9_shipByWealth_71 rfl rfl ?_
          refine V_iload hf dX9_shipByWealth_72 rfl ?_
          refine V_if_gt (tgt := 88) hf ⟨by omega, by omega⟩ dX9_shipByWealth_74 (by decide) (fun h74 => ?_) (fun h74 => ?_)
          · refine V_iconst hf dX9_shipByWealth_88 ?_
            refine V_goto (tgt := 93) hf dX9_shipByWealth_89 (by decide) ?_
            refine V_iadd hf dX9_shipByWealth_93 ?_
            refine V_istore_n (ls2 := [_, _, _, _, _, _]) hf dX9_shipByWealth_94 rfl (by decide) rfl rfl ?_
            refine V_iinc (ls2 := [_, _, _, _, _, _]) hf dX9_shipByWealth_95 (by decide) rfl rfl rfl ?_
            refine V_goto (tgt := 22) hf dX9_shipByWealth_98 (by decide) ?_
            refine V_fg (ls2 := [some _, some _, some _, some _, some _, none]) ⟨rfl, rfl, rfl, rfl, rfl, trivial⟩ ?_
            have bk := ih2 (j + 1) (by omega) (by omega) (by omega)
            rw [sumI_s (msaF (σ 0 41) k) hj0] at bk
            first | (rw [show (msaF (σ 0 41) k) j = 1 from if_pos (by omega)] at bk; exact bk) | (rw [show (msaF (σ 0 41) k) j = 0 from if_neg (by omega)] at bk; exact bk)
          · refine V_iload hf dX9_shipByWealth_77 rfl ?_
            refine V_if_ne (tgt := 92) hf ⟨by omega, by omega⟩ dX9_shipByWealth_79 (by decide) (fun h79 => ?_) (fun h79 => ?_)
            · refine V_iconst hf dX9_shipByWealth_92 ?_
              refine V_iadd hf dX9_shipByWealth_93 ?_
              refine V_istore_n (ls2 := [_, _, _, _, _, _]) hf dX9_shipByWealth_94 rfl (by decide) rfl rfl ?_
              refine V_iinc (ls2 := [_, _, _, _, _, _]) hf dX9_shipByWealth_95 (by decide) rfl rfl rfl ?_
              refine V_goto (tgt := 22) hf dX9_shipByWealth_98 (by decide) ?_
              refine V_fg (ls2 := [some _, some _, some _, some _, some _, none]) ⟨rfl, rfl, rfl, rfl, rfl, trivial⟩ ?_
              have bk := ih2 (j + 1) (by omega) (by omega) (by omega)
              rw [sumI_s (msaF (σ 0 41) k) hj0] at bk
              first | (rw [show (msaF (σ 0 41) k) j = 1 from if_pos (by omega)] at bk; exact bk) | (rw [show (msaF (σ 0 41) k) j = 0 from if_neg (by omega)] at bk; exact bk)
            · refine V_iload hf dX9_shipByWealth_82 rfl ?_
              refine V_iload_n hf dX9_shipByWealth_84 rfl rfl ?_
              refine V_icmp_ge (tgt := 92) hf (by first | exact hR _ _ _ (by decide) | exact ⟨by omega, by omega⟩ | exact Rng.st (Rng.st hR ⟨by decide, by decide⟩) ⟨by decide, by decide⟩ _ _ _ (by decide) | exact Rng.st hR ⟨by decide, by decide⟩ _ _ _ (by decide)) (by first | exact hR _ _ _ (by decide) | exact ⟨by omega, by omega⟩ | exact Rng.st (Rng.st hR ⟨by decide, by decide⟩) ⟨by decide, by decide⟩ _ _ _ (by decide) | exact Rng.st hR ⟨by decide, by decide⟩ _ _ _ (by decide)) dX9_shipByWealth_85 (by decide) (fun h85 => ?_) (fun h85 => ?_)
              · refine V_iconst hf dX9_shipByWealth_92 ?_
                refine V_iadd hf dX9_shipByWealth_93 ?_
                refine V_istore_n (ls2 := [_, _, _, _, _, _]) hf dX9_shipByWealth_94 rfl (by decide) rfl rfl ?_
                refine V_iinc (ls2 := [_, _, _, _, _, _]) hf dX9_shipByWealth_95 (by decide) rfl rfl rfl ?_
                refine V_goto (tgt := 22) hf dX9_shipByWealth_98 (by decide) ?_
                refine V_fg (ls2 := [some _, some _, some _, some _, some _, none]) ⟨rfl, rfl, rfl, rfl, rfl, trivial⟩ ?_
                have bk := ih2 (j + 1) (by omega) (by omega) (by omega)
                rw [sumI_s (msaF (σ 0 41) k) hj0] at bk
                first | (rw [show (msaF (σ 0 41) k) j = 1 from if_pos (by omega)] at bk; exact bk) | (rw [show (msaF (σ 0 41) k) j = 0 from if_neg (by omega)] at bk; exact bk)
              · refine V_iconst hf dX9_shipByWealth_88 ?_
                refine V_goto (tgt := 93) hf dX9_shipByWealth_89 (by decide) ?_
                refine V_iadd hf dX9_shipByWealth_93 ?_
                refine V_istore_n (ls2 := [_, _, _, _, _, _]) hf dX9_shipByWealth_94 rfl (by decide) rfl rfl ?_
                refine V_iinc (ls2 := [_, _, _, _, _, _]) hf dX9_shipByWealth_95 (by decide) rfl rfl rfl ?_
                refine V_goto (tgt := 22) hf dX9_shipByWealth_98 (by decide) ?_
                refine V_fg (ls2 := [some _, some _, some _, some _, some _, none]) ⟨rfl, rfl, rfl, rfl, rfl, trivial⟩ ?_
                have bk := ih2 (j + 1) (by omega) (by omega) (by omega)
                rw [sumI_s (msaF (σ 0 41) k) hj0] at bk
                first | (rw [show (msaF (σ 0 41) k) j = 1 from if_pos (by omega)] at bk; exact bk) | (rw [show (msaF (σ 0 41) k) j = 0 from if_neg (by omega)] at bk; exact bk)
        · refine V_aload_n hf dX9_shipByWealth_52 rfl rfl ?_
          refine V_iload hf dX9_shipByWealth_53 rfl ?_
          refine B_callVi hf (As := [_]) (d_load hl0 (st3 σ 0 40 8 0) hR1 hN1 (j) ⟨by omega, by omega⟩) cv_X9_79 l01 rfl rfl rfl (Nat.le_of_ble_eq_true rfl) ⟨by decide, by decide, by decide, by decide⟩ dX9_shipByWealth_55 ?_
          rw [e41]
          refine V_aload_n hf dX9_shipByWealth_58 rfl rfl ?_
          refine V_iload_n hf dX9_shipByWealth_59 rfl rfl ?_
          refine B_callVi hf (As := [_]) (d_load hl0 (st3 σ 0 40 8 0) hR1 hN1 (k) ⟨by omega, by omega⟩) cv_X9_79 l01 rfl rfl rfl (Nat.le_of_ble_eq_true rfl) ⟨by decide, by decide, by decide, by decide⟩ dX9_shipByWealth_60 ?_
          rw [e41]
          refine V_isub hf dX9_shipByWealth_63 ?_
          refine V_goto (tgt := 69) hf dX9_shipByWealth_64 (by decide) ?_
          refine V_istore (ls2 := [_, _, _, _, _, _]) hf dX9_shipByWealth_69 (by decide) rfl rfl ?_
          refine V_iload_n hf dX9_shipByWealth_71 rfl rfl ?_
          refine V_iload hf dX9_shipByWealth_72 rfl ?_
          refine V_if_gt (tgt := 88) hf ⟨by omega, by omega⟩ dX9_shipByWealth_74 (by decide) (fun h74 => ?_) (fun h74 => ?_)
          · refine V_iconst hf dX9_shipByWealth_88 ?_
            refine V_goto (tgt := 93) hf dX9_shipByWealth_89 (by decide) ?_
            refine V_iadd hf dX9_shipByWealth_93 ?_
            refine V_istore_n (ls2 := [_, _, _, _, _, _]) hf dX9_shipByWealth_94 rfl (by decide) rfl rfl ?_
            refine V_iinc (ls2 := [_, _, _, _, _, _]) hf dX9_shipByWealth_95 (by decide) rfl rfl rfl ?_
            refine V_goto (tgt := 22) hf dX9_shipByWealth_98 (by decide) ?_
            refine V_fg (ls2 := [some _, some _, some _, some _, some _, none]) ⟨rfl, rfl, rfl, rfl, rfl, trivial⟩ ?_
            have bk := ih2 (j + 1) (by omega) (by omega) (by omega)
            rw [sumI_s (msaF (σ 0 41) k) hj0] at bk
            first | (rw [show (msaF (σ 0 41) k) j = 1 from if_pos (by omega)] at bk; exact bk) | (rw [show (msaF (σ 0 41) k) j = 0 from if_neg (by omega)] at bk; exact bk)
          · refine V_iload hf dX9_shipByWealth_77 rfl ?_
            refine V_if_ne (tgt := 92) hf ⟨by omega, by omega⟩ dX9_shipByWealth_79 (by decide) (fun h79 => ?_) (fun h79 => ?_)
            · refine V_iconst hf dX9_shipByWealth_92 ?_
              refine V_iadd hf dX9_shipByWealth_93 ?_
              refine V_istore_n (ls2 := [_, _, _, _, _, _]) hf dX9_shipByWealth_94 rfl (by decide) rfl rfl ?_
              refine V_iinc (ls2 := [_, _, _, _, _, _]) hf dX9_shipByWealth_95 (by decide) rfl rfl rfl ?_
              refine V_goto (tgt := 22) hf dX9_shipByWealth_98 (by decide) ?_
              refine V_fg (ls2 := [some _, some _, some _, some _, some _, none]) ⟨rfl, rfl, rfl, rfl, rfl, trivial⟩ ?_
              have bk := ih2 (j + 1) (by omega) (by omega) (by omega)
              rw [sumI_s (msaF (σ 0 41) k) hj0] at bk
              first | (rw [show (msaF (σ 0 41) k) j = 1 from if_pos (by omega)] at bk; exact bk) | (rw [show (msaF (σ 0 41) k) j = 0 from if_neg (by omega)] at bk; exact bk)
            · refine V_iload hf dX9_shipByWealth_82 rfl ?_
              refine V_iload_n hf dX9_shipByWealth_84 rfl rfl ?_
              refine V_icmp_ge (tgt := 92) hf (by first | exact hR _ _ _ (by decide) | exact ⟨by omega, by omega⟩ | exact Rng.st (Rng.st hR ⟨by decide, by decide⟩) ⟨by decide, by decide⟩ _ _ _ (by decide) | exact Rng.st hR ⟨by decide, by decide⟩ _ _ _ (by decide)) (by first | exact hR _ _ _ (by decide) | exact ⟨by omega, by omega⟩ | exact Rng.st (Rng.st hR ⟨by decide, by decide⟩) ⟨by decide, by decide⟩ _ _ _ (by decide) | exact Rng.st hR ⟨by decide, by decide⟩ _ _ _ (by decide)) dX9_shipByWealth_85 (by decide) (fun h85 => ?_) (fun h85 => ?_)
              · refine V_iconst hf dX9_shipByWealth_92 ?_
                refine V_iadd hf dX9_shipByWealth_93 ?_
                refine V_istore_n (ls2 := [_, _, _, _, _, _]) hf dX9_shipByWealth_94 rfl (by decide) rfl rfl ?_
                refine V_iinc (ls2 := [_, _, _, _, _, _]) hf dX9_shipByWealth_95 (by decide) rfl rfl rfl ?_
                refine V_goto (tgt := 22) hf dX9_shipByWealth_98 (by decide) ?_
                refine V_fg (ls2 := [some _, some _, some _, some _, some _, none]) ⟨rfl, rfl, rfl, rfl, rfl, trivial⟩ ?_
                have bk := ih2 (j + 1) (by omega) (by omega) (by omega)
                rw [sumI_s (msaF (σ 0 41) k) hj0] at bk
                first | (rw [show (msaF (σ 0 41) k) j = 1 from if_pos (by omega)] at bk; exact bk) | (rw [show (msaF (σ 0 41) k) j = 0 from if_neg (by omega)] at bk; exact bk)
              · refine V_iconst hf dX9_shipByWealth_88 ?_
                refine V_goto (tgt := 93) hf dX9_shipByWealth_89 (by decide) ?_
                refine V_iadd hf dX9_shipByWealth_93 ?_
                refine V_istore_n (ls2 := [_, _, _, _, _, _]) hf dX9_shipByWealth_94 rfl (by decide) rfl rfl ?_
                refine V_iinc (ls2 := [_, _, _, _, _, _]) hf dX9_shipByWealth_95 (by decide) rfl rfl rfl ?_
                refine V_goto (tgt := 22) hf dX9_shipByWealth_98 (by decide) ?_
                refine V_fg (ls2 := [some _, some _, some _, some _, some _, none]) ⟨rfl, rfl, rfl, rfl, rfl, trivial⟩ ?_
                have bk := ih2 (j + 1) (by omega) (by omega) (by omega)
                rw [sumI_s (msaF (σ 0 41) k) hj0] at bk
                first | (rw [show (msaF (σ 0 41) k) j = 1 from if_pos (by omega)] at bk; exact bk) | (rw [show (msaF (σ 0 41) k) j = 0 from if_neg (by omega)] at bk; exact bk)
  have loop : ∀ (n : Nat) (k : Int), 0 ≤ k → k ≤ σ 0 41 0 → (∀ j : Int, 0 ≤ j → j < k → ¬ (fun s => sumI (msaF (σ 0 41) s) (σ 0 41 0) = i) j) → (σ 0 41 0 - k).toNat < n → B X ad (st3 σ 0 40 8 0) 7 [some (.ref (ad 0 40)), some (.int (iN (i))), some (.int (iN (k))), none, none, none] [] 0 0 := by
    intro n
    induction n with
    | zero => intros; omega
    | succ n ih =>
      intro k hk0 hk1 hno hn
      refine V_iload_n hf dX9_shipByWealth_7 rfl rfl ?_
      refine V_aload_n hf dX9_shipByWealth_8 rfl rfl ?_
      refine B_get hf l01 rfl fl_X9_9_12 rfl dX9_shipByWealth_9 ?_
      refine V_iconst hf dX9_shipByWealth_12 ?_
      refine B_iald hf l01 (fun _ => rfl) (by first | exact hR _ _ _ (by decide) | exact ⟨by omega, by omega⟩ | exact Rng.st (Rng.st hR ⟨by decide, by decide⟩) ⟨by decide, by decide⟩ _ _ _ (by decide) | exact Rng.st hR ⟨by decide, by decide⟩ _ _ _ (by decide)) (by omega) (by omega) dX9_shipByWealth_13 ?_
      refine V_icmp_ge (tgt := 114) hf (by first | exact hR _ _ _ (by decide) | exact ⟨by omega, by omega⟩ | exact Rng.st (Rng.st hR ⟨by decide, by decide⟩) ⟨by decide, by decide⟩ _ _ _ (by decide) | exact Rng.st hR ⟨by decide, by decide⟩ _ _ _ (by decide)) ⟨by omega, by omega⟩ dX9_shipByWealth_14 (by decide) (fun h14 => ?_) (fun h14 => ?_)
      · exact absurd (fst_no (fun j h0 h1 => hno j h0 (by omega))) hq
      · refine V_iconst hf dX9_shipByWealth_17 ?_
        refine V_istore_n (ls2 := [_, _, _, _, _, _]) hf dX9_shipByWealth_18 rfl (by decide) rfl rfl ?_
        refine V_iconst hf dX9_shipByWealth_19 ?_
        refine V_istore (ls2 := [_, _, _, _, _, _]) hf dX9_shipByWealth_20 (by decide) rfl rfl ?_
        refine inner k hk0 (by omega) ?_ ((σ 0 41 0).toNat + 1) 0 (by omega) (by omega) (by omega)
        refine V_iload_n hf dX9_shipByWealth_101 rfl rfl ?_
        refine V_iload_n hf dX9_shipByWealth_102 rfl rfl ?_
        refine V_icmp_ne (tgt := 108) hf (by have := mrk_r (f := msaF (σ 0 41) k) (n := σ 0 41 0) (by omega) (by omega) (fun _ => msaF_r); exact ⟨by omega, by omega⟩) (by first | exact hR _ _ _ (by decide) | exact ⟨by omega, by omega⟩ | exact Rng.st (Rng.st hR ⟨by decide, by decide⟩) ⟨by decide, by decide⟩ _ _ _ (by decide) | exact Rng.st hR ⟨by decide, by decide⟩ _ _ _ (by decide)) dX9_shipByWealth_103 (by decide) (fun h103 => ?_) (fun h103 => ?_)
        · have hz := h103
          refine V_iinc (ls2 := [_, _, _, _, _, _]) hf dX9_shipByWealth_108 (by decide) rfl rfl rfl ?_
          refine V_goto (tgt := 7) hf dX9_shipByWealth_111 (by decide) ?_
          refine V_fg (ls2 := [some _, some _, some _, none, none, none]) ⟨rfl, rfl, rfl, trivial⟩ ?_
          refine ih (k + 1) (by omega) (by omega) (fun j h0 h1 => ?_) (by omega)
          by_cases hj : j = k
          · subst hj
            first | exact hz | (intro hp; first | exact absurd hp (by omega) | exact absurd hp.1 (by omega) | exact absurd hp.2 (by omega))
          · exact hno j h0 (by omega)
        · refine V_iload_n hf dX9_shipByWealth_106 rfl rfl ?_
          exact B_iret hf he rfl dX9_shipByWealth_107 (by decide) (by decide) (fst_yes hk0 (by omega) h103 hno).symm rfl
  refine V_aload_n hf dX9_shipByWealth_0 rfl rfl ?_
  refine V_iconst hf dX9_shipByWealth_1 ?_
  refine B_putI (kI := 8) hf rfl l01 rfl fp_X9_38_12 rfl rfl (Nat.le_of_ble_eq_true rfl) (by decide) (cs_40_8 _ _ _ _ _) dX9_shipByWealth_2 ?_
  refine V_iconst hf dX9_shipByWealth_5 ?_
  refine V_istore_n (ls2 := [_, _, _, _, _, _]) hf dX9_shipByWealth_6 rfl (by decide) rfl rfl ?_
  exact loop ((σ 0 41 0).toNat + 1) 0 (by omega) (by omega) (fun j h0 h1 => by omega) (by omega)

set_option maxHeartbeats 4000000 in
set_option maxRecDepth 100000 in
theorem dx_shipByWealth {l : Launch} {D : va_G} {K : Nat → ClassId} {ad : Adr} (hl0 : l.stackTraces = false) (σ : Mem) (hR : Rng σ) (hN : NI (σ 0 41)) (i : Int) (hi : inR i) (hq : mshipBy (σ 0 41) i = -1) : Cb l D K ad yX9_shipByWealth (.code yX9_shipByWealth cX9_shipByWealth 6 (some .int)) 5 0 0 σ [.ref (ad 0 40), .int (iN i)] (.inl (some (.int (iN (-1))))) (st3 (st3 σ 0 40 8 0) 0 40 8 1) := by
  refine Cb.of (own := RX9) (ls0 := [some (.ref (ad 0 40)), some (.int (iN i)), none, none, none, none]) hl0 (by decide) rfl (Nat.le_of_ble_eq_true rfl) rfl ?_
  intro X hX1 hX2 hX3 hf he hh
  subst hX1 hX2 hX3
  have e41 : st3 σ 0 40 8 0 0 41 = σ 0 41 := by
    funext k
    exact st3_j (by decide)
  have z0 := congrFun e41 0
  have z1 := congrFun e41 1
  have z2 := congrFun e41 2
  have z3 := congrFun e41 3
  have hN1 : NI (st3 σ 0 40 8 0 0 41) := by
    rw [e41]
    exact hN
  have hR1 : Rng (st3 σ 0 40 8 0) := hR.st ⟨by decide, by decide⟩
  have n0 := hN.n0
  have n1 := hN.n1
  have n2 := hN.n2
  have n3 := hN.n3
  have inner : ∀ k : Int, 0 ≤ k → k < σ 0 41 0 → B X ad (st3 σ 0 40 8 0) 101 [some (.ref (ad 0 40)), some (.int (iN (i))), some (.int (iN (k))), some (.int (iN (sumI (msaF (σ 0 41) k) (σ 0 41 0)))), none, none] [] 0 0 → ∀ (n : Nat) (j : Int), 0 ≤ j → j ≤ σ 0 41 0 → (σ 0 41 0 - j).toNat < n → B X ad (st3 σ 0 40 8 0) 22 [some (.ref (ad 0 40)), some (.int (iN (i))), some (.int (iN (k))), some (.int (iN (sumI (msaF (σ 0 41) k) j))), some (.int (iN (j))), none] [] 0 0 := by
    intro k hk0 hk1 kont n
    induction n with
    | zero => intros; omega
    | succ n ih2 =>
      intro j hj0 hj1 hn
      refine V_iload hf dX9_shipByWealth_22 rfl ?_
      refine V_aload_n hf dX9_shipByWealth_24 rfl rfl ?_
      refine B_get hf l01 rfl fl_X9_9_12 rfl dX9_shipByWealth_25 ?_
      refine V_iconst hf dX9_shipByWealth_28 ?_
      refine B_iald hf l01 (fun _ => rfl) (by first | exact hR _ _ _ (by decide) | exact ⟨by omega, by omega⟩ | exact Rng.st (Rng.st hR ⟨by decide, by decide⟩) ⟨by decide, by decide⟩ _ _ _ (by decide) | exact Rng.st hR ⟨by decide, by decide⟩ _ _ _ (by decide)) (by omega) (by omega) dX9_shipByWealth_29 ?_
      refine V_icmp_ge (tgt := 101) hf (by first | exact hR _ _ _ (by decide) | exact ⟨by omega, by omega⟩ | exact Rng.st (Rng.st hR ⟨by decide, by decide⟩) ⟨by decide, by decide⟩ _ _ _ (by decide) | exact Rng.st hR ⟨by decide, by decide⟩ _ _ _ (by decide)) ⟨by omega, by omega⟩ dX9_shipByWealth_30 (by decide) (fun h30 => ?_) (fun h30 => ?_)
      · refine V_fg (ls2 := [some _, some _, some _, some _, none, none]) ⟨rfl, rfl, rfl, rfl, trivial⟩ ?_
        rw [show j = σ 0 41 0 by omega]
        exact kont
      · have w1 := mwealth_r hN hj0 (by omega : j < σ 0 41 0)
        have w2 := mwealth_r hN hk0 (by omega : k < σ 0 41 0)
        have w3 := mload_r n1 j
        have w4 := mload_r n1 k
        refine V_aload_n hf dX9_shipByWealth_33 rfl rfl ?_
        refine V_iload hf dX9_shipByWealth_34 rfl ?_
        refine B_callVi hf (As := [_]) (d_wealth hl0 (st3 σ 0 40 8 0) hR1 hN1 (j) ⟨by omega, by omega⟩) cv_X9_221 l01 rfl rfl rfl (Nat.le_of_ble_eq_true rfl) ⟨by decide, by decide, by decide, by decide⟩ dX9_shipByWealth_36 ?_
        rw [e41]
        refine V_aload_n hf dX9_shipByWealth_39 rfl rfl ?_
        refine V_iload_n hf dX9_shipByWealth_40 rfl rfl ?_
        refine B_callVi hf (As := [_]) (d_wealth hl0 (st3 σ 0 40 8 0) hR1 hN1 (k) ⟨by omega, by omega⟩) cv_X9_221 l01 rfl rfl rfl (Nat.le_of_ble_eq_true rfl) ⟨by decide, by decide, by decide, by decide⟩ dX9_shipByWealth_41 ?_
        rw [e41]
        refine V_isub hf dX9_shipByWealth_44 ?_
        refine V_istore (ls2 := [_, _, _, _, _, _]) hf dX9_shipByWealth_45 (by decide) rfl rfl ?_
        refine V_iload hf dX9_shipByWealth_47 rfl ?_
        refine V_if_ne (tgt := 67) hf ⟨by omega, by omega⟩ dX9_shipByWealth_49 (by decide) (fun h49 => ?_) (fun h49 => ?_)
        · refine V_iload hf dX9_shipByWealth_67 rfl ?_
          refine V_istore (ls2 := [_, _, _, _, _, _]) hf dX9_shipByWealth_69 (by decide) rfl rfl ?_
          refine V_iload_n hf dX9_shipByWealth_71 rfl rfl ?_
          refine V_iload hf dX9_shipByWealth_72 rfl ?_
          refine V_if_gt (tgt := 88) hf ⟨by omega, by omega⟩ dX9_shipByWealth_74 (by decide) (fun h74 => ?_) (fun h74 => ?_)
          · refine V_iconst hf dX9_shipByWealth_88 ?_
            refine V_goto (tgt := 93) hf dX9_shipByWealth_89 (by decide) ?_
            refine V_iadd hf dX9_shipByWealth_93 ?_
            refine V_istore_n (ls2 := [_, _, _, _, _, _]) hf dX9_shipByWealth_94 rfl (by decide) rfl rfl ?_
            refine V_iinc (ls2 := [_, _, _, _, _, _]) hf dX9_shipByWealth_95 (by decide) rfl rfl rfl ?_
            refine V_goto (tgt := 22) hf dX9_shipByWealth_98 (by decide) ?_
            refine V_fg (ls2 := [some _, some _, some _, some _, some _, none]) ⟨rfl, rfl, rfl, rfl, rfl, trivial⟩ ?_
            have bk := ih2 (j + 1) (by omega) (by omega) (by omega)
            rw [sumI_s (msaF (σ 0 41) k) hj0] at bk
            first | (rw [show (msaF (σ 0 41) k) j = 1 from if_pos (by omega)] at bk; exact bk) | (rw [show (msaF (σ 0 41) k) j = 0 from if_neg (by omega)] at bk; exact bk)
          · refine V_iload hf dX9_shipByWealth_77 rfl ?_
            refine V_if_ne (tgt := 92) hf ⟨by omega, by omega⟩ dX9_shipByWealth_79 (by decide) (fun h79 => ?_) (fun h79 => ?_)
            · refine V_iconst hf dX9_shipByWealth_92 ?_
              refine V_iadd hf dX9_shipByWealth_93 ?_
              refine V_istore_n (ls2 := [_, _, _, _, _, _]) hf dX9_shipByWealth_94 rfl (by decide) rfl rfl ?_
              refine V_iinc (ls2 := [_, _, _, _, _, _]) hf dX9_shipByWealth_95 (by decide) rfl rfl rfl ?_
              refine V_goto (tgt := 22) hf dX9_shipByWealth_98 (by decide) ?_
              refine V_fg (ls2 := [some _, some _, some _, some _, some _, none]) ⟨rfl, rfl, rfl, rfl, rfl, trivial⟩ ?_
              have bk := ih2 (j + 1) (by omega) (by omega) (by omega)
              rw [sumI_s (msaF (σ 0 41) k) hj0] at bk
              first | (rw [show (msaF (σ 0 41) k) j = 1 from if_pos (by omega)] at bk; exact bk) | (rw [show (msaF (σ 0 41) k) j = 0 from if_neg (by omega)] at bk; exact bk)
            · refine V_iload hf dX9_shipByWealth_82 rfl ?_
              refine V_iload_n hf dX9_shipByWealth_84 rfl rfl ?_
              refine V_icmp_ge (tgt := 92) hf (by first | exact hR _ _ _ (by decide) | exact ⟨by omega, by omega⟩ | exact Rng.st (Rng.st hR ⟨by decide, by decide⟩) ⟨by decide, by decide⟩ _ _ _ (by decide) | exact Rng.st hR ⟨by decide, by decide⟩ _ _ _ (by decide)) (by first | exact hR _ _ _ (by decide) | exact ⟨by omega, by omega⟩ | exact Rng.st (Rng.st hR ⟨by decide, by decide⟩) ⟨by decide, by decide⟩ _ _ _ (by decide) | exact Rng.st hR ⟨by decide, by decide⟩ _ _ _ (by decide)) dX9_shipByWealth_85 (by decide) (fun h85 => ?_) (fun h85 => ?_)
              · refine V_iconst hf dX9_shipByWealth_92 ?_
                refine V_iadd hf dX9_shipByWealth_93 ?_
                refine V_istore_n (ls2 := [_, _, _, _, _, _]) hf dX9_shipByWealth_94 rfl (by decide) rfl rfl ?_
                refine V_iinc (ls2 := [_, _, _, _, _, _]) hf dX9_shipByWealth_95 (by decide) rfl rfl rfl ?_
                refine V_goto (tgt := 22) hf dX9_shipByWealth_98 (by decide) ?_
                refine V_fg (ls2 := [some _, some _, some _, some _, some _, none]) ⟨rfl, rfl, rfl, rfl, rfl, trivial⟩ ?_
                have bk := ih2 (j + 1) (by omega) (by omega) (by omega)
                rw [sumI_s (msaF (σ 0 41) k) hj0] at bk
                first | (rw [show (msaF (σ 0 41) k) j = 1 from if_pos (by omega)] at bk; exact bk) | (rw [show (msaF (σ 0 41) k) j = 0 from if_neg (by omega)] at bk; exact bk)
              · refine V_iconst hf dX9_shipByWealth_88 ?_
                refine V_goto (tgt := 93) hf dX9_shipByWealth_89 (by decide) ?_
                refine V_iadd hf dX9_shipByWealth_93 ?_
                refine V_istore_n (ls2 := [_, _, _, _, _, _]) hf dX9_shipByWealth_94 rfl (by decide) rfl rfl ?_
                refine V_iinc (ls2 := [_, _, _, _, _, _]) hf dX9_shipByWealth_95 (by decide) rfl rfl rfl ?_
                refine V_goto (tgt := 22) hf dX9_shipByWealth_98 (by decide) ?_
                refine V_fg (ls2 := [some _, some _, some _, some _, some _, none]) ⟨rfl, rfl, rfl, rfl, rfl, trivial⟩ ?_
                have bk := ih2 (j + 1) (by omega) (by omega) (by omega)
                rw [sumI_s (msaF (σ 0 41) k) hj0] at bk
                first | (rw [show (msaF (σ 0 41) k) j = 1 from if_pos (by omega)] at bk; exact bk) | (rw [show (msaF (σ 0 41) k) j = 0 from if_neg (by omega)] at bk; exact bk)
        · refine V_aload_n hf dX9_shipByWealth_52 rfl rfl ?_
          refine V_iload hf dX9_shipByWealth_53 rfl ?_
          refine B_callVi hf (As := [_]) (d_load hl0 (st3 σ 0 40 8 0) hR1 hN1 (j) ⟨by omega, by omega⟩) cv_X9_79 l01 rfl rfl rfl (Nat.le_of_ble_eq_true rfl) ⟨by decide, by decide, by decide, by decide⟩ dX9_shipByWealth_55 ?_
          rw [e41]
          refine V_aload_n hf dX9_shipByWealth_58 rfl rfl ?_
          refine V_iload_n hf dX9_shipByWealth_59 rfl rfl ?_
          refine B_callVi hf (As := [_]) (d_load hl0 (st3 σ 0 40 8 0) hR1 hN1 (k) ⟨by omega, by omega⟩) cv_X9_79 l01 rfl rfl rfl (Nat.le_of_ble_eq_true rfl) ⟨by decide, by decide, by decide, by decide⟩ dX9_shipByWealth_60 ?_
          rw [e41]
          refine V_isub hf dX9_shipByWealth_63 ?_
          refine V_goto (tgt := 69) hf dX9_shipByWealth_64 (by decide) ?_
          refine V_istore (ls2 := [_, _, _, _, _, _]) hf dX9_shipByWealth_69 (by decide) rfl rfl ?_
          refine V_iload_n hf dX9_shipByWealth_71 rfl rfl ?_
          refine V_iload hf dX9_shipByWealth_72 rfl ?_
          refine V_if_gt (tgt := 88) hf ⟨by omega, by omega⟩ dX9_shipByWealth_74 (by decide) (fun h74 => ?_) (fun h74 => ?_)
          · refine V_iconst hf dX9_shipByWealth_88 ?_
            refine V_goto (tgt := 93) hf dX9_shipByWealth_89 (by decide) ?_
            refine V_iadd hf dX9_shipByWealth_93 ?_
            refine V_istore_n (ls2 := [_, _, _, _, _, _]) hf dX9_shipByWealth_94 rfl (by decide) rfl rfl ?_
            refine V_iinc (ls2 := [_, _, _, _, _, _]) hf dX9_shipByWealth_95 (by decide) rfl rfl rfl ?_
            refine V_goto (tgt := 22) hf dX9_shipByWealth_98 (by decide) ?_
            refine V_fg (ls2 := [some _, some _, some _, some _, some _, none]) ⟨rfl, rfl, rfl, rfl, rfl, trivial⟩ ?_
            have bk := ih2 (j + 1) (by omega) (by omega) (by omega)
            rw [sumI_s (msaF (σ 0 41) k) hj0] at bk
            first | (rw [show (msaF (σ 0 41) k) j = 1 from if_pos (by omega)] at bk; exact bk) | (rw [show (msaF (σ 0 41) k) j = 0 from if_neg (by omega)] at bk; exact bk)
          · refine V_iload hf dX9_shipByWealth_77 rfl ?_
            refine V_if_ne (tgt := 92) hf ⟨by omega, by omega⟩ dX9_shipByWealth_79 (by decide) (fun h79 => ?_) (fun h79 => ?_)
            · refine V_iconst hf dX9_shipByWealth_92 ?_
              refine V_iadd hf dX9_shipByWealth_93 ?_
              refine V_istore_n (ls2 := [_, _, _, _, _, _]) hf dX9_shipByWealth_94 rfl (by decide) rfl rfl ?_
              refine V_iinc (ls2 := [_, _, _, _, _, _]) hf dX9_shipByWealth_95 (by decide) rfl rfl rfl ?_
              refine V_goto (tgt := 22) hf dX9_shipByWealth_98 (by decide) ?_
              refine V_fg (ls2 := [some _, some _, some _, some _, some _, none]) ⟨rfl, rfl, rfl, rfl, rfl, trivial⟩ ?_
              have bk := ih2 (j + 1) (by omega) (by omega) (by omega)
              rw [sumI_s (msaF (σ 0 41) k) hj0] at bk
              first | (rw [show (msaF (σ 0 41) k) j = 1 from if_pos (by omega)] at bk; exact bk) | (rw [show (msaF (σ 0 41) k) j = 0 from if_neg (by omega)] at bk; exact bk)
            · refine V_iload hf dX9_shipByWealth_82 rfl ?_
              refine V_iload_n hf dX9_shipByWealth_84 rfl rfl ?_
              refine V_icmp_ge (tgt := 92) hf (by first | exact hR _ _ _ (by decide) | exact ⟨by omega, by omega⟩ | exact Rng.st (Rng.st hR ⟨by decide, by decide⟩) ⟨by decide, by decide⟩ _ _ _ (by decide) | exact Rng.st hR ⟨by decide, by decide⟩ _ _ _ (by decide)) (by first | exact hR _ _ _ (by decide) | exact ⟨by omega, by omega⟩ | exact Rng.st (Rng.st hR ⟨by decide, by decide⟩) ⟨by decide, by decide⟩ _ _ _ (by decide) | exact Rng.st hR ⟨by decide, by decide⟩ _ _ _ (by decide)) dX9_shipByWealth_85 (by decide) (fun h85 => ?_) (fun h85 => ?_)
              · refine V_iconst hf dX9_shipByWealth_92 ?_
                refine V_iadd hf dX9_shipByWealth_93 ?_
                refine V_istore_n (ls2 := [_, _, _, _, _, _]) hf dX9_shipByWealth_94 rfl (by decide) rfl rfl ?_
                refine V_iinc (ls2 := [_, _, _, _, _, _]) hf dX9_shipByWealth_95 (by decide) rfl rfl rfl ?_
                refine V_goto (tgt := 22) hf dX9_shipByWealth_98 (by decide) ?_
                refine V_fg (ls2 := [some _, some _, some _, some _, some _, none]) ⟨rfl, rfl, rfl, rfl, rfl, trivial⟩ ?_
                have bk := ih2 (j + 1) (by omega) (by omega) (by omega)
                rw [sumI_s (msaF (σ 0 41) k) hj0] at bk
                first | (rw [show (msaF (σ 0 41) k) j = 1 from if_pos (by omega)] at bk; exact bk) | (rw [show (msaF (σ 0 41) k) j = 0 from if_neg (by omega)] at bk; exact bk)
              · refine V_iconst hf dX9_shipByWealth_88 ?_
                refine V_goto (tgt := 93) hf dX9_shipByWealth_89 (by decide) ?_
                refine V_iadd hf dX9_shipByWealth_93 ?_
                refine V_istore_n (ls2 := [_, _, _, _, _, _]) hf dX9_shipByWealth_94 rfl (by decide) rfl rfl ?_
                refine V_iinc (ls2 := [_, _, _, _, _, _]) hf dX9_shipByWealth_95 (by decide) rfl rfl rfl ?_
                refine V_goto (tgt := 22) hf dX9_shipByWealth_98 (by decide) ?_
                refine V_fg (ls2 := [some _, some _, some _, some _, some _, none]) ⟨rfl, rfl, rfl, rfl, rfl, trivial⟩ ?_
                have bk := ih2 (j + 1) (by omega) (by omega) (by omega)
                rw [sumI_s (msaF (σ 0 41) k) hj0] at bk
                first | (rw [show (msaF (σ 0 41) k) j = 1 from if_pos (by omega)] at bk; exact bk) | (rw [show (msaF (σ 0 41) k) j = 0 from if_neg (by omega)] at bk; exact bk)
  have loop : ∀ (n : Nat) (k : Int), 0 ≤ k → k ≤ σ 0 41 0 → (∀ j : Int, 0 ≤ j → j < k → ¬ (fun s => sumI (msaF (σ 0 41) s) (σ 0 41 0) = i) j) → (σ 0 41 0 - k).toNat < n → B X ad (st3 σ 0 40 8 0) 7 [some (.ref (ad 0 40)), some (.int (iN (i))), some (.int (iN (k))), none, none, none] [] 0 0 := by
    intro n
    induction n with
    | zero => intros; omega
    | succ n ih =>
      intro k hk0 hk1 hno hn
      refine V_iload_n hf dX9_shipByWealth_7 rfl rfl ?_
      refine V_aload_n hf dX9_shipByWealth_8 rfl rfl ?_
      refine B_get hf l01 rfl fl_X9_9_12 rfl dX9_shipByWealth_9 ?_
      refine V_iconst hf dX9_shipByWealth_12 ?_
      refine B_iald hf l01 (fun _ => rfl) (by first | exact hR _ _ _ (by decide) | exact ⟨by omega, by omega⟩ | exact Rng.st (Rng.st hR ⟨by decide, by decide⟩) ⟨by decide, by decide⟩ _ _ _ (by decide) | exact Rng.st hR ⟨by decide, by decide⟩ _ _ _ (by decide)) (by omega) (by omega) dX9_shipByWealth_13 ?_
      refine V_icmp_ge (tgt := 114) hf (by first | exact hR _ _ _ (by decide) | exact ⟨by omega, by omega⟩ | exact Rng.st (Rng.st hR ⟨by decide, by decide⟩) ⟨by decide, by decide⟩ _ _ _ (by decide) | exact Rng.st hR ⟨by decide, by decide⟩ _ _ _ (by decide)) ⟨by omega, by omega⟩ dX9_shipByWealth_14 (by decide) (fun h14 => ?_) (fun h14 => ?_)
      · refine V_aload_n hf dX9_shipByWealth_114 rfl rfl ?_
        refine V_iconst hf dX9_shipByWealth_115 ?_
        refine B_callVi hf (As := [_]) (d_throwing hl0 (st3 σ 0 40 8 0) hR1 1) cv_X9_47 l01 rfl rfl rfl (Nat.le_of_ble_eq_true rfl) ⟨by decide, by decide, by decide, by decide⟩ dX9_shipByWealth_116 ?_
        exact B_iret hf he rfl dX9_shipByWealth_119 (by decide) (by decide) (by first | rfl | omega) rfl
      · refine V_iconst hf dX9_shipByWealth_17 ?_
        refine V_istore_n (ls2 := [_, _, _, _, _, _]) hf dX9_shipByWealth_18 rfl (by decide) rfl rfl ?_
        refine V_iconst hf dX9_shipByWealth_19 ?_
        refine V_istore (ls2 := [_, _, _, _, _, _]) hf dX9_shipByWealth_20 (by decide) rfl rfl ?_
        refine inner k hk0 (by omega) ?_ ((σ 0 41 0).toNat + 1) 0 (by omega) (by omega) (by omega)
        refine V_iload_n hf dX9_shipByWealth_101 rfl rfl ?_
        refine V_iload_n hf dX9_shipByWealth_102 rfl rfl ?_
        refine V_icmp_ne (tgt := 108) hf (by have := mrk_r (f := msaF (σ 0 41) k) (n := σ 0 41 0) (by omega) (by omega) (fun _ => msaF_r); exact ⟨by omega, by omega⟩) (by first | exact hR _ _ _ (by decide) | exact ⟨by omega, by omega⟩ | exact Rng.st (Rng.st hR ⟨by decide, by decide⟩) ⟨by decide, by decide⟩ _ _ _ (by decide) | exact Rng.st hR ⟨by decide, by decide⟩ _ _ _ (by decide)) dX9_shipByWealth_103 (by decide) (fun h103 => ?_) (fun h103 => ?_)
        · have hz := h103
          refine V_iinc (ls2 := [_, _, _, _, _, _]) hf dX9_shipByWealth_108 (by decide) rfl rfl rfl ?_
          refine V_goto (tgt := 7) hf dX9_shipByWealth_111 (by decide) ?_
          refine V_fg (ls2 := [some _, some _, some _, none, none, none]) ⟨rfl, rfl, rfl, trivial⟩ ?_
          refine ih (k + 1) (by omega) (by omega) (fun j h0 h1 => ?_) (by omega)
          by_cases hj : j = k
          · subst hj
            first | exact hz | (intro hp; first | exact absurd hp (by omega) | exact absurd hp.1 (by omega) | exact absurd hp.2 (by omega))
          · exact hno j h0 (by omega)
        · exact absurd (hq.symm.trans (fst_yes hk0 (by omega) h103 hno)) (by omega)
  refine V_aload_n hf dX9_shipByWealth_0 rfl rfl ?_
  refine V_iconst hf dX9_shipByWealth_1 ?_
  refine B_putI (kI := 8) hf rfl l01 rfl fp_X9_38_12 rfl rfl (Nat.le_of_ble_eq_true rfl) (by decide) (cs_40_8 _ _ _ _ _) dX9_shipByWealth_2 ?_
  refine V_iconst hf dX9_shipByWealth_5 ?_
  refine V_istore_n (ls2 := [_, _, _, _, _, _]) hf dX9_shipByWealth_6 rfl (by decide) rfl rfl ?_
  exact loop ((σ 0 41 0).toNat + 1) 0 (by omega) (by omega) (fun j h0 h1 => by omega) (by omega)
