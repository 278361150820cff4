/-! history; the exchange -/
def remM (σ0 : Mem) (m : Int) : Mem :=
  let σ1 := cpMarket σ0 (3 + σ0 0 24 1) m
  let σ2 := st3 σ1 0 24 1 ((σ1 0 24 1 + 1) % 8)
  st3 σ2 0 24 0 (if 8 < σ2 0 24 0 + 1 then 8 else σ2 0 24 0 + 1)
def backM (σ0 : Mem) (m : Int) : Mem :=
  let σ1 := st3 σ0 0 24 1 ((σ0 0 24 1 + 8 - 1) % 8)
  let σ2 := st3 σ1 0 24 0 (σ1 0 24 0 - 1)
  cpMarket σ2 m (3 + σ2 0 24 1)
/-- the sizes of all books -/
def SZ (σ : Mem) : Prop := ∀ g : Int, 0 ≤ g → g < 11 → (0 ≤ σ g 6 0 ∧ σ g 6 0 ≤ 10) ∧ 0 ≤ σ g 12 0 ∧ σ g 12 0 ≤ 16
/-- the history's numbers -/
def HI (σ : Mem) : Prop := (0 ≤ σ 0 24 0 ∧ σ 0 24 0 ≤ 8) ∧ 0 ≤ σ 0 24 1 ∧ σ 0 24 1 < 8
def noteR (σ : Mem) (r d c : Int) : Mem := st3 (st3 (st3 σ 0 23 7 r) 0 23 8 d) 0 23 9 c
theorem remM_R {σ : Mem} (h : Rng σ) {m : Int} (hH : HI σ) : Rng (remM σ m) := by
  have e0 : cpMarket σ (3 + σ 0 24 1) m 0 = σ 0 := cpMarket_o (by have := hH.2; omega)
  have h1 := hH.1
  have h2 := hH.2
  refine ((cpMarket_R h).st ?_).st ?_
  · rw [e0]
    exact ⟨by omega, by omega⟩
  · rw [st3_k (by decide), e0]
    split <;> exact ⟨by omega, by omega⟩

set_option maxHeartbeats 4000000 in
set_option maxRecDepth 100000 in
theorem c_remember {l : Launch} {D : va_G} {K : Nat → ClassId} {ad : Adr} (hl0 : l.stackTraces = false) (σ : Mem) (hR : Rng σ) (m : Int) (hm : 0 ≤ m ∧ m < 3) (hH : HI σ) (hS : SZ σ) : Cb l D K ad yX2_remember (.code yX2_remember cX2_remember 2 none) 3 0 0 σ [.ref (ad 0 24), .ref (ad m 0)] (.inl none) (remM σ m) := by
  refine Cb.of (own := RX2) (ls0 := [some (.ref (ad 0 24)), some (.ref (ad m 0))]) hl0 (by decide) rfl (Nat.le_of_ble_eq_true rfl) rfl ?_
  intro X hX1 hX2 hX3 hf he hh
  subst hX1 hX2 hX3
  have h1 := hH.1
  have h2 := hH.2
  have e0 : cpMarket σ (3 + σ 0 24 1) m 0 = σ 0 := cpMarket_o (by omega)
  refine V_aload_n hf dX2_remember_0 rfl rfl ?_
  refine B_get hf l01 rfl fl_X2_18_6 rfl dX2_remember_1 ?_
  refine V_aload_n hf dX2_remember_4 rfl rfl ?_
  refine B_get hf l01 rfl fl_X2_13_6 rfl dX2_remember_5 ?_
  refine B_past hf (by first | exact hR _ _ _ (by decide) | exact ⟨by omega, by omega⟩) (by omega) (by omega) dX2_remember_8 ?_
  refine V_aload_n hf dX2_remember_9 rfl rfl ?_
  refine B_callVv hf (As := [_]) (c_copyM hl0 (3 + σ 0 24 1) ⟨by omega, by omega⟩ σ hR m ⟨hm.1, by omega⟩ (by omega) (hS m hm.1 (by omega)).1 (hS m hm.1 (by omega)).2) cv_X2_23 (show 0 ≤ 3 + σ 0 24 1 ∧ 3 + σ 0 24 1 < (11 : Int) from ⟨by omega, by omega⟩) rfl rfl rfl (Nat.le_of_ble_eq_true rfl) ⟨by decide, by decide, by decide, by decide⟩ dX2_remember_10 ?_
  refine V_aload_n hf dX2_remember_13 rfl rfl ?_
  refine V_aload_n hf dX2_remember_14 rfl rfl ?_
  refine B_get hf l01 rfl fl_X2_13_6 rfl dX2_remember_15 ?_
  refine V_iconst hf dX2_remember_18 ?_
  refine V_iadd hf dX2_remember_19 ?_
  refine V_bipush hf dX2_remember_20 (by decide +kernel) ?_
  refine V_irem hf (by rw [e0]; exact ⟨by omega, by omega⟩) (by rw [e0]; omega) (by decide) ⟨by decide, by decide⟩ dX2_remember_22 ?_
  refine B_putI (kI := 1) hf rfl l01 rfl fp_X2_13_6 rfl rfl (Nat.le_of_ble_eq_true rfl) (by decide) (cs_24_1 _ _ _ _ _) dX2_remember_23 ?_
  refine V_aload_n hf dX2_remember_26 rfl rfl ?_
  refine V_aload_n hf dX2_remember_27 rfl rfl ?_
  refine B_get hf l01 rfl fl_X2_7_6 rfl dX2_remember_28 ?_
  refine V_iconst hf dX2_remember_31 ?_
  refine V_iadd hf dX2_remember_32 ?_
  refine V_bipush hf dX2_remember_33 (by decide +kernel) ?_
  refine V_min hf (by rw [st3_k (by decide), e0]; exact ⟨by omega, by omega⟩) ⟨by decide, by decide⟩ wl_X2_27 ⟨by decide, (Nat.le_of_ble_eq_true rfl), by decide, by decide⟩ dX2_remember_35 ?_
  refine B_putI (kI := 0) hf rfl l01 rfl fp_X2_7_6 rfl rfl (Nat.le_of_ble_eq_true rfl) (by decide) (cs_24_0 _ _ _ _ _) dX2_remember_38 ?_
  exact B_vret hf he dX2_remember_41 (by decide) (by decide) rfl

set_option maxHeartbeats 4000000 in
set_option maxRecDepth 100000 in
theorem c_back {l : Launch} {D : va_G} {K : Nat → ClassId} {ad : Adr} (hl0 : l.stackTraces = false) (σ : Mem) (hR : Rng σ) (hH : HI σ) (hd : 1 ≤ σ 0 24 0) (hS : SZ σ) : Cb l D K ad yX2_bringBack (.code yX2_bringBack cX2_bringBack 2 none) 3 0 0 σ [.ref (ad 0 24), .ref (ad 0 0)] (.inl none) (backM σ 0) := by
  refine Cb.of (own := RX2) (ls0 := [some (.ref (ad 0 24)), some (.ref (ad 0 0))]) hl0 (by decide) rfl (Nat.le_of_ble_eq_true rfl) rfl ?_
  intro X hX1 hX2 hX3 hf he hh
  subst hX1 hX2 hX3
  have h1 := hH.1
  have h2 := hH.2
  have e9 : (σ 0 24 1 + 8 - 1) % 8 = if σ 0 24 1 = 0 then 7 else σ 0 24 1 - 1 := by split <;> omega
  have e1 : 0 ≤ (σ 0 24 1 + 8 - 1) % 8 ∧ (σ 0 24 1 + 8 - 1) % 8 < 8 := by omega
  have e2 : (st3 (st3 σ 0 24 1 ((σ 0 24 1 + 8 - 1) % 8)) 0 24 0 (st3 σ 0 24 1 ((σ 0 24 1 + 8 - 1) % 8) 0 24 0 - 1)) 0 24 1 = (σ 0 24 1 + 8 - 1) % 8 := by rw [st3_k (by decide), st3_self]
  have e3 : st3 σ 0 24 1 ((σ 0 24 1 + 8 - 1) % 8) 0 24 0 = σ 0 24 0 := st3_k (by decide)
  refine V_aload_n hf dX2_bringBack_0 rfl rfl ?_
  refine V_aload_n hf dX2_bringBack_1 rfl rfl ?_
  refine B_get hf l01 rfl fl_X2_13_6 rfl dX2_bringBack_2 ?_
  refine V_bipush hf dX2_bringBack_5 (by decide +kernel) ?_
  refine V_iadd hf dX2_bringBack_7 ?_
  refine V_iconst hf dX2_bringBack_8 ?_
  refine V_isub hf dX2_bringBack_9 ?_
  refine V_bipush hf dX2_bringBack_10 (by decide +kernel) ?_
  refine V_irem hf ⟨by omega, by omega⟩ (by omega) (by decide) ⟨by decide, by decide⟩ dX2_bringBack_12 ?_
  refine B_putI (kI := 1) hf rfl l01 rfl fp_X2_13_6 rfl rfl (Nat.le_of_ble_eq_true rfl) (by decide) (cs_24_1 _ _ _ _ _) dX2_bringBack_13 ?_
  refine V_aload_n hf dX2_bringBack_16 rfl rfl ?_
  refine V_dup hf dX2_bringBack_17 rfl ?_
  refine B_get hf l01 rfl fl_X2_7_6 rfl dX2_bringBack_18 ?_
  refine V_iconst hf dX2_bringBack_21 ?_
  refine V_isub hf dX2_bringBack_22 ?_
  refine B_putI (kI := 0) hf rfl l01 rfl fp_X2_7_6 rfl rfl (Nat.le_of_ble_eq_true rfl) (by decide) (cs_24_0 _ _ _ _ _) dX2_bringBack_23 ?_
  refine V_aload_n hf dX2_bringBack_26 rfl rfl ?_
  refine V_aload_n hf dX2_bringBack_27 rfl rfl ?_
  refine B_get hf l01 rfl fl_X2_18_6 rfl dX2_bringBack_28 ?_
  refine V_aload_n hf dX2_bringBack_31 rfl rfl ?_
  refine B_get hf l01 rfl fl_X2_13_6 rfl dX2_bringBack_32 ?_
  refine B_past hf (by rw [e2]; exact ⟨by omega, by omega⟩) (by rw [e2]; omega) (by rw [e2]; omega) dX2_bringBack_35 ?_
  refine B_callVv hf (As := [_]) (c_copyM hl0 0 lm0 (st3 (st3 σ 0 24 1 ((σ 0 24 1 + 8 - 1) % 8)) 0 24 0 (st3 σ 0 24 1 ((σ 0 24 1 + 8 - 1) % 8) 0 24 0 - 1)) ((hR.st ⟨by omega, by omega⟩).st (by rw [e3]; exact ⟨by omega, by omega⟩)) (3 + (st3 (st3 σ 0 24 1 ((σ 0 24 1 + 8 - 1) % 8)) 0 24 0 (st3 σ 0 24 1 ((σ 0 24 1 + 8 - 1) % 8) 0 24 0 - 1)) 0 24 1) ⟨by rw [e2]; omega, by rw [e2]; omega⟩ (by rw [e2]; omega) (by rw [e2, st3_j (by decide), st3_j (by decide)]; exact (hS _ (by omega) (by omega)).1) (by rw [e2, st3_j (by decide), st3_j (by decide)]; exact (hS _ (by omega) (by omega)).2)) cv_X2_23 lm0 rfl rfl rfl (Nat.le_of_ble_eq_true rfl) ⟨by decide, by decide, by decide, by decide⟩ dX2_bringBack_36 ?_
  exact B_vret hf he dX2_bringBack_39 (by decide) (by decide) rfl

set_option maxHeartbeats 4000000 in
set_option maxRecDepth 100000 in
theorem c_reqShip {l : Launch} {D : va_G} {K : Nat → ClassId} {ad : Adr} (hl0 : l.stackTraces = false) (σ : Mem) (hR : Rng σ) (s : Int) (hs : inR s) (hk : 0 ≤ s ∧ s < σ 0 1 0) : Cb l D K ad yX8_requireShip (.code yX8_requireShip cX8_requireShip 2 none) 7 0 0 σ [.ref (ad 0 23), .int (iN s)] (.inl none) σ := by
  refine Cb.of (own := RX8) (ls0 := [some (.ref (ad 0 23)), some (.int (iN s))]) hl0 (by decide) rfl (Nat.le_of_ble_eq_true rfl) rfl ?_
  intro X hX1 hX2 hX3 hf he hh
  subst hX1 hX2 hX3
  refine V_aload_n hf dX8_requireShip_0 rfl rfl ?_
  refine B_get hf l01 rfl fl_X8_10_11 rfl dX8_requireShip_1 ?_
  refine B_get hf lm0 rfl fl_X8_64_7 rfl dX8_requireShip_4 ?_
  refine V_iload_n hf dX8_requireShip_7 rfl rfl ?_
  refine B_callVi hf (As := [_]) (c_hasShip hl0 0 lm0 σ hR s hs) cv_X8_346 lm0 rfl rfl rfl (Nat.le_of_ble_eq_true rfl) ⟨by decide, by decide, by decide, by decide⟩ dX8_requireShip_8 ?_
  refine V_if_ne (tgt := 25) hf (by split <;> exact ⟨by omega, by omega⟩) dX8_requireShip_11 (by decide) (fun h11 => ?_) (fun h11 => ?_)
  · exact B_vret hf he dX8_requireShip_25 (by decide) (by decide) rfl
  · exact absurd h11 (by first | omega | (split at h11 <;> omega) | (simp_all; omega))

set_option maxHeartbeats 4000000 in
set_option maxRecDepth 100000 in
theorem cx_reqShip {l : Launch} {D : va_G} {K : Nat → ClassId} {ad : Adr} (hl0 : l.stackTraces = false) (σ : Mem) (hR : Rng σ) (s : Int) (hs : inR s) (hk : ¬ (0 ≤ s ∧ s < σ 0 1 0)) : Cb l D K ad yX8_requireShip (.code yX8_requireShip cX8_requireShip 2 none) 7 1 6 σ [.ref (ad 0 23), .int (iN s)] (.inr "java/lang/IndexOutOfBoundsException") σ := by
  refine Cb.of (own := RX8) (ls0 := [some (.ref (ad 0 23)), some (.int (iN s))]) hl0 (by decide) rfl (Nat.le_of_ble_eq_true rfl) rfl ?_
  intro X hX1 hX2 hX3 hf he hh
  subst hX1 hX2 hX3
  refine V_aload_n hf dX8_requireShip_0 rfl rfl ?_
  refine B_get hf l01 rfl fl_X8_10_11 rfl dX8_requireShip_1 ?_
  refine B_get hf lm0 rfl fl_X8_64_7 rfl dX8_requireShip_4 ?_
  refine V_iload_n hf dX8_requireShip_7 rfl rfl ?_
  refine B_callVi hf (As := [_]) (c_hasShip hl0 0 lm0 σ hR s hs) cv_X8_346 lm0 rfl rfl rfl (Nat.le_of_ble_eq_true rfl) ⟨by decide, by decide, by decide, by decide⟩ dX8_requireShip_8 ?_
  refine V_if_ne (tgt := 25) hf (by split <;> exact ⟨by omega, by omega⟩) dX8_requireShip_11 (by decide) (fun h11 => ?_) (fun h11 => ?_)
  · exact absurd h11 (by first | omega | (split at h11 <;> omega) | (simp_all; omega))
  · exact V_thrW hf he hh (text := "there is no such ship") (names := ["java/lang/RuntimeException", "java/lang/Exception"]) (by decide) (by decide) wk_X8_246 wx_IndexOutOfBoundsException (by decide) (at_X8_250) dX8_requireShip_14 dX8_requireShip_17 dX8_requireShip_18 dX8_requireShip_21 dX8_requireShip_24 ⟨by decide, (Nat.le_of_ble_eq_true rfl), by decide, by decide⟩ (by decide) (by decide) ⟨rfl, rfl, rfl⟩

set_option maxHeartbeats 4000000 in
set_option maxRecDepth 100000 in
theorem c_reqBarn {l : Launch} {D : va_G} {K : Nat → ClassId} {ad : Adr} (hl0 : l.stackTraces = false) (σ : Mem) (hR : Rng σ) (s : Int) (hs : inR s) (hk : 0 ≤ s ∧ s < σ 0 1 3) : Cb l D K ad yX8_requireBarnacle (.code yX8_requireBarnacle cX8_requireBarnacle 2 none) 7 0 0 σ [.ref (ad 0 23), .int (iN s)] (.inl none) σ := by
  refine Cb.of (own := RX8) (ls0 := [some (.ref (ad 0 23)), some (.int (iN s))]) hl0 (by decide) rfl (Nat.le_of_ble_eq_true rfl) rfl ?_
  intro X hX1 hX2 hX3 hf he hh
  subst hX1 hX2 hX3
  refine V_aload_n hf dX8_requireBarnacle_0 rfl rfl ?_
  refine B_get hf l01 rfl fl_X8_10_11 rfl dX8_requireBarnacle_1 ?_
  refine B_get hf lm0 rfl fl_X8_64_7 rfl dX8_requireBarnacle_4 ?_
  refine V_iload_n hf dX8_requireBarnacle_7 rfl rfl ?_
  refine B_callVi hf (As := [_]) (c_hasBarn hl0 0 lm0 σ hR s hs) cv_X8_352 lm0 rfl rfl rfl (Nat.le_of_ble_eq_true rfl) ⟨by decide, by decide, by decide, by decide⟩ dX8_requireBarnacle_8 ?_
  refine V_if_ne (tgt := 25) hf (by split <;> exact ⟨by omega, by omega⟩) dX8_requireBarnacle_11 (by decide) (fun h11 => ?_) (fun h11 => ?_)
  · exact B_vret hf he dX8_requireBarnacle_25 (by decide) (by decide) rfl
  · exact absurd h11 (by first | omega | (split at h11 <;> omega) | (simp_all; omega))

set_option maxHeartbeats 4000000 in
set_option maxRecDepth 100000 in
theorem cx_reqBarn {l : Launch} {D : va_G} {K : Nat → ClassId} {ad : Adr} (hl0 : l.stackTraces = false) (σ : Mem) (hR : Rng σ) (s : Int) (hs : inR s) (hk : ¬ (0 ≤ s ∧ s < σ 0 1 3)) : Cb l D K ad yX8_requireBarnacle (.code yX8_requireBarnacle cX8_requireBarnacle 2 none) 7 1 6 σ [.ref (ad 0 23), .int (iN s)] (.inr "java/lang/IndexOutOfBoundsException") σ := by
  refine Cb.of (own := RX8) (ls0 := [some (.ref (ad 0 23)), some (.int (iN s))]) hl0 (by decide) rfl (Nat.le_of_ble_eq_true rfl) rfl ?_
  intro X hX1 hX2 hX3 hf he hh
  subst hX1 hX2 hX3
  refine V_aload_n hf dX8_requireBarnacle_0 rfl rfl ?_
  refine B_get hf l01 rfl fl_X8_10_11 rfl dX8_requireBarnacle_1 ?_
  refine B_get hf lm0 rfl fl_X8_64_7 rfl dX8_requireBarnacle_4 ?_
  refine V_iload_n hf dX8_requireBarnacle_7 rfl rfl ?_
  refine B_callVi hf (As := [_]) (c_hasBarn hl0 0 lm0 σ hR s hs) cv_X8_352 lm0 rfl rfl rfl (Nat.le_of_ble_eq_true rfl) ⟨by decide, by decide, by decide, by decide⟩ dX8_requireBarnacle_8 ?_
  refine V_if_ne (tgt := 25) hf (by split <;> exact ⟨by omega, by omega⟩) dX8_requireBarnacle_11 (by decide) (fun h11 => ?_) (fun h11 => ?_)
  · exact absurd h11 (by first | omega | (split at h11 <;> omega) | (simp_all; omega))
  · exact V_thrW hf he hh (text := "there is no such barnacle") (names := ["java/lang/RuntimeException", "java/lang/Exception"]) (by decide) (by decide) wk_X8_246 wx_IndexOutOfBoundsException (by decide) (at_X8_250) dX8_requireBarnacle_14 dX8_requireBarnacle_17 dX8_requireBarnacle_18 dX8_requireBarnacle_21 dX8_requireBarnacle_24 ⟨by decide, (Nat.le_of_ble_eq_true rfl), by decide, by decide⟩ (by decide) (by decide) ⟨rfl, rfl, rfl⟩

set_option maxHeartbeats 4000000 in
set_option maxRecDepth 100000 in
theorem c_reqTrade {l : Launch} {D : va_G} {K : Nat → ClassId} {ad : Adr} (hl0 : l.stackTraces = false) (σ : Mem) (hR : Rng σ) (s : Int) (hs : inR s) (hk : 0 ≤ s ∧ s < 10 ∧ s < σ 0 18 0) : Cb l D K ad yX8_requireTrade (.code yX8_requireTrade cX8_requireTrade 2 none) 7 0 0 σ [.ref (ad 0 23), .int (iN s)] (.inl none) σ := by
  refine Cb.of (own := RX8) (ls0 := [some (.ref (ad 0 23)), some (.int (iN s))]) hl0 (by decide) rfl (Nat.le_of_ble_eq_true rfl) rfl ?_
  intro X hX1 hX2 hX3 hf he hh
  subst hX1 hX2 hX3
  refine V_aload_n hf dX8_requireTrade_0 rfl rfl ?_
  refine B_get hf l01 rfl fl_X8_10_11 rfl dX8_requireTrade_1 ?_
  refine B_get hf lm0 rfl fl_X8_177_7 rfl dX8_requireTrade_4 ?_
  refine V_iload_n hf dX8_requireTrade_7 rfl rfl ?_
  refine B_callVi hf (As := [_]) (c_holds hl0 0 lm0 σ hR s hs) cv_X8_357 lm0 rfl rfl rfl (Nat.le_of_ble_eq_true rfl) ⟨by decide, by decide, by decide, by decide⟩ dX8_requireTrade_8 ?_
  refine V_if_ne (tgt := 25) hf (by split <;> exact ⟨by omega, by omega⟩) dX8_requireTrade_11 (by decide) (fun h11 => ?_) (fun h11 => ?_)
  · exact B_vret hf he dX8_requireTrade_25 (by decide) (by decide) rfl
  · exact absurd h11 (by first | omega | (split at h11 <;> omega) | (simp_all; omega))

set_option maxHeartbeats 4000000 in
set_option maxRecDepth 100000 in
theorem cx_reqTrade {l : Launch} {D : va_G} {K : Nat → ClassId} {ad : Adr} (hl0 : l.stackTraces = false) (σ : Mem) (hR : Rng σ) (s : Int) (hs : inR s) (hk : ¬ (0 ≤ s ∧ s < 10 ∧ s < σ 0 18 0)) : Cb l D K ad yX8_requireTrade (.code yX8_requireTrade cX8_requireTrade 2 none) 7 1 6 σ [.ref (ad 0 23), .int (iN s)] (.inr "java/util/NoSuchElementException") σ := by
  refine Cb.of (own := RX8) (ls0 := [some (.ref (ad 0 23)), some (.int (iN s))]) hl0 (by decide) rfl (Nat.le_of_ble_eq_true rfl) rfl ?_
  intro X hX1 hX2 hX3 hf he hh
  subst hX1 hX2 hX3
  refine V_aload_n hf dX8_requireTrade_0 rfl rfl ?_
  refine B_get hf l01 rfl fl_X8_10_11 rfl dX8_requireTrade_1 ?_
  refine B_get hf lm0 rfl fl_X8_177_7 rfl dX8_requireTrade_4 ?_
  refine V_iload_n hf dX8_requireTrade_7 rfl rfl ?_
  refine B_callVi hf (As := [_]) (c_holds hl0 0 lm0 σ hR s hs) cv_X8_357 lm0 rfl rfl rfl (Nat.le_of_ble_eq_true rfl) ⟨by decide, by decide, by decide, by decide⟩ dX8_requireTrade_8 ?_
  refine V_if_ne (tgt := 25) hf (by split <;> exact ⟨by omega, by omega⟩) dX8_requireTrade_11 (by decide) (fun h11 => ?_) (fun h11 => ?_)
  · exact absurd h11 (by first | omega | (split at h11 <;> omega) | (simp_all; omega))
  · exact V_nthrW hf he hh (text := "there is no such trade among the latest ones") (names := ["java/lang/RuntimeException", "java/lang/Exception"]) dnx_0 dnx_1 dnx_2 dnx_5 (by decide) (by decide) wk_X8_104 wx_NoSuchElementException (by decide) (at_X8_108) dX8_requireTrade_14 dX8_requireTrade_17 dX8_requireTrade_18 dX8_requireTrade_21 dX8_requireTrade_24 ⟨by decide, (Nat.le_of_ble_eq_true rfl), by decide, by decide⟩ (by decide) (by decide) ⟨rfl, rfl, rfl⟩

set_option maxHeartbeats 4000000 in
set_option maxRecDepth 100000 in
theorem c_reqRej {l : Launch} {D : va_G} {K : Nat → ClassId} {ad : Adr} (hl0 : l.stackTraces = false) (σ : Mem) (hR : Rng σ) (hk : σ 0 23 7 ≠ -1) : Cb l D K ad yX8_requireRejection (.code yX8_requireRejection cX8_requireRejection 1 none) 7 0 0 σ [.ref (ad 0 23)] (.inl none) σ := by
  refine Cb.of (own := RX8) (ls0 := [some (.ref (ad 0 23))]) hl0 (by decide) rfl (Nat.le_of_ble_eq_true rfl) rfl ?_
  intro X hX1 hX2 hX3 hf he hh
  subst hX1 hX2 hX3
  refine V_aload_n hf dX8_requireRejection_0 rfl rfl ?_
  refine B_get hf l01 rfl fl_X8_47_11 rfl dX8_requireRejection_1 ?_
  refine V_iconst hf dX8_requireRejection_4 ?_
  refine V_icmp_ne (tgt := 19) hf (by first | exact hR _ _ _ (by decide) | exact ⟨by omega, by omega⟩) (by first | exact hR _ _ _ (by decide) | exact ⟨by omega, by omega⟩) dX8_requireRejection_5 (by decide) (fun h5 => ?_) (fun h5 => ?_)
  · exact B_vret hf he dX8_requireRejection_19 (by decide) (by decide) rfl
  · exact absurd h5 (by first | omega | (split at h5 <;> omega) | (simp_all; omega))

set_option maxHeartbeats 4000000 in
set_option maxRecDepth 100000 in
theorem cx_reqRej {l : Launch} {D : va_G} {K : Nat → ClassId} {ad : Adr} (hl0 : l.stackTraces = false) (σ : Mem) (hR : Rng σ) (hk : σ 0 23 7 = -1) : Cb l D K ad yX8_requireRejection (.code yX8_requireRejection cX8_requireRejection 1 none) 7 1 6 σ [.ref (ad 0 23)] (.inr "java/util/NoSuchElementException") σ := by
  refine Cb.of (own := RX8) (ls0 := [some (.ref (ad 0 23))]) hl0 (by decide) rfl (Nat.le_of_ble_eq_true rfl) rfl ?_
  intro X hX1 hX2 hX3 hf he hh
  subst hX1 hX2 hX3
  refine V_aload_n hf dX8_requireRejection_0 rfl rfl ?_
  refine B_get hf l01 rfl fl_X8_47_11 rfl dX8_requireRejection_1 ?_
  refine V_iconst hf dX8_requireRejection_4 ?_
  refine V_icmp_ne (tgt := 19) hf (by first | exact hR _ _ _ (by decide) | exact ⟨by omega, by omega⟩) (by first | exact hR _ _ _ (by decide) | exact ⟨by omega, by omega⟩) dX8_requireRejection_5 (by decide) (fun h5 => ?_) (fun h5 => ?_)
  · exact absurd h5 (by first | omega | (split at h5 <;> omega) | (simp_all; omega))
  · exact V_nthrW hf he hh (text := "no call was rejected") (names := ["java/lang/RuntimeException", "java/lang/Exception"]) dnx_0 dnx_1 dnx_2 dnx_5 (by decide) (by decide) wk_X8_104 wx_NoSuchElementException (by decide) (at_X8_108) dX8_requireRejection_8 dX8_requireRejection_11 dX8_requireRejection_12 dX8_requireRejection_15 dX8_requireRejection_18 ⟨by decide, (Nat.le_of_ble_eq_true rfl), by decide, by decide⟩ (by decide) (by decide) ⟨rfl, rfl, rfl⟩

set_option maxHeartbeats 4000000 in
set_option maxRecDepth 100000 in
theorem c_matched {l : Launch} {D : va_G} {K : Nat → ClassId} {ad : Adr} (hl0 : l.stackTraces = false) (σ : Mem) (hR : Rng σ) (r : Int) (hr : inR r) (hk : 0 ≤ r ∧ r < 16) : Cb l D K ad yX8_matchedOffer (.code yX8_matchedOffer cX8_matchedOffer 2 (some .int)) 7 0 0 σ [.ref (ad 0 23), .int (iN r)] (.inl (some (.int (iN (σ 0 13 r))))) σ := by
  refine Cb.of (own := RX8) (ls0 := [some (.ref (ad 0 23)), some (.int (iN r))]) hl0 (by decide) rfl (Nat.le_of_ble_eq_true rfl) rfl ?_
  intro X hX1 hX2 hX3 hf he hh
  subst hX1 hX2 hX3
  refine V_iload_n hf dX8_matchedOffer_0 rfl rfl ?_
  refine V_iconst hf dX8_matchedOffer_1 ?_
  refine V_icmp_ne (tgt := 16) hf (by first | exact hR _ _ _ (by decide) | exact ⟨by omega, by omega⟩) (by first | exact hR _ _ _ (by decide) | exact ⟨by omega, by omega⟩) dX8_matchedOffer_2 (by decide) (fun h2 => ?_) (fun h2 => ?_)
  · refine V_aload_n hf dX8_matchedOffer_16 rfl rfl ?_
    refine B_get hf l01 rfl fl_X8_10_11 rfl dX8_matchedOffer_17 ?_
    refine B_get hf lm0 rfl fl_X8_123_7 rfl dX8_matchedOffer_20 ?_
    refine B_get hf lm0 rfl fl_X8_369_8 rfl dX8_matchedOffer_23 ?_
    refine V_iload_n hf dX8_matchedOffer_26 rfl rfl ?_
    refine B_iald hf lm0 (fun _ => rfl) (by first | exact hR _ _ _ (by decide) | exact ⟨by omega, by omega⟩) (by omega) (by omega) dX8_matchedOffer_27 ?_
    exact B_iret hf he rfl dX8_matchedOffer_28 (by decide) (by decide) rfl rfl
  · exact absurd h2 (by first | omega | (split at h2 <;> omega) | (simp_all; omega))

set_option maxHeartbeats 4000000 in
set_option maxRecDepth 100000 in
theorem cx_matched {l : Launch} {D : va_G} {K : Nat → ClassId} {ad : Adr} (hl0 : l.stackTraces = false) (σ : Mem) (hR : Rng σ) (r : Int) (hr : inR r) (hk : r = -1) : Cb l D K ad yX8_matchedOffer (.code yX8_matchedOffer cX8_matchedOffer 2 (some .int)) 7 1 6 σ [.ref (ad 0 23), .int (iN r)] (.inr "java/util/NoSuchElementException") σ := by
  refine Cb.of (own := RX8) (ls0 := [some (.ref (ad 0 23)), some (.int (iN r))]) hl0 (by decide) rfl (Nat.le_of_ble_eq_true rfl) rfl ?_
  intro X hX1 hX2 hX3 hf he hh
  subst hX1 hX2 hX3
  refine V_iload_n hf dX8_matchedOffer_0 rfl rfl ?_
  refine V_iconst hf dX8_matchedOffer_1 ?_
  refine V_icmp_ne (tgt := 16) hf (by first | exact hR _ _ _ (by decide) | exact ⟨by omega, by omega⟩) (by first | exact hR _ _ _ (by decide) | exact ⟨by omega, by omega⟩) dX8_matchedOffer_2 (by decide) (fun h2 => ?_) (fun h2 => ?_)
  · exact absurd h2 (by first | omega | (split at h2 <;> omega) | (simp_all; omega))
  · exact V_nthrW hf he hh (text := "no offer fits the bid") (names := ["java/lang/RuntimeException", "java/lang/Exception"]) dnx_0 dnx_1 dnx_2 dnx_5 (by decide) (by decide) wk_X8_104 wx_NoSuchElementException (by decide) (at_X8_108) dX8_matchedOffer_5 dX8_matchedOffer_8 dX8_matchedOffer_9 dX8_matchedOffer_12 dX8_matchedOffer_15 ⟨by decide, (Nat.le_of_ble_eq_true rfl), by decide, by decide⟩ (by decide) (by decide) ⟨rfl, rfl, rfl⟩

set_option maxHeartbeats 4000000 in
set_option maxRecDepth 100000 in
theorem c_openRowB {l : Launch} {D : va_G} {K : Nat → ClassId} {ad : Adr} (hl0 : l.stackTraces = false) (σ : Mem) (hR : Rng σ) (hn : 0 ≤ σ 0 6 0 ∧ σ 0 6 0 ≤ 10) (i : Int) (hi : inR i) (hk : rowId (σ 0) 6 i ≠ -1) : Cb l D K ad yX8_openRow (.code yX8_openRow cX8_openRow 3 (some .int)) 7 0 0 σ [.ref (ad 0 6), .int (iN i)] (.inl (some (.int (iN (rowId (σ 0) 6 i))))) σ := by
  refine Cb.of (own := RX8) (ls0 := [some (.ref (ad 0 6)), some (.int (iN i)), none]) hl0 (by decide) rfl (Nat.le_of_ble_eq_true rfl) rfl ?_
  intro X hX1 hX2 hX3 hf he hh
  subst hX1 hX2 hX3
  refine V_aload_n hf dX8_openRow_0 rfl rfl ?_
  refine V_iload_n hf dX8_openRow_1 rfl rfl ?_
  refine B_callUi hf (As := [_]) (c_rowIdB hl0 0 lm0 σ hR hn i hi) cu_X8_364_4 lm0 rfl rfl rfl (Nat.le_of_ble_eq_true rfl) ⟨by decide, by decide, by decide, by decide⟩ dX8_openRow_2 ?_
  have hz := rowId_r (σ 0) 6 i
  refine V_istore_n (ls2 := [_, _, _]) hf dX8_openRow_5 rfl (by decide) rfl rfl ?_
  refine V_iload_n hf dX8_openRow_6 rfl rfl ?_
  refine V_iconst hf dX8_openRow_7 ?_
  refine V_icmp_ne (tgt := 22) hf ⟨by omega, by omega⟩ ⟨by omega, by omega⟩ dX8_openRow_8 (by decide) (fun h8 => ?_) (fun h8 => ?_)
  · refine V_iload_n hf dX8_openRow_22 rfl rfl ?_
    exact B_iret hf he rfl dX8_openRow_23 (by decide) (by decide) rfl rfl
  · exact absurd h8 (by first | omega | (split at h8 <;> omega) | (simp_all; omega))

set_option maxHeartbeats 4000000 in
set_option maxRecDepth 100000 in
theorem cx_openRowB {l : Launch} {D : va_G} {K : Nat → ClassId} {ad : Adr} (hl0 : l.stackTraces = false) (σ : Mem) (hR : Rng σ) (hn : 0 ≤ σ 0 6 0 ∧ σ 0 6 0 ≤ 10) (i : Int) (hi : inR i) (hk : rowId (σ 0) 6 i = -1) : Cb l D K ad yX8_openRow (.code yX8_openRow cX8_openRow 3 (some .int)) 7 1 6 σ [.ref (ad 0 6), .int (iN i)] (.inr "java/util/NoSuchElementException") σ := by
  refine Cb.of (own := RX8) (ls0 := [some (.ref (ad 0 6)), some (.int (iN i)), none]) hl0 (by decide) rfl (Nat.le_of_ble_eq_true rfl) rfl ?_
  intro X hX1 hX2 hX3 hf he hh
  subst hX1 hX2 hX3
  refine V_aload_n hf dX8_openRow_0 rfl rfl ?_
  refine V_iload_n hf dX8_openRow_1 rfl rfl ?_
  refine B_callUi hf (As := [_]) (c_rowIdB hl0 0 lm0 σ hR hn i hi) cu_X8_364_4 lm0 rfl rfl rfl (Nat.le_of_ble_eq_true rfl) ⟨by decide, by decide, by decide, by decide⟩ dX8_openRow_2 ?_
  have hz := rowId_r (σ 0) 6 i
  refine V_istore_n (ls2 := [_, _, _]) hf dX8_openRow_5 rfl (by decide) rfl rfl ?_
  refine V_iload_n hf dX8_openRow_6 rfl rfl ?_
  refine V_iconst hf dX8_openRow_7 ?_
  refine V_icmp_ne (tgt := 22) hf ⟨by omega, by omega⟩ ⟨by omega, by omega⟩ dX8_openRow_8 (by decide) (fun h8 => ?_) (fun h8 => ?_)
  · exact absurd h8 (by first | omega | (split at h8 <;> omega) | (simp_all; omega))
  · exact V_nthrW hf he hh (text := "there is no open order with this id") (names := ["java/lang/RuntimeException", "java/lang/Exception"]) dnx_0 dnx_1 dnx_2 dnx_5 (by decide) (by decide) wk_X8_104 wx_NoSuchElementException (by decide) (at_X8_108) dX8_openRow_11 dX8_openRow_14 dX8_openRow_15 dX8_openRow_18 dX8_openRow_21 ⟨by decide, (Nat.le_of_ble_eq_true rfl), by decide, by decide⟩ (by decide) (by decide) ⟨rfl, rfl, rfl⟩

set_option maxHeartbeats 4000000 in
set_option maxRecDepth 100000 in
theorem c_idAtB {l : Launch} {D : va_G} {K : Nat → ClassId} {ad : Adr} (hl0 : l.stackTraces = false) (σ : Mem) (hR : Rng σ) (hn : 0 ≤ σ 0 6 0 ∧ σ 0 6 0 ≤ 10) (i : Int) (hi : inR i) (hk : 0 ≤ i ∧ i < σ 0 6 0) : Cb l D K ad yX8_idAt (.code yX8_idAt cX8_idAt 2 (some .int)) 7 0 0 σ [.ref (ad 0 6), .int (iN i)] (.inl (some (.int (iN (σ 0 7 i))))) σ := by
  refine Cb.of (own := RX8) (ls0 := [some (.ref (ad 0 6)), some (.int (iN i))]) hl0 (by decide) rfl (Nat.le_of_ble_eq_true rfl) rfl ?_
  intro X hX1 hX2 hX3 hf he hh
  subst hX1 hX2 hX3
  refine V_iload_n hf dX8_idAt_0 rfl rfl ?_
  refine V_if_lt (tgt := 12) hf (by first | exact hR _ _ _ (by decide) | exact ⟨by omega, by omega⟩) dX8_idAt_1 (by decide) (fun h1 => ?_) (fun h1 => ?_)
  · exact absurd h1 (by omega)
  · refine V_iload_n hf dX8_idAt_4 rfl rfl ?_
    refine V_aload_n hf dX8_idAt_5 rfl rfl ?_
    refine B_get hf lm0 rfl fl_X8_129_4 rfl dX8_idAt_6 ?_
    refine V_icmp_lt (tgt := 23) hf (by first | exact hR _ _ _ (by decide) | exact ⟨by omega, by omega⟩) (by first | exact hR _ _ _ (by decide) | exact ⟨by omega, by omega⟩) dX8_idAt_9 (by decide) (fun h9 => ?_) (fun h9 => ?_)
    · refine V_aload_n hf dX8_idAt_23 rfl rfl ?_
      refine B_get hf lm0 rfl fl_X8_369_4 rfl dX8_idAt_24 ?_
      refine V_iload_n hf dX8_idAt_27 rfl rfl ?_
      refine B_iald hf lm0 (fun _ => rfl) (by first | exact hR _ _ _ (by decide) | exact ⟨by omega, by omega⟩) (by omega) (by omega) dX8_idAt_28 ?_
      exact B_iret hf he rfl dX8_idAt_29 (by decide) (by decide) rfl rfl
    · exact absurd h9 (by omega)

set_option maxHeartbeats 4000000 in
set_option maxRecDepth 100000 in
theorem cx_idAtB {l : Launch} {D : va_G} {K : Nat → ClassId} {ad : Adr} (hl0 : l.stackTraces = false) (σ : Mem) (hR : Rng σ) (hn : 0 ≤ σ 0 6 0 ∧ σ 0 6 0 ≤ 10) (i : Int) (hi : inR i) (hk : ¬ (0 ≤ i ∧ i < σ 0 6 0)) : Cb l D K ad yX8_idAt (.code yX8_idAt cX8_idAt 2 (some .int)) 7 1 6 σ [.ref (ad 0 6), .int (iN i)] (.inr "java/util/NoSuchElementException") σ := by
  refine Cb.of (own := RX8) (ls0 := [some (.ref (ad 0 6)), some (.int (iN i))]) hl0 (by decide) rfl (Nat.le_of_ble_eq_true rfl) rfl ?_
  intro X hX1 hX2 hX3 hf he hh
  subst hX1 hX2 hX3
  refine V_iload_n hf dX8_idAt_0 rfl rfl ?_
  refine V_if_lt (tgt := 12) hf (by first | exact hR _ _ _ (by decide) | exact ⟨by omega, by omega⟩) dX8_idAt_1 (by decide) (fun h1 => ?_) (fun h1 => ?_)
  · exact V_nthrW hf he hh (text := "there is no open order at this position") (names := ["java/lang/RuntimeException", "java/lang/Exception"]) dnx_0 dnx_1 dnx_2 dnx_5 (by decide) (by decide) wk_X8_104 wx_NoSuchElementException (by decide) (at_X8_108) dX8_idAt_12 dX8_idAt_15 dX8_idAt_16 dX8_idAt_19 dX8_idAt_22 ⟨by decide, (Nat.le_of_ble_eq_true rfl), by decide, by decide⟩ (by decide) (by decide) ⟨rfl, rfl, rfl⟩
  · refine V_iload_n hf dX8_idAt_4 rfl rfl ?_
    refine V_aload_n hf dX8_idAt_5 rfl rfl ?_
    refine B_get hf lm0 rfl fl_X8_129_4 rfl dX8_idAt_6 ?_
    refine V_icmp_lt (tgt := 23) hf (by first | exact hR _ _ _ (by decide) | exact ⟨by omega, by omega⟩) (by first | exact hR _ _ _ (by decide) | exact ⟨by omega, by omega⟩) dX8_idAt_9 (by decide) (fun h9 => ?_) (fun h9 => ?_)
    · exact absurd h9 (by omega)
    · exact V_nthrW hf he hh (text := "there is no open order at this position") (names := ["java/lang/RuntimeException", "java/lang/Exception"]) dnx_0 dnx_1 dnx_2 dnx_5 (by decide) (by decide) wk_X8_104 wx_NoSuchElementException (by decide) (at_X8_108) dX8_idAt_12 dX8_idAt_15 dX8_idAt_16 dX8_idAt_19 dX8_idAt_22 ⟨by decide, (Nat.le_of_ble_eq_true rfl), by decide, by decide⟩ (by decide) (by decide) ⟨rfl, rfl, rfl⟩

set_option maxHeartbeats 4000000 in
set_option maxRecDepth 100000 in
theorem c_openRowO {l : Launch} {D : va_G} {K : Nat → ClassId} {ad : Adr} (hl0 : l.stackTraces = false) (σ : Mem) (hR : Rng σ) (hn : 0 ≤ σ 0 12 0 ∧ σ 0 12 0 ≤ 16) (i : Int) (hi : inR i) (hk : rowId (σ 0) 12 i ≠ -1) : Cb l D K ad yX8_openRow (.code yX8_openRow cX8_openRow 3 (some .int)) 7 0 0 σ [.ref (ad 0 12), .int (iN i)] (.inl (some (.int (iN (rowId (σ 0) 12 i))))) σ := by
  refine Cb.of (own := RX8) (ls0 := [some (.ref (ad 0 12)), some (.int (iN i)), none]) hl0 (by decide) rfl (Nat.le_of_ble_eq_true rfl) rfl ?_
  intro X hX1 hX2 hX3 hf he hh
  subst hX1 hX2 hX3
  refine V_aload_n hf dX8_openRow_0 rfl rfl ?_
  refine V_iload_n hf dX8_openRow_1 rfl rfl ?_
  refine B_callUi hf (As := [_]) (c_rowIdO hl0 0 lm0 σ hR hn i hi) cu_X8_364_8 lm0 rfl rfl rfl (Nat.le_of_ble_eq_true rfl) ⟨by decide, by decide, by decide, by decide⟩ dX8_openRow_2 ?_
  have hz := rowId_r (σ 0) 12 i
  refine V_istore_n (ls2 := [_, _, _]) hf dX8_openRow_5 rfl (by decide) rfl rfl ?_
  refine V_iload_n hf dX8_openRow_6 rfl rfl ?_
  refine V_iconst hf dX8_openRow_7 ?_
  refine V_icmp_ne (tgt := 22) hf ⟨by omega, by omega⟩ ⟨by omega, by omega⟩ dX8_openRow_8 (by decide) (fun h8 => ?_) (fun h8 => ?_)
  · refine V_iload_n hf dX8_openRow_22 rfl rfl ?_
    exact B_iret hf he rfl dX8_openRow_23 (by decide) (by decide) rfl rfl
  · exact absurd h8 (by first | omega | (split at h8 <;> omega) | (simp_all; omega))

set_option maxHeartbeats 4000000 in
set_option maxRecDepth 100000 in
theorem cx_openRowO {l : Launch} {D : va_G} {K : Nat → ClassId} {ad : Adr} (hl0 : l.stackTraces = false) (σ : Mem) (hR : Rng σ) (hn : 0 ≤ σ 0 12 0 ∧ σ 0 12 0 ≤ 16) (i : Int) (hi : inR i) (hk : rowId (σ 0) 12 i = -1) : Cb l D K ad yX8_openRow (.code yX8_openRow cX8_openRow 3 (some .int)) 7 1 6 σ [.ref (ad 0 12), .int (iN i)] (.inr "java/util/NoSuchElementException") σ := by
  refine Cb.of (own := RX8) (ls0 := [some (.ref (ad 0 12)), some (.int (iN i)), none]) hl0 (by decide) rfl (Nat.le_of_ble_eq_true rfl) rfl ?_
  intro X hX1 hX2 hX3 hf he hh
  subst hX1 hX2 hX3
  refine V_aload_n hf dX8_openRow_0 rfl rfl ?_
  refine V_iload_n hf dX8_openRow_1 rfl rfl ?_
  refine B_callUi hf (As := [_]) (c_rowIdO hl0 0 lm0 σ hR hn i hi) cu_X8_364_8 lm0 rfl rfl rfl (Nat.le_of_ble_eq_true rfl) ⟨by decide, by decide, by decide, by decide⟩ dX8_openRow_2 ?_
  have hz := rowId_r (σ 0) 12 i
  refine V_istore_n (ls2 := [_, _, _]) hf dX8_openRow_5 rfl (by decide) rfl rfl ?_
  refine V_iload_n hf dX8_openRow_6 rfl rfl ?_
  refine V_iconst hf dX8_openRow_7 ?_
  refine V_icmp_ne (tgt := 22) hf ⟨by omega, by omega⟩ ⟨by omega, by omega⟩ dX8_openRow_8 (by decide) (fun h8 => ?_) (fun h8 => ?_)
  · exact absurd h8 (by first | omega | (split at h8 <;> omega) | (simp_all; omega))
  · exact V_nthrW hf he hh (text := "there is no open order with this id") (names := ["java/lang/RuntimeException", "java/lang/Exception"]) dnx_0 dnx_1 dnx_2 dnx_5 (by decide) (by decide) wk_X8_104 wx_NoSuchElementException (by decide) (at_X8_108) dX8_openRow_11 dX8_openRow_14 dX8_openRow_15 dX8_openRow_18 dX8_openRow_21 ⟨by decide, (Nat.le_of_ble_eq_true rfl), by decide, by decide⟩ (by decide) (by decide) ⟨rfl, rfl, rfl⟩

set_option maxHeartbeats 4000000 in
set_option maxRecDepth 100000 in
theorem c_idAtO {l : Launch} {D : va_G} {K : Nat → ClassId} {ad : Adr} (hl0 : l.stackTraces = false) (σ : Mem) (hR : Rng σ) (hn : 0 ≤ σ 0 12 0 ∧ σ 0 12 0 ≤ 16) (i : Int) (hi : inR i) (hk : 0 ≤ i ∧ i < σ 0 12 0) : Cb l D K ad yX8_idAt (.code yX8_idAt cX8_idAt 2 (some .int)) 7 0 0 σ [.ref (ad 0 12), .int (iN i)] (.inl (some (.int (iN (σ 0 13 i))))) σ := by
  refine Cb.of (own := RX8) (ls0 := [some (.ref (ad 0 12)), some (.int (iN i))]) hl0 (by decide) rfl (Nat.le_of_ble_eq_true rfl) rfl ?_
  intro X hX1 hX2 hX3 hf he hh
  subst hX1 hX2 hX3
  refine V_iload_n hf dX8_idAt_0 rfl rfl ?_
  refine V_if_lt (tgt := 12) hf (by first | exact hR _ _ _ (by decide) | exact ⟨by omega, by omega⟩) dX8_idAt_1 (by decide) (fun h1 => ?_) (fun h1 => ?_)
  · exact absurd h1 (by omega)
  · refine V_iload_n hf dX8_idAt_4 rfl rfl ?_
    refine V_aload_n hf dX8_idAt_5 rfl rfl ?_
    refine B_get hf lm0 rfl fl_X8_129_8 rfl dX8_idAt_6 ?_
    refine V_icmp_lt (tgt := 23) hf (by first | exact hR _ _ _ (by decide) | exact ⟨by omega, by omega⟩) (by first | exact hR _ _ _ (by decide) | exact ⟨by omega, by omega⟩) dX8_idAt_9 (by decide) (fun h9 => ?_) (fun h9 => ?_)
    · refine V_aload_n hf dX8_idAt_23 rfl rfl ?_
      refine B_get hf lm0 rfl fl_X8_369_8 rfl dX8_idAt_24 ?_
      refine V_iload_n hf dX8_idAt_27 rfl rfl ?_
      refine B_iald hf lm0 (fun _ => rfl) (by first | exact hR _ _ _ (by decide) | exact ⟨by omega, by omega⟩) (by omega) (by omega) dX8_idAt_28 ?_
      exact B_iret hf he rfl dX8_idAt_29 (by decide) (by decide) rfl rfl
    · exact absurd h9 (by omega)

set_option maxHeartbeats 4000000 in
set_option maxRecDepth 100000 in
theorem cx_idAtO {l : Launch} {D : va_G} {K : Nat → ClassId} {ad : Adr} (hl0 : l.stackTraces = false) (σ : Mem) (hR : Rng σ) (hn : 0 ≤ σ 0 12 0 ∧ σ 0 12 0 ≤ 16) (i : Int) (hi : inR i) (hk : ¬ (0 ≤ i ∧ i < σ 0 12 0)) : Cb l D K ad yX8_idAt (.code yX8_idAt cX8_idAt 2 (some .int)) 7 1 6 σ [.ref (ad 0 12), .int (iN i)] (.inr "java/util/NoSuchElementException") σ := by
  refine Cb.of (own := RX8) (ls0 := [some (.ref (ad 0 12)), some (.int (iN i))]) hl0 (by decide) rfl (Nat.le_of_ble_eq_true rfl) rfl ?_
  intro X hX1 hX2 hX3 hf he hh
  subst hX1 hX2 hX3
  refine V_iload_n hf dX8_idAt_0 rfl rfl ?_
  refine V_if_lt (tgt := 12) hf (by first | exact hR _ _ _ (by decide) | exact ⟨by omega, by omega⟩) dX8_idAt_1 (by decide) (fun h1 => ?_) (fun h1 => ?_)
  · exact V_nthrW hf he hh (text := "there is no open order at this position") (names := ["java/lang/RuntimeException", "java/lang/Exception"]) dnx_0 dnx_1 dnx_2 dnx_5 (by decide) (by decide) wk_X8_104 wx_NoSuchElementException (by decide) (at_X8_108) dX8_idAt_12 dX8_idAt_15 dX8_idAt_16 dX8_idAt_19 dX8_idAt_22 ⟨by decide, (Nat.le_of_ble_eq_true rfl), by decide, by decide⟩ (by decide) (by decide) ⟨rfl, rfl, rfl⟩
  · refine V_iload_n hf dX8_idAt_4 rfl rfl ?_
    refine V_aload_n hf dX8_idAt_5 rfl rfl ?_
    refine B_get hf lm0 rfl fl_X8_129_8 rfl dX8_idAt_6 ?_
    refine V_icmp_lt (tgt := 23) hf (by first | exact hR _ _ _ (by decide) | exact ⟨by omega, by omega⟩) (by first | exact hR _ _ _ (by decide) | exact ⟨by omega, by omega⟩) dX8_idAt_9 (by decide) (fun h9 => ?_) (fun h9 => ?_)
    · exact absurd h9 (by omega)
    · exact V_nthrW hf he hh (text := "there is no open order at this position") (names := ["java/lang/RuntimeException", "java/lang/Exception"]) dnx_0 dnx_1 dnx_2 dnx_5 (by decide) (by decide) wk_X8_104 wx_NoSuchElementException (by decide) (at_X8_108) dX8_idAt_12 dX8_idAt_15 dX8_idAt_16 dX8_idAt_19 dX8_idAt_22 ⟨by decide, (Nat.le_of_ble_eq_true rfl), by decide, by decide⟩ (by decide) (by decide) ⟨rfl, rfl, rfl⟩

set_option maxHeartbeats 4000000 in
set_option maxRecDepth 100000 in
theorem c_shipCount {l : Launch} {D : va_G} {K : Nat → ClassId} {ad : Adr} (hl0 : l.stackTraces = false) (σ : Mem) (hR : Rng σ) : Cb l D K ad yX8_shipCount (.code yX8_shipCount cX8_shipCount 1 (some .int)) 9 1 6 σ [.ref (ad 0 23)] (.inl (some (.int (iN (σ 0 1 0))))) σ := by
  refine Cb.of (own := RX8) (ls0 := [some (.ref (ad 0 23))]) hl0 (by decide) rfl (Nat.le_of_ble_eq_true rfl) rfl ?_
  intro X hX1 hX2 hX3 hf he hh
  subst hX1 hX2 hX3
  refine V_aload_n hf dX8_shipCount_0 rfl rfl ?_
  refine B_get hf l01 rfl fl_X8_10_11 rfl dX8_shipCount_1 ?_
  refine B_get hf lm0 rfl fl_X8_64_7 rfl dX8_shipCount_4 ?_
  refine B_get hf lm0 rfl fl_X8_68_5 rfl dX8_shipCount_7 ?_
  exact B_iret hf he rfl dX8_shipCount_10 (by decide) (by decide) rfl rfl

set_option maxHeartbeats 4000000 in
set_option maxRecDepth 100000 in
theorem c_barnacleCount {l : Launch} {D : va_G} {K : Nat → ClassId} {ad : Adr} (hl0 : l.stackTraces = false) (σ : Mem) (hR : Rng σ) : Cb l D K ad yX8_barnacleCount (.code yX8_barnacleCount cX8_barnacleCount 1 (some .int)) 9 1 6 σ [.ref (ad 0 23)] (.inl (some (.int (iN (σ 0 1 3))))) σ := by
  refine Cb.of (own := RX8) (ls0 := [some (.ref (ad 0 23))]) hl0 (by decide) rfl (Nat.le_of_ble_eq_true rfl) rfl ?_
  intro X hX1 hX2 hX3 hf he hh
  subst hX1 hX2 hX3
  refine V_aload_n hf dX8_barnacleCount_0 rfl rfl ?_
  refine B_get hf l01 rfl fl_X8_10_11 rfl dX8_barnacleCount_1 ?_
  refine B_get hf lm0 rfl fl_X8_64_7 rfl dX8_barnacleCount_4 ?_
  refine B_get hf lm0 rfl fl_X8_111_5 rfl dX8_barnacleCount_7 ?_
  exact B_iret hf he rfl dX8_barnacleCount_10 (by decide) (by decide) rfl rfl

set_option maxHeartbeats 4000000 in
set_option maxRecDepth 100000 in
theorem c_bidCount {l : Launch} {D : va_G} {K : Nat → ClassId} {ad : Adr} (hl0 : l.stackTraces = false) (σ : Mem) (hR : Rng σ) : Cb l D K ad yX8_bidCount (.code yX8_bidCount cX8_bidCount 1 (some .int)) 9 1 6 σ [.ref (ad 0 23)] (.inl (some (.int (iN (σ 0 6 0))))) σ := by
  refine Cb.of (own := RX8) (ls0 := [some (.ref (ad 0 23))]) hl0 (by decide) rfl (Nat.le_of_ble_eq_true rfl) rfl ?_
  intro X hX1 hX2 hX3 hf he hh
  subst hX1 hX2 hX3
  refine V_aload_n hf dX8_bidCount_0 rfl rfl ?_
  refine B_get hf l01 rfl fl_X8_10_11 rfl dX8_bidCount_1 ?_
  refine B_get hf lm0 rfl fl_X8_81_7 rfl dX8_bidCount_4 ?_
  refine B_get hf lm0 rfl fl_X8_129_4 rfl dX8_bidCount_7 ?_
  exact B_iret hf he rfl dX8_bidCount_10 (by decide) (by decide) rfl rfl

set_option maxHeartbeats 4000000 in
set_option maxRecDepth 100000 in
theorem c_offerCount {l : Launch} {D : va_G} {K : Nat → ClassId} {ad : Adr} (hl0 : l.stackTraces = false) (σ : Mem) (hR : Rng σ) : Cb l D K ad yX8_offerCount (.code yX8_offerCount cX8_offerCount 1 (some .int)) 9 1 6 σ [.ref (ad 0 23)] (.inl (some (.int (iN (σ 0 12 0))))) σ := by
  refine Cb.of (own := RX8) (ls0 := [some (.ref (ad 0 23))]) hl0 (by decide) rfl (Nat.le_of_ble_eq_true rfl) rfl ?_
  intro X hX1 hX2 hX3 hf he hh
  subst hX1 hX2 hX3
  refine V_aload_n hf dX8_offerCount_0 rfl rfl ?_
  refine B_get hf l01 rfl fl_X8_10_11 rfl dX8_offerCount_1 ?_
  refine B_get hf lm0 rfl fl_X8_123_7 rfl dX8_offerCount_4 ?_
  refine B_get hf lm0 rfl fl_X8_129_8 rfl dX8_offerCount_7 ?_
  exact B_iret hf he rfl dX8_offerCount_10 (by decide) (by decide) rfl rfl

set_option maxHeartbeats 4000000 in
set_option maxRecDepth 100000 in
theorem c_fee {l : Launch} {D : va_G} {K : Nat → ClassId} {ad : Adr} (hl0 : l.stackTraces = false) (σ : Mem) (hR : Rng σ) : Cb l D K ad yX8_fee (.code yX8_fee cX8_fee 1 (some .int)) 9 1 6 σ [.ref (ad 0 23)] (.inl (some (.int (iN (σ 0 0 4))))) σ := by
  refine Cb.of (own := RX8) (ls0 := [some (.ref (ad 0 23))]) hl0 (by decide) rfl (Nat.le_of_ble_eq_true rfl) rfl ?_
  intro X hX1 hX2 hX3 hf he hh
  subst hX1 hX2 hX3
  refine V_aload_n hf dX8_fee_0 rfl rfl ?_
  refine B_get hf l01 rfl fl_X8_10_11 rfl dX8_fee_1 ?_
  refine B_get hf lm0 rfl fl_X8_168_7 rfl dX8_fee_4 ?_
  exact B_iret hf he rfl dX8_fee_7 (by decide) (by decide) rfl rfl

set_option maxHeartbeats 4000000 in
set_option maxRecDepth 100000 in
theorem c_tideCount {l : Launch} {D : va_G} {K : Nat → ClassId} {ad : Adr} (hl0 : l.stackTraces = false) (σ : Mem) (hR : Rng σ) : Cb l D K ad yX8_tideCount (.code yX8_tideCount cX8_tideCount 1 (some .int)) 9 1 6 σ [.ref (ad 0 23)] (.inl (some (.int (iN (σ 0 0 5))))) σ := by
  refine Cb.of (own := RX8) (ls0 := [some (.ref (ad 0 23))]) hl0 (by decide) rfl (Nat.le_of_ble_eq_true rfl) rfl ?_
  intro X hX1 hX2 hX3 hf he hh
  subst hX1 hX2 hX3
  refine V_aload_n hf dX8_tideCount_0 rfl rfl ?_
  refine B_get hf l01 rfl fl_X8_10_11 rfl dX8_tideCount_1 ?_
  refine B_get hf lm0 rfl fl_X8_171_7 rfl dX8_tideCount_4 ?_
  exact B_iret hf he rfl dX8_tideCount_7 (by decide) (by decide) rfl rfl

set_option maxHeartbeats 4000000 in
set_option maxRecDepth 100000 in
theorem c_tradeCount {l : Launch} {D : va_G} {K : Nat → ClassId} {ad : Adr} (hl0 : l.stackTraces = false) (σ : Mem) (hR : Rng σ) : Cb l D K ad yX8_tradeCount (.code yX8_tradeCount cX8_tradeCount 1 (some .int)) 9 1 6 σ [.ref (ad 0 23)] (.inl (some (.int (iN (σ 0 18 0))))) σ := by
  refine Cb.of (own := RX8) (ls0 := [some (.ref (ad 0 23))]) hl0 (by decide) rfl (Nat.le_of_ble_eq_true rfl) rfl ?_
  intro X hX1 hX2 hX3 hf he hh
  subst hX1 hX2 hX3
  refine V_aload_n hf dX8_tradeCount_0 rfl rfl ?_
  refine B_get hf l01 rfl fl_X8_10_11 rfl dX8_tradeCount_1 ?_
  refine B_get hf lm0 rfl fl_X8_177_7 rfl dX8_tradeCount_4 ?_
  refine B_get hf lm0 rfl fl_X8_193_10 rfl dX8_tradeCount_7 ?_
  exact B_iret hf he rfl dX8_tradeCount_10 (by decide) (by decide) rfl rfl

set_option maxHeartbeats 4000000 in
set_option maxRecDepth 100000 in
theorem c_turnover {l : Launch} {D : va_G} {K : Nat → ClassId} {ad : Adr} (hl0 : l.stackTraces = false) (σ : Mem) (hR : Rng σ) : Cb l D K ad yX8_turnover (.code yX8_turnover cX8_turnover 1 (some .int)) 9 1 6 σ [.ref (ad 0 23)] (.inl (some (.int (iN (σ 0 18 1))))) σ := by
  refine Cb.of (own := RX8) (ls0 := [some (.ref (ad 0 23))]) hl0 (by decide) rfl (Nat.le_of_ble_eq_true rfl) rfl ?_
  intro X hX1 hX2 hX3 hf he hh
  subst hX1 hX2 hX3
  refine V_aload_n hf dX8_turnover_0 rfl rfl ?_
  refine B_get hf l01 rfl fl_X8_10_11 rfl dX8_turnover_1 ?_
  refine B_get hf lm0 rfl fl_X8_177_7 rfl dX8_turnover_4 ?_
  refine B_get hf lm0 rfl fl_X8_196_10 rfl dX8_turnover_7 ?_
  exact B_iret hf he rfl dX8_turnover_10 (by decide) (by decide) rfl rfl

set_option maxHeartbeats 4000000 in
set_option maxRecDepth 100000 in
theorem c_exchangeCoins {l : Launch} {D : va_G} {K : Nat → ClassId} {ad : Adr} (hl0 : l.stackTraces = false) (σ : Mem) (hR : Rng σ) : Cb l D K ad yX8_exchangeCoins (.code yX8_exchangeCoins cX8_exchangeCoins 1 (some .int)) 9 1 6 σ [.ref (ad 0 23)] (.inl (some (.int (iN (σ 0 0 7))))) σ := by
  refine Cb.of (own := RX8) (ls0 := [some (.ref (ad 0 23))]) hl0 (by decide) rfl (Nat.le_of_ble_eq_true rfl) rfl ?_
  intro X hX1 hX2 hX3 hf he hh
  subst hX1 hX2 hX3
  refine V_aload_n hf dX8_exchangeCoins_0 rfl rfl ?_
  refine B_get hf l01 rfl fl_X8_10_11 rfl dX8_exchangeCoins_1 ?_
  refine B_get hf lm0 rfl fl_X8_199_7 rfl dX8_exchangeCoins_4 ?_
  exact B_iret hf he rfl dX8_exchangeCoins_7 (by decide) (by decide) rfl rfl

set_option maxHeartbeats 4000000 in
set_option maxRecDepth 100000 in
theorem c_expiredCount {l : Launch} {D : va_G} {K : Nat → ClassId} {ad : Adr} (hl0 : l.stackTraces = false) (σ : Mem) (hR : Rng σ) : Cb l D K ad yX8_expiredCount (.code yX8_expiredCount cX8_expiredCount 1 (some .int)) 9 1 6 σ [.ref (ad 0 23)] (.inl (some (.int (iN (σ 0 0 6))))) σ := by
  refine Cb.of (own := RX8) (ls0 := [some (.ref (ad 0 23))]) hl0 (by decide) rfl (Nat.le_of_ble_eq_true rfl) rfl ?_
  intro X hX1 hX2 hX3 hf he hh
  subst hX1 hX2 hX3
  refine V_aload_n hf dX8_expiredCount_0 rfl rfl ?_
  refine B_get hf l01 rfl fl_X8_10_11 rfl dX8_expiredCount_1 ?_
  refine B_get hf lm0 rfl fl_X8_202_7 rfl dX8_expiredCount_4 ?_
  exact B_iret hf he rfl dX8_expiredCount_7 (by decide) (by decide) rfl rfl

set_option maxHeartbeats 4000000 in
set_option maxRecDepth 100000 in
theorem c_allCoinsGiven {l : Launch} {D : va_G} {K : Nat → ClassId} {ad : Adr} (hl0 : l.stackTraces = false) (σ : Mem) (hR : Rng σ) : Cb l D K ad yX8_allCoinsGiven (.code yX8_allCoinsGiven cX8_allCoinsGiven 1 (some .int)) 9 1 6 σ [.ref (ad 0 23)] (.inl (some (.int (iN (σ 0 0 8))))) σ := by
  refine Cb.of (own := RX8) (ls0 := [some (.ref (ad 0 23))]) hl0 (by decide) rfl (Nat.le_of_ble_eq_true rfl) rfl ?_
  intro X hX1 hX2 hX3 hf he hh
  subst hX1 hX2 hX3
  refine V_aload_n hf dX8_allCoinsGiven_0 rfl rfl ?_
  refine B_get hf l01 rfl fl_X8_10_11 rfl dX8_allCoinsGiven_1 ?_
  refine B_get hf lm0 rfl fl_X8_208_7 rfl dX8_allCoinsGiven_4 ?_
  exact B_iret hf he rfl dX8_allCoinsGiven_7 (by decide) (by decide) rfl rfl

set_option maxHeartbeats 4000000 in
set_option maxRecDepth 100000 in
theorem c_allCoins {l : Launch} {D : va_G} {K : Nat → ClassId} {ad : Adr} (hl0 : l.stackTraces = false) (σ : Mem) (hR : Rng σ) (hM : MI (σ 0)) : Cb l D K ad yX8_allCoins (.code yX8_allCoins cX8_allCoins 1 (some .int)) 9 1 6 σ [.ref (ad 0 23)] (.inl (some (.int (iN (shipCoins (σ 0) + σ 0 0 7))))) σ := by
  refine Cb.of (own := RX8) (ls0 := [some (.ref (ad 0 23))]) hl0 (by decide) rfl (Nat.le_of_ble_eq_true rfl) rfl ?_
  intro X hX1 hX2 hX3 hf he hh
  subst hX1 hX2 hX3
  refine V_aload_n hf dX8_allCoins_0 rfl rfl ?_
  refine B_get hf l01 rfl fl_X8_10_11 rfl dX8_allCoins_1 ?_
  refine B_callVi hf (As := []) (c_coinSum hl0 0 lm0 σ hR hM) cv_X8_205 lm0 rfl rfl rfl (Nat.le_of_ble_eq_true rfl) ⟨by decide, by decide, by decide, by decide⟩ dX8_allCoins_4 ?_
  exact B_iret hf he rfl dX8_allCoins_7 (by decide) (by decide) rfl rfl

set_option maxHeartbeats 4000000 in
set_option maxRecDepth 100000 in
theorem c_coinsOf {l : Launch} {D : va_G} {K : Nat → ClassId} {ad : Adr} (hl0 : l.stackTraces = false) (σ : Mem) (hR : Rng σ) (hM : MI (σ 0)) (s : Int) (hs : inR s) (hk : 0 ≤ s ∧ s < σ 0 1 0) : Cb l D K ad yX8_coinsOf (.code yX8_coinsOf cX8_coinsOf 2 (some .int)) 9 1 6 σ [.ref (ad 0 23), .int (iN s)] (.inl (some (.int (iN (σ 0 2 s))))) σ := by
  refine Cb.of (own := RX8) (ls0 := [some (.ref (ad 0 23)), some (.int (iN s))]) hl0 (by decide) rfl (Nat.le_of_ble_eq_true rfl) rfl ?_
  intro X hX1 hX2 hX3 hf he hh
  subst hX1 hX2 hX3
  have h1 := hM.fl.1
  have h2 := hM.fl.2.1
  have h3 := hM.nb
  have h4 := hM.no
  refine V_aload_n hf dX8_coinsOf_0 rfl rfl ?_
  refine V_iload_n hf dX8_coinsOf_1 rfl rfl ?_
  refine B_callVv hf (As := [_]) (c_reqShip hl0 σ hR s hs hk) cv_X8_73 l01 rfl rfl rfl (Nat.le_of_ble_eq_true rfl) ⟨by decide, by decide, by decide, by decide⟩ dX8_coinsOf_2 ?_
  refine V_aload_n hf dX8_coinsOf_5 rfl rfl ?_
  refine B_get hf l01 rfl fl_X8_10_11 rfl dX8_coinsOf_6 ?_
  refine B_get hf lm0 rfl fl_X8_64_7 rfl dX8_coinsOf_9 ?_
  refine B_get hf lm0 rfl fl_X8_77_5 rfl dX8_coinsOf_12 ?_
  refine V_iload_n hf dX8_coinsOf_15 rfl rfl ?_
  refine B_iald hf lm0 (fun _ => rfl) (by first | exact hR _ _ _ (by decide) | exact ⟨by omega, by omega⟩) (by omega) (by omega) dX8_coinsOf_16 ?_
  exact B_iret hf he rfl dX8_coinsOf_17 (by decide) (by decide) rfl rfl

set_option maxHeartbeats 4000000 in
set_option maxRecDepth 100000 in
theorem cx_coinsOf {l : Launch} {D : va_G} {K : Nat → ClassId} {ad : Adr} (hl0 : l.stackTraces = false) (σ : Mem) (hR : Rng σ) (s : Int) (hs : inR s) (hk : ¬ (0 ≤ s ∧ s < σ 0 1 0)) : Cb l D K ad yX8_coinsOf (.code yX8_coinsOf cX8_coinsOf 2 (some .int)) 9 1 6 σ [.ref (ad 0 23), .int (iN s)] (.inr "java/lang/IndexOutOfBoundsException") σ := by
  refine Cb.of (own := RX8) (ls0 := [some (.ref (ad 0 23)), some (.int (iN s))]) hl0 (by decide) rfl (Nat.le_of_ble_eq_true rfl) rfl ?_
  intro X hX1 hX2 hX3 hf he hh
  subst hX1 hX2 hX3
  refine V_aload_n hf dX8_coinsOf_0 rfl rfl ?_
  refine V_iload_n hf dX8_coinsOf_1 rfl rfl ?_
  refine B_callVX hf (As := [_]) (cx_reqShip hl0 σ hR s hs hk) cv_X8_73 l01 rfl rfl rfl (Nat.le_of_ble_eq_true rfl) ⟨by decide, by decide, by decide, by decide⟩ dX8_coinsOf_2 ?_
  exact VX_out hf he hh (by decide) (by decide) ⟨rfl, rfl, rfl⟩

set_option maxHeartbeats 4000000 in
set_option maxRecDepth 100000 in
theorem c_reservedCoins {l : Launch} {D : va_G} {K : Nat → ClassId} {ad : Adr} (hl0 : l.stackTraces = false) (σ : Mem) (hR : Rng σ) (hM : MI (σ 0)) (s : Int) (hs : inR s) (hk : 0 ≤ s ∧ s < σ 0 1 0) : Cb l D K ad yX8_reservedCoins (.code yX8_reservedCoins cX8_reservedCoins 2 (some .int)) 9 1 6 σ [.ref (ad 0 23), .int (iN s)] (.inl (some (.int (iN (psumB (σ 0) 6 s))))) σ := by
  refine Cb.of (own := RX8) (ls0 := [some (.ref (ad 0 23)), some (.int (iN s))]) hl0 (by decide) rfl (Nat.le_of_ble_eq_true rfl) rfl ?_
  intro X hX1 hX2 hX3 hf he hh
  subst hX1 hX2 hX3
  have h1 := hM.fl.1
  have h2 := hM.fl.2.1
  have h3 := hM.nb
  have h4 := hM.no
  refine V_aload_n hf dX8_reservedCoins_0 rfl rfl ?_
  refine V_iload_n hf dX8_reservedCoins_1 rfl rfl ?_
  refine B_callVv hf (As := [_]) (c_reqShip hl0 σ hR s hs hk) cv_X8_73 l01 rfl rfl rfl (Nat.le_of_ble_eq_true rfl) ⟨by decide, by decide, by decide, by decide⟩ dX8_reservedCoins_2 ?_
  refine V_aload_n hf dX8_reservedCoins_5 rfl rfl ?_
  refine B_get hf l01 rfl fl_X8_10_11 rfl dX8_reservedCoins_6 ?_
  refine B_get hf lm0 rfl fl_X8_81_7 rfl dX8_reservedCoins_9 ?_
  refine V_iload_n hf dX8_reservedCoins_12 rfl rfl ?_
  refine B_callUi hf (As := [_]) (c_psumB hl0 0 lm0 σ hR hM.nb s hs) cu_X8_85_4 lm0 rfl rfl rfl (Nat.le_of_ble_eq_true rfl) ⟨by decide, by decide, by decide, by decide⟩ dX8_reservedCoins_13 ?_
  exact B_iret hf he rfl dX8_reservedCoins_16 (by decide) (by decide) rfl rfl

set_option maxHeartbeats 4000000 in
set_option maxRecDepth 100000 in
theorem cx_reservedCoins {l : Launch} {D : va_G} {K : Nat → ClassId} {ad : Adr} (hl0 : l.stackTraces = false) (σ : Mem) (hR : Rng σ) (s : Int) (hs : inR s) (hk : ¬ (0 ≤ s ∧ s < σ 0 1 0)) : Cb l D K ad yX8_reservedCoins (.code yX8_reservedCoins cX8_reservedCoins 2 (some .int)) 9 1 6 σ [.ref (ad 0 23), .int (iN s)] (.inr "java/lang/IndexOutOfBoundsException") σ := by
  refine Cb.of (own := RX8) (ls0 := [some (.ref (ad 0 23)), some (.int (iN s))]) hl0 (by decide) rfl (Nat.le_of_ble_eq_true rfl) rfl ?_
  intro X hX1 hX2 hX3 hf he hh
  subst hX1 hX2 hX3
  refine V_aload_n hf dX8_reservedCoins_0 rfl rfl ?_
  refine V_iload_n hf dX8_reservedCoins_1 rfl rfl ?_
  refine B_callVX hf (As := [_]) (cx_reqShip hl0 σ hR s hs hk) cv_X8_73 l01 rfl rfl rfl (Nat.le_of_ble_eq_true rfl) ⟨by decide, by decide, by decide, by decide⟩ dX8_reservedCoins_2 ?_
  exact VX_out hf he hh (by decide) (by decide) ⟨rfl, rfl, rfl⟩

set_option maxHeartbeats 4000000 in
set_option maxRecDepth 100000 in
theorem c_capacityOf {l : Launch} {D : va_G} {K : Nat → ClassId} {ad : Adr} (hl0 : l.stackTraces = false) (σ : Mem) (hR : Rng σ) (hM : MI (σ 0)) (s : Int) (hs : inR s) (hk : 0 ≤ s ∧ s < σ 0 1 0) : Cb l D K ad yX8_capacityOf (.code yX8_capacityOf cX8_capacityOf 2 (some .int)) 9 1 6 σ [.ref (ad 0 23), .int (iN s)] (.inl (some (.int (iN (σ 0 3 s))))) σ := by
  refine Cb.of (own := RX8) (ls0 := [some (.ref (ad 0 23)), some (.int (iN s))]) hl0 (by decide) rfl (Nat.le_of_ble_eq_true rfl) rfl ?_
  intro X hX1 hX2 hX3 hf he hh
  subst hX1 hX2 hX3
  have h1 := hM.fl.1
  have h2 := hM.fl.2.1
  have h3 := hM.nb
  have h4 := hM.no
  refine V_aload_n hf dX8_capacityOf_0 rfl rfl ?_
  refine V_iload_n hf dX8_capacityOf_1 rfl rfl ?_
  refine B_callVv hf (As := [_]) (c_reqShip hl0 σ hR s hs hk) cv_X8_73 l01 rfl rfl rfl (Nat.le_of_ble_eq_true rfl) ⟨by decide, by decide, by decide, by decide⟩ dX8_capacityOf_2 ?_
  refine V_aload_n hf dX8_capacityOf_5 rfl rfl ?_
  refine B_get hf l01 rfl fl_X8_10_11 rfl dX8_capacityOf_6 ?_
  refine B_get hf lm0 rfl fl_X8_64_7 rfl dX8_capacityOf_9 ?_
  refine B_get hf lm0 rfl fl_X8_91_5 rfl dX8_capacityOf_12 ?_
  refine V_iload_n hf dX8_capacityOf_15 rfl rfl ?_
  refine B_iald hf lm0 (fun _ => rfl) (by first | exact hR _ _ _ (by decide) | exact ⟨by omega, by omega⟩) (by omega) (by omega) dX8_capacityOf_16 ?_
  exact B_iret hf he rfl dX8_capacityOf_17 (by decide) (by decide) rfl rfl

set_option maxHeartbeats 4000000 in
set_option maxRecDepth 100000 in
theorem cx_capacityOf {l : Launch} {D : va_G} {K : Nat → ClassId} {ad : Adr} (hl0 : l.stackTraces = false) (σ : Mem) (hR : Rng σ) (s : Int) (hs : inR s) (hk : ¬ (0 ≤ s ∧ s < σ 0 1 0)) : Cb l D K ad yX8_capacityOf (.code yX8_capacityOf cX8_capacityOf 2 (some .int)) 9 1 6 σ [.ref (ad 0 23), .int (iN s)] (.inr "java/lang/IndexOutOfBoundsException") σ := by
  refine Cb.of (own := RX8) (ls0 := [some (.ref (ad 0 23)), some (.int (iN s))]) hl0 (by decide) rfl (Nat.le_of_ble_eq_true rfl) rfl ?_
  intro X hX1 hX2 hX3 hf he hh
  subst hX1 hX2 hX3
  refine V_aload_n hf dX8_capacityOf_0 rfl rfl ?_
  refine V_iload_n hf dX8_capacityOf_1 rfl rfl ?_
  refine B_callVX hf (As := [_]) (cx_reqShip hl0 σ hR s hs hk) cv_X8_73 l01 rfl rfl rfl (Nat.le_of_ble_eq_true rfl) ⟨by decide, by decide, by decide, by decide⟩ dX8_capacityOf_2 ?_
  exact VX_out hf he hh (by decide) (by decide) ⟨rfl, rfl, rfl⟩

set_option maxHeartbeats 4000000 in
set_option maxRecDepth 100000 in
theorem c_loadOf {l : Launch} {D : va_G} {K : Nat → ClassId} {ad : Adr} (hl0 : l.stackTraces = false) (σ : Mem) (hR : Rng σ) (hM : MI (σ 0)) (s : Int) (hs : inR s) (hk : 0 ≤ s ∧ s < σ 0 1 0) : Cb l D K ad yX8_loadOf (.code yX8_loadOf cX8_loadOf 2 (some .int)) 9 1 6 σ [.ref (ad 0 23), .int (iN s)] (.inl (some (.int (iN (loadOn (σ 0) s))))) σ := by
  refine Cb.of (own := RX8) (ls0 := [some (.ref (ad 0 23)), some (.int (iN s))]) hl0 (by decide) rfl (Nat.le_of_ble_eq_true rfl) rfl ?_
  intro X hX1 hX2 hX3 hf he hh
  subst hX1 hX2 hX3
  have h1 := hM.fl.1
  have h2 := hM.fl.2.1
  have h3 := hM.nb
  have h4 := hM.no
  refine V_aload_n hf dX8_loadOf_0 rfl rfl ?_
  refine V_iload_n hf dX8_loadOf_1 rfl rfl ?_
  refine B_callVv hf (As := [_]) (c_reqShip hl0 σ hR s hs hk) cv_X8_73 l01 rfl rfl rfl (Nat.le_of_ble_eq_true rfl) ⟨by decide, by decide, by decide, by decide⟩ dX8_loadOf_2 ?_
  refine V_aload_n hf dX8_loadOf_5 rfl rfl ?_
  refine B_get hf l01 rfl fl_X8_10_11 rfl dX8_loadOf_6 ?_
  refine B_get hf lm0 rfl fl_X8_64_7 rfl dX8_loadOf_9 ?_
  refine V_iload_n hf dX8_loadOf_12 rfl rfl ?_
  refine B_callVi hf (As := [_]) (c_loadOn hl0 0 lm0 σ hR hM.fl.2.1 s hs) cv_X8_94 lm0 rfl rfl rfl (Nat.le_of_ble_eq_true rfl) ⟨by decide, by decide, by decide, by decide⟩ dX8_loadOf_13 ?_
  exact B_iret hf he rfl dX8_loadOf_16 (by decide) (by decide) rfl rfl

set_option maxHeartbeats 4000000 in
set_option maxRecDepth 100000 in
theorem cx_loadOf {l : Launch} {D : va_G} {K : Nat → ClassId} {ad : Adr} (hl0 : l.stackTraces = false) (σ : Mem) (hR : Rng σ) (s : Int) (hs : inR s) (hk : ¬ (0 ≤ s ∧ s < σ 0 1 0)) : Cb l D K ad yX8_loadOf (.code yX8_loadOf cX8_loadOf 2 (some .int)) 9 1 6 σ [.ref (ad 0 23), .int (iN s)] (.inr "java/lang/IndexOutOfBoundsException") σ := by
  refine Cb.of (own := RX8) (ls0 := [some (.ref (ad 0 23)), some (.int (iN s))]) hl0 (by decide) rfl (Nat.le_of_ble_eq_true rfl) rfl ?_
  intro X hX1 hX2 hX3 hf he hh
  subst hX1 hX2 hX3
  refine V_aload_n hf dX8_loadOf_0 rfl rfl ?_
  refine V_iload_n hf dX8_loadOf_1 rfl rfl ?_
  refine B_callVX hf (As := [_]) (cx_reqShip hl0 σ hR s hs hk) cv_X8_73 l01 rfl rfl rfl (Nat.le_of_ble_eq_true rfl) ⟨by decide, by decide, by decide, by decide⟩ dX8_loadOf_2 ?_
  exact VX_out hf he hh (by decide) (by decide) ⟨rfl, rfl, rfl⟩

set_option maxHeartbeats 4000000 in
set_option maxRecDepth 100000 in
theorem c_freePlaces {l : Launch} {D : va_G} {K : Nat → ClassId} {ad : Adr} (hl0 : l.stackTraces = false) (σ : Mem) (hR : Rng σ) (hM : MI (σ 0)) (s : Int) (hs : inR s) (hk : 0 ≤ s ∧ s < σ 0 1 0) : Cb l D K ad yX8_freePlaces (.code yX8_freePlaces cX8_freePlaces 2 (some .int)) 9 1 6 σ [.ref (ad 0 23), .int (iN s)] (.inl (some (.int (iN (placesL (σ 0) s))))) σ := by
  refine Cb.of (own := RX8) (ls0 := [some (.ref (ad 0 23)), some (.int (iN s))]) hl0 (by decide) rfl (Nat.le_of_ble_eq_true rfl) rfl ?_
  intro X hX1 hX2 hX3 hf he hh
  subst hX1 hX2 hX3
  have h1 := hM.fl.1
  have h2 := hM.fl.2.1
  have h3 := hM.nb
  have h4 := hM.no
  refine V_aload_n hf dX8_freePlaces_0 rfl rfl ?_
  refine V_iload_n hf dX8_freePlaces_1 rfl rfl ?_
  refine B_callVv hf (As := [_]) (c_reqShip hl0 σ hR s hs hk) cv_X8_73 l01 rfl rfl rfl (Nat.le_of_ble_eq_true rfl) ⟨by decide, by decide, by decide, by decide⟩ dX8_freePlaces_2 ?_
  refine V_aload_n hf dX8_freePlaces_5 rfl rfl ?_
  refine B_get hf l01 rfl fl_X8_10_11 rfl dX8_freePlaces_6 ?_
  refine V_iload_n hf dX8_freePlaces_9 rfl rfl ?_
  refine B_callVi hf (As := [_]) (c_placesL hl0 0 lm0 σ hR hM s ⟨by omega, by omega⟩) cv_X8_97 lm0 rfl rfl rfl (Nat.le_of_ble_eq_true rfl) ⟨by decide, by decide, by decide, by decide⟩ dX8_freePlaces_10 ?_
  exact B_iret hf he rfl dX8_freePlaces_13 (by decide) (by decide) rfl rfl

set_option maxHeartbeats 4000000 in
set_option maxRecDepth 100000 in
theorem cx_freePlaces {l : Launch} {D : va_G} {K : Nat → ClassId} {ad : Adr} (hl0 : l.stackTraces = false) (σ : Mem) (hR : Rng σ) (s : Int) (hs : inR s) (hk : ¬ (0 ≤ s ∧ s < σ 0 1 0)) : Cb l D K ad yX8_freePlaces (.code yX8_freePlaces cX8_freePlaces 2 (some .int)) 9 1 6 σ [.ref (ad 0 23), .int (iN s)] (.inr "java/lang/IndexOutOfBoundsException") σ := by
  refine Cb.of (own := RX8) (ls0 := [some (.ref (ad 0 23)), some (.int (iN s))]) hl0 (by decide) rfl (Nat.le_of_ble_eq_true rfl) rfl ?_
  intro X hX1 hX2 hX3 hf he hh
  subst hX1 hX2 hX3
  refine V_aload_n hf dX8_freePlaces_0 rfl rfl ?_
  refine V_iload_n hf dX8_freePlaces_1 rfl rfl ?_
  refine B_callVX hf (As := [_]) (cx_reqShip hl0 σ hR s hs hk) cv_X8_73 l01 rfl rfl rfl (Nat.le_of_ble_eq_true rfl) ⟨by decide, by decide, by decide, by decide⟩ dX8_freePlaces_2 ?_
  exact VX_out hf he hh (by decide) (by decide) ⟨rfl, rfl, rfl⟩

set_option maxHeartbeats 4000000 in
set_option maxRecDepth 100000 in
theorem c_shipOf {l : Launch} {D : va_G} {K : Nat → ClassId} {ad : Adr} (hl0 : l.stackTraces = false) (σ : Mem) (hR : Rng σ) (hM : MI (σ 0)) (s : Int) (hs : inR s) (hk : 0 ≤ s ∧ s < σ 0 1 3) : Cb l D K ad yX8_shipOf (.code yX8_shipOf cX8_shipOf 2 (some .int)) 9 1 6 σ [.ref (ad 0 23), .int (iN s)] (.inl (some (.int (iN (σ 0 5 s))))) σ := by
  refine Cb.of (own := RX8) (ls0 := [some (.ref (ad 0 23)), some (.int (iN s))]) hl0 (by decide) rfl (Nat.le_of_ble_eq_true rfl) rfl ?_
  intro X hX1 hX2 hX3 hf he hh
  subst hX1 hX2 hX3
  have h1 := hM.fl.1
  have h2 := hM.fl.2.1
  have h3 := hM.nb
  have h4 := hM.no
  refine V_aload_n hf dX8_shipOf_0 rfl rfl ?_
  refine V_iload_n hf dX8_shipOf_1 rfl rfl ?_
  refine B_callVv hf (As := [_]) (c_reqBarn hl0 σ hR s hs hk) cv_X8_114 l01 rfl rfl rfl (Nat.le_of_ble_eq_true rfl) ⟨by decide, by decide, by decide, by decide⟩ dX8_shipOf_2 ?_
  refine V_aload_n hf dX8_shipOf_5 rfl rfl ?_
  refine B_get hf l01 rfl fl_X8_10_11 rfl dX8_shipOf_6 ?_
  refine B_get hf lm0 rfl fl_X8_64_7 rfl dX8_shipOf_9 ?_
  refine B_get hf lm0 rfl fl_X8_117_5 rfl dX8_shipOf_12 ?_
  refine V_iload_n hf dX8_shipOf_15 rfl rfl ?_
  refine B_iald hf lm0 (fun _ => rfl) (by first | exact hR _ _ _ (by decide) | exact ⟨by omega, by omega⟩) (by omega) (by omega) dX8_shipOf_16 ?_
  exact B_iret hf he rfl dX8_shipOf_17 (by decide) (by decide) (by first | rfl | omega | (rw [if_pos (by omega)]) | (rw [if_neg (by omega)])) rfl

set_option maxHeartbeats 4000000 in
set_option maxRecDepth 100000 in
theorem cx_shipOf {l : Launch} {D : va_G} {K : Nat → ClassId} {ad : Adr} (hl0 : l.stackTraces = false) (σ : Mem) (hR : Rng σ) (s : Int) (hs : inR s) (hk : ¬ (0 ≤ s ∧ s < σ 0 1 3)) : Cb l D K ad yX8_shipOf (.code yX8_shipOf cX8_shipOf 2 (some .int)) 9 1 6 σ [.ref (ad 0 23), .int (iN s)] (.inr "java/lang/IndexOutOfBoundsException") σ := by
  refine Cb.of (own := RX8) (ls0 := [some (.ref (ad 0 23)), some (.int (iN s))]) hl0 (by decide) rfl (Nat.le_of_ble_eq_true rfl) rfl ?_
  intro X hX1 hX2 hX3 hf he hh
  subst hX1 hX2 hX3
  refine V_aload_n hf dX8_shipOf_0 rfl rfl ?_
  refine V_iload_n hf dX8_shipOf_1 rfl rfl ?_
  refine B_callVX hf (As := [_]) (cx_reqBarn hl0 σ hR s hs hk) cv_X8_114 l01 rfl rfl rfl (Nat.le_of_ble_eq_true rfl) ⟨by decide, by decide, by decide, by decide⟩ dX8_shipOf_2 ?_
  exact VX_out hf he hh (by decide) (by decide) ⟨rfl, rfl, rfl⟩

set_option maxHeartbeats 4000000 in
set_option maxRecDepth 100000 in
theorem c_gradeOf {l : Launch} {D : va_G} {K : Nat → ClassId} {ad : Adr} (hl0 : l.stackTraces = false) (σ : Mem) (hR : Rng σ) (hM : MI (σ 0)) (s : Int) (hs : inR s) (hk : 0 ≤ s ∧ s < σ 0 1 3) : Cb l D K ad yX8_gradeOf (.code yX8_gradeOf cX8_gradeOf 2 (some .int)) 9 1 6 σ [.ref (ad 0 23), .int (iN s)] (.inl (some (.int (iN (σ 0 4 s))))) σ := by
  refine Cb.of (own := RX8) (ls0 := [some (.ref (ad 0 23)), some (.int (iN s))]) hl0 (by decide) rfl (Nat.le_of_ble_eq_true rfl) rfl ?_
  intro X hX1 hX2 hX3 hf he hh
  subst hX1 hX2 hX3
  have h1 := hM.fl.1
  have h2 := hM.fl.2.1
  have h3 := hM.nb
  have h4 := hM.no
  refine V_aload_n hf dX8_gradeOf_0 rfl rfl ?_
  refine V_iload_n hf dX8_gradeOf_1 rfl rfl ?_
  refine B_callVv hf (As := [_]) (c_reqBarn hl0 σ hR s hs hk) cv_X8_114 l01 rfl rfl rfl (Nat.le_of_ble_eq_true rfl) ⟨by decide, by decide, by decide, by decide⟩ dX8_gradeOf_2 ?_
  refine V_aload_n hf dX8_gradeOf_5 rfl rfl ?_
  refine B_get hf l01 rfl fl_X8_10_11 rfl dX8_gradeOf_6 ?_
  refine B_get hf lm0 rfl fl_X8_64_7 rfl dX8_gradeOf_9 ?_
  refine B_get hf lm0 rfl fl_X8_120_5 rfl dX8_gradeOf_12 ?_
  refine V_iload_n hf dX8_gradeOf_15 rfl rfl ?_
  refine B_iald hf lm0 (fun _ => rfl) (by first | exact hR _ _ _ (by decide) | exact ⟨by omega, by omega⟩) (by omega) (by omega) dX8_gradeOf_16 ?_
  exact B_iret hf he rfl dX8_gradeOf_17 (by decide) (by decide) (by first | rfl | omega | (rw [if_pos (by omega)]) | (rw [if_neg (by omega)])) rfl

set_option maxHeartbeats 4000000 in
set_option maxRecDepth 100000 in
theorem cx_gradeOf {l : Launch} {D : va_G} {K : Nat → ClassId} {ad : Adr} (hl0 : l.stackTraces = false) (σ : Mem) (hR : Rng σ) (s : Int) (hs : inR s) (hk : ¬ (0 ≤ s ∧ s < σ 0 1 3)) : Cb l D K ad yX8_gradeOf (.code yX8_gradeOf cX8_gradeOf 2 (some .int)) 9 1 6 σ [.ref (ad 0 23), .int (iN s)] (.inr "java/lang/IndexOutOfBoundsException") σ := by
  refine Cb.of (own := RX8) (ls0 := [some (.ref (ad 0 23)), some (.int (iN s))]) hl0 (by decide) rfl (Nat.le_of_ble_eq_true rfl) rfl ?_
  intro X hX1 hX2 hX3 hf he hh
  subst hX1 hX2 hX3
  refine V_aload_n hf dX8_gradeOf_0 rfl rfl ?_
  refine V_iload_n hf dX8_gradeOf_1 rfl rfl ?_
  refine B_callVX hf (As := [_]) (cx_reqBarn hl0 σ hR s hs hk) cv_X8_114 l01 rfl rfl rfl (Nat.le_of_ble_eq_true rfl) ⟨by decide, by decide, by decide, by decide⟩ dX8_gradeOf_2 ?_
  exact VX_out hf he hh (by decide) (by decide) ⟨rfl, rfl, rfl⟩

set_option maxHeartbeats 4000000 in
set_option maxRecDepth 100000 in
theorem c_isOffered {l : Launch} {D : va_G} {K : Nat → ClassId} {ad : Adr} (hl0 : l.stackTraces = false) (σ : Mem) (hR : Rng σ) (hM : MI (σ 0)) (s : Int) (hs : inR s) (hk : 0 ≤ s ∧ s < σ 0 1 3) : Cb l D K ad yX8_isOffered (.code yX8_isOffered cX8_isOffered 2 (some .boolean)) 9 1 6 σ [.ref (ad 0 23), .int (iN s)] (.inl (some (.int (iN (if rowOwn (σ 0) 12 s = -1 then 0 else 1))))) σ := by
  refine Cb.of (own := RX8) (ls0 := [some (.ref (ad 0 23)), some (.int (iN s))]) hl0 (by decide) rfl (Nat.le_of_ble_eq_true rfl) rfl ?_
  intro X hX1 hX2 hX3 hf he hh
  subst hX1 hX2 hX3
  have h1 := hM.fl.1
  have h2 := hM.fl.2.1
  have h3 := hM.nb
  have h4 := hM.no
  refine V_aload_n hf dX8_isOffered_0 rfl rfl ?_
  refine V_iload_n hf dX8_isOffered_1 rfl rfl ?_
  refine B_callVv hf (As := [_]) (c_reqBarn hl0 σ hR s hs hk) cv_X8_114 l01 rfl rfl rfl (Nat.le_of_ble_eq_true rfl) ⟨by decide, by decide, by decide, by decide⟩ dX8_isOffered_2 ?_
  refine V_aload_n hf dX8_isOffered_5 rfl rfl ?_
  refine B_get hf l01 rfl fl_X8_10_11 rfl dX8_isOffered_6 ?_
  refine B_get hf lm0 rfl fl_X8_123_7 rfl dX8_isOffered_9 ?_
  refine V_iload_n hf dX8_isOffered_12 rfl rfl ?_
  refine B_callUi hf (As := [_]) (c_rowOwnO hl0 0 lm0 σ hR hM.no s hs) cu_X8_126_8 lm0 rfl rfl rfl (Nat.le_of_ble_eq_true rfl) ⟨by decide, by decide, by decide, by decide⟩ dX8_isOffered_13 ?_
  have hz := rowOwn_r (σ 0) 12 s
  refine V_iconst hf dX8_isOffered_16 ?_
  refine V_icmp_eq (tgt := 24) hf ⟨by omega, by omega⟩ ⟨by omega, by omega⟩ dX8_isOffered_17 (by decide) (fun h17 => ?_) (fun h17 => ?_)
  · refine V_iconst hf dX8_isOffered_24 ?_
    exact B_iret hf he (by split <;> decide +kernel) dX8_isOffered_25 (by decide) (by decide) (by first | rfl | omega | (rw [if_pos (by omega)]) | (rw [if_neg (by omega)])) rfl
  · refine V_iconst hf dX8_isOffered_20 ?_
    refine V_goto (tgt := 25) hf dX8_isOffered_21 (by decide) ?_
    exact B_iret hf he (by split <;> decide +kernel) dX8_isOffered_25 (by decide) (by decide) (by first | rfl | omega | (rw [if_pos (by omega)]) | (rw [if_neg (by omega)])) rfl

set_option maxHeartbeats 4000000 in
set_option maxRecDepth 100000 in
theorem cx_isOffered {l : Launch} {D : va_G} {K : Nat → ClassId} {ad : Adr} (hl0 : l.stackTraces = false) (σ : Mem) (hR : Rng σ) (s : Int) (hs : inR s) (hk : ¬ (0 ≤ s ∧ s < σ 0 1 3)) : Cb l D K ad yX8_isOffered (.code yX8_isOffered cX8_isOffered 2 (some .boolean)) 9 1 6 σ [.ref (ad 0 23), .int (iN s)] (.inr "java/lang/IndexOutOfBoundsException") σ := by
  refine Cb.of (own := RX8) (ls0 := [some (.ref (ad 0 23)), some (.int (iN s))]) hl0 (by decide) rfl (Nat.le_of_ble_eq_true rfl) rfl ?_
  intro X hX1 hX2 hX3 hf he hh
  subst hX1 hX2 hX3
  refine V_aload_n hf dX8_isOffered_0 rfl rfl ?_
  refine V_iload_n hf dX8_isOffered_1 rfl rfl ?_
  refine B_callVX hf (As := [_]) (cx_reqBarn hl0 σ hR s hs hk) cv_X8_114 l01 rfl rfl rfl (Nat.le_of_ble_eq_true rfl) ⟨by decide, by decide, by decide, by decide⟩ dX8_isOffered_2 ?_
  exact VX_out hf he hh (by decide) (by decide) ⟨rfl, rfl, rfl⟩

set_option maxHeartbeats 4000000 in
set_option maxRecDepth 100000 in
theorem c_barnacleAt {l : Launch} {D : va_G} {K : Nat → ClassId} {ad : Adr} (hl0 : l.stackTraces = false) (σ : Mem) (hR : Rng σ) (hM : MI (σ 0)) (s : Int) (hs : inR s) (p : Int) (hp : inR p) (hk : 0 ≤ s ∧ s < σ 0 1 0) (hq : inOrder (σ 0) s p ≠ -1) : Cb l D K ad yX8_barnacleAt (.code yX8_barnacleAt cX8_barnacleAt 4 (some .int)) 9 1 6 σ [.ref (ad 0 23), .int (iN s), .int (iN p)] (.inl (some (.int (iN (inOrder (σ 0) s p))))) σ := by
  refine Cb.of (own := RX8) (ls0 := [some (.ref (ad 0 23)), some (.int (iN s)), some (.int (iN p)), none]) hl0 (by decide) rfl (Nat.le_of_ble_eq_true rfl) rfl ?_
  intro X hX1 hX2 hX3 hf he hh
  subst hX1 hX2 hX3
  have h1 := hM.fl.1
  have h2 := hM.fl.2.1
  have h3 := hM.nb
  have h4 := hM.no
  have hz := fst_cases (fun b => σ 0 5 b = s ∧ aheadB (σ 0) b = p) (σ 0 1 3)
  change (inOrder (σ 0) s p = -1 ∧ _) ∨ (0 ≤ inOrder (σ 0) s p ∧ inOrder (σ 0) s p < σ 0 1 3 ∧ _) at hz
  refine V_aload_n hf dX8_barnacleAt_0 rfl rfl ?_
  refine V_iload_n hf dX8_barnacleAt_1 rfl rfl ?_
  refine B_callVv hf (As := [_]) (c_reqShip hl0 σ hR s hs hk) cv_X8_73 l01 rfl rfl rfl (Nat.le_of_ble_eq_true rfl) ⟨by decide, by decide, by decide, by decide⟩ dX8_barnacleAt_2 ?_
  refine V_aload_n hf dX8_barnacleAt_5 rfl rfl ?_
  refine B_get hf l01 rfl fl_X8_10_11 rfl dX8_barnacleAt_6 ?_
  refine B_get hf lm0 rfl fl_X8_64_7 rfl dX8_barnacleAt_9 ?_
  refine V_iload_n hf dX8_barnacleAt_12 rfl rfl ?_
  refine V_iload_n hf dX8_barnacleAt_13 rfl rfl ?_
  refine B_callVi hf (As := [_, _]) (c_inOrder hl0 0 lm0 σ hR hM.fl.2.1 s p hs hp) cv_X8_100 lm0 rfl rfl rfl (Nat.le_of_ble_eq_true rfl) ⟨by decide, by decide, by decide, by decide⟩ dX8_barnacleAt_14 ?_
  refine V_istore_n (ls2 := [_, _, _, _]) hf dX8_barnacleAt_17 rfl (by decide) rfl rfl ?_
  refine V_iload_n hf dX8_barnacleAt_18 rfl rfl ?_
  refine V_iconst hf dX8_barnacleAt_19 ?_
  refine V_icmp_ne (tgt := 33) hf ⟨by omega, by omega⟩ ⟨by omega, by omega⟩ dX8_barnacleAt_20 (by decide) (fun h20 => ?_) (fun h20 => ?_)
  · refine V_iload_n hf dX8_barnacleAt_33 rfl rfl ?_
    exact B_iret hf he rfl dX8_barnacleAt_34 (by decide) (by decide) rfl rfl
  · exact absurd h20 (by omega)

set_option maxHeartbeats 4000000 in
set_option maxRecDepth 100000 in
theorem cx_barnacleAt {l : Launch} {D : va_G} {K : Nat → ClassId} {ad : Adr} (hl0 : l.stackTraces = false) (σ : Mem) (hR : Rng σ) (hM : MI (σ 0)) (s : Int) (hs : inR s) (p : Int) (hp : inR p) (hk : 0 ≤ s ∧ s < σ 0 1 0) (hq : inOrder (σ 0) s p = -1) : Cb l D K ad yX8_barnacleAt (.code yX8_barnacleAt cX8_barnacleAt 4 (some .int)) 9 1 6 σ [.ref (ad 0 23), .int (iN s), .int (iN p)] (.inr "java/util/NoSuchElementException") σ := by
  refine Cb.of (own := RX8) (ls0 := [some (.ref (ad 0 23)), some (.int (iN s)), some (.int (iN p)), none]) hl0 (by decide) rfl (Nat.le_of_ble_eq_true rfl) rfl ?_
  intro X hX1 hX2 hX3 hf he hh
  subst hX1 hX2 hX3
  have h1 := hM.fl.1
  have h2 := hM.fl.2.1
  have h3 := hM.nb
  have h4 := hM.no
  have hz := fst_cases (fun b => σ 0 5 b = s ∧ aheadB (σ 0) b = p) (σ 0 1 3)
  change (inOrder (σ 0) s p = -1 ∧ _) ∨ (0 ≤ inOrder (σ 0) s p ∧ inOrder (σ 0) s p < σ 0 1 3 ∧ _) at hz
  refine V_aload_n hf dX8_barnacleAt_0 rfl rfl ?_
  refine V_iload_n hf dX8_barnacleAt_1 rfl rfl ?_
  refine B_callVv hf (As := [_]) (c_reqShip hl0 σ hR s hs hk) cv_X8_73 l01 rfl rfl rfl (Nat.le_of_ble_eq_true rfl) ⟨by decide, by decide, by decide, by decide⟩ dX8_barnacleAt_2 ?_
  refine V_aload_n hf dX8_barnacleAt_5 rfl rfl ?_
  refine B_get hf l01 rfl fl_X8_10_11 rfl dX8_barnacleAt_6 ?_
  refine B_get hf lm0 rfl fl_X8_64_7 rfl dX8_barnacleAt_9 ?_
  refine V_iload_n hf dX8_barnacleAt_12 rfl rfl ?_
  refine V_iload_n hf dX8_barnacleAt_13 rfl rfl ?_
  refine B_callVi hf (As := [_, _]) (c_inOrder hl0 0 lm0 σ hR hM.fl.2.1 s p hs hp) cv_X8_100 lm0 rfl rfl rfl (Nat.le_of_ble_eq_true rfl) ⟨by decide, by decide, by decide, by decide⟩ dX8_barnacleAt_14 ?_
  refine V_istore_n (ls2 := [_, _, _, _]) hf dX8_barnacleAt_17 rfl (by decide) rfl rfl ?_
  refine V_iload_n hf dX8_barnacleAt_18 rfl rfl ?_
  refine V_iconst hf dX8_barnacleAt_19 ?_
  refine V_icmp_ne (tgt := 33) hf ⟨by omega, by omega⟩ ⟨by omega, by omega⟩ dX8_barnacleAt_20 (by decide) (fun h20 => ?_) (fun h20 => ?_)
  · exact absurd h20 (by omega)
  · exact V_nthr hf he hh (text := "the ship has no barnacle at this position") (names := ["java/lang/RuntimeException", "java/lang/Exception"]) dnx_0 dnx_1 dnx_2 dnx_5 (by decide) (by decide) wk_X8_104 wx_NoSuchElementException (by decide) (at_X8_108) dX8_barnacleAt_23 dX8_barnacleAt_26 dX8_barnacleAt_27 dX8_barnacleAt_29 dX8_barnacleAt_32 ⟨by decide, (Nat.le_of_ble_eq_true rfl), by decide, by decide⟩ (by decide) (by decide) ⟨rfl, rfl, rfl⟩

set_option maxHeartbeats 4000000 in
set_option maxRecDepth 100000 in
theorem cy_barnacleAt {l : Launch} {D : va_G} {K : Nat → ClassId} {ad : Adr} (hl0 : l.stackTraces = false) (σ : Mem) (hR : Rng σ) (s : Int) (hs : inR s) (p : Int) (hp : inR p) (hk : ¬ (0 ≤ s ∧ s < σ 0 1 0)) : Cb l D K ad yX8_barnacleAt (.code yX8_barnacleAt cX8_barnacleAt 4 (some .int)) 9 1 6 σ [.ref (ad 0 23), .int (iN s), .int (iN p)] (.inr "java/lang/IndexOutOfBoundsException") σ := by
  refine Cb.of (own := RX8) (ls0 := [some (.ref (ad 0 23)), some (.int (iN s)), some (.int (iN p)), none]) hl0 (by decide) rfl (Nat.le_of_ble_eq_true rfl) rfl ?_
  intro X hX1 hX2 hX3 hf he hh
  subst hX1 hX2 hX3
  refine V_aload_n hf dX8_barnacleAt_0 rfl rfl ?_
  refine V_iload_n hf dX8_barnacleAt_1 rfl rfl ?_
  refine B_callVX hf (As := [_]) (cx_reqShip hl0 σ hR s hs hk) cv_X8_73 l01 rfl rfl rfl (Nat.le_of_ble_eq_true rfl) ⟨by decide, by decide, by decide, by decide⟩ dX8_barnacleAt_2 ?_
  exact VX_out hf he hh (by decide) (by decide) ⟨rfl, rfl, rfl⟩

set_option maxHeartbeats 4000000 in
set_option maxRecDepth 100000 in
theorem c_shipOfBid {l : Launch} {D : va_G} {K : Nat → ClassId} {ad : Adr} (hl0 : l.stackTraces = false) (σ : Mem) (hR : Rng σ) (hM : MI (σ 0)) (i : Int) (hi : inR i) (hk : rowId (σ 0) 6 i ≠ -1) : Cb l D K ad yX8_shipOfBid (.code yX8_shipOfBid cX8_shipOfBid 2 (some .int)) 9 1 6 σ [.ref (ad 0 23), .int (iN i)] (.inl (some (.int (iN (σ 0 8 (rowId (σ 0) 6 i)))))) σ := by
  refine Cb.of (own := RX8) (ls0 := [some (.ref (ad 0 23)), some (.int (iN i))]) hl0 (by decide) rfl (Nat.le_of_ble_eq_true rfl) rfl ?_
  intro X hX1 hX2 hX3 hf he hh
  subst hX1 hX2 hX3
  have h1 := hM.fl.1
  have h2 := hM.fl.2.1
  have h3 := hM.nb
  have h4 := hM.no
  have hz := rowId_r (σ 0) 6 i
  refine V_aload_n hf dX8_shipOfBid_0 rfl rfl ?_
  refine B_get hf l01 rfl fl_X8_10_11 rfl dX8_shipOfBid_1 ?_
  refine B_get hf lm0 rfl fl_X8_81_7 rfl dX8_shipOfBid_4 ?_
  refine B_get hf lm0 rfl fl_X8_136_4 rfl dX8_shipOfBid_7 ?_
  refine V_aload_n hf dX8_shipOfBid_10 rfl rfl ?_
  refine B_get hf l01 rfl fl_X8_10_11 rfl dX8_shipOfBid_11 ?_
  refine B_get hf lm0 rfl fl_X8_81_7 rfl dX8_shipOfBid_14 ?_
  refine V_iload_n hf dX8_shipOfBid_17 rfl rfl ?_
  refine B_callSi hf (As := [_, _]) (c_openRowB hl0 σ hR hM.nb i hi hk) cvs_X8_139 rfl (Nat.le_of_ble_eq_true rfl) ⟨by decide, by decide, by decide, by decide⟩ dX8_shipOfBid_18 ?_
  refine B_iald hf lm0 (fun _ => rfl) ⟨by omega, by omega⟩ (by omega) (by omega) dX8_shipOfBid_21 ?_
  exact B_iret hf he rfl dX8_shipOfBid_22 (by decide) (by decide) rfl rfl

set_option maxHeartbeats 4000000 in
set_option maxRecDepth 100000 in
theorem cx_shipOfBid {l : Launch} {D : va_G} {K : Nat → ClassId} {ad : Adr} (hl0 : l.stackTraces = false) (σ : Mem) (hR : Rng σ) (hM : MI (σ 0)) (i : Int) (hi : inR i) (hk : rowId (σ 0) 6 i = -1) : Cb l D K ad yX8_shipOfBid (.code yX8_shipOfBid cX8_shipOfBid 2 (some .int)) 9 1 6 σ [.ref (ad 0 23), .int (iN i)] (.inr "java/util/NoSuchElementException") σ := by
  refine Cb.of (own := RX8) (ls0 := [some (.ref (ad 0 23)), some (.int (iN i))]) hl0 (by decide) rfl (Nat.le_of_ble_eq_true rfl) rfl ?_
  intro X hX1 hX2 hX3 hf he hh
  subst hX1 hX2 hX3
  refine V_aload_n hf dX8_shipOfBid_0 rfl rfl ?_
  refine B_get hf l01 rfl fl_X8_10_11 rfl dX8_shipOfBid_1 ?_
  refine B_get hf lm0 rfl fl_X8_81_7 rfl dX8_shipOfBid_4 ?_
  refine B_get hf lm0 rfl fl_X8_136_4 rfl dX8_shipOfBid_7 ?_
  refine V_aload_n hf dX8_shipOfBid_10 rfl rfl ?_
  refine B_get hf l01 rfl fl_X8_10_11 rfl dX8_shipOfBid_11 ?_
  refine B_get hf lm0 rfl fl_X8_81_7 rfl dX8_shipOfBid_14 ?_
  refine V_iload_n hf dX8_shipOfBid_17 rfl rfl ?_
  refine B_callSX hf (As := [_, _]) (cx_openRowB hl0 σ hR hM.nb i hi hk) cvs_X8_139 rfl (Nat.le_of_ble_eq_true rfl) ⟨by decide, by decide, by decide, by decide⟩ dX8_shipOfBid_18 ?_
  exact VX_out hf he hh (by decide) (by decide) ⟨rfl, rfl, rfl⟩

set_option maxHeartbeats 4000000 in
set_option maxRecDepth 100000 in
theorem c_gradeOfBid {l : Launch} {D : va_G} {K : Nat → ClassId} {ad : Adr} (hl0 : l.stackTraces = false) (σ : Mem) (hR : Rng σ) (hM : MI (σ 0)) (i : Int) (hi : inR i) (hk : rowId (σ 0) 6 i ≠ -1) : Cb l D K ad yX8_gradeOfBid (.code yX8_gradeOfBid cX8_gradeOfBid 2 (some .int)) 9 1 6 σ [.ref (ad 0 23), .int (iN i)] (.inl (some (.int (iN (σ 0 9 (rowId (σ 0) 6 i)))))) σ := by
  refine Cb.of (own := RX8) (ls0 := [some (.ref (ad 0 23)), some (.int (iN i))]) hl0 (by decide) rfl (Nat.le_of_ble_eq_true rfl) rfl ?_
  intro X hX1 hX2 hX3 hf he hh
  subst hX1 hX2 hX3
  have h1 := hM.fl.1
  have h2 := hM.fl.2.1
  have h3 := hM.nb
  have h4 := hM.no
  have hz := rowId_r (σ 0) 6 i
  refine V_aload_n hf dX8_gradeOfBid_0 rfl rfl ?_
  refine B_get hf l01 rfl fl_X8_10_11 rfl dX8_gradeOfBid_1 ?_
  refine B_get hf lm0 rfl fl_X8_81_7 rfl dX8_gradeOfBid_4 ?_
  refine B_get hf lm0 rfl fl_X8_142_4 rfl dX8_gradeOfBid_7 ?_
  refine V_aload_n hf dX8_gradeOfBid_10 rfl rfl ?_
  refine B_get hf l01 rfl fl_X8_10_11 rfl dX8_gradeOfBid_11 ?_
  refine B_get hf lm0 rfl fl_X8_81_7 rfl dX8_gradeOfBid_14 ?_
  refine V_iload_n hf dX8_gradeOfBid_17 rfl rfl ?_
  refine B_callSi hf (As := [_, _]) (c_openRowB hl0 σ hR hM.nb i hi hk) cvs_X8_139 rfl (Nat.le_of_ble_eq_true rfl) ⟨by decide, by decide, by decide, by decide⟩ dX8_gradeOfBid_18 ?_
  refine B_iald hf lm0 (fun _ => rfl) ⟨by omega, by omega⟩ (by omega) (by omega) dX8_gradeOfBid_21 ?_
  exact B_iret hf he rfl dX8_gradeOfBid_22 (by decide) (by decide) rfl rfl

set_option maxHeartbeats 4000000 in
set_option maxRecDepth 100000 in
theorem cx_gradeOfBid {l : Launch} {D : va_G} {K : Nat → ClassId} {ad : Adr} (hl0 : l.stackTraces = false) (σ : Mem) (hR : Rng σ) (hM : MI (σ 0)) (i : Int) (hi : inR i) (hk : rowId (σ 0) 6 i = -1) : Cb l D K ad yX8_gradeOfBid (.code yX8_gradeOfBid cX8_gradeOfBid 2 (some .int)) 9 1 6 σ [.ref (ad 0 23), .int (iN i)] (.inr "java/util/NoSuchElementException") σ := by
  refine Cb.of (own := RX8) (ls0 := [some (.ref (ad 0 23)), some (.int (iN i))]) hl0 (by decide) rfl (Nat.le_of_ble_eq_true rfl) rfl ?_
  intro X hX1 hX2 hX3 hf he hh
  subst hX1 hX2 hX3
  refine V_aload_n hf dX8_gradeOfBid_0 rfl rfl ?_
  refine B_get hf l01 rfl fl_X8_10_11 rfl dX8_gradeOfBid_1 ?_
  refine B_get hf lm0 rfl fl_X8_81_7 rfl dX8_gradeOfBid_4 ?_
  refine B_get hf lm0 rfl fl_X8_142_4 rfl dX8_gradeOfBid_7 ?_
  refine V_aload_n hf dX8_gradeOfBid_10 rfl rfl ?_
  refine B_get hf l01 rfl fl_X8_10_11 rfl dX8_gradeOfBid_11 ?_
  refine B_get hf lm0 rfl fl_X8_81_7 rfl dX8_gradeOfBid_14 ?_
  refine V_iload_n hf dX8_gradeOfBid_17 rfl rfl ?_
  refine B_callSX hf (As := [_, _]) (cx_openRowB hl0 σ hR hM.nb i hi hk) cvs_X8_139 rfl (Nat.le_of_ble_eq_true rfl) ⟨by decide, by decide, by decide, by decide⟩ dX8_gradeOfBid_18 ?_
  exact VX_out hf he hh (by decide) (by decide) ⟨rfl, rfl, rfl⟩

set_option maxHeartbeats 4000000 in
set_option maxRecDepth 100000 in
theorem c_priceOfBid {l : Launch} {D : va_G} {K : Nat → ClassId} {ad : Adr} (hl0 : l.stackTraces = false) (σ : Mem) (hR : Rng σ) (hM : MI (σ 0)) (i : Int) (hi : inR i) (hk : rowId (σ 0) 6 i ≠ -1) : Cb l D K ad yX8_priceOfBid (.code yX8_priceOfBid cX8_priceOfBid 2 (some .int)) 9 1 6 σ [.ref (ad 0 23), .int (iN i)] (.inl (some (.int (iN (σ 0 10 (rowId (σ 0) 6 i)))))) σ := by
  refine Cb.of (own := RX8) (ls0 := [some (.ref (ad 0 23)), some (.int (iN i))]) hl0 (by decide) rfl (Nat.le_of_ble_eq_true rfl) rfl ?_
  intro X hX1 hX2 hX3 hf he hh
  subst hX1 hX2 hX3
  have h1 := hM.fl.1
  have h2 := hM.fl.2.1
  have h3 := hM.nb
  have h4 := hM.no
  have hz := rowId_r (σ 0) 6 i
  refine V_aload_n hf dX8_priceOfBid_0 rfl rfl ?_
  refine B_get hf l01 rfl fl_X8_10_11 rfl dX8_priceOfBid_1 ?_
  refine B_get hf lm0 rfl fl_X8_81_7 rfl dX8_priceOfBid_4 ?_
  refine B_get hf lm0 rfl fl_X8_143_4 rfl dX8_priceOfBid_7 ?_
  refine V_aload_n hf dX8_priceOfBid_10 rfl rfl ?_
  refine B_get hf l01 rfl fl_X8_10_11 rfl dX8_priceOfBid_11 ?_
  refine B_get hf lm0 rfl fl_X8_81_7 rfl dX8_priceOfBid_14 ?_
  refine V_iload_n hf dX8_priceOfBid_17 rfl rfl ?_
  refine B_callSi hf (As := [_, _]) (c_openRowB hl0 σ hR hM.nb i hi hk) cvs_X8_139 rfl (Nat.le_of_ble_eq_true rfl) ⟨by decide, by decide, by decide, by decide⟩ dX8_priceOfBid_18 ?_
  refine B_iald hf lm0 (fun _ => rfl) ⟨by omega, by omega⟩ (by omega) (by omega) dX8_priceOfBid_21 ?_
  exact B_iret hf he rfl dX8_priceOfBid_22 (by decide) (by decide) rfl rfl

set_option maxHeartbeats 4000000 in
set_option maxRecDepth 100000 in
theorem cx_priceOfBid {l : Launch} {D : va_G} {K : Nat → ClassId} {ad : Adr} (hl0 : l.stackTraces = false) (σ : Mem) (hR : Rng σ) (hM : MI (σ 0)) (i : Int) (hi : inR i) (hk : rowId (σ 0) 6 i = -1) : Cb l D K ad yX8_priceOfBid (.code yX8_priceOfBid cX8_priceOfBid 2 (some .int)) 9 1 6 σ [.ref (ad 0 23), .int (iN i)] (.inr "java/util/NoSuchElementException") σ := by
  refine Cb.of (own := RX8) (ls0 := [some (.ref (ad 0 23)), some (.int (iN i))]) hl0 (by decide) rfl (Nat.le_of_ble_eq_true rfl) rfl ?_
  intro X hX1 hX2 hX3 hf he hh
  subst hX1 hX2 hX3
  refine V_aload_n hf dX8_priceOfBid_0 rfl rfl ?_
  refine B_get hf l01 rfl fl_X8_10_11 rfl dX8_priceOfBid_1 ?_
  refine B_get hf lm0 rfl fl_X8_81_7 rfl dX8_priceOfBid_4 ?_
  refine B_get hf lm0 rfl fl_X8_143_4 rfl dX8_priceOfBid_7 ?_
  refine V_aload_n hf dX8_priceOfBid_10 rfl rfl ?_
  refine B_get hf l01 rfl fl_X8_10_11 rfl dX8_priceOfBid_11 ?_
  refine B_get hf lm0 rfl fl_X8_81_7 rfl dX8_priceOfBid_14 ?_
  refine V_iload_n hf dX8_priceOfBid_17 rfl rfl ?_
  refine B_callSX hf (As := [_, _]) (cx_openRowB hl0 σ hR hM.nb i hi hk) cvs_X8_139 rfl (Nat.le_of_ble_eq_true rfl) ⟨by decide, by decide, by decide, by decide⟩ dX8_priceOfBid_18 ?_
  exact VX_out hf he hh (by decide) (by decide) ⟨rfl, rfl, rfl⟩

set_option maxHeartbeats 4000000 in
set_option maxRecDepth 100000 in
theorem c_ageOfBid {l : Launch} {D : va_G} {K : Nat → ClassId} {ad : Adr} (hl0 : l.stackTraces = false) (σ : Mem) (hR : Rng σ) (hM : MI (σ 0)) (i : Int) (hi : inR i) (hk : rowId (σ 0) 6 i ≠ -1) : Cb l D K ad yX8_ageOfBid (.code yX8_ageOfBid cX8_ageOfBid 2 (some .int)) 9 1 6 σ [.ref (ad 0 23), .int (iN i)] (.inl (some (.int (iN (σ 0 11 (rowId (σ 0) 6 i)))))) σ := by
  refine Cb.of (own := RX8) (ls0 := [some (.ref (ad 0 23)), some (.int (iN i))]) hl0 (by decide) rfl (Nat.le_of_ble_eq_true rfl) rfl ?_
  intro X hX1 hX2 hX3 hf he hh
  subst hX1 hX2 hX3
  have h1 := hM.fl.1
  have h2 := hM.fl.2.1
  have h3 := hM.nb
  have h4 := hM.no
  have hz := rowId_r (σ 0) 6 i
  refine V_aload_n hf dX8_ageOfBid_0 rfl rfl ?_
  refine B_get hf l01 rfl fl_X8_10_11 rfl dX8_ageOfBid_1 ?_
  refine B_get hf lm0 rfl fl_X8_81_7 rfl dX8_ageOfBid_4 ?_
  refine B_get hf lm0 rfl fl_X8_146_4 rfl dX8_ageOfBid_7 ?_
  refine V_aload_n hf dX8_ageOfBid_10 rfl rfl ?_
  refine B_get hf l01 rfl fl_X8_10_11 rfl dX8_ageOfBid_11 ?_
  refine B_get hf lm0 rfl fl_X8_81_7 rfl dX8_ageOfBid_14 ?_
  refine V_iload_n hf dX8_ageOfBid_17 rfl rfl ?_
  refine B_callSi hf (As := [_, _]) (c_openRowB hl0 σ hR hM.nb i hi hk) cvs_X8_139 rfl (Nat.le_of_ble_eq_true rfl) ⟨by decide, by decide, by decide, by decide⟩ dX8_ageOfBid_18 ?_
  refine B_iald hf lm0 (fun _ => rfl) ⟨by omega, by omega⟩ (by omega) (by omega) dX8_ageOfBid_21 ?_
  exact B_iret hf he rfl dX8_ageOfBid_22 (by decide) (by decide) rfl rfl

set_option maxHeartbeats 4000000 in
set_option maxRecDepth 100000 in
theorem cx_ageOfBid {l : Launch} {D : va_G} {K : Nat → ClassId} {ad : Adr} (hl0 : l.stackTraces = false) (σ : Mem) (hR : Rng σ) (hM : MI (σ 0)) (i : Int) (hi : inR i) (hk : rowId (σ 0) 6 i = -1) : Cb l D K ad yX8_ageOfBid (.code yX8_ageOfBid cX8_ageOfBid 2 (some .int)) 9 1 6 σ [.ref (ad 0 23), .int (iN i)] (.inr "java/util/NoSuchElementException") σ := by
  refine Cb.of (own := RX8) (ls0 := [some (.ref (ad 0 23)), some (.int (iN i))]) hl0 (by decide) rfl (Nat.le_of_ble_eq_true rfl) rfl ?_
  intro X hX1 hX2 hX3 hf he hh
  subst hX1 hX2 hX3
  refine V_aload_n hf dX8_ageOfBid_0 rfl rfl ?_
  refine B_get hf l01 rfl fl_X8_10_11 rfl dX8_ageOfBid_1 ?_
  refine B_get hf lm0 rfl fl_X8_81_7 rfl dX8_ageOfBid_4 ?_
  refine B_get hf lm0 rfl fl_X8_146_4 rfl dX8_ageOfBid_7 ?_
  refine V_aload_n hf dX8_ageOfBid_10 rfl rfl ?_
  refine B_get hf l01 rfl fl_X8_10_11 rfl dX8_ageOfBid_11 ?_
  refine B_get hf lm0 rfl fl_X8_81_7 rfl dX8_ageOfBid_14 ?_
  refine V_iload_n hf dX8_ageOfBid_17 rfl rfl ?_
  refine B_callSX hf (As := [_, _]) (cx_openRowB hl0 σ hR hM.nb i hi hk) cvs_X8_139 rfl (Nat.le_of_ble_eq_true rfl) ⟨by decide, by decide, by decide, by decide⟩ dX8_ageOfBid_18 ?_
  exact VX_out hf he hh (by decide) (by decide) ⟨rfl, rfl, rfl⟩

set_option maxHeartbeats 4000000 in
set_option maxRecDepth 100000 in
theorem c_barnacleOfOffer {l : Launch} {D : va_G} {K : Nat → ClassId} {ad : Adr} (hl0 : l.stackTraces = false) (σ : Mem) (hR : Rng σ) (hM : MI (σ 0)) (i : Int) (hi : inR i) (hk : rowId (σ 0) 12 i ≠ -1) : Cb l D K ad yX8_barnacleOfOffer (.code yX8_barnacleOfOffer cX8_barnacleOfOffer 2 (some .int)) 9 1 6 σ [.ref (ad 0 23), .int (iN i)] (.inl (some (.int (iN (σ 0 14 (rowId (σ 0) 12 i)))))) σ := by
  refine Cb.of (own := RX8) (ls0 := [some (.ref (ad 0 23)), some (.int (iN i))]) hl0 (by decide) rfl (Nat.le_of_ble_eq_true rfl) rfl ?_
  intro X hX1 hX2 hX3 hf he hh
  subst hX1 hX2 hX3
  have h1 := hM.fl.1
  have h2 := hM.fl.2.1
  have h3 := hM.nb
  have h4 := hM.no
  have hz := rowId_r (σ 0) 12 i
  refine V_aload_n hf dX8_barnacleOfOffer_0 rfl rfl ?_
  refine B_get hf l01 rfl fl_X8_10_11 rfl dX8_barnacleOfOffer_1 ?_
  refine B_get hf lm0 rfl fl_X8_123_7 rfl dX8_barnacleOfOffer_4 ?_
  refine B_get hf lm0 rfl fl_X8_136_8 rfl dX8_barnacleOfOffer_7 ?_
  refine V_aload_n hf dX8_barnacleOfOffer_10 rfl rfl ?_
  refine B_get hf l01 rfl fl_X8_10_11 rfl dX8_barnacleOfOffer_11 ?_
  refine B_get hf lm0 rfl fl_X8_123_7 rfl dX8_barnacleOfOffer_14 ?_
  refine V_iload_n hf dX8_barnacleOfOffer_17 rfl rfl ?_
  refine B_callSi hf (As := [_, _]) (c_openRowO hl0 σ hR hM.no i hi hk) cvs_X8_139 rfl (Nat.le_of_ble_eq_true rfl) ⟨by decide, by decide, by decide, by decide⟩ dX8_barnacleOfOffer_18 ?_
  refine B_iald hf lm0 (fun _ => rfl) ⟨by omega, by omega⟩ (by omega) (by omega) dX8_barnacleOfOffer_21 ?_
  exact B_iret hf he rfl dX8_barnacleOfOffer_22 (by decide) (by decide) rfl rfl

set_option maxHeartbeats 4000000 in
set_option maxRecDepth 100000 in
theorem cx_barnacleOfOffer {l : Launch} {D : va_G} {K : Nat → ClassId} {ad : Adr} (hl0 : l.stackTraces = false) (σ : Mem) (hR : Rng σ) (hM : MI (σ 0)) (i : Int) (hi : inR i) (hk : rowId (σ 0) 12 i = -1) : Cb l D K ad yX8_barnacleOfOffer (.code yX8_barnacleOfOffer cX8_barnacleOfOffer 2 (some .int)) 9 1 6 σ [.ref (ad 0 23), .int (iN i)] (.inr "java/util/NoSuchElementException") σ := by
  refine Cb.of (own := RX8) (ls0 := [some (.ref (ad 0 23)), some (.int (iN i))]) hl0 (by decide) rfl (Nat.le_of_ble_eq_true rfl) rfl ?_
  intro X hX1 hX2 hX3 hf he hh
  subst hX1 hX2 hX3
  refine V_aload_n hf dX8_barnacleOfOffer_0 rfl rfl ?_
  refine B_get hf l01 rfl fl_X8_10_11 rfl dX8_barnacleOfOffer_1 ?_
  refine B_get hf lm0 rfl fl_X8_123_7 rfl dX8_barnacleOfOffer_4 ?_
  refine B_get hf lm0 rfl fl_X8_136_8 rfl dX8_barnacleOfOffer_7 ?_
  refine V_aload_n hf dX8_barnacleOfOffer_10 rfl rfl ?_
  refine B_get hf l01 rfl fl_X8_10_11 rfl dX8_barnacleOfOffer_11 ?_
  refine B_get hf lm0 rfl fl_X8_123_7 rfl dX8_barnacleOfOffer_14 ?_
  refine V_iload_n hf dX8_barnacleOfOffer_17 rfl rfl ?_
  refine B_callSX hf (As := [_, _]) (cx_openRowO hl0 σ hR hM.no i hi hk) cvs_X8_139 rfl (Nat.le_of_ble_eq_true rfl) ⟨by decide, by decide, by decide, by decide⟩ dX8_barnacleOfOffer_18 ?_
  exact VX_out hf he hh (by decide) (by decide) ⟨rfl, rfl, rfl⟩

set_option maxHeartbeats 4000000 in
set_option maxRecDepth 100000 in
theorem c_priceOfOffer {l : Launch} {D : va_G} {K : Nat → ClassId} {ad : Adr} (hl0 : l.stackTraces = false) (σ : Mem) (hR : Rng σ) (hM : MI (σ 0)) (i : Int) (hi : inR i) (hk : rowId (σ 0) 12 i ≠ -1) : Cb l D K ad yX8_priceOfOffer (.code yX8_priceOfOffer cX8_priceOfOffer 2 (some .int)) 9 1 6 σ [.ref (ad 0 23), .int (iN i)] (.inl (some (.int (iN (σ 0 16 (rowId (σ 0) 12 i)))))) σ := by
  refine Cb.of (own := RX8) (ls0 := [some (.ref (ad 0 23)), some (.int (iN i))]) hl0 (by decide) rfl (Nat.le_of_ble_eq_true rfl) rfl ?_
  intro X hX1 hX2 hX3 hf he hh
  subst hX1 hX2 hX3
  have h1 := hM.fl.1
  have h2 := hM.fl.2.1
  have h3 := hM.nb
  have h4 := hM.no
  have hz := rowId_r (σ 0) 12 i
  refine V_aload_n hf dX8_priceOfOffer_0 rfl rfl ?_
  refine B_get hf l01 rfl fl_X8_10_11 rfl dX8_priceOfOffer_1 ?_
  refine B_get hf lm0 rfl fl_X8_123_7 rfl dX8_priceOfOffer_4 ?_
  refine B_get hf lm0 rfl fl_X8_143_8 rfl dX8_priceOfOffer_7 ?_
  refine V_aload_n hf dX8_priceOfOffer_10 rfl rfl ?_
  refine B_get hf l01 rfl fl_X8_10_11 rfl dX8_priceOfOffer_11 ?_
  refine B_get hf lm0 rfl fl_X8_123_7 rfl dX8_priceOfOffer_14 ?_
  refine V_iload_n hf dX8_priceOfOffer_17 rfl rfl ?_
  refine B_callSi hf (As := [_, _]) (c_openRowO hl0 σ hR hM.no i hi hk) cvs_X8_139 rfl (Nat.le_of_ble_eq_true rfl) ⟨by decide, by decide, by decide, by decide⟩ dX8_priceOfOffer_18 ?_
  refine B_iald hf lm0 (fun _ => rfl) ⟨by omega, by omega⟩ (by omega) (by omega) dX8_priceOfOffer_21 ?_
  exact B_iret hf he rfl dX8_priceOfOffer_22 (by decide) (by decide) rfl rfl

set_option maxHeartbeats 4000000 in
set_option maxRecDepth 100000 in
theorem cx_priceOfOffer {l : Launch} {D : va_G} {K : Nat → ClassId} {ad : Adr} (hl0 : l.stackTraces = false) (σ : Mem) (hR : Rng σ) (hM : MI (σ 0)) (i : Int) (hi : inR i) (hk : rowId (σ 0) 12 i = -1) : Cb l D K ad yX8_priceOfOffer (.code yX8_priceOfOffer cX8_priceOfOffer 2 (some .int)) 9 1 6 σ [.ref (ad 0 23), .int (iN i)] (.inr "java/util/NoSuchElementException") σ := by
  refine Cb.of (own := RX8) (ls0 := [some (.ref (ad 0 23)), some (.int (iN i))]) hl0 (by decide) rfl (Nat.le_of_ble_eq_true rfl) rfl ?_
  intro X hX1 hX2 hX3 hf he hh
  subst hX1 hX2 hX3
  refine V_aload_n hf dX8_priceOfOffer_0 rfl rfl ?_
  refine B_get hf l01 rfl fl_X8_10_11 rfl dX8_priceOfOffer_1 ?_
  refine B_get hf lm0 rfl fl_X8_123_7 rfl dX8_priceOfOffer_4 ?_
  refine B_get hf lm0 rfl fl_X8_143_8 rfl dX8_priceOfOffer_7 ?_
  refine V_aload_n hf dX8_priceOfOffer_10 rfl rfl ?_
  refine B_get hf l01 rfl fl_X8_10_11 rfl dX8_priceOfOffer_11 ?_
  refine B_get hf lm0 rfl fl_X8_123_7 rfl dX8_priceOfOffer_14 ?_
  refine V_iload_n hf dX8_priceOfOffer_17 rfl rfl ?_
  refine B_callSX hf (As := [_, _]) (cx_openRowO hl0 σ hR hM.no i hi hk) cvs_X8_139 rfl (Nat.le_of_ble_eq_true rfl) ⟨by decide, by decide, by decide, by decide⟩ dX8_priceOfOffer_18 ?_
  exact VX_out hf he hh (by decide) (by decide) ⟨rfl, rfl, rfl⟩

set_option maxHeartbeats 4000000 in
set_option maxRecDepth 100000 in
theorem c_ageOfOffer {l : Launch} {D : va_G} {K : Nat → ClassId} {ad : Adr} (hl0 : l.stackTraces = false) (σ : Mem) (hR : Rng σ) (hM : MI (σ 0)) (i : Int) (hi : inR i) (hk : rowId (σ 0) 12 i ≠ -1) : Cb l D K ad yX8_ageOfOffer (.code yX8_ageOfOffer cX8_ageOfOffer 2 (some .int)) 9 1 6 σ [.ref (ad 0 23), .int (iN i)] (.inl (some (.int (iN (σ 0 17 (rowId (σ 0) 12 i)))))) σ := by
  refine Cb.of (own := RX8) (ls0 := [some (.ref (ad 0 23)), some (.int (iN i))]) hl0 (by decide) rfl (Nat.le_of_ble_eq_true rfl) rfl ?_
  intro X hX1 hX2 hX3 hf he hh
  subst hX1 hX2 hX3
  have h1 := hM.fl.1
  have h2 := hM.fl.2.1
  have h3 := hM.nb
  have h4 := hM.no
  have hz := rowId_r (σ 0) 12 i
  refine V_aload_n hf dX8_ageOfOffer_0 rfl rfl ?_
  refine B_get hf l01 rfl fl_X8_10_11 rfl dX8_ageOfOffer_1 ?_
  refine B_get hf lm0 rfl fl_X8_123_7 rfl dX8_ageOfOffer_4 ?_
  refine B_get hf lm0 rfl fl_X8_146_8 rfl dX8_ageOfOffer_7 ?_
  refine V_aload_n hf dX8_ageOfOffer_10 rfl rfl ?_
  refine B_get hf l01 rfl fl_X8_10_11 rfl dX8_ageOfOffer_11 ?_
  refine B_get hf lm0 rfl fl_X8_123_7 rfl dX8_ageOfOffer_14 ?_
  refine V_iload_n hf dX8_ageOfOffer_17 rfl rfl ?_
  refine B_callSi hf (As := [_, _]) (c_openRowO hl0 σ hR hM.no i hi hk) cvs_X8_139 rfl (Nat.le_of_ble_eq_true rfl) ⟨by decide, by decide, by decide, by decide⟩ dX8_ageOfOffer_18 ?_
  refine B_iald hf lm0 (fun _ => rfl) ⟨by omega, by omega⟩ (by omega) (by omega) dX8_ageOfOffer_21 ?_
  exact B_iret hf he rfl dX8_ageOfOffer_22 (by decide) (by decide) rfl rfl

set_option maxHeartbeats 4000000 in
set_option maxRecDepth 100000 in
theorem cx_ageOfOffer {l : Launch} {D : va_G} {K : Nat → ClassId} {ad : Adr} (hl0 : l.stackTraces = false) (σ : Mem) (hR : Rng σ) (hM : MI (σ 0)) (i : Int) (hi : inR i) (hk : rowId (σ 0) 12 i = -1) : Cb l D K ad yX8_ageOfOffer (.code yX8_ageOfOffer cX8_ageOfOffer 2 (some .int)) 9 1 6 σ [.ref (ad 0 23), .int (iN i)] (.inr "java/util/NoSuchElementException") σ := by
  refine Cb.of (own := RX8) (ls0 := [some (.ref (ad 0 23)), some (.int (iN i))]) hl0 (by decide) rfl (Nat.le_of_ble_eq_true rfl) rfl ?_
  intro X hX1 hX2 hX3 hf he hh
  subst hX1 hX2 hX3
  refine V_aload_n hf dX8_ageOfOffer_0 rfl rfl ?_
  refine B_get hf l01 rfl fl_X8_10_11 rfl dX8_ageOfOffer_1 ?_
  refine B_get hf lm0 rfl fl_X8_123_7 rfl dX8_ageOfOffer_4 ?_
  refine B_get hf lm0 rfl fl_X8_146_8 rfl dX8_ageOfOffer_7 ?_
  refine V_aload_n hf dX8_ageOfOffer_10 rfl rfl ?_
  refine B_get hf l01 rfl fl_X8_10_11 rfl dX8_ageOfOffer_11 ?_
  refine B_get hf lm0 rfl fl_X8_123_7 rfl dX8_ageOfOffer_14 ?_
  refine V_iload_n hf dX8_ageOfOffer_17 rfl rfl ?_
  refine B_callSX hf (As := [_, _]) (cx_openRowO hl0 σ hR hM.no i hi hk) cvs_X8_139 rfl (Nat.le_of_ble_eq_true rfl) ⟨by decide, by decide, by decide, by decide⟩ dX8_ageOfOffer_18 ?_
  exact VX_out hf he hh (by decide) (by decide) ⟨rfl, rfl, rfl⟩

set_option maxHeartbeats 4000000 in
set_option maxRecDepth 100000 in
theorem c_bidAt {l : Launch} {D : va_G} {K : Nat → ClassId} {ad : Adr} (hl0 : l.stackTraces = false) (σ : Mem) (hR : Rng σ) (hM : MI (σ 0)) (i : Int) (hi : inR i) (hk : 0 ≤ i ∧ i < σ 0 6 0) : Cb l D K ad yX8_bidAt (.code yX8_bidAt cX8_bidAt 2 (some .int)) 9 1 6 σ [.ref (ad 0 23), .int (iN i)] (.inl (some (.int (iN (σ 0 7 i))))) σ := by
  refine Cb.of (own := RX8) (ls0 := [some (.ref (ad 0 23)), some (.int (iN i))]) hl0 (by decide) rfl (Nat.le_of_ble_eq_true rfl) rfl ?_
  intro X hX1 hX2 hX3 hf he hh
  subst hX1 hX2 hX3
  refine V_aload_n hf dX8_bidAt_0 rfl rfl ?_
  refine B_get hf l01 rfl fl_X8_10_11 rfl dX8_bidAt_1 ?_
  refine B_get hf lm0 rfl fl_X8_81_7 rfl dX8_bidAt_4 ?_
  refine V_iload_n hf dX8_bidAt_7 rfl rfl ?_
  refine B_callSi hf (As := [_, _]) (c_idAtB hl0 σ hR hM.nb i hi hk) cvs_X8_132 rfl (Nat.le_of_ble_eq_true rfl) ⟨by decide, by decide, by decide, by decide⟩ dX8_bidAt_8 ?_
  exact B_iret hf he rfl dX8_bidAt_11 (by decide) (by decide) rfl rfl

set_option maxHeartbeats 4000000 in
set_option maxRecDepth 100000 in
theorem cx_bidAt {l : Launch} {D : va_G} {K : Nat → ClassId} {ad : Adr} (hl0 : l.stackTraces = false) (σ : Mem) (hR : Rng σ) (hM : MI (σ 0)) (i : Int) (hi : inR i) (hk : ¬ (0 ≤ i ∧ i < σ 0 6 0)) : Cb l D K ad yX8_bidAt (.code yX8_bidAt cX8_bidAt 2 (some .int)) 9 1 6 σ [.ref (ad 0 23), .int (iN i)] (.inr "java/util/NoSuchElementException") σ := by
  refine Cb.of (own := RX8) (ls0 := [some (.ref (ad 0 23)), some (.int (iN i))]) hl0 (by decide) rfl (Nat.le_of_ble_eq_true rfl) rfl ?_
  intro X hX1 hX2 hX3 hf he hh
  subst hX1 hX2 hX3
  refine V_aload_n hf dX8_bidAt_0 rfl rfl ?_
  refine B_get hf l01 rfl fl_X8_10_11 rfl dX8_bidAt_1 ?_
  refine B_get hf lm0 rfl fl_X8_81_7 rfl dX8_bidAt_4 ?_
  refine V_iload_n hf dX8_bidAt_7 rfl rfl ?_
  refine B_callSX hf (As := [_, _]) (cx_idAtB hl0 σ hR hM.nb i hi hk) cvs_X8_132 rfl (Nat.le_of_ble_eq_true rfl) ⟨by decide, by decide, by decide, by decide⟩ dX8_bidAt_8 ?_
  exact VX_out hf he hh (by decide) (by decide) ⟨rfl, rfl, rfl⟩

set_option maxHeartbeats 4000000 in
set_option maxRecDepth 100000 in
theorem c_offerAt {l : Launch} {D : va_G} {K : Nat → ClassId} {ad : Adr} (hl0 : l.stackTraces = false) (σ : Mem) (hR : Rng σ) (hM : MI (σ 0)) (i : Int) (hi : inR i) (hk : 0 ≤ i ∧ i < σ 0 12 0) : Cb l D K ad yX8_offerAt (.code yX8_offerAt cX8_offerAt 2 (some .int)) 9 1 6 σ [.ref (ad 0 23), .int (iN i)] (.inl (some (.int (iN (σ 0 13 i))))) σ := by
  refine Cb.of (own := RX8) (ls0 := [some (.ref (ad 0 23)), some (.int (iN i))]) hl0 (by decide) rfl (Nat.le_of_ble_eq_true rfl) rfl ?_
  intro X hX1 hX2 hX3 hf he hh
  subst hX1 hX2 hX3
  refine V_aload_n hf dX8_offerAt_0 rfl rfl ?_
  refine B_get hf l01 rfl fl_X8_10_11 rfl dX8_offerAt_1 ?_
  refine B_get hf lm0 rfl fl_X8_123_7 rfl dX8_offerAt_4 ?_
  refine V_iload_n hf dX8_offerAt_7 rfl rfl ?_
  refine B_callSi hf (As := [_, _]) (c_idAtO hl0 σ hR hM.no i hi hk) cvs_X8_132 rfl (Nat.le_of_ble_eq_true rfl) ⟨by decide, by decide, by decide, by decide⟩ dX8_offerAt_8 ?_
  exact B_iret hf he rfl dX8_offerAt_11 (by decide) (by decide) rfl rfl

set_option maxHeartbeats 4000000 in
set_option maxRecDepth 100000 in
theorem cx_offerAt {l : Launch} {D : va_G} {K : Nat → ClassId} {ad : Adr} (hl0 : l.stackTraces = false) (σ : Mem) (hR : Rng σ) (hM : MI (σ 0)) (i : Int) (hi : inR i) (hk : ¬ (0 ≤ i ∧ i < σ 0 12 0)) : Cb l D K ad yX8_offerAt (.code yX8_offerAt cX8_offerAt 2 (some .int)) 9 1 6 σ [.ref (ad 0 23), .int (iN i)] (.inr "java/util/NoSuchElementException") σ := by
  refine Cb.of (own := RX8) (ls0 := [some (.ref (ad 0 23)), some (.int (iN i))]) hl0 (by decide) rfl (Nat.le_of_ble_eq_true rfl) rfl ?_
  intro X hX1 hX2 hX3 hf he hh
  subst hX1 hX2 hX3
  refine V_aload_n hf dX8_offerAt_0 rfl rfl ?_
  refine B_get hf l01 rfl fl_X8_10_11 rfl dX8_offerAt_1 ?_
  refine B_get hf lm0 rfl fl_X8_123_7 rfl dX8_offerAt_4 ?_
  refine V_iload_n hf dX8_offerAt_7 rfl rfl ?_
  refine B_callSX hf (As := [_, _]) (cx_idAtO hl0 σ hR hM.no i hi hk) cvs_X8_132 rfl (Nat.le_of_ble_eq_true rfl) ⟨by decide, by decide, by decide, by decide⟩ dX8_offerAt_8 ?_
  exact VX_out hf he hh (by decide) (by decide) ⟨rfl, rfl, rfl⟩

set_option maxHeartbeats 4000000 in
set_option maxRecDepth 100000 in
theorem c_matchFor {l : Launch} {D : va_G} {K : Nat → ClassId} {ad : Adr} (hl0 : l.stackTraces = false) (σ : Mem) (hR : Rng σ) (hM : MI (σ 0)) (i : Int) (hi : inR i) (hk : rowId (σ 0) 6 i ≠ -1) (hq : matchO (σ 0) (rowId (σ 0) 6 i) ≠ -1) : Cb l D K ad yX8_matchFor (.code yX8_matchFor cX8_matchFor 2 (some .int)) 9 1 6 σ [.ref (ad 0 23), .int (iN i)] (.inl (some (.int (iN (σ 0 13 (matchO (σ 0) (rowId (σ 0) 6 i))))))) σ := by
  refine Cb.of (own := RX8) (ls0 := [some (.ref (ad 0 23)), some (.int (iN i))]) hl0 (by decide) rfl (Nat.le_of_ble_eq_true rfl) rfl ?_
  intro X hX1 hX2 hX3 hf he hh
  subst hX1 hX2 hX3
  have h1 := hM.fl.1
  have h2 := hM.fl.2.1
  have h3 := hM.nb
  have h4 := hM.no
  have hz := rowId_r (σ 0) 6 i
  have hy := matchO_r (σ 0) (rowId (σ 0) 6 i)
  refine V_aload_n hf dX8_matchFor_0 rfl rfl ?_
  refine V_aload_n hf dX8_matchFor_1 rfl rfl ?_
  refine B_get hf l01 rfl fl_X8_10_11 rfl dX8_matchFor_2 ?_
  refine V_aload_n hf dX8_matchFor_5 rfl rfl ?_
  refine B_get hf l01 rfl fl_X8_10_11 rfl dX8_matchFor_6 ?_
  refine B_get hf lm0 rfl fl_X8_81_7 rfl dX8_matchFor_9 ?_
  refine V_iload_n hf dX8_matchFor_12 rfl rfl ?_
  refine B_callSi hf (As := [_, _]) (c_openRowB hl0 σ hR hM.nb i hi hk) cvs_X8_139 rfl (Nat.le_of_ble_eq_true rfl) ⟨by decide, by decide, by decide, by decide⟩ dX8_matchFor_13 ?_
  refine B_callVi hf (As := [_]) (c_matchO hl0 0 lm0 σ hR hM (rowId (σ 0) 6 i) ⟨by omega, by omega⟩) cv_X8_149 lm0 rfl rfl rfl (Nat.le_of_ble_eq_true rfl) ⟨by decide, by decide, by decide, by decide⟩ dX8_matchFor_16 ?_
  refine B_callVi hf (As := [_]) (c_matched hl0 σ hR (matchO (σ 0) (rowId (σ 0) 6 i)) ⟨by omega, by omega⟩ ⟨by omega, by omega⟩) cv_X8_152 l01 rfl rfl rfl (Nat.le_of_ble_eq_true rfl) ⟨by decide, by decide, by decide, by decide⟩ dX8_matchFor_19 ?_
  exact B_iret hf he rfl dX8_matchFor_22 (by decide) (by decide) rfl rfl

set_option maxHeartbeats 4000000 in
set_option maxRecDepth 100000 in
theorem cx_matchFor {l : Launch} {D : va_G} {K : Nat → ClassId} {ad : Adr} (hl0 : l.stackTraces = false) (σ : Mem) (hR : Rng σ) (hM : MI (σ 0)) (i : Int) (hi : inR i) (hk : rowId (σ 0) 6 i ≠ -1) (hq : matchO (σ 0) (rowId (σ 0) 6 i) = -1) : Cb l D K ad yX8_matchFor (.code yX8_matchFor cX8_matchFor 2 (some .int)) 9 1 6 σ [.ref (ad 0 23), .int (iN i)] (.inr "java/util/NoSuchElementException") σ := by
  refine Cb.of (own := RX8) (ls0 := [some (.ref (ad 0 23)), some (.int (iN i))]) hl0 (by decide) rfl (Nat.le_of_ble_eq_true rfl) rfl ?_
  intro X hX1 hX2 hX3 hf he hh
  subst hX1 hX2 hX3
  have h1 := hM.fl.1
  have h2 := hM.fl.2.1
  have h3 := hM.nb
  have h4 := hM.no
  have hz := rowId_r (σ 0) 6 i
  have hy := matchO_r (σ 0) (rowId (σ 0) 6 i)
  refine V_aload_n hf dX8_matchFor_0 rfl rfl ?_
  refine V_aload_n hf dX8_matchFor_1 rfl rfl ?_
  refine B_get hf l01 rfl fl_X8_10_11 rfl dX8_matchFor_2 ?_
  refine V_aload_n hf dX8_matchFor_5 rfl rfl ?_
  refine B_get hf l01 rfl fl_X8_10_11 rfl dX8_matchFor_6 ?_
  refine B_get hf lm0 rfl fl_X8_81_7 rfl dX8_matchFor_9 ?_
  refine V_iload_n hf dX8_matchFor_12 rfl rfl ?_
  refine B_callSi hf (As := [_, _]) (c_openRowB hl0 σ hR hM.nb i hi hk) cvs_X8_139 rfl (Nat.le_of_ble_eq_true rfl) ⟨by decide, by decide, by decide, by decide⟩ dX8_matchFor_13 ?_
  refine B_callVi hf (As := [_]) (c_matchO hl0 0 lm0 σ hR hM (rowId (σ 0) 6 i) ⟨by omega, by omega⟩) cv_X8_149 lm0 rfl rfl rfl (Nat.le_of_ble_eq_true rfl) ⟨by decide, by decide, by decide, by decide⟩ dX8_matchFor_16 ?_
  refine B_callVX hf (As := [_]) (cx_matched hl0 σ hR (matchO (σ 0) (rowId (σ 0) 6 i)) ⟨by omega, by omega⟩ hq) cv_X8_152 l01 rfl rfl rfl (Nat.le_of_ble_eq_true rfl) ⟨by decide, by decide, by decide, by decide⟩ dX8_matchFor_19 ?_
  exact VX_out hf he hh (by decide) (by decide) ⟨rfl, rfl, rfl⟩

set_option maxHeartbeats 4000000 in
set_option maxRecDepth 100000 in
theorem cy_matchFor {l : Launch} {D : va_G} {K : Nat → ClassId} {ad : Adr} (hl0 : l.stackTraces = false) (σ : Mem) (hR : Rng σ) (hM : MI (σ 0)) (i : Int) (hi : inR i) (hk : rowId (σ 0) 6 i = -1) : Cb l D K ad yX8_matchFor (.code yX8_matchFor cX8_matchFor 2 (some .int)) 9 1 6 σ [.ref (ad 0 23), .int (iN i)] (.inr "java/util/NoSuchElementException") σ := by
  refine Cb.of (own := RX8) (ls0 := [some (.ref (ad 0 23)), some (.int (iN i))]) hl0 (by decide) rfl (Nat.le_of_ble_eq_true rfl) rfl ?_
  intro X hX1 hX2 hX3 hf he hh
  subst hX1 hX2 hX3
  refine V_aload_n hf dX8_matchFor_0 rfl rfl ?_
  refine V_aload_n hf dX8_matchFor_1 rfl rfl ?_
  refine B_get hf l01 rfl fl_X8_10_11 rfl dX8_matchFor_2 ?_
  refine V_aload_n hf dX8_matchFor_5 rfl rfl ?_
  refine B_get hf l01 rfl fl_X8_10_11 rfl dX8_matchFor_6 ?_
  refine B_get hf lm0 rfl fl_X8_81_7 rfl dX8_matchFor_9 ?_
  refine V_iload_n hf dX8_matchFor_12 rfl rfl ?_
  refine B_callSX hf (As := [_, _]) (cx_openRowB hl0 σ hR hM.nb i hi hk) cvs_X8_139 rfl (Nat.le_of_ble_eq_true rfl) ⟨by decide, by decide, by decide, by decide⟩ dX8_matchFor_13 ?_
  exact VX_out hf he hh (by decide) (by decide) ⟨rfl, rfl, rfl⟩

set_option maxHeartbeats 4000000 in
set_option maxRecDepth 100000 in
theorem c_matchByBarnacles {l : Launch} {D : va_G} {K : Nat → ClassId} {ad : Adr} (hl0 : l.stackTraces = false) (σ : Mem) (hR : Rng σ) (hM : MI (σ 0)) (i : Int) (hi : inR i) (hk : rowId (σ 0) 6 i ≠ -1) (hq : bestAB (σ 0) (rowId (σ 0) 6 i) ≠ -1) : Cb l D K ad yX8_matchByBarnacles (.code yX8_matchByBarnacles cX8_matchByBarnacles 2 (some .int)) 9 1 6 σ [.ref (ad 0 23), .int (iN i)] (.inl (some (.int (iN (σ 0 13 (bestAB (σ 0) (rowId (σ 0) 6 i))))))) σ := by
  refine Cb.of (own := RX8) (ls0 := [some (.ref (ad 0 23)), some (.int (iN i))]) hl0 (by decide) rfl (Nat.le_of_ble_eq_true rfl) rfl ?_
  intro X hX1 hX2 hX3 hf he hh
  subst hX1 hX2 hX3
  have h1 := hM.fl.1
  have h2 := hM.fl.2.1
  have h3 := hM.nb
  have h4 := hM.no
  have hz := rowId_r (σ 0) 6 i
  have hy := bestN_r (σ 0) (rowId (σ 0) 6 i) (σ 0 1 3).toNat
  change -1 ≤ bestAB (σ 0) (rowId (σ 0) 6 i) ∧ (bestAB (σ 0) (rowId (σ 0) 6 i) < σ 0 12 0 ∨ bestAB (σ 0) (rowId (σ 0) 6 i) = -1) at hy
  refine V_aload_n hf dX8_matchByBarnacles_0 rfl rfl ?_
  refine V_aload_n hf dX8_matchByBarnacles_1 rfl rfl ?_
  refine B_get hf l01 rfl fl_X8_10_11 rfl dX8_matchByBarnacles_2 ?_
  refine V_aload_n hf dX8_matchByBarnacles_5 rfl rfl ?_
  refine B_get hf l01 rfl fl_X8_10_11 rfl dX8_matchByBarnacles_6 ?_
  refine B_get hf lm0 rfl fl_X8_81_7 rfl dX8_matchByBarnacles_9 ?_
  refine V_iload_n hf dX8_matchByBarnacles_12 rfl rfl ?_
  refine B_callSi hf (As := [_, _]) (c_openRowB hl0 σ hR hM.nb i hi hk) cvs_X8_139 rfl (Nat.le_of_ble_eq_true rfl) ⟨by decide, by decide, by decide, by decide⟩ dX8_matchByBarnacles_13 ?_
  refine B_callVi hf (As := [_]) (c_bestAB hl0 0 lm0 σ hR hM (rowId (σ 0) 6 i) ⟨by omega, by omega⟩) cv_X8_155 lm0 rfl rfl rfl (Nat.le_of_ble_eq_true rfl) ⟨by decide, by decide, by decide, by decide⟩ dX8_matchByBarnacles_16 ?_
  refine B_callVi hf (As := [_]) (c_matched hl0 σ hR (bestAB (σ 0) (rowId (σ 0) 6 i)) ⟨by omega, by omega⟩ ⟨by omega, by omega⟩) cv_X8_152 l01 rfl rfl rfl (Nat.le_of_ble_eq_true rfl) ⟨by decide, by decide, by decide, by decide⟩ dX8_matchByBarnacles_19 ?_
  exact B_iret hf he rfl dX8_matchByBarnacles_22 (by decide) (by decide) rfl rfl

set_option maxHeartbeats 4000000 in
set_option maxRecDepth 100000 in
theorem cx_matchByBarnacles {l : Launch} {D : va_G} {K : Nat → ClassId} {ad : Adr} (hl0 : l.stackTraces = false) (σ : Mem) (hR : Rng σ) (hM : MI (σ 0)) (i : Int) (hi : inR i) (hk : rowId (σ 0) 6 i ≠ -1) (hq : bestAB (σ 0) (rowId (σ 0) 6 i) = -1) : Cb l D K ad yX8_matchByBarnacles (.code yX8_matchByBarnacles cX8_matchByBarnacles 2 (some .int)) 9 1 6 σ [.ref (ad 0 23), .int (iN i)] (.inr "java/util/NoSuchElementException") σ := by
  refine Cb.of (own := RX8) (ls0 := [some (.ref (ad 0 23)), some (.int (iN i))]) hl0 (by decide) rfl (Nat.le_of_ble_eq_true rfl) rfl ?_
  intro X hX1 hX2 hX3 hf he hh
  subst hX1 hX2 hX3
  have h1 := hM.fl.1
  have h2 := hM.fl.2.1
  have h3 := hM.nb
  have h4 := hM.no
  have hz := rowId_r (σ 0) 6 i
  have hy := bestN_r (σ 0) (rowId (σ 0) 6 i) (σ 0 1 3).toNat
  change -1 ≤ bestAB (σ 0) (rowId (σ 0) 6 i) ∧ (bestAB (σ 0) (rowId (σ 0) 6 i) < σ 0 12 0 ∨ bestAB (σ 0) (rowId (σ 0) 6 i) = -1) at hy
  refine V_aload_n hf dX8_matchByBarnacles_0 rfl rfl ?_
  refine V_aload_n hf dX8_matchByBarnacles_1 rfl rfl ?_
  refine B_get hf l01 rfl fl_X8_10_11 rfl dX8_matchByBarnacles_2 ?_
  refine V_aload_n hf dX8_matchByBarnacles_5 rfl rfl ?_
  refine B_get hf l01 rfl fl_X8_10_11 rfl dX8_matchByBarnacles_6 ?_
  refine B_get hf lm0 rfl fl_X8_81_7 rfl dX8_matchByBarnacles_9 ?_
  refine V_iload_n hf dX8_matchByBarnacles_12 rfl rfl ?_
  refine B_callSi hf (As := [_, _]) (c_openRowB hl0 σ hR hM.nb i hi hk) cvs_X8_139 rfl (Nat.le_of_ble_eq_true rfl) ⟨by decide, by decide, by decide, by decide⟩ dX8_matchByBarnacles_13 ?_
  refine B_callVi hf (As := [_]) (c_bestAB hl0 0 lm0 σ hR hM (rowId (σ 0) 6 i) ⟨by omega, by omega⟩) cv_X8_155 lm0 rfl rfl rfl (Nat.le_of_ble_eq_true rfl) ⟨by decide, by decide, by decide, by decide⟩ dX8_matchByBarnacles_16 ?_
  refine B_callVX hf (As := [_]) (cx_matched hl0 σ hR (bestAB (σ 0) (rowId (σ 0) 6 i)) ⟨by omega, by omega⟩ hq) cv_X8_152 l01 rfl rfl rfl (Nat.le_of_ble_eq_true rfl) ⟨by decide, by decide, by decide, by decide⟩ dX8_matchByBarnacles_19 ?_
  exact VX_out hf he hh (by decide) (by decide) ⟨rfl, rfl, rfl⟩

set_option maxHeartbeats 4000000 in
set_option maxRecDepth 100000 in
theorem cy_matchByBarnacles {l : Launch} {D : va_G} {K : Nat → ClassId} {ad : Adr} (hl0 : l.stackTraces = false) (σ : Mem) (hR : Rng σ) (hM : MI (σ 0)) (i : Int) (hi : inR i) (hk : rowId (σ 0) 6 i = -1) : Cb l D K ad yX8_matchByBarnacles (.code yX8_matchByBarnacles cX8_matchByBarnacles 2 (some .int)) 9 1 6 σ [.ref (ad 0 23), .int (iN i)] (.inr "java/util/NoSuchElementException") σ := by
  refine Cb.of (own := RX8) (ls0 := [some (.ref (ad 0 23)), some (.int (iN i))]) hl0 (by decide) rfl (Nat.le_of_ble_eq_true rfl) rfl ?_
  intro X hX1 hX2 hX3 hf he hh
  subst hX1 hX2 hX3
  refine V_aload_n hf dX8_matchByBarnacles_0 rfl rfl ?_
  refine V_aload_n hf dX8_matchByBarnacles_1 rfl rfl ?_
  refine B_get hf l01 rfl fl_X8_10_11 rfl dX8_matchByBarnacles_2 ?_
  refine V_aload_n hf dX8_matchByBarnacles_5 rfl rfl ?_
  refine B_get hf l01 rfl fl_X8_10_11 rfl dX8_matchByBarnacles_6 ?_
  refine B_get hf lm0 rfl fl_X8_81_7 rfl dX8_matchByBarnacles_9 ?_
  refine V_iload_n hf dX8_matchByBarnacles_12 rfl rfl ?_
  refine B_callSX hf (As := [_, _]) (cx_openRowB hl0 σ hR hM.nb i hi hk) cvs_X8_139 rfl (Nat.le_of_ble_eq_true rfl) ⟨by decide, by decide, by decide, by decide⟩ dX8_matchByBarnacles_13 ?_
  exact VX_out hf he hh (by decide) (by decide) ⟨rfl, rfl, rfl⟩

set_option maxHeartbeats 4000000 in
set_option maxRecDepth 100000 in
theorem c_spread {l : Launch} {D : va_G} {K : Nat → ClassId} {ad : Adr} (hl0 : l.stackTraces = false) (σ : Mem) (hR : Rng σ) (hk : ¬ (σ 0 6 0 = 0 ∨ σ 0 12 0 = 0)) : Cb l D K ad yX8_spread (.code yX8_spread cX8_spread 1 (some .int)) 9 1 6 σ [.ref (ad 0 23)] (.inl (some (.int (iN (σ 0 10 0 - σ 0 16 0))))) σ := by
  refine Cb.of (own := RX8) (ls0 := [some (.ref (ad 0 23))]) hl0 (by decide) rfl (Nat.le_of_ble_eq_true rfl) rfl ?_
  intro X hX1 hX2 hX3 hf he hh
  subst hX1 hX2 hX3
  refine V_aload_n hf dX8_spread_0 rfl rfl ?_
  refine B_get hf l01 rfl fl_X8_10_11 rfl dX8_spread_1 ?_
  refine B_get hf lm0 rfl fl_X8_81_7 rfl dX8_spread_4 ?_
  refine B_get hf lm0 rfl fl_X8_129_4 rfl dX8_spread_7 ?_
  refine V_if_eq (tgt := 26) hf (by first | exact hR _ _ _ (by decide) | exact ⟨by omega, by omega⟩) dX8_spread_10 (by decide) (fun h10 => ?_) (fun h10 => ?_)
  · exact absurd h10 (by omega)
  · refine V_aload_n hf dX8_spread_13 rfl rfl ?_
    refine B_get hf l01 rfl fl_X8_10_11 rfl dX8_spread_14 ?_
    refine B_get hf lm0 rfl fl_X8_123_7 rfl dX8_spread_17 ?_
    refine B_get hf lm0 rfl fl_X8_129_8 rfl dX8_spread_20 ?_
    refine V_if_ne (tgt := 36) hf (by first | exact hR _ _ _ (by decide) | exact ⟨by omega, by omega⟩) dX8_spread_23 (by decide) (fun h23 => ?_) (fun h23 => ?_)
    · refine V_aload_n hf dX8_spread_36 rfl rfl ?_
      refine B_get hf l01 rfl fl_X8_10_11 rfl dX8_spread_37 ?_
      refine B_get hf lm0 rfl fl_X8_81_7 rfl dX8_spread_40 ?_
      refine B_get hf lm0 rfl fl_X8_143_4 rfl dX8_spread_43 ?_
      refine V_iconst hf dX8_spread_46 ?_
      refine B_iald hf lm0 (fun _ => rfl) (by first | exact hR _ _ _ (by decide) | exact ⟨by omega, by omega⟩) (by omega) (by omega) dX8_spread_47 ?_
      refine V_aload_n hf dX8_spread_48 rfl rfl ?_
      refine B_get hf l01 rfl fl_X8_10_11 rfl dX8_spread_49 ?_
      refine B_get hf lm0 rfl fl_X8_123_7 rfl dX8_spread_52 ?_
      refine B_get hf lm0 rfl fl_X8_143_8 rfl dX8_spread_55 ?_
      refine V_iconst hf dX8_spread_58 ?_
      refine B_iald hf lm0 (fun _ => rfl) (by first | exact hR _ _ _ (by decide) | exact ⟨by omega, by omega⟩) (by omega) (by omega) dX8_spread_59 ?_
      refine V_isub hf dX8_spread_60 ?_
      exact B_iret hf he rfl dX8_spread_61 (by decide) (by decide) rfl rfl
    · exact absurd h23 (by omega)

set_option maxHeartbeats 4000000 in
set_option maxRecDepth 100000 in
theorem cx_spread {l : Launch} {D : va_G} {K : Nat → ClassId} {ad : Adr} (hl0 : l.stackTraces = false) (σ : Mem) (hR : Rng σ) (hk : σ 0 6 0 = 0 ∨ σ 0 12 0 = 0) : Cb l D K ad yX8_spread (.code yX8_spread cX8_spread 1 (some .int)) 9 1 6 σ [.ref (ad 0 23)] (.inr "java/util/NoSuchElementException") σ := by
  refine Cb.of (own := RX8) (ls0 := [some (.ref (ad 0 23))]) hl0 (by decide) rfl (Nat.le_of_ble_eq_true rfl) rfl ?_
  intro X hX1 hX2 hX3 hf he hh
  subst hX1 hX2 hX3
  refine V_aload_n hf dX8_spread_0 rfl rfl ?_
  refine B_get hf l01 rfl fl_X8_10_11 rfl dX8_spread_1 ?_
  refine B_get hf lm0 rfl fl_X8_81_7 rfl dX8_spread_4 ?_
  refine B_get hf lm0 rfl fl_X8_129_4 rfl dX8_spread_7 ?_
  refine V_if_eq (tgt := 26) hf (by first | exact hR _ _ _ (by decide) | exact ⟨by omega, by omega⟩) dX8_spread_10 (by decide) (fun h10 => ?_) (fun h10 => ?_)
  · exact V_nthr hf he hh (text := "there are no open bids, or no open offers") (names := ["java/lang/RuntimeException", "java/lang/Exception"]) dnx_0 dnx_1 dnx_2 dnx_5 (by decide) (by decide) wk_X8_104 wx_NoSuchElementException (by decide) (at_X8_108) dX8_spread_26 dX8_spread_29 dX8_spread_30 dX8_spread_32 dX8_spread_35 ⟨by decide, (Nat.le_of_ble_eq_true rfl), by decide, by decide⟩ (by decide) (by decide) ⟨rfl, rfl, rfl⟩
  · refine V_aload_n hf dX8_spread_13 rfl rfl ?_
    refine B_get hf l01 rfl fl_X8_10_11 rfl dX8_spread_14 ?_
    refine B_get hf lm0 rfl fl_X8_123_7 rfl dX8_spread_17 ?_
    refine B_get hf lm0 rfl fl_X8_129_8 rfl dX8_spread_20 ?_
    refine V_if_ne (tgt := 36) hf (by first | exact hR _ _ _ (by decide) | exact ⟨by omega, by omega⟩) dX8_spread_23 (by decide) (fun h23 => ?_) (fun h23 => ?_)
    · exact absurd h23 (by omega)
    · exact V_nthr hf he hh (text := "there are no open bids, or no open offers") (names := ["java/lang/RuntimeException", "java/lang/Exception"]) dnx_0 dnx_1 dnx_2 dnx_5 (by decide) (by decide) wk_X8_104 wx_NoSuchElementException (by decide) (at_X8_108) dX8_spread_26 dX8_spread_29 dX8_spread_30 dX8_spread_32 dX8_spread_35 ⟨by decide, (Nat.le_of_ble_eq_true rfl), by decide, by decide⟩ (by decide) (by decide) ⟨rfl, rfl, rfl⟩

set_option maxHeartbeats 4000000 in
set_option maxRecDepth 100000 in
theorem c_buyerOf {l : Launch} {D : va_G} {K : Nat → ClassId} {ad : Adr} (hl0 : l.stackTraces = false) (σ : Mem) (hR : Rng σ) (s : Int) (hs : inR s) (hk : 0 ≤ s ∧ s < 10 ∧ s < σ 0 18 0) : Cb l D K ad yX8_buyerOf (.code yX8_buyerOf cX8_buyerOf 2 (some .int)) 9 1 6 σ [.ref (ad 0 23), .int (iN s)] (.inl (some (.int (iN (σ 0 19 s))))) σ := by
  refine Cb.of (own := RX8) (ls0 := [some (.ref (ad 0 23)), some (.int (iN s))]) hl0 (by decide) rfl (Nat.le_of_ble_eq_true rfl) rfl ?_
  intro X hX1 hX2 hX3 hf he hh
  subst hX1 hX2 hX3
  refine V_aload_n hf dX8_buyerOf_0 rfl rfl ?_
  refine V_iload_n hf dX8_buyerOf_1 rfl rfl ?_
  refine B_callVv hf (As := [_]) (c_reqTrade hl0 σ hR s hs hk) cv_X8_174 l01 rfl rfl rfl (Nat.le_of_ble_eq_true rfl) ⟨by decide, by decide, by decide, by decide⟩ dX8_buyerOf_2 ?_
  refine V_aload_n hf dX8_buyerOf_5 rfl rfl ?_
  refine B_get hf l01 rfl fl_X8_10_11 rfl dX8_buyerOf_6 ?_
  refine B_get hf lm0 rfl fl_X8_177_7 rfl dX8_buyerOf_9 ?_
  refine B_get hf lm0 rfl fl_X8_181_10 rfl dX8_buyerOf_12 ?_
  refine V_iload_n hf dX8_buyerOf_15 rfl rfl ?_
  refine B_iald hf lm0 (fun _ => rfl) (by first | exact hR _ _ _ (by decide) | exact ⟨by omega, by omega⟩) (by omega) (by omega) dX8_buyerOf_16 ?_
  exact B_iret hf he rfl dX8_buyerOf_17 (by decide) (by decide) rfl rfl

set_option maxHeartbeats 4000000 in
set_option maxRecDepth 100000 in
theorem cx_buyerOf {l : Launch} {D : va_G} {K : Nat → ClassId} {ad : Adr} (hl0 : l.stackTraces = false) (σ : Mem) (hR : Rng σ) (s : Int) (hs : inR s) (hk : ¬ (0 ≤ s ∧ s < 10 ∧ s < σ 0 18 0)) : Cb l D K ad yX8_buyerOf (.code yX8_buyerOf cX8_buyerOf 2 (some .int)) 9 1 6 σ [.ref (ad 0 23), .int (iN s)] (.inr "java/util/NoSuchElementException") σ := by
  refine Cb.of (own := RX8) (ls0 := [some (.ref (ad 0 23)), some (.int (iN s))]) hl0 (by decide) rfl (Nat.le_of_ble_eq_true rfl) rfl ?_
  intro X hX1 hX2 hX3 hf he hh
  subst hX1 hX2 hX3
  refine V_aload_n hf dX8_buyerOf_0 rfl rfl ?_
  refine V_iload_n hf dX8_buyerOf_1 rfl rfl ?_
  refine B_callVX hf (As := [_]) (cx_reqTrade hl0 σ hR s hs hk) cv_X8_174 l01 rfl rfl rfl (Nat.le_of_ble_eq_true rfl) ⟨by decide, by decide, by decide, by decide⟩ dX8_buyerOf_2 ?_
  exact VX_out hf he hh (by decide) (by decide) ⟨rfl, rfl, rfl⟩

set_option maxHeartbeats 4000000 in
set_option maxRecDepth 100000 in
theorem c_sellerOf {l : Launch} {D : va_G} {K : Nat → ClassId} {ad : Adr} (hl0 : l.stackTraces = false) (σ : Mem) (hR : Rng σ) (s : Int) (hs : inR s) (hk : 0 ≤ s ∧ s < 10 ∧ s < σ 0 18 0) : Cb l D K ad yX8_sellerOf (.code yX8_sellerOf cX8_sellerOf 2 (some .int)) 9 1 6 σ [.ref (ad 0 23), .int (iN s)] (.inl (some (.int (iN (σ 0 20 s))))) σ := by
  refine Cb.of (own := RX8) (ls0 := [some (.ref (ad 0 23)), some (.int (iN s))]) hl0 (by decide) rfl (Nat.le_of_ble_eq_true rfl) rfl ?_
  intro X hX1 hX2 hX3 hf he hh
  subst hX1 hX2 hX3
  refine V_aload_n hf dX8_sellerOf_0 rfl rfl ?_
  refine V_iload_n hf dX8_sellerOf_1 rfl rfl ?_
  refine B_callVv hf (As := [_]) (c_reqTrade hl0 σ hR s hs hk) cv_X8_174 l01 rfl rfl rfl (Nat.le_of_ble_eq_true rfl) ⟨by decide, by decide, by decide, by decide⟩ dX8_sellerOf_2 ?_
  refine V_aload_n hf dX8_sellerOf_5 rfl rfl ?_
  refine B_get hf l01 rfl fl_X8_10_11 rfl dX8_sellerOf_6 ?_
  refine B_get hf lm0 rfl fl_X8_177_7 rfl dX8_sellerOf_9 ?_
  refine B_get hf lm0 rfl fl_X8_186_10 rfl dX8_sellerOf_12 ?_
  refine V_iload_n hf dX8_sellerOf_15 rfl rfl ?_
  refine B_iald hf lm0 (fun _ => rfl) (by first | exact hR _ _ _ (by decide) | exact ⟨by omega, by omega⟩) (by omega) (by omega) dX8_sellerOf_16 ?_
  exact B_iret hf he rfl dX8_sellerOf_17 (by decide) (by decide) rfl rfl

set_option maxHeartbeats 4000000 in
set_option maxRecDepth 100000 in
theorem cx_sellerOf {l : Launch} {D : va_G} {K : Nat → ClassId} {ad : Adr} (hl0 : l.stackTraces = false) (σ : Mem) (hR : Rng σ) (s : Int) (hs : inR s) (hk : ¬ (0 ≤ s ∧ s < 10 ∧ s < σ 0 18 0)) : Cb l D K ad yX8_sellerOf (.code yX8_sellerOf cX8_sellerOf 2 (some .int)) 9 1 6 σ [.ref (ad 0 23), .int (iN s)] (.inr "java/util/NoSuchElementException") σ := by
  refine Cb.of (own := RX8) (ls0 := [some (.ref (ad 0 23)), some (.int (iN s))]) hl0 (by decide) rfl (Nat.le_of_ble_eq_true rfl) rfl ?_
  intro X hX1 hX2 hX3 hf he hh
  subst hX1 hX2 hX3
  refine V_aload_n hf dX8_sellerOf_0 rfl rfl ?_
  refine V_iload_n hf dX8_sellerOf_1 rfl rfl ?_
  refine B_callVX hf (As := [_]) (cx_reqTrade hl0 σ hR s hs hk) cv_X8_174 l01 rfl rfl rfl (Nat.le_of_ble_eq_true rfl) ⟨by decide, by decide, by decide, by decide⟩ dX8_sellerOf_2 ?_
  exact VX_out hf he hh (by decide) (by decide) ⟨rfl, rfl, rfl⟩

set_option maxHeartbeats 4000000 in
set_option maxRecDepth 100000 in
theorem c_barnacleOf {l : Launch} {D : va_G} {K : Nat → ClassId} {ad : Adr} (hl0 : l.stackTraces = false) (σ : Mem) (hR : Rng σ) (s : Int) (hs : inR s) (hk : 0 ≤ s ∧ s < 10 ∧ s < σ 0 18 0) : Cb l D K ad yX8_barnacleOf (.code yX8_barnacleOf cX8_barnacleOf 2 (some .int)) 9 1 6 σ [.ref (ad 0 23), .int (iN s)] (.inl (some (.int (iN (σ 0 21 s))))) σ := by
  refine Cb.of (own := RX8) (ls0 := [some (.ref (ad 0 23)), some (.int (iN s))]) hl0 (by decide) rfl (Nat.le_of_ble_eq_true rfl) rfl ?_
  intro X hX1 hX2 hX3 hf he hh
  subst hX1 hX2 hX3
  refine V_aload_n hf dX8_barnacleOf_0 rfl rfl ?_
  refine V_iload_n hf dX8_barnacleOf_1 rfl rfl ?_
  refine B_callVv hf (As := [_]) (c_reqTrade hl0 σ hR s hs hk) cv_X8_174 l01 rfl rfl rfl (Nat.le_of_ble_eq_true rfl) ⟨by decide, by decide, by decide, by decide⟩ dX8_barnacleOf_2 ?_
  refine V_aload_n hf dX8_barnacleOf_5 rfl rfl ?_
  refine B_get hf l01 rfl fl_X8_10_11 rfl dX8_barnacleOf_6 ?_
  refine B_get hf lm0 rfl fl_X8_177_7 rfl dX8_barnacleOf_9 ?_
  refine B_get hf lm0 rfl fl_X8_189_10 rfl dX8_barnacleOf_12 ?_
  refine V_iload_n hf dX8_barnacleOf_15 rfl rfl ?_
  refine B_iald hf lm0 (fun _ => rfl) (by first | exact hR _ _ _ (by decide) | exact ⟨by omega, by omega⟩) (by omega) (by omega) dX8_barnacleOf_16 ?_
  exact B_iret hf he rfl dX8_barnacleOf_17 (by decide) (by decide) rfl rfl

set_option maxHeartbeats 4000000 in
set_option maxRecDepth 100000 in
theorem cx_barnacleOf {l : Launch} {D : va_G} {K : Nat → ClassId} {ad : Adr} (hl0 : l.stackTraces = false) (σ : Mem) (hR : Rng σ) (s : Int) (hs : inR s) (hk : ¬ (0 ≤ s ∧ s < 10 ∧ s < σ 0 18 0)) : Cb l D K ad yX8_barnacleOf (.code yX8_barnacleOf cX8_barnacleOf 2 (some .int)) 9 1 6 σ [.ref (ad 0 23), .int (iN s)] (.inr "java/util/NoSuchElementException") σ := by
  refine Cb.of (own := RX8) (ls0 := [some (.ref (ad 0 23)), some (.int (iN s))]) hl0 (by decide) rfl (Nat.le_of_ble_eq_true rfl) rfl ?_
  intro X hX1 hX2 hX3 hf he hh
  subst hX1 hX2 hX3
  refine V_aload_n hf dX8_barnacleOf_0 rfl rfl ?_
  refine V_iload_n hf dX8_barnacleOf_1 rfl rfl ?_
  refine B_callVX hf (As := [_]) (cx_reqTrade hl0 σ hR s hs hk) cv_X8_174 l01 rfl rfl rfl (Nat.le_of_ble_eq_true rfl) ⟨by decide, by decide, by decide, by decide⟩ dX8_barnacleOf_2 ?_
  exact VX_out hf he hh (by decide) (by decide) ⟨rfl, rfl, rfl⟩

set_option maxHeartbeats 4000000 in
set_option maxRecDepth 100000 in
theorem c_priceOf {l : Launch} {D : va_G} {K : Nat → ClassId} {ad : Adr} (hl0 : l.stackTraces = false) (σ : Mem) (hR : Rng σ) (s : Int) (hs : inR s) (hk : 0 ≤ s ∧ s < 10 ∧ s < σ 0 18 0) : Cb l D K ad yX8_priceOf (.code yX8_priceOf cX8_priceOf 2 (some .int)) 9 1 6 σ [.ref (ad 0 23), .int (iN s)] (.inl (some (.int (iN (σ 0 22 s))))) σ := by
  refine Cb.of (own := RX8) (ls0 := [some (.ref (ad 0 23)), some (.int (iN s))]) hl0 (by decide) rfl (Nat.le_of_ble_eq_true rfl) rfl ?_
  intro X hX1 hX2 hX3 hf he hh
  subst hX1 hX2 hX3
  refine V_aload_n hf dX8_priceOf_0 rfl rfl ?_
  refine V_iload_n hf dX8_priceOf_1 rfl rfl ?_
  refine B_callVv hf (As := [_]) (c_reqTrade hl0 σ hR s hs hk) cv_X8_174 l01 rfl rfl rfl (Nat.le_of_ble_eq_true rfl) ⟨by decide, by decide, by decide, by decide⟩ dX8_priceOf_2 ?_
  refine V_aload_n hf dX8_priceOf_5 rfl rfl ?_
  refine B_get hf l01 rfl fl_X8_10_11 rfl dX8_priceOf_6 ?_
  refine B_get hf lm0 rfl fl_X8_177_7 rfl dX8_priceOf_9 ?_
  refine B_get hf lm0 rfl fl_X8_192_10 rfl dX8_priceOf_12 ?_
  refine V_iload_n hf dX8_priceOf_15 rfl rfl ?_
  refine B_iald hf lm0 (fun _ => rfl) (by first | exact hR _ _ _ (by decide) | exact ⟨by omega, by omega⟩) (by omega) (by omega) dX8_priceOf_16 ?_
  exact B_iret hf he rfl dX8_priceOf_17 (by decide) (by decide) rfl rfl

set_option maxHeartbeats 4000000 in
set_option maxRecDepth 100000 in
theorem cx_priceOf {l : Launch} {D : va_G} {K : Nat → ClassId} {ad : Adr} (hl0 : l.stackTraces = false) (σ : Mem) (hR : Rng σ) (s : Int) (hs : inR s) (hk : ¬ (0 ≤ s ∧ s < 10 ∧ s < σ 0 18 0)) : Cb l D K ad yX8_priceOf (.code yX8_priceOf cX8_priceOf 2 (some .int)) 9 1 6 σ [.ref (ad 0 23), .int (iN s)] (.inr "java/util/NoSuchElementException") σ := by
  refine Cb.of (own := RX8) (ls0 := [some (.ref (ad 0 23)), some (.int (iN s))]) hl0 (by decide) rfl (Nat.le_of_ble_eq_true rfl) rfl ?_
  intro X hX1 hX2 hX3 hf he hh
  subst hX1 hX2 hX3
  refine V_aload_n hf dX8_priceOf_0 rfl rfl ?_
  refine V_iload_n hf dX8_priceOf_1 rfl rfl ?_
  refine B_callVX hf (As := [_]) (cx_reqTrade hl0 σ hR s hs hk) cv_X8_174 l01 rfl rfl rfl (Nat.le_of_ble_eq_true rfl) ⟨by decide, by decide, by decide, by decide⟩ dX8_priceOf_2 ?_
  exact VX_out hf he hh (by decide) (by decide) ⟨rfl, rfl, rfl⟩

set_option maxHeartbeats 4000000 in
set_option maxRecDepth 100000 in
theorem c_shipByWealth {l : Launch} {D : va_G} {K : Nat → ClassId} {ad : Adr} (hl0 : l.stackTraces = false) (σ : Mem) (hR : Rng σ) (hM : MI (σ 0)) (i : Int) (hi : inR i) (hk : shipInOrder (σ 0) i ≠ -1) : Cb l D K ad yX8_shipByWealth (.code yX8_shipByWealth cX8_shipByWealth 3 (some .int)) 9 1 6 σ [.ref (ad 0 23), .int (iN i)] (.inl (some (.int (iN (shipInOrder (σ 0) i))))) σ := by
  refine Cb.of (own := RX8) (ls0 := [some (.ref (ad 0 23)), some (.int (iN i)), none]) hl0 (by decide) rfl (Nat.le_of_ble_eq_true rfl) rfl ?_
  intro X hX1 hX2 hX3 hf he hh
  subst hX1 hX2 hX3
  have h1 := hM.fl.1
  have h2 := hM.fl.2.1
  have h3 := hM.nb
  have h4 := hM.no
  have hz := fst_cases (fun s => shipsAhead (σ 0) s = i) (σ 0 1 0)
  change (shipInOrder (σ 0) i = -1 ∧ _) ∨ (0 ≤ shipInOrder (σ 0) i ∧ shipInOrder (σ 0) i < σ 0 1 0 ∧ _) at hz
  refine V_aload_n hf dX8_shipByWealth_0 rfl rfl ?_
  refine B_get hf l01 rfl fl_X8_10_11 rfl dX8_shipByWealth_1 ?_
  refine B_get hf lm0 rfl fl_X8_64_7 rfl dX8_shipByWealth_4 ?_
  refine V_iload_n hf dX8_shipByWealth_7 rfl rfl ?_
  refine B_callVi hf (As := [_]) (c_shipInOrder hl0 0 lm0 σ hR hM.fl i hi) cv_X8_211 lm0 rfl rfl rfl (Nat.le_of_ble_eq_true rfl) ⟨by decide, by decide, by decide, by decide⟩ dX8_shipByWealth_8 ?_
  refine V_istore_n (ls2 := [_, _, _]) hf dX8_shipByWealth_11 rfl (by decide) rfl rfl ?_
  refine V_iload_n hf dX8_shipByWealth_12 rfl rfl ?_
  refine V_iconst hf dX8_shipByWealth_13 ?_
  refine V_icmp_ne (tgt := 27) hf ⟨by omega, by omega⟩ ⟨by omega, by omega⟩ dX8_shipByWealth_14 (by decide) (fun h14 => ?_) (fun h14 => ?_)
  · refine V_iload_n hf dX8_shipByWealth_27 rfl rfl ?_
    exact B_iret hf he rfl dX8_shipByWealth_28 (by decide) (by decide) rfl rfl
  · exact absurd h14 (by omega)

set_option maxHeartbeats 4000000 in
set_option maxRecDepth 100000 in
theorem cx_shipByWealth {l : Launch} {D : va_G} {K : Nat → ClassId} {ad : Adr} (hl0 : l.stackTraces = false) (σ : Mem) (hR : Rng σ) (hM : MI (σ 0)) (i : Int) (hi : inR i) (hk : shipInOrder (σ 0) i = -1) : Cb l D K ad yX8_shipByWealth (.code yX8_shipByWealth cX8_shipByWealth 3 (some .int)) 9 1 6 σ [.ref (ad 0 23), .int (iN i)] (.inr "java/util/NoSuchElementException") σ := by
  refine Cb.of (own := RX8) (ls0 := [some (.ref (ad 0 23)), some (.int (iN i)), none]) hl0 (by decide) rfl (Nat.le_of_ble_eq_true rfl) rfl ?_
  intro X hX1 hX2 hX3 hf he hh
  subst hX1 hX2 hX3
  have h1 := hM.fl.1
  have h2 := hM.fl.2.1
  have h3 := hM.nb
  have h4 := hM.no
  have hz := fst_cases (fun s => shipsAhead (σ 0) s = i) (σ 0 1 0)
  change (shipInOrder (σ 0) i = -1 ∧ _) ∨ (0 ≤ shipInOrder (σ 0) i ∧ shipInOrder (σ 0) i < σ 0 1 0 ∧ _) at hz
  refine V_aload_n hf dX8_shipByWealth_0 rfl rfl ?_
  refine B_get hf l01 rfl fl_X8_10_11 rfl dX8_shipByWealth_1 ?_
  refine B_get hf lm0 rfl fl_X8_64_7 rfl dX8_shipByWealth_4 ?_
  refine V_iload_n hf dX8_shipByWealth_7 rfl rfl ?_
  refine B_callVi hf (As := [_]) (c_shipInOrder hl0 0 lm0 σ hR hM.fl i hi) cv_X8_211 lm0 rfl rfl rfl (Nat.le_of_ble_eq_true rfl) ⟨by decide, by decide, by decide, by decide⟩ dX8_shipByWealth_8 ?_
  refine V_istore_n (ls2 := [_, _, _]) hf dX8_shipByWealth_11 rfl (by decide) rfl rfl ?_
  refine V_iload_n hf dX8_shipByWealth_12 rfl rfl ?_
  refine V_iconst hf dX8_shipByWealth_13 ?_
  refine V_icmp_ne (tgt := 27) hf ⟨by omega, by omega⟩ ⟨by omega, by omega⟩ dX8_shipByWealth_14 (by decide) (fun h14 => ?_) (fun h14 => ?_)
  · exact absurd h14 (by omega)
  · exact V_nthr hf he hh (text := "there is no ship at this position") (names := ["java/lang/RuntimeException", "java/lang/Exception"]) dnx_0 dnx_1 dnx_2 dnx_5 (by decide) (by decide) wk_X8_104 wx_NoSuchElementException (by decide) (at_X8_108) dX8_shipByWealth_17 dX8_shipByWealth_20 dX8_shipByWealth_21 dX8_shipByWealth_23 dX8_shipByWealth_26 ⟨by decide, (Nat.le_of_ble_eq_true rfl), by decide, by decide⟩ (by decide) (by decide) ⟨rfl, rfl, rfl⟩

set_option maxHeartbeats 4000000 in
set_option maxRecDepth 100000 in
theorem c_consistent {l : Launch} {D : va_G} {K : Nat → ClassId} {ad : Adr} (hl0 : l.stackTraces = false) (σ : Mem) (hR : Rng σ) (hM : MI (σ 0)) (h1 : shipCoins (σ 0) + σ 0 0 7 = σ 0 0 8) (h2 : allI (fun b => matchO (σ 0) b = bestAB (σ 0) b) (σ 0 6 0) = 1) (h3 : allI (fun s => 0 ≤ coinsL (σ 0) s ∧ 0 ≤ placesL (σ 0) s) (σ 0 1 0) = 1) : Cb l D K ad yX8_isConsistent (.code yX8_isConsistent cX8_isConsistent 1 (some .boolean)) 9 1 6 σ [.ref (ad 0 23)] (.inl (some (.int (iN (1))))) σ := by
  refine Cb.of (own := RX8) (ls0 := [some (.ref (ad 0 23))]) hl0 (by decide) rfl (Nat.le_of_ble_eq_true rfl) rfl ?_
  intro X hX1 hX2 hX3 hf he hh
  subst hX1 hX2 hX3
  refine V_aload_n hf dX8_isConsistent_0 rfl rfl ?_
  refine B_get hf l01 rfl fl_X8_10_11 rfl dX8_isConsistent_1 ?_
  refine B_callVi hf (As := []) (c_coinSum hl0 0 lm0 σ hR hM) cv_X8_205 lm0 rfl rfl rfl (Nat.le_of_ble_eq_true rfl) ⟨by decide, by decide, by decide, by decide⟩ dX8_isConsistent_4 ?_
  refine V_aload_n hf dX8_isConsistent_7 rfl rfl ?_
  refine B_get hf l01 rfl fl_X8_10_11 rfl dX8_isConsistent_8 ?_
  refine B_get hf lm0 rfl fl_X8_208_7 rfl dX8_isConsistent_11 ?_
  refine V_icmp_ne (tgt := 41) hf (by rw [h1]; exact hR _ _ _ (by decide)) (by first | exact hR _ _ _ (by decide) | exact ⟨by omega, by omega⟩) dX8_isConsistent_14 (by decide) (fun h14 => ?_) (fun h14 => ?_)
  · exact absurd h1 h14
  · refine V_aload_n hf dX8_isConsistent_17 rfl rfl ?_
    refine B_get hf l01 rfl fl_X8_10_11 rfl dX8_isConsistent_18 ?_
    refine B_callVi hf (As := []) (c_agree hl0 0 lm0 σ hR hM) cv_X8_223 lm0 rfl rfl rfl (Nat.le_of_ble_eq_true rfl) ⟨by decide, by decide, by decide, by decide⟩ dX8_isConsistent_21 ?_
    rw [h2]
    refine V_if_eq (tgt := 41) hf ⟨by decide, by decide⟩ dX8_isConsistent_24 (by decide) (fun h24 => ?_) (fun h24 => ?_)
    · exact absurd h24 (by decide)
    · refine V_aload_n hf dX8_isConsistent_27 rfl rfl ?_
      refine B_get hf l01 rfl fl_X8_10_11 rfl dX8_isConsistent_28 ?_
      refine B_callVi hf (As := []) (c_keep hl0 0 lm0 σ hR hM) cv_X8_227 lm0 rfl rfl rfl (Nat.le_of_ble_eq_true rfl) ⟨by decide, by decide, by decide, by decide⟩ dX8_isConsistent_31 ?_
      rw [h3]
      refine V_if_eq (tgt := 41) hf ⟨by decide, by decide⟩ dX8_isConsistent_34 (by decide) (fun h34 => ?_) (fun h34 => ?_)
      · exact absurd h34 (by decide)
      · refine V_iconst hf dX8_isConsistent_37 ?_
        refine V_goto (tgt := 42) hf dX8_isConsistent_38 (by decide) ?_
        exact B_iret hf he (by decide +kernel) dX8_isConsistent_42 (by decide) (by decide) rfl rfl

set_option maxHeartbeats 4000000 in
set_option maxRecDepth 100000 in
theorem c_save {l : Launch} {D : va_G} {K : Nat → ClassId} {ad : Adr} (hl0 : l.stackTraces = false) (σ : Mem) (hR : Rng σ) (hS : SZ σ) : Cb l D K ad yX8_saveSnapshot (.code yX8_saveSnapshot cX8_saveSnapshot 1 (some .int)) 9 1 6 σ [.ref (ad 0 23)] (.inl (some (.int (iN ((st3 (cpMarket σ 2 0) 0 23 3 1) 0 1 0))))) (st3 (cpMarket σ 2 0) 0 23 3 1) := by
  refine Cb.of (own := RX8) (ls0 := [some (.ref (ad 0 23))]) hl0 (by decide) rfl (Nat.le_of_ble_eq_true rfl) rfl ?_
  intro X hX1 hX2 hX3 hf he hh
  subst hX1 hX2 hX3
  refine V_aload_n hf dX8_saveSnapshot_0 rfl rfl ?_
  refine B_get hf l01 rfl fl_X8_19_11 rfl dX8_saveSnapshot_1 ?_
  refine V_aload_n hf dX8_saveSnapshot_4 rfl rfl ?_
  refine B_get hf l01 rfl fl_X8_10_11 rfl dX8_saveSnapshot_5 ?_
  refine B_callVv hf (As := [_]) (c_copyM hl0 2 lm2 σ hR 0 lm0 (by decide) (hS 0 (by decide) (by decide)).1 (hS 0 (by decide) (by decide)).2) cv_X8_160 lm2 rfl rfl rfl (Nat.le_of_ble_eq_true rfl) ⟨by decide, by decide, by decide, by decide⟩ dX8_saveSnapshot_8 ?_
  refine V_aload_n hf dX8_saveSnapshot_11 rfl rfl ?_
  refine V_iconst hf dX8_saveSnapshot_12 ?_
  refine B_putI (kI := 3) hf rfl l01 rfl fp_X8_22_11 rfl rfl (Nat.le_of_ble_eq_true rfl) (by decide) (cs_23_3 _ _ _ _ _) dX8_saveSnapshot_13 ?_
  refine V_aload_n hf dX8_saveSnapshot_16 rfl rfl ?_
  refine B_get hf l01 rfl fl_X8_10_11 rfl dX8_saveSnapshot_17 ?_
  refine B_get hf lm0 rfl fl_X8_64_7 rfl dX8_saveSnapshot_20 ?_
  refine B_get hf lm0 rfl fl_X8_68_5 rfl dX8_saveSnapshot_23 ?_
  exact B_iret hf he rfl dX8_saveSnapshot_26 (by decide) (by decide) rfl rfl

set_option maxHeartbeats 4000000 in
set_option maxRecDepth 100000 in
theorem c_restore {l : Launch} {D : va_G} {K : Nat → ClassId} {ad : Adr} (hl0 : l.stackTraces = false) (σ : Mem) (hR : Rng σ) (hS : SZ σ) (hk : σ 0 23 3 ≠ 0) : Cb l D K ad yX8_restoreSnapshot (.code yX8_restoreSnapshot cX8_restoreSnapshot 1 (some .int)) 9 1 6 σ [.ref (ad 0 23)] (.inl (some (.int (iN ((st3 (cpMarket σ 0 2) 0 24 0 0) 0 1 0))))) (st3 (cpMarket σ 0 2) 0 24 0 0) := by
  refine Cb.of (own := RX8) (ls0 := [some (.ref (ad 0 23))]) hl0 (by decide) rfl (Nat.le_of_ble_eq_true rfl) rfl ?_
  intro X hX1 hX2 hX3 hf he hh
  subst hX1 hX2 hX3
  refine V_aload_n hf dX8_restoreSnapshot_0 rfl rfl ?_
  refine B_get hf l01 rfl fl_X8_22_11 rfl dX8_restoreSnapshot_1 ?_
  refine V_if_ne (tgt := 18) hf (by first | exact hR _ _ _ (by decide) | exact ⟨by omega, by omega⟩) dX8_restoreSnapshot_4 (by decide) (fun h4 => ?_) (fun h4 => ?_)
  · refine V_aload_n hf dX8_restoreSnapshot_18 rfl rfl ?_
    refine B_get hf l01 rfl fl_X8_10_11 rfl dX8_restoreSnapshot_19 ?_
    refine V_aload_n hf dX8_restoreSnapshot_22 rfl rfl ?_
    refine B_get hf l01 rfl fl_X8_19_11 rfl dX8_restoreSnapshot_23 ?_
    refine B_callVv hf (As := [_]) (c_copyM hl0 0 lm0 σ hR 2 lm2 (by decide) (hS 2 (by decide) (by decide)).1 (hS 2 (by decide) (by decide)).2) cv_X8_160 lm0 rfl rfl rfl (Nat.le_of_ble_eq_true rfl) ⟨by decide, by decide, by decide, by decide⟩ dX8_restoreSnapshot_26 ?_
    refine V_aload_n hf dX8_restoreSnapshot_29 rfl rfl ?_
    refine B_get hf l01 rfl fl_X8_29_11 rfl dX8_restoreSnapshot_30 ?_
    refine V_iconst hf dX8_restoreSnapshot_33 ?_
    refine B_putI (kI := 0) hf rfl l01 rfl fp_X8_298_6 rfl rfl (Nat.le_of_ble_eq_true rfl) (by decide) (cs_24_0 _ _ _ _ _) dX8_restoreSnapshot_34 ?_
    refine V_aload_n hf dX8_restoreSnapshot_37 rfl rfl ?_
    refine B_get hf l01 rfl fl_X8_10_11 rfl dX8_restoreSnapshot_38 ?_
    refine B_get hf lm0 rfl fl_X8_64_7 rfl dX8_restoreSnapshot_41 ?_
    refine B_get hf lm0 rfl fl_X8_68_5 rfl dX8_restoreSnapshot_44 ?_
    exact B_iret hf he rfl dX8_restoreSnapshot_47 (by decide) (by decide) rfl rfl
  · exact absurd h4 (by omega)

set_option maxHeartbeats 4000000 in
set_option maxRecDepth 100000 in
theorem cx_restore {l : Launch} {D : va_G} {K : Nat → ClassId} {ad : Adr} (hl0 : l.stackTraces = false) (σ : Mem) (hR : Rng σ) (hk : σ 0 23 3 = 0) : Cb l D K ad yX8_restoreSnapshot (.code yX8_restoreSnapshot cX8_restoreSnapshot 1 (some .int)) 9 1 6 σ [.ref (ad 0 23)] (.inr "java/lang/IllegalStateException") σ := by
  refine Cb.of (own := RX8) (ls0 := [some (.ref (ad 0 23))]) hl0 (by decide) rfl (Nat.le_of_ble_eq_true rfl) rfl ?_
  intro X hX1 hX2 hX3 hf he hh
  subst hX1 hX2 hX3
  refine V_aload_n hf dX8_restoreSnapshot_0 rfl rfl ?_
  refine B_get hf l01 rfl fl_X8_22_11 rfl dX8_restoreSnapshot_1 ?_
  refine V_if_ne (tgt := 18) hf (by first | exact hR _ _ _ (by decide) | exact ⟨by omega, by omega⟩) dX8_restoreSnapshot_4 (by decide) (fun h4 => ?_) (fun h4 => ?_)
  · exact absurd h4 (by omega)
  · exact V_thrW hf he hh (text := "there is no snapshot") (names := ["java/lang/RuntimeException", "java/lang/Exception"]) (by decide) (by decide) wk_X8_266 wx_IllegalStateException (by decide) (at_X8_270) dX8_restoreSnapshot_7 dX8_restoreSnapshot_10 dX8_restoreSnapshot_11 dX8_restoreSnapshot_14 dX8_restoreSnapshot_17 ⟨by decide, (Nat.le_of_ble_eq_true rfl), by decide, by decide⟩ (by decide) (by decide) ⟨rfl, rfl, rfl⟩

set_option maxHeartbeats 4000000 in
set_option maxRecDepth 100000 in
theorem c_undo {l : Launch} {D : va_G} {K : Nat → ClassId} {ad : Adr} (hl0 : l.stackTraces = false) (σ : Mem) (hR : Rng σ) (hH : HI σ) (hS : SZ σ) (hk : σ 0 24 0 ≠ 0) : Cb l D K ad yX8_undo (.code yX8_undo cX8_undo 1 (some .int)) 9 1 6 σ [.ref (ad 0 23)] (.inl (some (.int (iN (backM σ 0 0 24 0))))) (backM σ 0) := by
  refine Cb.of (own := RX8) (ls0 := [some (.ref (ad 0 23))]) hl0 (by decide) rfl (Nat.le_of_ble_eq_true rfl) rfl ?_
  intro X hX1 hX2 hX3 hf he hh
  subst hX1 hX2 hX3
  have h1 := hH.1
  refine V_aload_n hf dX8_undo_0 rfl rfl ?_
  refine B_get hf l01 rfl fl_X8_29_11 rfl dX8_undo_1 ?_
  refine B_get hf l01 rfl fl_X8_298_6 rfl dX8_undo_4 ?_
  refine V_if_ne (tgt := 21) hf (by first | exact hR _ _ _ (by decide) | exact ⟨by omega, by omega⟩) dX8_undo_7 (by decide) (fun h7 => ?_) (fun h7 => ?_)
  · refine V_aload_n hf dX8_undo_21 rfl rfl ?_
    refine B_get hf l01 rfl fl_X8_29_11 rfl dX8_undo_22 ?_
    refine V_aload_n hf dX8_undo_25 rfl rfl ?_
    refine B_get hf l01 rfl fl_X8_10_11 rfl dX8_undo_26 ?_
    refine B_callVv hf (As := [_]) (c_back hl0 σ hR hH (by omega) hS) cv_X8_303 l01 rfl rfl rfl (Nat.le_of_ble_eq_true rfl) ⟨by decide, by decide, by decide, by decide⟩ dX8_undo_29 ?_
    refine V_aload_n hf dX8_undo_32 rfl rfl ?_
    refine B_get hf l01 rfl fl_X8_29_11 rfl dX8_undo_33 ?_
    refine B_get hf l01 rfl fl_X8_298_6 rfl dX8_undo_36 ?_
    exact B_iret hf he rfl dX8_undo_39 (by decide) (by decide) rfl rfl
  · exact absurd h7 (by omega)

set_option maxHeartbeats 4000000 in
set_option maxRecDepth 100000 in
theorem cx_undo {l : Launch} {D : va_G} {K : Nat → ClassId} {ad : Adr} (hl0 : l.stackTraces = false) (σ : Mem) (hR : Rng σ) (hk : σ 0 24 0 = 0) : Cb l D K ad yX8_undo (.code yX8_undo cX8_undo 1 (some .int)) 9 1 6 σ [.ref (ad 0 23)] (.inr "java/lang/IllegalStateException") σ := by
  refine Cb.of (own := RX8) (ls0 := [some (.ref (ad 0 23))]) hl0 (by decide) rfl (Nat.le_of_ble_eq_true rfl) rfl ?_
  intro X hX1 hX2 hX3 hf he hh
  subst hX1 hX2 hX3
  refine V_aload_n hf dX8_undo_0 rfl rfl ?_
  refine B_get hf l01 rfl fl_X8_29_11 rfl dX8_undo_1 ?_
  refine B_get hf l01 rfl fl_X8_298_6 rfl dX8_undo_4 ?_
  refine V_if_ne (tgt := 21) hf (by first | exact hR _ _ _ (by decide) | exact ⟨by omega, by omega⟩) dX8_undo_7 (by decide) (fun h7 => ?_) (fun h7 => ?_)
  · exact absurd h7 (by omega)
  · exact V_thrW hf he hh (text := "there is no change to undo") (names := ["java/lang/RuntimeException", "java/lang/Exception"]) (by decide) (by decide) wk_X8_266 wx_IllegalStateException (by decide) (at_X8_270) dX8_undo_10 dX8_undo_13 dX8_undo_14 dX8_undo_17 dX8_undo_20 ⟨by decide, (Nat.le_of_ble_eq_true rfl), by decide, by decide⟩ (by decide) (by decide) ⟨rfl, rfl, rfl⟩

set_option maxHeartbeats 4000000 in
set_option maxRecDepth 100000 in
theorem c_would {l : Launch} {D : va_G} {K : Nat → ClassId} {ad : Adr} (hl0 : l.stackTraces = false) (σ : Mem) (hR : Rng σ) (hS : SZ σ) (hT : tideOk 1 (cpMarket σ 1 0)) : Cb l D K ad yX8_wouldTrade (.code yX8_wouldTrade cX8_wouldTrade 1 (some .int)) 9 1 6 σ [.ref (ad 0 23)] (.inl (some (.int (iN (tideM 1 (cpMarket σ 1 0) 1 18 0 - cpMarket σ 1 0 1 18 0))))) (tideM 1 (cpMarket σ 1 0)) := by
  refine Cb.of (own := RX8) (ls0 := [some (.ref (ad 0 23))]) hl0 (by decide) rfl (Nat.le_of_ble_eq_true rfl) rfl ?_
  intro X hX1 hX2 hX3 hf he hh
  subst hX1 hX2 hX3
  refine V_aload_n hf dX8_wouldTrade_0 rfl rfl ?_
  refine B_get hf l01 rfl fl_X8_16_11 rfl dX8_wouldTrade_1 ?_
  refine V_aload_n hf dX8_wouldTrade_4 rfl rfl ?_
  refine B_get hf l01 rfl fl_X8_10_11 rfl dX8_wouldTrade_5 ?_
  refine B_callVv hf (As := [_]) (c_copyM hl0 1 lm1 σ hR 0 lm0 (by decide) (hS 0 (by decide) (by decide)).1 (hS 0 (by decide) (by decide)).2) cv_X8_160 lm1 rfl rfl rfl (Nat.le_of_ble_eq_true rfl) ⟨by decide, by decide, by decide, by decide⟩ dX8_wouldTrade_8 ?_
  refine V_aload_n hf dX8_wouldTrade_11 rfl rfl ?_
  refine B_get hf l01 rfl fl_X8_16_11 rfl dX8_wouldTrade_12 ?_
  refine B_callVi hf (As := []) (c_tide hl0 1 lm1 (cpMarket σ 1 0) (cpMarket_R hR) hT) cv_X8_164 lm1 rfl rfl rfl (Nat.le_of_ble_eq_true rfl) ⟨by decide, by decide, by decide, by decide⟩ dX8_wouldTrade_15 ?_
  exact B_iret hf he rfl dX8_wouldTrade_18 (by decide) (by decide) rfl rfl

set_option maxHeartbeats 4000000 in
set_option maxRecDepth 100000 in
theorem c_synErr {l : Launch} {D : va_G} {K : Nat → ClassId} {ad : Adr} (hl0 : l.stackTraces = false) (σ : Mem) (hR : Rng σ) (hk : σ 0 23 10 ≠ -1) : Cb l D K ad yX8_syntaxErrorOffset (.code yX8_syntaxErrorOffset cX8_syntaxErrorOffset 1 (some .int)) 9 1 6 σ [.ref (ad 0 23)] (.inl (some (.int (iN (σ 0 23 10))))) σ := by
  refine Cb.of (own := RX8) (ls0 := [some (.ref (ad 0 23))]) hl0 (by decide) rfl (Nat.le_of_ble_eq_true rfl) rfl ?_
  intro X hX1 hX2 hX3 hf he hh
  subst hX1 hX2 hX3
  refine V_aload_n hf dX8_syntaxErrorOffset_0 rfl rfl ?_
  refine B_get hf l01 rfl fl_X8_57_11 rfl dX8_syntaxErrorOffset_1 ?_
  refine V_iconst hf dX8_syntaxErrorOffset_4 ?_
  refine V_icmp_ne (tgt := 19) hf (by first | exact hR _ _ _ (by decide) | exact ⟨by omega, by omega⟩) (by first | exact hR _ _ _ (by decide) | exact ⟨by omega, by omega⟩) dX8_syntaxErrorOffset_5 (by decide) (fun h5 => ?_) (fun h5 => ?_)
  · refine V_aload_n hf dX8_syntaxErrorOffset_19 rfl rfl ?_
    refine B_get hf l01 rfl fl_X8_57_11 rfl dX8_syntaxErrorOffset_20 ?_
    exact B_iret hf he rfl dX8_syntaxErrorOffset_23 (by decide) (by decide) rfl rfl
  · exact absurd h5 (by omega)

set_option maxHeartbeats 4000000 in
set_option maxRecDepth 100000 in
theorem cx_synErr {l : Launch} {D : va_G} {K : Nat → ClassId} {ad : Adr} (hl0 : l.stackTraces = false) (σ : Mem) (hR : Rng σ) (hk : σ 0 23 10 = -1) : Cb l D K ad yX8_syntaxErrorOffset (.code yX8_syntaxErrorOffset cX8_syntaxErrorOffset 1 (some .int)) 9 1 6 σ [.ref (ad 0 23)] (.inr "java/util/NoSuchElementException") σ := by
  refine Cb.of (own := RX8) (ls0 := [some (.ref (ad 0 23))]) hl0 (by decide) rfl (Nat.le_of_ble_eq_true rfl) rfl ?_
  intro X hX1 hX2 hX3 hf he hh
  subst hX1 hX2 hX3
  refine V_aload_n hf dX8_syntaxErrorOffset_0 rfl rfl ?_
  refine B_get hf l01 rfl fl_X8_57_11 rfl dX8_syntaxErrorOffset_1 ?_
  refine V_iconst hf dX8_syntaxErrorOffset_4 ?_
  refine V_icmp_ne (tgt := 19) hf (by first | exact hR _ _ _ (by decide) | exact ⟨by omega, by omega⟩) (by first | exact hR _ _ _ (by decide) | exact ⟨by omega, by omega⟩) dX8_syntaxErrorOffset_5 (by decide) (fun h5 => ?_) (fun h5 => ?_)
  · exact absurd h5 (by omega)
  · exact V_nthrW hf he hh (text := "there was no syntax error") (names := ["java/lang/RuntimeException", "java/lang/Exception"]) dnx_0 dnx_1 dnx_2 dnx_5 (by decide) (by decide) wk_X8_104 wx_NoSuchElementException (by decide) (at_X8_108) dX8_syntaxErrorOffset_8 dX8_syntaxErrorOffset_11 dX8_syntaxErrorOffset_12 dX8_syntaxErrorOffset_15 dX8_syntaxErrorOffset_18 ⟨by decide, (Nat.le_of_ble_eq_true rfl), by decide, by decide⟩ (by decide) (by decide) ⟨rfl, rfl, rfl⟩

set_option maxHeartbeats 4000000 in
set_option maxRecDepth 100000 in
theorem c_rejectionReason {l : Launch} {D : va_G} {K : Nat → ClassId} {ad : Adr} (hl0 : l.stackTraces = false) (σ : Mem) (hR : Rng σ) (hk : σ 0 23 7 ≠ -1) : Cb l D K ad yX8_rejectionReason (.code yX8_rejectionReason cX8_rejectionReason 1 (some .int)) 9 1 6 σ [.ref (ad 0 23)] (.inl (some (.int (iN (σ 0 23 7))))) σ := by
  refine Cb.of (own := RX8) (ls0 := [some (.ref (ad 0 23))]) hl0 (by decide) rfl (Nat.le_of_ble_eq_true rfl) rfl ?_
  intro X hX1 hX2 hX3 hf he hh
  subst hX1 hX2 hX3
  refine V_aload_n hf dX8_rejectionReason_0 rfl rfl ?_
  refine B_callVv hf (As := []) (c_reqRej hl0 σ hR hk) cv_X8_293 l01 rfl rfl rfl (Nat.le_of_ble_eq_true rfl) ⟨by decide, by decide, by decide, by decide⟩ dX8_rejectionReason_1 ?_
  refine V_aload_n hf dX8_rejectionReason_4 rfl rfl ?_
  refine B_get hf l01 rfl fl_X8_47_11 rfl dX8_rejectionReason_5 ?_
  exact B_iret hf he rfl dX8_rejectionReason_8 (by decide) (by decide) rfl rfl

set_option maxHeartbeats 4000000 in
set_option maxRecDepth 100000 in
theorem cx_rejectionReason {l : Launch} {D : va_G} {K : Nat → ClassId} {ad : Adr} (hl0 : l.stackTraces = false) (σ : Mem) (hR : Rng σ) (hk : σ 0 23 7 = -1) : Cb l D K ad yX8_rejectionReason (.code yX8_rejectionReason cX8_rejectionReason 1 (some .int)) 9 1 6 σ [.ref (ad 0 23)] (.inr "java/util/NoSuchElementException") σ := by
  refine Cb.of (own := RX8) (ls0 := [some (.ref (ad 0 23))]) hl0 (by decide) rfl (Nat.le_of_ble_eq_true rfl) rfl ?_
  intro X hX1 hX2 hX3 hf he hh
  subst hX1 hX2 hX3
  refine V_aload_n hf dX8_rejectionReason_0 rfl rfl ?_
  refine B_callVX hf (As := []) (cx_reqRej hl0 σ hR hk) cv_X8_293 l01 rfl rfl rfl (Nat.le_of_ble_eq_true rfl) ⟨by decide, by decide, by decide, by decide⟩ dX8_rejectionReason_1 ?_
  exact VX_out hf he hh (by decide) (by decide) ⟨rfl, rfl, rfl⟩

set_option maxHeartbeats 4000000 in
set_option maxRecDepth 100000 in
theorem c_rejectionDetail {l : Launch} {D : va_G} {K : Nat → ClassId} {ad : Adr} (hl0 : l.stackTraces = false) (σ : Mem) (hR : Rng σ) (hk : σ 0 23 7 ≠ -1) : Cb l D K ad yX8_rejectionDetail (.code yX8_rejectionDetail cX8_rejectionDetail 1 (some .int)) 9 1 6 σ [.ref (ad 0 23)] (.inl (some (.int (iN (σ 0 23 8))))) σ := by
  refine Cb.of (own := RX8) (ls0 := [some (.ref (ad 0 23))]) hl0 (by decide) rfl (Nat.le_of_ble_eq_true rfl) rfl ?_
  intro X hX1 hX2 hX3 hf he hh
  subst hX1 hX2 hX3
  refine V_aload_n hf dX8_rejectionDetail_0 rfl rfl ?_
  refine B_callVv hf (As := []) (c_reqRej hl0 σ hR hk) cv_X8_293 l01 rfl rfl rfl (Nat.le_of_ble_eq_true rfl) ⟨by decide, by decide, by decide, by decide⟩ dX8_rejectionDetail_1 ?_
  refine V_aload_n hf dX8_rejectionDetail_4 rfl rfl ?_
  refine B_get hf l01 rfl fl_X8_51_11 rfl dX8_rejectionDetail_5 ?_
  exact B_iret hf he rfl dX8_rejectionDetail_8 (by decide) (by decide) rfl rfl

set_option maxHeartbeats 4000000 in
set_option maxRecDepth 100000 in
theorem cx_rejectionDetail {l : Launch} {D : va_G} {K : Nat → ClassId} {ad : Adr} (hl0 : l.stackTraces = false) (σ : Mem) (hR : Rng σ) (hk : σ 0 23 7 = -1) : Cb l D K ad yX8_rejectionDetail (.code yX8_rejectionDetail cX8_rejectionDetail 1 (some .int)) 9 1 6 σ [.ref (ad 0 23)] (.inr "java/util/NoSuchElementException") σ := by
  refine Cb.of (own := RX8) (ls0 := [some (.ref (ad 0 23))]) hl0 (by decide) rfl (Nat.le_of_ble_eq_true rfl) rfl ?_
  intro X hX1 hX2 hX3 hf he hh
  subst hX1 hX2 hX3
  refine V_aload_n hf dX8_rejectionDetail_0 rfl rfl ?_
  refine B_callVX hf (As := []) (cx_reqRej hl0 σ hR hk) cv_X8_293 l01 rfl rfl rfl (Nat.le_of_ble_eq_true rfl) ⟨by decide, by decide, by decide, by decide⟩ dX8_rejectionDetail_1 ?_
  exact VX_out hf he hh (by decide) (by decide) ⟨rfl, rfl, rfl⟩

set_option maxHeartbeats 4000000 in
set_option maxRecDepth 100000 in
theorem c_causeReason {l : Launch} {D : va_G} {K : Nat → ClassId} {ad : Adr} (hl0 : l.stackTraces = false) (σ : Mem) (hR : Rng σ) (hk : σ 0 23 7 = 7) : Cb l D K ad yX8_causeReason (.code yX8_causeReason cX8_causeReason 1 (some .int)) 9 1 6 σ [.ref (ad 0 23)] (.inl (some (.int (iN (σ 0 23 9))))) σ := by
  refine Cb.of (own := RX8) (ls0 := [some (.ref (ad 0 23))]) hl0 (by decide) rfl (Nat.le_of_ble_eq_true rfl) rfl ?_
  intro X hX1 hX2 hX3 hf he hh
  subst hX1 hX2 hX3
  refine V_aload_n hf dX8_causeReason_0 rfl rfl ?_
  refine B_get hf l01 rfl fl_X8_47_11 rfl dX8_causeReason_1 ?_
  refine V_bipush hf dX8_causeReason_4 (by decide +kernel) ?_
  refine V_icmp_eq (tgt := 20) hf (by first | exact hR _ _ _ (by decide) | exact ⟨by omega, by omega⟩) (by first | exact hR _ _ _ (by decide) | exact ⟨by omega, by omega⟩) dX8_causeReason_6 (by decide) (fun h6 => ?_) (fun h6 => ?_)
  · refine V_aload_n hf dX8_causeReason_20 rfl rfl ?_
    refine B_get hf l01 rfl fl_X8_54_11 rfl dX8_causeReason_21 ?_
    exact B_iret hf he rfl dX8_causeReason_24 (by decide) (by decide) rfl rfl
  · exact absurd h6 (by omega)

set_option maxHeartbeats 4000000 in
set_option maxRecDepth 100000 in
theorem cx_causeReason {l : Launch} {D : va_G} {K : Nat → ClassId} {ad : Adr} (hl0 : l.stackTraces = false) (σ : Mem) (hR : Rng σ) (hk : σ 0 23 7 ≠ 7) : Cb l D K ad yX8_causeReason (.code yX8_causeReason cX8_causeReason 1 (some .int)) 9 1 6 σ [.ref (ad 0 23)] (.inr "java/util/NoSuchElementException") σ := by
  refine Cb.of (own := RX8) (ls0 := [some (.ref (ad 0 23))]) hl0 (by decide) rfl (Nat.le_of_ble_eq_true rfl) rfl ?_
  intro X hX1 hX2 hX3 hf he hh
  subst hX1 hX2 hX3
  refine V_aload_n hf dX8_causeReason_0 rfl rfl ?_
  refine B_get hf l01 rfl fl_X8_47_11 rfl dX8_causeReason_1 ?_
  refine V_bipush hf dX8_causeReason_4 (by decide +kernel) ?_
  refine V_icmp_eq (tgt := 20) hf (by first | exact hR _ _ _ (by decide) | exact ⟨by omega, by omega⟩) (by first | exact hR _ _ _ (by decide) | exact ⟨by omega, by omega⟩) dX8_causeReason_6 (by decide) (fun h6 => ?_) (fun h6 => ?_)
  · exact absurd h6 (by omega)
  · exact V_nthrW hf he hh (text := "the latest rejection is not one of a command") (names := ["java/lang/RuntimeException", "java/lang/Exception"]) dnx_0 dnx_1 dnx_2 dnx_5 (by decide) (by decide) wk_X8_104 wx_NoSuchElementException (by decide) (at_X8_108) dX8_causeReason_9 dX8_causeReason_12 dX8_causeReason_13 dX8_causeReason_16 dX8_causeReason_19 ⟨by decide, (Nat.le_of_ble_eq_true rfl), by decide, by decide⟩ (by decide) (by decide) ⟨rfl, rfl, rfl⟩

set_option maxHeartbeats 4000000 in
set_option maxRecDepth 100000 in
theorem c_noteR {l : Launch} {D : va_G} {K : Nat → ClassId} {ad : Adr} (hl0 : l.stackTraces = false) (σ : Mem) (hR : Rng σ) (r d c : Int) : Cb l D K ad yX8_noteRejection (.code yX8_noteRejection cX8_noteRejection 4 none) 1 0 0 σ [.ref (ad 0 23), .int (iN r), .int (iN d), .int (iN c)] (.inl none) (noteR σ r d c) := by
  refine Cb.of (own := RX8) (ls0 := [some (.ref (ad 0 23)), some (.int (iN r)), some (.int (iN d)), some (.int (iN c))]) hl0 (by decide) rfl (Nat.le_of_ble_eq_true rfl) rfl ?_
  intro X hX1 hX2 hX3 hf he hh
  subst hX1 hX2 hX3
  refine V_aload_n hf dX8_noteRejection_0 rfl rfl ?_
  refine V_iload_n hf dX8_noteRejection_1 rfl rfl ?_
  refine B_putI (kI := 7) hf rfl l01 rfl fp_X8_47_11 rfl rfl (Nat.le_of_ble_eq_true rfl) (by decide) (cs_23_7 _ _ _ _ _) dX8_noteRejection_2 ?_
  refine V_aload_n hf dX8_noteRejection_5 rfl rfl ?_
  refine V_iload_n hf dX8_noteRejection_6 rfl rfl ?_
  refine B_putI (kI := 8) hf rfl l01 rfl fp_X8_51_11 rfl rfl (Nat.le_of_ble_eq_true rfl) (by decide) (cs_23_8 _ _ _ _ _) dX8_noteRejection_7 ?_
  refine V_aload_n hf dX8_noteRejection_10 rfl rfl ?_
  refine V_iload_n hf dX8_noteRejection_11 rfl rfl ?_
  refine B_putI (kI := 9) hf rfl l01 rfl fp_X8_54_11 rfl rfl (Nat.le_of_ble_eq_true rfl) (by decide) (cs_23_9 _ _ _ _ _) dX8_noteRejection_12 ?_
  exact B_vret hf he dX8_noteRejection_15 (by decide) (by decide) rfl

set_option maxHeartbeats 4000000 in
set_option maxRecDepth 100000 in
theorem c_fine {l : Launch} {D : va_G} {K : Nat → ClassId} {ad : Adr} (hl0 : l.stackTraces = false) (σ : Mem) (hR : Rng σ) (s : Int) : Cb l D K ad yX8_refuseUnlessFine (.code yX8_refuseUnlessFine cX8_refuseUnlessFine 3 none) 7 0 0 σ [.ref (ad 0 23), .int (iN 0), .int (iN s)] (.inl none) σ := by
  refine Cb.of (own := RX8) (ls0 := [some (.ref (ad 0 23)), some (.int (iN 0)), some (.int (iN s))]) hl0 (by decide) rfl (Nat.le_of_ble_eq_true rfl) rfl ?_
  intro X hX1 hX2 hX3 hf he hh
  subst hX1 hX2 hX3
  refine V_iload_n hf dX8_refuseUnlessFine_0 rfl rfl ?_
  refine V_iconst hf dX8_refuseUnlessFine_1 ?_
  refine V_icmp_ne (tgt := 16) hf (by first | exact hR _ _ _ (by decide) | exact ⟨by omega, by omega⟩) (by first | exact hR _ _ _ (by decide) | exact ⟨by omega, by omega⟩) dX8_refuseUnlessFine_2 (by decide) (fun h2 => ?_) (fun h2 => ?_)
  · refine V_iload_n hf dX8_refuseUnlessFine_16 rfl rfl ?_
    refine V_bipush hf dX8_refuseUnlessFine_17 (by decide +kernel) ?_
    refine V_icmp_ne (tgt := 33) hf (by first | exact hR _ _ _ (by decide) | exact ⟨by omega, by omega⟩) (by first | exact hR _ _ _ (by decide) | exact ⟨by omega, by omega⟩) dX8_refuseUnlessFine_19 (by decide) (fun h19 => ?_) (fun h19 => ?_)
    · refine V_iload_n hf dX8_refuseUnlessFine_33 rfl rfl ?_
      refine V_bipush hf dX8_refuseUnlessFine_34 (by decide +kernel) ?_
      refine V_icmp_ne (tgt := 50) hf (by first | exact hR _ _ _ (by decide) | exact ⟨by omega, by omega⟩) (by first | exact hR _ _ _ (by decide) | exact ⟨by omega, by omega⟩) dX8_refuseUnlessFine_36 (by decide) (fun h36 => ?_) (fun h36 => ?_)
      · refine V_iload_n hf dX8_refuseUnlessFine_50 rfl rfl ?_
        refine V_if_eq (tgt := 80) hf (by first | exact hR _ _ _ (by decide) | exact ⟨by omega, by omega⟩) dX8_refuseUnlessFine_51 (by decide) (fun h51 => ?_) (fun h51 => ?_)
        · exact B_vret hf he dX8_refuseUnlessFine_80 (by decide) (by decide) rfl
        · exact absurd h51 (by decide)
      · exact absurd h36 (by decide)
    · exact absurd h19 (by decide)
  · exact absurd h2 (by decide)

set_option maxHeartbeats 4000000 in
set_option maxRecDepth 100000 in
theorem cx_fine1 {l : Launch} {D : va_G} {K : Nat → ClassId} {ad : Adr} (hl0 : l.stackTraces = false) (σ : Mem) (hR : Rng σ) (s : Int) : Cb l D K ad yX8_refuseUnlessFine (.code yX8_refuseUnlessFine cX8_refuseUnlessFine 3 none) 7 1 6 σ [.ref (ad 0 23), .int (iN (-1)), .int (iN s)] (.inr "java/lang/IndexOutOfBoundsException") σ := by
  refine Cb.of (own := RX8) (ls0 := [some (.ref (ad 0 23)), some (.int (iN (-1))), some (.int (iN s))]) hl0 (by decide) rfl (Nat.le_of_ble_eq_true rfl) rfl ?_
  intro X hX1 hX2 hX3 hf he hh
  subst hX1 hX2 hX3
  refine V_iload_n hf dX8_refuseUnlessFine_0 rfl rfl ?_
  refine V_iconst hf dX8_refuseUnlessFine_1 ?_
  refine V_icmp_ne (tgt := 16) hf (by first | exact hR _ _ _ (by decide) | exact ⟨by omega, by omega⟩) (by first | exact hR _ _ _ (by decide) | exact ⟨by omega, by omega⟩) dX8_refuseUnlessFine_2 (by decide) (fun h2 => ?_) (fun h2 => ?_)
  · exact absurd h2 (by decide)
  · exact V_thrW hf he hh (text := "there is no such ship or barnacle") (names := ["java/lang/RuntimeException", "java/lang/Exception"]) (by decide) (by decide) wk_X8_246 wx_IndexOutOfBoundsException (by decide) (at_X8_250) dX8_refuseUnlessFine_5 dX8_refuseUnlessFine_8 dX8_refuseUnlessFine_9 dX8_refuseUnlessFine_12 dX8_refuseUnlessFine_15 ⟨by decide, (Nat.le_of_ble_eq_true rfl), by decide, by decide⟩ (by decide) (by decide) ⟨rfl, rfl, rfl⟩

set_option maxHeartbeats 4000000 in
set_option maxRecDepth 100000 in
theorem cx_fine2 {l : Launch} {D : va_G} {K : Nat → ClassId} {ad : Adr} (hl0 : l.stackTraces = false) (σ : Mem) (hR : Rng σ) (s : Int) : Cb l D K ad yX8_refuseUnlessFine (.code yX8_refuseUnlessFine cX8_refuseUnlessFine 3 none) 7 1 6 σ [.ref (ad 0 23), .int (iN (-2)), .int (iN s)] (.inr "java/lang/IllegalArgumentException") σ := by
  refine Cb.of (own := RX8) (ls0 := [some (.ref (ad 0 23)), some (.int (iN (-2))), some (.int (iN s))]) hl0 (by decide) rfl (Nat.le_of_ble_eq_true rfl) rfl ?_
  intro X hX1 hX2 hX3 hf he hh
  subst hX1 hX2 hX3
  refine V_iload_n hf dX8_refuseUnlessFine_0 rfl rfl ?_
  refine V_iconst hf dX8_refuseUnlessFine_1 ?_
  refine V_icmp_ne (tgt := 16) hf (by first | exact hR _ _ _ (by decide) | exact ⟨by omega, by omega⟩) (by first | exact hR _ _ _ (by decide) | exact ⟨by omega, by omega⟩) dX8_refuseUnlessFine_2 (by decide) (fun h2 => ?_) (fun h2 => ?_)
  · refine V_iload_n hf dX8_refuseUnlessFine_16 rfl rfl ?_
    refine V_bipush hf dX8_refuseUnlessFine_17 (by decide +kernel) ?_
    refine V_icmp_ne (tgt := 33) hf (by first | exact hR _ _ _ (by decide) | exact ⟨by omega, by omega⟩) (by first | exact hR _ _ _ (by decide) | exact ⟨by omega, by omega⟩) dX8_refuseUnlessFine_19 (by decide) (fun h19 => ?_) (fun h19 => ?_)
    · exact absurd h19 (by decide)
    · exact V_thrW hf he hh (text := "an argument is out of range") (names := ["java/lang/RuntimeException", "java/lang/Exception"]) (by decide) (by decide) wk_X8_259 wx_IllegalArgumentException (by decide) (at_X8_263) dX8_refuseUnlessFine_22 dX8_refuseUnlessFine_25 dX8_refuseUnlessFine_26 dX8_refuseUnlessFine_29 dX8_refuseUnlessFine_32 ⟨by decide, (Nat.le_of_ble_eq_true rfl), by decide, by decide⟩ (by decide) (by decide) ⟨rfl, rfl, rfl⟩
  · exact absurd h2 (by decide)

set_option maxHeartbeats 4000000 in
set_option maxRecDepth 100000 in
theorem cx_fine3 {l : Launch} {D : va_G} {K : Nat → ClassId} {ad : Adr} (hl0 : l.stackTraces = false) (σ : Mem) (hR : Rng σ) (s : Int) : Cb l D K ad yX8_refuseUnlessFine (.code yX8_refuseUnlessFine cX8_refuseUnlessFine 3 none) 7 1 6 σ [.ref (ad 0 23), .int (iN (-3)), .int (iN s)] (.inr "java/util/NoSuchElementException") σ := by
  refine Cb.of (own := RX8) (ls0 := [some (.ref (ad 0 23)), some (.int (iN (-3))), some (.int (iN s))]) hl0 (by decide) rfl (Nat.le_of_ble_eq_true rfl) rfl ?_
  intro X hX1 hX2 hX3 hf he hh
  subst hX1 hX2 hX3
  refine V_iload_n hf dX8_refuseUnlessFine_0 rfl rfl ?_
  refine V_iconst hf dX8_refuseUnlessFine_1 ?_
  refine V_icmp_ne (tgt := 16) hf (by first | exact hR _ _ _ (by decide) | exact ⟨by omega, by omega⟩) (by first | exact hR _ _ _ (by decide) | exact ⟨by omega, by omega⟩) dX8_refuseUnlessFine_2 (by decide) (fun h2 => ?_) (fun h2 => ?_)
  · refine V_iload_n hf dX8_refuseUnlessFine_16 rfl rfl ?_
    refine V_bipush hf dX8_refuseUnlessFine_17 (by decide +kernel) ?_
    refine V_icmp_ne (tgt := 33) hf (by first | exact hR _ _ _ (by decide) | exact ⟨by omega, by omega⟩) (by first | exact hR _ _ _ (by decide) | exact ⟨by omega, by omega⟩) dX8_refuseUnlessFine_19 (by decide) (fun h19 => ?_) (fun h19 => ?_)
    · refine V_iload_n hf dX8_refuseUnlessFine_33 rfl rfl ?_
      refine V_bipush hf dX8_refuseUnlessFine_34 (by decide +kernel) ?_
      refine V_icmp_ne (tgt := 50) hf (by first | exact hR _ _ _ (by decide) | exact ⟨by omega, by omega⟩) (by first | exact hR _ _ _ (by decide) | exact ⟨by omega, by omega⟩) dX8_refuseUnlessFine_36 (by decide) (fun h36 => ?_) (fun h36 => ?_)
      · exact absurd h36 (by decide)
      · exact V_nthrW hf he hh (text := "there is no open order with this id") (names := ["java/lang/RuntimeException", "java/lang/Exception"]) dnx_0 dnx_1 dnx_2 dnx_5 (by decide) (by decide) wk_X8_104 wx_NoSuchElementException (by decide) (at_X8_108) dX8_refuseUnlessFine_39 dX8_refuseUnlessFine_42 dX8_refuseUnlessFine_43 dX8_refuseUnlessFine_46 dX8_refuseUnlessFine_49 ⟨by decide, (Nat.le_of_ble_eq_true rfl), by decide, by decide⟩ (by decide) (by decide) ⟨rfl, rfl, rfl⟩
    · exact absurd h19 (by decide)
  · exact absurd h2 (by decide)

set_option maxHeartbeats 4000000 in
set_option maxRecDepth 100000 in
theorem cr_fine1 {l : Launch} {D : va_G} {K : Nat → ClassId} {ad : Adr} (hl0 : l.stackTraces = false) (σ : Mem) (hR : Rng σ) (hM : MI (σ 0)) (s : Int) (hs : inR s) : Cb l D K ad yX8_refuseUnlessFine (.code yX8_refuseUnlessFine cX8_refuseUnlessFine 3 none) 7 1 6 σ [.ref (ad 0 23), .int (iN 1), .int (iN s)] (.inr "java/lang/UnsupportedOperationException") (noteR σ 1 (6) (-1)) := by
  refine Cb.of (own := RX8) (ls0 := [some (.ref (ad 0 23)), some (.int (iN 1)), some (.int (iN s))]) hl0 (by decide) rfl (Nat.le_of_ble_eq_true rfl) rfl ?_
  intro X hX1 hX2 hX3 hf he hh
  subst hX1 hX2 hX3
  refine V_iload_n hf dX8_refuseUnlessFine_0 rfl rfl ?_
  refine V_iconst hf dX8_refuseUnlessFine_1 ?_
  refine V_icmp_ne (tgt := 16) hf (by first | exact hR _ _ _ (by decide) | exact ⟨by omega, by omega⟩) (by first | exact hR _ _ _ (by decide) | exact ⟨by omega, by omega⟩) dX8_refuseUnlessFine_2 (by decide) (fun h2 => ?_) (fun h2 => ?_)
  · refine V_iload_n hf dX8_refuseUnlessFine_16 rfl rfl ?_
    refine V_bipush hf dX8_refuseUnlessFine_17 (by decide +kernel) ?_
    refine V_icmp_ne (tgt := 33) hf (by first | exact hR _ _ _ (by decide) | exact ⟨by omega, by omega⟩) (by first | exact hR _ _ _ (by decide) | exact ⟨by omega, by omega⟩) dX8_refuseUnlessFine_19 (by decide) (fun h19 => ?_) (fun h19 => ?_)
    · refine V_iload_n hf dX8_refuseUnlessFine_33 rfl rfl ?_
      refine V_bipush hf dX8_refuseUnlessFine_34 (by decide +kernel) ?_
      refine V_icmp_ne (tgt := 50) hf (by first | exact hR _ _ _ (by decide) | exact ⟨by omega, by omega⟩) (by first | exact hR _ _ _ (by decide) | exact ⟨by omega, by omega⟩) dX8_refuseUnlessFine_36 (by decide) (fun h36 => ?_) (fun h36 => ?_)
      · refine V_iload_n hf dX8_refuseUnlessFine_50 rfl rfl ?_
        refine V_if_eq (tgt := 80) hf (by first | exact hR _ _ _ (by decide) | exact ⟨by omega, by omega⟩) dX8_refuseUnlessFine_51 (by decide) (fun h51 => ?_) (fun h51 => ?_)
        · exact absurd h51 (by decide)
        · refine V_aload_n hf dX8_refuseUnlessFine_54 rfl rfl ?_
          refine V_iload_n hf dX8_refuseUnlessFine_55 rfl rfl ?_
          refine V_aload_n hf dX8_refuseUnlessFine_56 rfl rfl ?_
          refine B_get hf l01 rfl fl_X8_10_11 rfl dX8_refuseUnlessFine_57 ?_
          refine V_iload_n hf dX8_refuseUnlessFine_60 rfl rfl ?_
          refine V_iload_n hf dX8_refuseUnlessFine_61 rfl rfl ?_
          refine B_callVi hf (As := [_, _]) (c_detail_1 hl0 0 lm0 σ hR hM s hs) cv_X8_323 lm0 rfl rfl rfl (Nat.le_of_ble_eq_true rfl) ⟨by decide, by decide, by decide, by decide⟩ dX8_refuseUnlessFine_62 ?_
          refine V_iconst hf dX8_refuseUnlessFine_65 ?_
          refine B_callVv hf (As := [_, _, _]) (c_noteR hl0 σ hR 1 (6) (-1)) cv_X8_326 l01 rfl rfl rfl (Nat.le_of_ble_eq_true rfl) ⟨by decide, by decide, by decide, by decide⟩ dX8_refuseUnlessFine_66 ?_
          exact V_thrW hf he hh (text := "the call is rejected") (names := ["java/lang/RuntimeException", "java/lang/Exception"]) (by decide) (by decide) wk_X8_330 wx_UnsupportedOperationException (by decide) (at_X8_334) dX8_refuseUnlessFine_69 dX8_refuseUnlessFine_72 dX8_refuseUnlessFine_73 dX8_refuseUnlessFine_76 dX8_refuseUnlessFine_79 ⟨by decide, (Nat.le_of_ble_eq_true rfl), by decide, by decide⟩ (by decide) (by decide) ⟨rfl, rfl, rfl⟩
      · exact absurd h36 (by decide)
    · exact absurd h19 (by decide)
  · exact absurd h2 (by decide)

set_option maxHeartbeats 4000000 in
set_option maxRecDepth 100000 in
theorem cr_fine2 {l : Launch} {D : va_G} {K : Nat → ClassId} {ad : Adr} (hl0 : l.stackTraces = false) (σ : Mem) (hR : Rng σ) (hM : MI (σ 0)) (s : Int) (hs : inR s) : Cb l D K ad yX8_refuseUnlessFine (.code yX8_refuseUnlessFine cX8_refuseUnlessFine 3 none) 7 1 6 σ [.ref (ad 0 23), .int (iN 2), .int (iN s)] (.inr "java/lang/UnsupportedOperationException") (noteR σ 2 (16) (-1)) := by
  refine Cb.of (own := RX8) (ls0 := [some (.ref (ad 0 23)), some (.int (iN 2)), some (.int (iN s))]) hl0 (by decide) rfl (Nat.le_of_ble_eq_true rfl) rfl ?_
  intro X hX1 hX2 hX3 hf he hh
  subst hX1 hX2 hX3
  refine V_iload_n hf dX8_refuseUnlessFine_0 rfl rfl ?_
  refine V_iconst hf dX8_refuseUnlessFine_1 ?_
  refine V_icmp_ne (tgt := 16) hf (by first | exact hR _ _ _ (by decide) | exact ⟨by omega, by omega⟩) (by first | exact hR _ _ _ (by decide) | exact ⟨by omega, by omega⟩) dX8_refuseUnlessFine_2 (by decide) (fun h2 => ?_) (fun h2 => ?_)
  · refine V_iload_n hf dX8_refuseUnlessFine_16 rfl rfl ?_
    refine V_bipush hf dX8_refuseUnlessFine_17 (by decide +kernel) ?_
    refine V_icmp_ne (tgt := 33) hf (by first | exact hR _ _ _ (by decide) | exact ⟨by omega, by omega⟩) (by first | exact hR _ _ _ (by decide) | exact ⟨by omega, by omega⟩) dX8_refuseUnlessFine_19 (by decide) (fun h19 => ?_) (fun h19 => ?_)
    · refine V_iload_n hf dX8_refuseUnlessFine_33 rfl rfl ?_
      refine V_bipush hf dX8_refuseUnlessFine_34 (by decide +kernel) ?_
      refine V_icmp_ne (tgt := 50) hf (by first | exact hR _ _ _ (by decide) | exact ⟨by omega, by omega⟩) (by first | exact hR _ _ _ (by decide) | exact ⟨by omega, by omega⟩) dX8_refuseUnlessFine_36 (by decide) (fun h36 => ?_) (fun h36 => ?_)
      · refine V_iload_n hf dX8_refuseUnlessFine_50 rfl rfl ?_
        refine V_if_eq (tgt := 80) hf (by first | exact hR _ _ _ (by decide) | exact ⟨by omega, by omega⟩) dX8_refuseUnlessFine_51 (by decide) (fun h51 => ?_) (fun h51 => ?_)
        · exact absurd h51 (by decide)
        · refine V_aload_n hf dX8_refuseUnlessFine_54 rfl rfl ?_
          refine V_iload_n hf dX8_refuseUnlessFine_55 rfl rfl ?_
          refine V_aload_n hf dX8_refuseUnlessFine_56 rfl rfl ?_
          refine B_get hf l01 rfl fl_X8_10_11 rfl dX8_refuseUnlessFine_57 ?_
          refine V_iload_n hf dX8_refuseUnlessFine_60 rfl rfl ?_
          refine V_iload_n hf dX8_refuseUnlessFine_61 rfl rfl ?_
          refine B_callVi hf (As := [_, _]) (c_detail_2 hl0 0 lm0 σ hR hM s hs) cv_X8_323 lm0 rfl rfl rfl (Nat.le_of_ble_eq_true rfl) ⟨by decide, by decide, by decide, by decide⟩ dX8_refuseUnlessFine_62 ?_
          refine V_iconst hf dX8_refuseUnlessFine_65 ?_
          refine B_callVv hf (As := [_, _, _]) (c_noteR hl0 σ hR 2 (16) (-1)) cv_X8_326 l01 rfl rfl rfl (Nat.le_of_ble_eq_true rfl) ⟨by decide, by decide, by decide, by decide⟩ dX8_refuseUnlessFine_66 ?_
          exact V_thrW hf he hh (text := "the call is rejected") (names := ["java/lang/RuntimeException", "java/lang/Exception"]) (by decide) (by decide) wk_X8_330 wx_UnsupportedOperationException (by decide) (at_X8_334) dX8_refuseUnlessFine_69 dX8_refuseUnlessFine_72 dX8_refuseUnlessFine_73 dX8_refuseUnlessFine_76 dX8_refuseUnlessFine_79 ⟨by decide, (Nat.le_of_ble_eq_true rfl), by decide, by decide⟩ (by decide) (by decide) ⟨rfl, rfl, rfl⟩
      · exact absurd h36 (by decide)
    · exact absurd h19 (by decide)
  · exact absurd h2 (by decide)

set_option maxHeartbeats 4000000 in
set_option maxRecDepth 100000 in
theorem cr_fine3 {l : Launch} {D : va_G} {K : Nat → ClassId} {ad : Adr} (hl0 : l.stackTraces = false) (σ : Mem) (hR : Rng σ) (hM : MI (σ 0)) (s : Int) (hs : 0 ≤ s ∧ s < 6) : Cb l D K ad yX8_refuseUnlessFine (.code yX8_refuseUnlessFine cX8_refuseUnlessFine 3 none) 7 1 6 σ [.ref (ad 0 23), .int (iN 3), .int (iN s)] (.inr "java/lang/UnsupportedOperationException") (noteR σ 3 (σ 0 3 s) (-1)) := by
  refine Cb.of (own := RX8) (ls0 := [some (.ref (ad 0 23)), some (.int (iN 3)), some (.int (iN s))]) hl0 (by decide) rfl (Nat.le_of_ble_eq_true rfl) rfl ?_
  intro X hX1 hX2 hX3 hf he hh
  subst hX1 hX2 hX3
  refine V_iload_n hf dX8_refuseUnlessFine_0 rfl rfl ?_
  refine V_iconst hf dX8_refuseUnlessFine_1 ?_
  refine V_icmp_ne (tgt := 16) hf (by first | exact hR _ _ _ (by decide) | exact ⟨by omega, by omega⟩) (by first | exact hR _ _ _ (by decide) | exact ⟨by omega, by omega⟩) dX8_refuseUnlessFine_2 (by decide) (fun h2 => ?_) (fun h2 => ?_)
  · refine V_iload_n hf dX8_refuseUnlessFine_16 rfl rfl ?_
    refine V_bipush hf dX8_refuseUnlessFine_17 (by decide +kernel) ?_
    refine V_icmp_ne (tgt := 33) hf (by first | exact hR _ _ _ (by decide) | exact ⟨by omega, by omega⟩) (by first | exact hR _ _ _ (by decide) | exact ⟨by omega, by omega⟩) dX8_refuseUnlessFine_19 (by decide) (fun h19 => ?_) (fun h19 => ?_)
    · refine V_iload_n hf dX8_refuseUnlessFine_33 rfl rfl ?_
      refine V_bipush hf dX8_refuseUnlessFine_34 (by decide +kernel) ?_
      refine V_icmp_ne (tgt := 50) hf (by first | exact hR _ _ _ (by decide) | exact ⟨by omega, by omega⟩) (by first | exact hR _ _ _ (by decide) | exact ⟨by omega, by omega⟩) dX8_refuseUnlessFine_36 (by decide) (fun h36 => ?_) (fun h36 => ?_)
      · refine V_iload_n hf dX8_refuseUnlessFine_50 rfl rfl ?_
        refine V_if_eq (tgt := 80) hf (by first | exact hR _ _ _ (by decide) | exact ⟨by omega, by omega⟩) dX8_refuseUnlessFine_51 (by decide) (fun h51 => ?_) (fun h51 => ?_)
        · exact absurd h51 (by decide)
        · refine V_aload_n hf dX8_refuseUnlessFine_54 rfl rfl ?_
          refine V_iload_n hf dX8_refuseUnlessFine_55 rfl rfl ?_
          refine V_aload_n hf dX8_refuseUnlessFine_56 rfl rfl ?_
          refine B_get hf l01 rfl fl_X8_10_11 rfl dX8_refuseUnlessFine_57 ?_
          refine V_iload_n hf dX8_refuseUnlessFine_60 rfl rfl ?_
          refine V_iload_n hf dX8_refuseUnlessFine_61 rfl rfl ?_
          refine B_callVi hf (As := [_, _]) (c_detail_3 hl0 0 lm0 σ hR hM s hs) cv_X8_323 lm0 rfl rfl rfl (Nat.le_of_ble_eq_true rfl) ⟨by decide, by decide, by decide, by decide⟩ dX8_refuseUnlessFine_62 ?_
          refine V_iconst hf dX8_refuseUnlessFine_65 ?_
          refine B_callVv hf (As := [_, _, _]) (c_noteR hl0 σ hR 3 (σ 0 3 s) (-1)) cv_X8_326 l01 rfl rfl rfl (Nat.le_of_ble_eq_true rfl) ⟨by decide, by decide, by decide, by decide⟩ dX8_refuseUnlessFine_66 ?_
          exact V_thrW hf he hh (text := "the call is rejected") (names := ["java/lang/RuntimeException", "java/lang/Exception"]) (by decide) (by decide) wk_X8_330 wx_UnsupportedOperationException (by decide) (at_X8_334) dX8_refuseUnlessFine_69 dX8_refuseUnlessFine_72 dX8_refuseUnlessFine_73 dX8_refuseUnlessFine_76 dX8_refuseUnlessFine_79 ⟨by decide, (Nat.le_of_ble_eq_true rfl), by decide, by decide⟩ (by decide) (by decide) ⟨rfl, rfl, rfl⟩
      · exact absurd h36 (by decide)
    · exact absurd h19 (by decide)
  · exact absurd h2 (by decide)

set_option maxHeartbeats 4000000 in
set_option maxRecDepth 100000 in
theorem cr_fine4 {l : Launch} {D : va_G} {K : Nat → ClassId} {ad : Adr} (hl0 : l.stackTraces = false) (σ : Mem) (hR : Rng σ) (hM : MI (σ 0)) (s : Int) (hs : inR s) : Cb l D K ad yX8_refuseUnlessFine (.code yX8_refuseUnlessFine cX8_refuseUnlessFine 3 none) 7 1 6 σ [.ref (ad 0 23), .int (iN 4), .int (iN s)] (.inr "java/lang/UnsupportedOperationException") (noteR σ 4 (σ 0 7 9) (-1)) := by
  refine Cb.of (own := RX8) (ls0 := [some (.ref (ad 0 23)), some (.int (iN 4)), some (.int (iN s))]) hl0 (by decide) rfl (Nat.le_of_ble_eq_true rfl) rfl ?_
  intro X hX1 hX2 hX3 hf he hh
  subst hX1 hX2 hX3
  refine V_iload_n hf dX8_refuseUnlessFine_0 rfl rfl ?_
  refine V_iconst hf dX8_refuseUnlessFine_1 ?_
  refine V_icmp_ne (tgt := 16) hf (by first | exact hR _ _ _ (by decide) | exact ⟨by omega, by omega⟩) (by first | exact hR _ _ _ (by decide) | exact ⟨by omega, by omega⟩) dX8_refuseUnlessFine_2 (by decide) (fun h2 => ?_) (fun h2 => ?_)
  · refine V_iload_n hf dX8_refuseUnlessFine_16 rfl rfl ?_
    refine V_bipush hf dX8_refuseUnlessFine_17 (by decide +kernel) ?_
    refine V_icmp_ne (tgt := 33) hf (by first | exact hR _ _ _ (by decide) | exact ⟨by omega, by omega⟩) (by first | exact hR _ _ _ (by decide) | exact ⟨by omega, by omega⟩) dX8_refuseUnlessFine_19 (by decide) (fun h19 => ?_) (fun h19 => ?_)
    · refine V_iload_n hf dX8_refuseUnlessFine_33 rfl rfl ?_
      refine V_bipush hf dX8_refuseUnlessFine_34 (by decide +kernel) ?_
      refine V_icmp_ne (tgt := 50) hf (by first | exact hR _ _ _ (by decide) | exact ⟨by omega, by omega⟩) (by first | exact hR _ _ _ (by decide) | exact ⟨by omega, by omega⟩) dX8_refuseUnlessFine_36 (by decide) (fun h36 => ?_) (fun h36 => ?_)
      · refine V_iload_n hf dX8_refuseUnlessFine_50 rfl rfl ?_
        refine V_if_eq (tgt := 80) hf (by first | exact hR _ _ _ (by decide) | exact ⟨by omega, by omega⟩) dX8_refuseUnlessFine_51 (by decide) (fun h51 => ?_) (fun h51 => ?_)
        · exact absurd h51 (by decide)
        · refine V_aload_n hf dX8_refuseUnlessFine_54 rfl rfl ?_
          refine V_iload_n hf dX8_refuseUnlessFine_55 rfl rfl ?_
          refine V_aload_n hf dX8_refuseUnlessFine_56 rfl rfl ?_
          refine B_get hf l01 rfl fl_X8_10_11 rfl dX8_refuseUnlessFine_57 ?_
          refine V_iload_n hf dX8_refuseUnlessFine_60 rfl rfl ?_
          refine V_iload_n hf dX8_refuseUnlessFine_61 rfl rfl ?_
          refine B_callVi hf (As := [_, _]) (c_detail_4 hl0 0 lm0 σ hR hM s hs) cv_X8_323 lm0 rfl rfl rfl (Nat.le_of_ble_eq_true rfl) ⟨by decide, by decide, by decide, by decide⟩ dX8_refuseUnlessFine_62 ?_
          refine V_iconst hf dX8_refuseUnlessFine_65 ?_
          refine B_callVv hf (As := [_, _, _]) (c_noteR hl0 σ hR 4 (σ 0 7 9) (-1)) cv_X8_326 l01 rfl rfl rfl (Nat.le_of_ble_eq_true rfl) ⟨by decide, by decide, by decide, by decide⟩ dX8_refuseUnlessFine_66 ?_
          exact V_thrW hf he hh (text := "the call is rejected") (names := ["java/lang/RuntimeException", "java/lang/Exception"]) (by decide) (by decide) wk_X8_330 wx_UnsupportedOperationException (by decide) (at_X8_334) dX8_refuseUnlessFine_69 dX8_refuseUnlessFine_72 dX8_refuseUnlessFine_73 dX8_refuseUnlessFine_76 dX8_refuseUnlessFine_79 ⟨by decide, (Nat.le_of_ble_eq_true rfl), by decide, by decide⟩ (by decide) (by decide) ⟨rfl, rfl, rfl⟩
      · exact absurd h36 (by decide)
    · exact absurd h19 (by decide)
  · exact absurd h2 (by decide)

set_option maxHeartbeats 4000000 in
set_option maxRecDepth 100000 in
theorem cr_fine5 {l : Launch} {D : va_G} {K : Nat → ClassId} {ad : Adr} (hl0 : l.stackTraces = false) (σ : Mem) (hR : Rng σ) (hM : MI (σ 0)) (s : Int) (hs : 0 ≤ s ∧ s < 6) : Cb l D K ad yX8_refuseUnlessFine (.code yX8_refuseUnlessFine cX8_refuseUnlessFine 3 none) 7 1 6 σ [.ref (ad 0 23), .int (iN 5), .int (iN s)] (.inr "java/lang/UnsupportedOperationException") (noteR σ 5 (coinsL (σ 0) s) (-1)) := by
  refine Cb.of (own := RX8) (ls0 := [some (.ref (ad 0 23)), some (.int (iN 5)), some (.int (iN s))]) hl0 (by decide) rfl (Nat.le_of_ble_eq_true rfl) rfl ?_
  intro X hX1 hX2 hX3 hf he hh
  subst hX1 hX2 hX3
  refine V_iload_n hf dX8_refuseUnlessFine_0 rfl rfl ?_
  refine V_iconst hf dX8_refuseUnlessFine_1 ?_
  refine V_icmp_ne (tgt := 16) hf (by first | exact hR _ _ _ (by decide) | exact ⟨by omega, by omega⟩) (by first | exact hR _ _ _ (by decide) | exact ⟨by omega, by omega⟩) dX8_refuseUnlessFine_2 (by decide) (fun h2 => ?_) (fun h2 => ?_)
  · refine V_iload_n hf dX8_refuseUnlessFine_16 rfl rfl ?_
    refine V_bipush hf dX8_refuseUnlessFine_17 (by decide +kernel) ?_
    refine V_icmp_ne (tgt := 33) hf (by first | exact hR _ _ _ (by decide) | exact ⟨by omega, by omega⟩) (by first | exact hR _ _ _ (by decide) | exact ⟨by omega, by omega⟩) dX8_refuseUnlessFine_19 (by decide) (fun h19 => ?_) (fun h19 => ?_)
    · refine V_iload_n hf dX8_refuseUnlessFine_33 rfl rfl ?_
      refine V_bipush hf dX8_refuseUnlessFine_34 (by decide +kernel) ?_
      refine V_icmp_ne (tgt := 50) hf (by first | exact hR _ _ _ (by decide) | exact ⟨by omega, by omega⟩) (by first | exact hR _ _ _ (by decide) | exact ⟨by omega, by omega⟩) dX8_refuseUnlessFine_36 (by decide) (fun h36 => ?_) (fun h36 => ?_)
      · refine V_iload_n hf dX8_refuseUnlessFine_50 rfl rfl ?_
        refine V_if_eq (tgt := 80) hf (by first | exact hR _ _ _ (by decide) | exact ⟨by omega, by omega⟩) dX8_refuseUnlessFine_51 (by decide) (fun h51 => ?_) (fun h51 => ?_)
        · exact absurd h51 (by decide)
        · refine V_aload_n hf dX8_refuseUnlessFine_54 rfl rfl ?_
          refine V_iload_n hf dX8_refuseUnlessFine_55 rfl rfl ?_
          refine V_aload_n hf dX8_refuseUnlessFine_56 rfl rfl ?_
          refine B_get hf l01 rfl fl_X8_10_11 rfl dX8_refuseUnlessFine_57 ?_
          refine V_iload_n hf dX8_refuseUnlessFine_60 rfl rfl ?_
          refine V_iload_n hf dX8_refuseUnlessFine_61 rfl rfl ?_
          refine B_callVi hf (As := [_, _]) (c_detail_5 hl0 0 lm0 σ hR hM s hs) cv_X8_323 lm0 rfl rfl rfl (Nat.le_of_ble_eq_true rfl) ⟨by decide, by decide, by decide, by decide⟩ dX8_refuseUnlessFine_62 ?_
          refine V_iconst hf dX8_refuseUnlessFine_65 ?_
          refine B_callVv hf (As := [_, _, _]) (c_noteR hl0 σ hR 5 (coinsL (σ 0) s) (-1)) cv_X8_326 l01 rfl rfl rfl (Nat.le_of_ble_eq_true rfl) ⟨by decide, by decide, by decide, by decide⟩ dX8_refuseUnlessFine_66 ?_
          exact V_thrW hf he hh (text := "the call is rejected") (names := ["java/lang/RuntimeException", "java/lang/Exception"]) (by decide) (by decide) wk_X8_330 wx_UnsupportedOperationException (by decide) (at_X8_334) dX8_refuseUnlessFine_69 dX8_refuseUnlessFine_72 dX8_refuseUnlessFine_73 dX8_refuseUnlessFine_76 dX8_refuseUnlessFine_79 ⟨by decide, (Nat.le_of_ble_eq_true rfl), by decide, by decide⟩ (by decide) (by decide) ⟨rfl, rfl, rfl⟩
      · exact absurd h36 (by decide)
    · exact absurd h19 (by decide)
  · exact absurd h2 (by decide)

set_option maxHeartbeats 4000000 in
set_option maxRecDepth 100000 in
theorem cr_fine6 {l : Launch} {D : va_G} {K : Nat → ClassId} {ad : Adr} (hl0 : l.stackTraces = false) (σ : Mem) (hR : Rng σ) (hM : MI (σ 0)) (s : Int) (hs : inR s) : Cb l D K ad yX8_refuseUnlessFine (.code yX8_refuseUnlessFine cX8_refuseUnlessFine 3 none) 7 1 6 σ [.ref (ad 0 23), .int (iN 6), .int (iN s)] (.inr "java/lang/UnsupportedOperationException") (noteR σ 6 ((if rowOwn (σ 0) 12 s = -1 then -1 else σ 0 13 (rowOwn (σ 0) 12 s))) (-1)) := by
  refine Cb.of (own := RX8) (ls0 := [some (.ref (ad 0 23)), some (.int (iN 6)), some (.int (iN s))]) hl0 (by decide) rfl (Nat.le_of_ble_eq_true rfl) rfl ?_
  intro X hX1 hX2 hX3 hf he hh
  subst hX1 hX2 hX3
  refine V_iload_n hf dX8_refuseUnlessFine_0 rfl rfl ?_
  refine V_iconst hf dX8_refuseUnlessFine_1 ?_
  refine V_icmp_ne (tgt := 16) hf (by first | exact hR _ _ _ (by decide) | exact ⟨by omega, by omega⟩) (by first | exact hR _ _ _ (by decide) | exact ⟨by omega, by omega⟩) dX8_refuseUnlessFine_2 (by decide) (fun h2 => ?_) (fun h2 => ?_)
  · refine V_iload_n hf dX8_refuseUnlessFine_16 rfl rfl ?_
    refine V_bipush hf dX8_refuseUnlessFine_17 (by decide +kernel) ?_
    refine V_icmp_ne (tgt := 33) hf (by first | exact hR _ _ _ (by decide) | exact ⟨by omega, by omega⟩) (by first | exact hR _ _ _ (by decide) | exact ⟨by omega, by omega⟩) dX8_refuseUnlessFine_19 (by decide) (fun h19 => ?_) (fun h19 => ?_)
    · refine V_iload_n hf dX8_refuseUnlessFine_33 rfl rfl ?_
      refine V_bipush hf dX8_refuseUnlessFine_34 (by decide +kernel) ?_
      refine V_icmp_ne (tgt := 50) hf (by first | exact hR _ _ _ (by decide) | exact ⟨by omega, by omega⟩) (by first | exact hR _ _ _ (by decide) | exact ⟨by omega, by omega⟩) dX8_refuseUnlessFine_36 (by decide) (fun h36 => ?_) (fun h36 => ?_)
      · refine V_iload_n hf dX8_refuseUnlessFine_50 rfl rfl ?_
        refine V_if_eq (tgt := 80) hf (by first | exact hR _ _ _ (by decide) | exact ⟨by omega, by omega⟩) dX8_refuseUnlessFine_51 (by decide) (fun h51 => ?_) (fun h51 => ?_)
        · exact absurd h51 (by decide)
        · refine V_aload_n hf dX8_refuseUnlessFine_54 rfl rfl ?_
          refine V_iload_n hf dX8_refuseUnlessFine_55 rfl rfl ?_
          refine V_aload_n hf dX8_refuseUnlessFine_56 rfl rfl ?_
          refine B_get hf l01 rfl fl_X8_10_11 rfl dX8_refuseUnlessFine_57 ?_
          refine V_iload_n hf dX8_refuseUnlessFine_60 rfl rfl ?_
          refine V_iload_n hf dX8_refuseUnlessFine_61 rfl rfl ?_
          refine B_callVi hf (As := [_, _]) (c_detail_6 hl0 0 lm0 σ hR hM s hs) cv_X8_323 lm0 rfl rfl rfl (Nat.le_of_ble_eq_true rfl) ⟨by decide, by decide, by decide, by decide⟩ dX8_refuseUnlessFine_62 ?_
          refine V_iconst hf dX8_refuseUnlessFine_65 ?_
          refine B_callVv hf (As := [_, _, _]) (c_noteR hl0 σ hR 6 ((if rowOwn (σ 0) 12 s = -1 then -1 else σ 0 13 (rowOwn (σ 0) 12 s))) (-1)) cv_X8_326 l01 rfl rfl rfl (Nat.le_of_ble_eq_true rfl) ⟨by decide, by decide, by decide, by decide⟩ dX8_refuseUnlessFine_66 ?_
          exact V_thrW hf he hh (text := "the call is rejected") (names := ["java/lang/RuntimeException", "java/lang/Exception"]) (by decide) (by decide) wk_X8_330 wx_UnsupportedOperationException (by decide) (at_X8_334) dX8_refuseUnlessFine_69 dX8_refuseUnlessFine_72 dX8_refuseUnlessFine_73 dX8_refuseUnlessFine_76 dX8_refuseUnlessFine_79 ⟨by decide, (Nat.le_of_ble_eq_true rfl), by decide, by decide⟩ (by decide) (by decide) ⟨rfl, rfl, rfl⟩
      · exact absurd h36 (by decide)
    · exact absurd h19 (by decide)
  · exact absurd h2 (by decide)
