/-! changes of the exchange -/
set_option maxHeartbeats 4000000 in
set_option maxRecDepth 100000 in
theorem c_ch_s {l : Launch} {D : va_G} {K : Nat → ClassId} {ad : Adr} (hl0 : l.stackTraces = false) (σ : Mem) (hR : Rng σ) (hM : MI (σ 0)) (a b c : Int) (ha : inR a) (hb : inR b) (hc : inR c) (hv : (vShip (σ 0) a b) = 0) (hH : HI σ) (hS : SZ σ) (hM1 : MI (remM σ 0 0)) (h0 : 0 ≤ a ∧ a ≤ 99) (h6 : (remM σ 0) 0 1 0 < 6) : Cb l D K ad yX8_change (.code yX8_change cX8_change 5 (some .int)) 8 1 6 σ [.ref (ad 0 23), .int (iN 115), .int (iN a), .int (iN b), .int (iN c)] (.inl (some (.int (iN (st3 (remM σ 0) 0 0 8 ((remM σ 0) 0 0 8 + a) 0 1 0))))) (shipM (remM σ 0) 0 a b) := by
  refine Cb.of (own := RX8) (ls0 := [some (.ref (ad 0 23)), some (.int (iN 115)), some (.int (iN a)), some (.int (iN b)), some (.int (iN c))]) hl0 (by decide) rfl (Nat.le_of_ble_eq_true rfl) rfl ?_
  intro X hX1 hX2 hX3 hf he hh
  subst hX1 hX2 hX3
  refine V_aload_n hf dX8_change_0 rfl rfl ?_
  refine V_aload_n hf dX8_change_1 rfl rfl ?_
  refine B_get hf l01 rfl fl_X8_10_11 rfl dX8_change_2 ?_
  refine V_iload_n hf dX8_change_5 rfl rfl ?_
  refine V_iload_n hf dX8_change_6 rfl rfl ?_
  refine V_iload_n hf dX8_change_7 rfl rfl ?_
  refine V_iload hf dX8_change_8 rfl ?_
  refine B_callVi hf (As := [_, _, _, _]) (c_judge_s hl0 0 lm0 σ hR hM a b c ha hb hc) cv_X8_308 lm0 rfl rfl rfl (Nat.le_of_ble_eq_true rfl) ⟨by decide, by decide, by decide, by decide⟩ dX8_change_10 ?_
  rw [hv]
  refine V_iload_n hf dX8_change_13 rfl rfl ?_
  refine B_callVv hf (As := [_, _]) (c_fine hl0 σ hR a) cv_X8_311 l01 rfl rfl rfl (Nat.le_of_ble_eq_true rfl) ⟨by decide, by decide, by decide, by decide⟩ dX8_change_14 ?_
  refine V_aload_n hf dX8_change_17 rfl rfl ?_
  refine B_get hf l01 rfl fl_X8_29_11 rfl dX8_change_18 ?_
  refine V_aload_n hf dX8_change_21 rfl rfl ?_
  refine B_get hf l01 rfl fl_X8_10_11 rfl dX8_change_22 ?_
  refine B_callVv hf (As := [_]) (c_remember hl0 σ hR 0 ⟨by decide, by decide⟩ hH hS) cv_X8_288 l01 rfl rfl rfl (Nat.le_of_ble_eq_true rfl) ⟨by decide, by decide, by decide, by decide⟩ dX8_change_25 ?_
  refine V_aload_n hf dX8_change_28 rfl rfl ?_
  refine B_get hf l01 rfl fl_X8_10_11 rfl dX8_change_29 ?_
  refine V_iload_n hf dX8_change_32 rfl rfl ?_
  refine V_iload_n hf dX8_change_33 rfl rfl ?_
  refine V_iload_n hf dX8_change_34 rfl rfl ?_
  refine V_iload hf dX8_change_35 rfl ?_
  refine B_callVi hf (As := [_, _, _, _]) (c_do_s hl0 0 lm0 (remM σ 0) (remM_R hR hH) hM1 a b c ha hb hc h0 h6) cv_X8_314 lm0 rfl rfl rfl (Nat.le_of_ble_eq_true rfl) ⟨by decide, by decide, by decide, by decide⟩ dX8_change_37 ?_
  exact B_iret hf he rfl dX8_change_40 (by decide) (by decide) rfl rfl

set_option maxHeartbeats 4000000 in
set_option maxRecDepth 100000 in
theorem cx_ch_sn2 {l : Launch} {D : va_G} {K : Nat → ClassId} {ad : Adr} (hl0 : l.stackTraces = false) (σ : Mem) (hR : Rng σ) (hM : MI (σ 0)) (a b c : Int) (ha : inR a) (hb : inR b) (hc : inR c) (hv : (vShip (σ 0) a b) = -2) : Cb l D K ad yX8_change (.code yX8_change cX8_change 5 (some .int)) 8 1 6 σ [.ref (ad 0 23), .int (iN 115), .int (iN a), .int (iN b), .int (iN c)] (.inr "java/lang/IllegalArgumentException") σ := by
  refine Cb.of (own := RX8) (ls0 := [some (.ref (ad 0 23)), some (.int (iN 115)), some (.int (iN a)), some (.int (iN b)), some (.int (iN c))]) hl0 (by decide) rfl (Nat.le_of_ble_eq_true rfl) rfl ?_
  intro X hX1 hX2 hX3 hf he hh
  subst hX1 hX2 hX3
  refine V_aload_n hf dX8_change_0 rfl rfl ?_
  refine V_aload_n hf dX8_change_1 rfl rfl ?_
  refine B_get hf l01 rfl fl_X8_10_11 rfl dX8_change_2 ?_
  refine V_iload_n hf dX8_change_5 rfl rfl ?_
  refine V_iload_n hf dX8_change_6 rfl rfl ?_
  refine V_iload_n hf dX8_change_7 rfl rfl ?_
  refine V_iload hf dX8_change_8 rfl ?_
  refine B_callVi hf (As := [_, _, _, _]) (c_judge_s hl0 0 lm0 σ hR hM a b c ha hb hc) cv_X8_308 lm0 rfl rfl rfl (Nat.le_of_ble_eq_true rfl) ⟨by decide, by decide, by decide, by decide⟩ dX8_change_10 ?_
  rw [hv]
  refine V_iload_n hf dX8_change_13 rfl rfl ?_
  refine B_callVX hf (As := [_, _]) (cx_fine2 hl0 σ hR a) cv_X8_311 l01 rfl rfl rfl (Nat.le_of_ble_eq_true rfl) ⟨by decide, by decide, by decide, by decide⟩ dX8_change_14 ?_
  exact VX_out hf he hh (by decide) (by decide) ⟨rfl, rfl, rfl⟩

set_option maxHeartbeats 4000000 in
set_option maxRecDepth 100000 in
theorem cx_ch_s1 {l : Launch} {D : va_G} {K : Nat → ClassId} {ad : Adr} (hl0 : l.stackTraces = false) (σ : Mem) (hR : Rng σ) (hM : MI (σ 0)) (a b c : Int) (ha : inR a) (hb : inR b) (hc : inR c) (hv : (vShip (σ 0) a b) = 1) : Cb l D K ad yX8_change (.code yX8_change cX8_change 5 (some .int)) 8 1 6 σ [.ref (ad 0 23), .int (iN 115), .int (iN a), .int (iN b), .int (iN c)] (.inr "java/lang/UnsupportedOperationException") (noteR σ 1 (6) (-1)) := by
  refine Cb.of (own := RX8) (ls0 := [some (.ref (ad 0 23)), some (.int (iN 115)), some (.int (iN a)), some (.int (iN b)), some (.int (iN c))]) hl0 (by decide) rfl (Nat.le_of_ble_eq_true rfl) rfl ?_
  intro X hX1 hX2 hX3 hf he hh
  subst hX1 hX2 hX3
  refine V_aload_n hf dX8_change_0 rfl rfl ?_
  refine V_aload_n hf dX8_change_1 rfl rfl ?_
  refine B_get hf l01 rfl fl_X8_10_11 rfl dX8_change_2 ?_
  refine V_iload_n hf dX8_change_5 rfl rfl ?_
  refine V_iload_n hf dX8_change_6 rfl rfl ?_
  refine V_iload_n hf dX8_change_7 rfl rfl ?_
  refine V_iload hf dX8_change_8 rfl ?_
  refine B_callVi hf (As := [_, _, _, _]) (c_judge_s hl0 0 lm0 σ hR hM a b c ha hb hc) cv_X8_308 lm0 rfl rfl rfl (Nat.le_of_ble_eq_true rfl) ⟨by decide, by decide, by decide, by decide⟩ dX8_change_10 ?_
  rw [hv]
  refine V_iload_n hf dX8_change_13 rfl rfl ?_
  refine B_callVX hf (As := [_, _]) (cr_fine1 hl0 σ hR hM a ha) cv_X8_311 l01 rfl rfl rfl (Nat.le_of_ble_eq_true rfl) ⟨by decide, by decide, by decide, by decide⟩ dX8_change_14 ?_
  exact VX_out hf he hh (by decide) (by decide) ⟨rfl, rfl, rfl⟩

set_option maxHeartbeats 4000000 in
set_option maxRecDepth 100000 in
theorem c_ch_a {l : Launch} {D : va_G} {K : Nat → ClassId} {ad : Adr} (hl0 : l.stackTraces = false) (σ : Mem) (hR : Rng σ) (hM : MI (σ 0)) (a b c : Int) (ha : inR a) (hb : inR b) (hc : inR c) (hv : (vBarn (σ 0) a b) = 0) (hH : HI σ) (hS : SZ σ) (hM1 : MI (remM σ 0 0)) (h6 : (remM σ 0) 0 1 3 < 16) : Cb l D K ad yX8_change (.code yX8_change cX8_change 5 (some .int)) 8 1 6 σ [.ref (ad 0 23), .int (iN 97), .int (iN a), .int (iN b), .int (iN c)] (.inl (some (.int (iN ((remM σ 0) 0 1 3))))) (boardM (remM σ 0) 0 a b) := by
  refine Cb.of (own := RX8) (ls0 := [some (.ref (ad 0 23)), some (.int (iN 97)), some (.int (iN a)), some (.int (iN b)), some (.int (iN c))]) hl0 (by decide) rfl (Nat.le_of_ble_eq_true rfl) rfl ?_
  intro X hX1 hX2 hX3 hf he hh
  subst hX1 hX2 hX3
  refine V_aload_n hf dX8_change_0 rfl rfl ?_
  refine V_aload_n hf dX8_change_1 rfl rfl ?_
  refine B_get hf l01 rfl fl_X8_10_11 rfl dX8_change_2 ?_
  refine V_iload_n hf dX8_change_5 rfl rfl ?_
  refine V_iload_n hf dX8_change_6 rfl rfl ?_
  refine V_iload_n hf dX8_change_7 rfl rfl ?_
  refine V_iload hf dX8_change_8 rfl ?_
  refine B_callVi hf (As := [_, _, _, _]) (c_judge_a hl0 0 lm0 σ hR hM a b c ha hb hc) cv_X8_308 lm0 rfl rfl rfl (Nat.le_of_ble_eq_true rfl) ⟨by decide, by decide, by decide, by decide⟩ dX8_change_10 ?_
  rw [hv]
  refine V_iload_n hf dX8_change_13 rfl rfl ?_
  refine B_callVv hf (As := [_, _]) (c_fine hl0 σ hR a) cv_X8_311 l01 rfl rfl rfl (Nat.le_of_ble_eq_true rfl) ⟨by decide, by decide, by decide, by decide⟩ dX8_change_14 ?_
  refine V_aload_n hf dX8_change_17 rfl rfl ?_
  refine B_get hf l01 rfl fl_X8_29_11 rfl dX8_change_18 ?_
  refine V_aload_n hf dX8_change_21 rfl rfl ?_
  refine B_get hf l01 rfl fl_X8_10_11 rfl dX8_change_22 ?_
  refine B_callVv hf (As := [_]) (c_remember hl0 σ hR 0 ⟨by decide, by decide⟩ hH hS) cv_X8_288 l01 rfl rfl rfl (Nat.le_of_ble_eq_true rfl) ⟨by decide, by decide, by decide, by decide⟩ dX8_change_25 ?_
  refine V_aload_n hf dX8_change_28 rfl rfl ?_
  refine B_get hf l01 rfl fl_X8_10_11 rfl dX8_change_29 ?_
  refine V_iload_n hf dX8_change_32 rfl rfl ?_
  refine V_iload_n hf dX8_change_33 rfl rfl ?_
  refine V_iload_n hf dX8_change_34 rfl rfl ?_
  refine V_iload hf dX8_change_35 rfl ?_
  refine B_callVi hf (As := [_, _, _, _]) (c_do_a hl0 0 lm0 (remM σ 0) (remM_R hR hH) hM1 a b c ha hb hc h6) cv_X8_314 lm0 rfl rfl rfl (Nat.le_of_ble_eq_true rfl) ⟨by decide, by decide, by decide, by decide⟩ dX8_change_37 ?_
  exact B_iret hf he rfl dX8_change_40 (by decide) (by decide) rfl rfl

set_option maxHeartbeats 4000000 in
set_option maxRecDepth 100000 in
theorem cx_ch_an1 {l : Launch} {D : va_G} {K : Nat → ClassId} {ad : Adr} (hl0 : l.stackTraces = false) (σ : Mem) (hR : Rng σ) (hM : MI (σ 0)) (a b c : Int) (ha : inR a) (hb : inR b) (hc : inR c) (hv : (vBarn (σ 0) a b) = -1) : Cb l D K ad yX8_change (.code yX8_change cX8_change 5 (some .int)) 8 1 6 σ [.ref (ad 0 23), .int (iN 97), .int (iN a), .int (iN b), .int (iN c)] (.inr "java/lang/IndexOutOfBoundsException") σ := by
  refine Cb.of (own := RX8) (ls0 := [some (.ref (ad 0 23)), some (.int (iN 97)), some (.int (iN a)), some (.int (iN b)), some (.int (iN c))]) hl0 (by decide) rfl (Nat.le_of_ble_eq_true rfl) rfl ?_
  intro X hX1 hX2 hX3 hf he hh
  subst hX1 hX2 hX3
  refine V_aload_n hf dX8_change_0 rfl rfl ?_
  refine V_aload_n hf dX8_change_1 rfl rfl ?_
  refine B_get hf l01 rfl fl_X8_10_11 rfl dX8_change_2 ?_
  refine V_iload_n hf dX8_change_5 rfl rfl ?_
  refine V_iload_n hf dX8_change_6 rfl rfl ?_
  refine V_iload_n hf dX8_change_7 rfl rfl ?_
  refine V_iload hf dX8_change_8 rfl ?_
  refine B_callVi hf (As := [_, _, _, _]) (c_judge_a hl0 0 lm0 σ hR hM a b c ha hb hc) cv_X8_308 lm0 rfl rfl rfl (Nat.le_of_ble_eq_true rfl) ⟨by decide, by decide, by decide, by decide⟩ dX8_change_10 ?_
  rw [hv]
  refine V_iload_n hf dX8_change_13 rfl rfl ?_
  refine B_callVX hf (As := [_, _]) (cx_fine1 hl0 σ hR a) cv_X8_311 l01 rfl rfl rfl (Nat.le_of_ble_eq_true rfl) ⟨by decide, by decide, by decide, by decide⟩ dX8_change_14 ?_
  exact VX_out hf he hh (by decide) (by decide) ⟨rfl, rfl, rfl⟩

set_option maxHeartbeats 4000000 in
set_option maxRecDepth 100000 in
theorem cx_ch_an2 {l : Launch} {D : va_G} {K : Nat → ClassId} {ad : Adr} (hl0 : l.stackTraces = false) (σ : Mem) (hR : Rng σ) (hM : MI (σ 0)) (a b c : Int) (ha : inR a) (hb : inR b) (hc : inR c) (hv : (vBarn (σ 0) a b) = -2) : Cb l D K ad yX8_change (.code yX8_change cX8_change 5 (some .int)) 8 1 6 σ [.ref (ad 0 23), .int (iN 97), .int (iN a), .int (iN b), .int (iN c)] (.inr "java/lang/IllegalArgumentException") σ := by
  refine Cb.of (own := RX8) (ls0 := [some (.ref (ad 0 23)), some (.int (iN 97)), some (.int (iN a)), some (.int (iN b)), some (.int (iN c))]) hl0 (by decide) rfl (Nat.le_of_ble_eq_true rfl) rfl ?_
  intro X hX1 hX2 hX3 hf he hh
  subst hX1 hX2 hX3
  refine V_aload_n hf dX8_change_0 rfl rfl ?_
  refine V_aload_n hf dX8_change_1 rfl rfl ?_
  refine B_get hf l01 rfl fl_X8_10_11 rfl dX8_change_2 ?_
  refine V_iload_n hf dX8_change_5 rfl rfl ?_
  refine V_iload_n hf dX8_change_6 rfl rfl ?_
  refine V_iload_n hf dX8_change_7 rfl rfl ?_
  refine V_iload hf dX8_change_8 rfl ?_
  refine B_callVi hf (As := [_, _, _, _]) (c_judge_a hl0 0 lm0 σ hR hM a b c ha hb hc) cv_X8_308 lm0 rfl rfl rfl (Nat.le_of_ble_eq_true rfl) ⟨by decide, by decide, by decide, by decide⟩ dX8_change_10 ?_
  rw [hv]
  refine V_iload_n hf dX8_change_13 rfl rfl ?_
  refine B_callVX hf (As := [_, _]) (cx_fine2 hl0 σ hR a) cv_X8_311 l01 rfl rfl rfl (Nat.le_of_ble_eq_true rfl) ⟨by decide, by decide, by decide, by decide⟩ dX8_change_14 ?_
  exact VX_out hf he hh (by decide) (by decide) ⟨rfl, rfl, rfl⟩

set_option maxHeartbeats 4000000 in
set_option maxRecDepth 100000 in
theorem cx_ch_a2 {l : Launch} {D : va_G} {K : Nat → ClassId} {ad : Adr} (hl0 : l.stackTraces = false) (σ : Mem) (hR : Rng σ) (hM : MI (σ 0)) (a b c : Int) (ha : inR a) (hb : inR b) (hc : inR c) (hv : (vBarn (σ 0) a b) = 2) : Cb l D K ad yX8_change (.code yX8_change cX8_change 5 (some .int)) 8 1 6 σ [.ref (ad 0 23), .int (iN 97), .int (iN a), .int (iN b), .int (iN c)] (.inr "java/lang/UnsupportedOperationException") (noteR σ 2 (16) (-1)) := by
  refine Cb.of (own := RX8) (ls0 := [some (.ref (ad 0 23)), some (.int (iN 97)), some (.int (iN a)), some (.int (iN b)), some (.int (iN c))]) hl0 (by decide) rfl (Nat.le_of_ble_eq_true rfl) rfl ?_
  intro X hX1 hX2 hX3 hf he hh
  subst hX1 hX2 hX3
  refine V_aload_n hf dX8_change_0 rfl rfl ?_
  refine V_aload_n hf dX8_change_1 rfl rfl ?_
  refine B_get hf l01 rfl fl_X8_10_11 rfl dX8_change_2 ?_
  refine V_iload_n hf dX8_change_5 rfl rfl ?_
  refine V_iload_n hf dX8_change_6 rfl rfl ?_
  refine V_iload_n hf dX8_change_7 rfl rfl ?_
  refine V_iload hf dX8_change_8 rfl ?_
  refine B_callVi hf (As := [_, _, _, _]) (c_judge_a hl0 0 lm0 σ hR hM a b c ha hb hc) cv_X8_308 lm0 rfl rfl rfl (Nat.le_of_ble_eq_true rfl) ⟨by decide, by decide, by decide, by decide⟩ dX8_change_10 ?_
  rw [hv]
  refine V_iload_n hf dX8_change_13 rfl rfl ?_
  refine B_callVX hf (As := [_, _]) (cr_fine2 hl0 σ hR hM a ha) cv_X8_311 l01 rfl rfl rfl (Nat.le_of_ble_eq_true rfl) ⟨by decide, by decide, by decide, by decide⟩ dX8_change_14 ?_
  exact VX_out hf he hh (by decide) (by decide) ⟨rfl, rfl, rfl⟩

set_option maxHeartbeats 4000000 in
set_option maxRecDepth 100000 in
theorem cx_ch_a3 {l : Launch} {D : va_G} {K : Nat → ClassId} {ad : Adr} (hl0 : l.stackTraces = false) (σ : Mem) (hR : Rng σ) (hM : MI (σ 0)) (a b c : Int) (ha : inR a) (hb : inR b) (hc : inR c) (hv : (vBarn (σ 0) a b) = 3) (hs6 : 0 ≤ a ∧ a < 6) : Cb l D K ad yX8_change (.code yX8_change cX8_change 5 (some .int)) 8 1 6 σ [.ref (ad 0 23), .int (iN 97), .int (iN a), .int (iN b), .int (iN c)] (.inr "java/lang/UnsupportedOperationException") (noteR σ 3 (σ 0 3 a) (-1)) := by
  refine Cb.of (own := RX8) (ls0 := [some (.ref (ad 0 23)), some (.int (iN 97)), some (.int (iN a)), some (.int (iN b)), some (.int (iN c))]) hl0 (by decide) rfl (Nat.le_of_ble_eq_true rfl) rfl ?_
  intro X hX1 hX2 hX3 hf he hh
  subst hX1 hX2 hX3
  refine V_aload_n hf dX8_change_0 rfl rfl ?_
  refine V_aload_n hf dX8_change_1 rfl rfl ?_
  refine B_get hf l01 rfl fl_X8_10_11 rfl dX8_change_2 ?_
  refine V_iload_n hf dX8_change_5 rfl rfl ?_
  refine V_iload_n hf dX8_change_6 rfl rfl ?_
  refine V_iload_n hf dX8_change_7 rfl rfl ?_
  refine V_iload hf dX8_change_8 rfl ?_
  refine B_callVi hf (As := [_, _, _, _]) (c_judge_a hl0 0 lm0 σ hR hM a b c ha hb hc) cv_X8_308 lm0 rfl rfl rfl (Nat.le_of_ble_eq_true rfl) ⟨by decide, by decide, by decide, by decide⟩ dX8_change_10 ?_
  rw [hv]
  refine V_iload_n hf dX8_change_13 rfl rfl ?_
  refine B_callVX hf (As := [_, _]) (cr_fine3 hl0 σ hR hM a hs6) cv_X8_311 l01 rfl rfl rfl (Nat.le_of_ble_eq_true rfl) ⟨by decide, by decide, by decide, by decide⟩ dX8_change_14 ?_
  exact VX_out hf he hh (by decide) (by decide) ⟨rfl, rfl, rfl⟩

set_option maxHeartbeats 4000000 in
set_option maxRecDepth 100000 in
theorem c_ch_c {l : Launch} {D : va_G} {K : Nat → ClassId} {ad : Adr} (hl0 : l.stackTraces = false) (σ : Mem) (hR : Rng σ) (hM : MI (σ 0)) (a b c : Int) (ha : inR a) (hb : inR b) (hc : inR c) (hv : (vGift (σ 0) a b) = 0) (hH : HI σ) (hS : SZ σ) (hM1 : MI (remM σ 0 0)) (h0 : 0 ≤ a ∧ a < (remM σ 0) 0 1 0) (h9 : 0 ≤ b ∧ b ≤ 99) : Cb l D K ad yX8_change (.code yX8_change cX8_change 5 (some .int)) 8 1 6 σ [.ref (ad 0 23), .int (iN 99), .int (iN a), .int (iN b), .int (iN c)] (.inl (some (.int (iN (giftM (remM σ 0) 0 a b 0 2 a))))) (giftM (remM σ 0) 0 a b) := by
  refine Cb.of (own := RX8) (ls0 := [some (.ref (ad 0 23)), some (.int (iN 99)), some (.int (iN a)), some (.int (iN b)), some (.int (iN c))]) hl0 (by decide) rfl (Nat.le_of_ble_eq_true rfl) rfl ?_
  intro X hX1 hX2 hX3 hf he hh
  subst hX1 hX2 hX3
  refine V_aload_n hf dX8_change_0 rfl rfl ?_
  refine V_aload_n hf dX8_change_1 rfl rfl ?_
  refine B_get hf l01 rfl fl_X8_10_11 rfl dX8_change_2 ?_
  refine V_iload_n hf dX8_change_5 rfl rfl ?_
  refine V_iload_n hf dX8_change_6 rfl rfl ?_
  refine V_iload_n hf dX8_change_7 rfl rfl ?_
  refine V_iload hf dX8_change_8 rfl ?_
  refine B_callVi hf (As := [_, _, _, _]) (c_judge_c hl0 0 lm0 σ hR hM a b c ha hb hc) cv_X8_308 lm0 rfl rfl rfl (Nat.le_of_ble_eq_true rfl) ⟨by decide, by decide, by decide, by decide⟩ dX8_change_10 ?_
  rw [hv]
  refine V_iload_n hf dX8_change_13 rfl rfl ?_
  refine B_callVv hf (As := [_, _]) (c_fine hl0 σ hR a) cv_X8_311 l01 rfl rfl rfl (Nat.le_of_ble_eq_true rfl) ⟨by decide, by decide, by decide, by decide⟩ dX8_change_14 ?_
  refine V_aload_n hf dX8_change_17 rfl rfl ?_
  refine B_get hf l01 rfl fl_X8_29_11 rfl dX8_change_18 ?_
  refine V_aload_n hf dX8_change_21 rfl rfl ?_
  refine B_get hf l01 rfl fl_X8_10_11 rfl dX8_change_22 ?_
  refine B_callVv hf (As := [_]) (c_remember hl0 σ hR 0 ⟨by decide, by decide⟩ hH hS) cv_X8_288 l01 rfl rfl rfl (Nat.le_of_ble_eq_true rfl) ⟨by decide, by decide, by decide, by decide⟩ dX8_change_25 ?_
  refine V_aload_n hf dX8_change_28 rfl rfl ?_
  refine B_get hf l01 rfl fl_X8_10_11 rfl dX8_change_29 ?_
  refine V_iload_n hf dX8_change_32 rfl rfl ?_
  refine V_iload_n hf dX8_change_33 rfl rfl ?_
  refine V_iload_n hf dX8_change_34 rfl rfl ?_
  refine V_iload hf dX8_change_35 rfl ?_
  refine B_callVi hf (As := [_, _, _, _]) (c_do_c hl0 0 lm0 (remM σ 0) (remM_R hR hH) hM1 a b c ha hb hc h0 h9) cv_X8_314 lm0 rfl rfl rfl (Nat.le_of_ble_eq_true rfl) ⟨by decide, by decide, by decide, by decide⟩ dX8_change_37 ?_
  exact B_iret hf he rfl dX8_change_40 (by decide) (by decide) rfl rfl

set_option maxHeartbeats 4000000 in
set_option maxRecDepth 100000 in
theorem cx_ch_cn1 {l : Launch} {D : va_G} {K : Nat → ClassId} {ad : Adr} (hl0 : l.stackTraces = false) (σ : Mem) (hR : Rng σ) (hM : MI (σ 0)) (a b c : Int) (ha : inR a) (hb : inR b) (hc : inR c) (hv : (vGift (σ 0) a b) = -1) : Cb l D K ad yX8_change (.code yX8_change cX8_change 5 (some .int)) 8 1 6 σ [.ref (ad 0 23), .int (iN 99), .int (iN a), .int (iN b), .int (iN c)] (.inr "java/lang/IndexOutOfBoundsException") σ := by
  refine Cb.of (own := RX8) (ls0 := [some (.ref (ad 0 23)), some (.int (iN 99)), some (.int (iN a)), some (.int (iN b)), some (.int (iN c))]) hl0 (by decide) rfl (Nat.le_of_ble_eq_true rfl) rfl ?_
  intro X hX1 hX2 hX3 hf he hh
  subst hX1 hX2 hX3
  refine V_aload_n hf dX8_change_0 rfl rfl ?_
  refine V_aload_n hf dX8_change_1 rfl rfl ?_
  refine B_get hf l01 rfl fl_X8_10_11 rfl dX8_change_2 ?_
  refine V_iload_n hf dX8_change_5 rfl rfl ?_
  refine V_iload_n hf dX8_change_6 rfl rfl ?_
  refine V_iload_n hf dX8_change_7 rfl rfl ?_
  refine V_iload hf dX8_change_8 rfl ?_
  refine B_callVi hf (As := [_, _, _, _]) (c_judge_c hl0 0 lm0 σ hR hM a b c ha hb hc) cv_X8_308 lm0 rfl rfl rfl (Nat.le_of_ble_eq_true rfl) ⟨by decide, by decide, by decide, by decide⟩ dX8_change_10 ?_
  rw [hv]
  refine V_iload_n hf dX8_change_13 rfl rfl ?_
  refine B_callVX hf (As := [_, _]) (cx_fine1 hl0 σ hR a) cv_X8_311 l01 rfl rfl rfl (Nat.le_of_ble_eq_true rfl) ⟨by decide, by decide, by decide, by decide⟩ dX8_change_14 ?_
  exact VX_out hf he hh (by decide) (by decide) ⟨rfl, rfl, rfl⟩

set_option maxHeartbeats 4000000 in
set_option maxRecDepth 100000 in
theorem cx_ch_cn2 {l : Launch} {D : va_G} {K : Nat → ClassId} {ad : Adr} (hl0 : l.stackTraces = false) (σ : Mem) (hR : Rng σ) (hM : MI (σ 0)) (a b c : Int) (ha : inR a) (hb : inR b) (hc : inR c) (hv : (vGift (σ 0) a b) = -2) : Cb l D K ad yX8_change (.code yX8_change cX8_change 5 (some .int)) 8 1 6 σ [.ref (ad 0 23), .int (iN 99), .int (iN a), .int (iN b), .int (iN c)] (.inr "java/lang/IllegalArgumentException") σ := by
  refine Cb.of (own := RX8) (ls0 := [some (.ref (ad 0 23)), some (.int (iN 99)), some (.int (iN a)), some (.int (iN b)), some (.int (iN c))]) hl0 (by decide) rfl (Nat.le_of_ble_eq_true rfl) rfl ?_
  intro X hX1 hX2 hX3 hf he hh
  subst hX1 hX2 hX3
  refine V_aload_n hf dX8_change_0 rfl rfl ?_
  refine V_aload_n hf dX8_change_1 rfl rfl ?_
  refine B_get hf l01 rfl fl_X8_10_11 rfl dX8_change_2 ?_
  refine V_iload_n hf dX8_change_5 rfl rfl ?_
  refine V_iload_n hf dX8_change_6 rfl rfl ?_
  refine V_iload_n hf dX8_change_7 rfl rfl ?_
  refine V_iload hf dX8_change_8 rfl ?_
  refine B_callVi hf (As := [_, _, _, _]) (c_judge_c hl0 0 lm0 σ hR hM a b c ha hb hc) cv_X8_308 lm0 rfl rfl rfl (Nat.le_of_ble_eq_true rfl) ⟨by decide, by decide, by decide, by decide⟩ dX8_change_10 ?_
  rw [hv]
  refine V_iload_n hf dX8_change_13 rfl rfl ?_
  refine B_callVX hf (As := [_, _]) (cx_fine2 hl0 σ hR a) cv_X8_311 l01 rfl rfl rfl (Nat.le_of_ble_eq_true rfl) ⟨by decide, by decide, by decide, by decide⟩ dX8_change_14 ?_
  exact VX_out hf he hh (by decide) (by decide) ⟨rfl, rfl, rfl⟩

set_option maxHeartbeats 4000000 in
set_option maxRecDepth 100000 in
theorem c_ch_b {l : Launch} {D : va_G} {K : Nat → ClassId} {ad : Adr} (hl0 : l.stackTraces = false) (σ : Mem) (hR : Rng σ) (hM : MI (σ 0)) (a b c : Int) (ha : inR a) (hb : inR b) (hc : inR c) (hv : (vBid (σ 0) a b c) = 0) (hH : HI σ) (hS : SZ σ) (hM1 : MI (remM σ 0 0)) (h6 : (remM σ 0) 0 6 0 < 10) : Cb l D K ad yX8_change (.code yX8_change cX8_change 5 (some .int)) 8 1 6 σ [.ref (ad 0 23), .int (iN 98), .int (iN a), .int (iN b), .int (iN c)] (.inl (some (.int (iN (bidM (remM σ 0) 0 a b c 0 7 (slotI (caB ((remM σ 0) 0) b c) ((remM σ 0) 0 6 0))))))) (bidM (remM σ 0) 0 a b c) := by
  refine Cb.of (own := RX8) (ls0 := [some (.ref (ad 0 23)), some (.int (iN 98)), some (.int (iN a)), some (.int (iN b)), some (.int (iN c))]) hl0 (by decide) rfl (Nat.le_of_ble_eq_true rfl) rfl ?_
  intro X hX1 hX2 hX3 hf he hh
  subst hX1 hX2 hX3
  refine V_aload_n hf dX8_change_0 rfl rfl ?_
  refine V_aload_n hf dX8_change_1 rfl rfl ?_
  refine B_get hf l01 rfl fl_X8_10_11 rfl dX8_change_2 ?_
  refine V_iload_n hf dX8_change_5 rfl rfl ?_
  refine V_iload_n hf dX8_change_6 rfl rfl ?_
  refine V_iload_n hf dX8_change_7 rfl rfl ?_
  refine V_iload hf dX8_change_8 rfl ?_
  refine B_callVi hf (As := [_, _, _, _]) (c_judge_b hl0 0 lm0 σ hR hM a b c ha hb hc) cv_X8_308 lm0 rfl rfl rfl (Nat.le_of_ble_eq_true rfl) ⟨by decide, by decide, by decide, by decide⟩ dX8_change_10 ?_
  rw [hv]
  refine V_iload_n hf dX8_change_13 rfl rfl ?_
  refine B_callVv hf (As := [_, _]) (c_fine hl0 σ hR a) cv_X8_311 l01 rfl rfl rfl (Nat.le_of_ble_eq_true rfl) ⟨by decide, by decide, by decide, by decide⟩ dX8_change_14 ?_
  refine V_aload_n hf dX8_change_17 rfl rfl ?_
  refine B_get hf l01 rfl fl_X8_29_11 rfl dX8_change_18 ?_
  refine V_aload_n hf dX8_change_21 rfl rfl ?_
  refine B_get hf l01 rfl fl_X8_10_11 rfl dX8_change_22 ?_
  refine B_callVv hf (As := [_]) (c_remember hl0 σ hR 0 ⟨by decide, by decide⟩ hH hS) cv_X8_288 l01 rfl rfl rfl (Nat.le_of_ble_eq_true rfl) ⟨by decide, by decide, by decide, by decide⟩ dX8_change_25 ?_
  refine V_aload_n hf dX8_change_28 rfl rfl ?_
  refine B_get hf l01 rfl fl_X8_10_11 rfl dX8_change_29 ?_
  refine V_iload_n hf dX8_change_32 rfl rfl ?_
  refine V_iload_n hf dX8_change_33 rfl rfl ?_
  refine V_iload_n hf dX8_change_34 rfl rfl ?_
  refine V_iload hf dX8_change_35 rfl ?_
  refine B_callVi hf (As := [_, _, _, _]) (c_do_b hl0 0 lm0 (remM σ 0) (remM_R hR hH) hM1 a b c ha hb hc h6) cv_X8_314 lm0 rfl rfl rfl (Nat.le_of_ble_eq_true rfl) ⟨by decide, by decide, by decide, by decide⟩ dX8_change_37 ?_
  exact B_iret hf he rfl dX8_change_40 (by decide) (by decide) rfl rfl

set_option maxHeartbeats 4000000 in
set_option maxRecDepth 100000 in
theorem cx_ch_bn1 {l : Launch} {D : va_G} {K : Nat → ClassId} {ad : Adr} (hl0 : l.stackTraces = false) (σ : Mem) (hR : Rng σ) (hM : MI (σ 0)) (a b c : Int) (ha : inR a) (hb : inR b) (hc : inR c) (hv : (vBid (σ 0) a b c) = -1) : Cb l D K ad yX8_change (.code yX8_change cX8_change 5 (some .int)) 8 1 6 σ [.ref (ad 0 23), .int (iN 98), .int (iN a), .int (iN b), .int (iN c)] (.inr "java/lang/IndexOutOfBoundsException") σ := by
  refine Cb.of (own := RX8) (ls0 := [some (.ref (ad 0 23)), some (.int (iN 98)), some (.int (iN a)), some (.int (iN b)), some (.int (iN c))]) hl0 (by decide) rfl (Nat.le_of_ble_eq_true rfl) rfl ?_
  intro X hX1 hX2 hX3 hf he hh
  subst hX1 hX2 hX3
  refine V_aload_n hf dX8_change_0 rfl rfl ?_
  refine V_aload_n hf dX8_change_1 rfl rfl ?_
  refine B_get hf l01 rfl fl_X8_10_11 rfl dX8_change_2 ?_
  refine V_iload_n hf dX8_change_5 rfl rfl ?_
  refine V_iload_n hf dX8_change_6 rfl rfl ?_
  refine V_iload_n hf dX8_change_7 rfl rfl ?_
  refine V_iload hf dX8_change_8 rfl ?_
  refine B_callVi hf (As := [_, _, _, _]) (c_judge_b hl0 0 lm0 σ hR hM a b c ha hb hc) cv_X8_308 lm0 rfl rfl rfl (Nat.le_of_ble_eq_true rfl) ⟨by decide, by decide, by decide, by decide⟩ dX8_change_10 ?_
  rw [hv]
  refine V_iload_n hf dX8_change_13 rfl rfl ?_
  refine B_callVX hf (As := [_, _]) (cx_fine1 hl0 σ hR a) cv_X8_311 l01 rfl rfl rfl (Nat.le_of_ble_eq_true rfl) ⟨by decide, by decide, by decide, by decide⟩ dX8_change_14 ?_
  exact VX_out hf he hh (by decide) (by decide) ⟨rfl, rfl, rfl⟩

set_option maxHeartbeats 4000000 in
set_option maxRecDepth 100000 in
theorem cx_ch_bn2 {l : Launch} {D : va_G} {K : Nat → ClassId} {ad : Adr} (hl0 : l.stackTraces = false) (σ : Mem) (hR : Rng σ) (hM : MI (σ 0)) (a b c : Int) (ha : inR a) (hb : inR b) (hc : inR c) (hv : (vBid (σ 0) a b c) = -2) : Cb l D K ad yX8_change (.code yX8_change cX8_change 5 (some .int)) 8 1 6 σ [.ref (ad 0 23), .int (iN 98), .int (iN a), .int (iN b), .int (iN c)] (.inr "java/lang/IllegalArgumentException") σ := by
  refine Cb.of (own := RX8) (ls0 := [some (.ref (ad 0 23)), some (.int (iN 98)), some (.int (iN a)), some (.int (iN b)), some (.int (iN c))]) hl0 (by decide) rfl (Nat.le_of_ble_eq_true rfl) rfl ?_
  intro X hX1 hX2 hX3 hf he hh
  subst hX1 hX2 hX3
  refine V_aload_n hf dX8_change_0 rfl rfl ?_
  refine V_aload_n hf dX8_change_1 rfl rfl ?_
  refine B_get hf l01 rfl fl_X8_10_11 rfl dX8_change_2 ?_
  refine V_iload_n hf dX8_change_5 rfl rfl ?_
  refine V_iload_n hf dX8_change_6 rfl rfl ?_
  refine V_iload_n hf dX8_change_7 rfl rfl ?_
  refine V_iload hf dX8_change_8 rfl ?_
  refine B_callVi hf (As := [_, _, _, _]) (c_judge_b hl0 0 lm0 σ hR hM a b c ha hb hc) cv_X8_308 lm0 rfl rfl rfl (Nat.le_of_ble_eq_true rfl) ⟨by decide, by decide, by decide, by decide⟩ dX8_change_10 ?_
  rw [hv]
  refine V_iload_n hf dX8_change_13 rfl rfl ?_
  refine B_callVX hf (As := [_, _]) (cx_fine2 hl0 σ hR a) cv_X8_311 l01 rfl rfl rfl (Nat.le_of_ble_eq_true rfl) ⟨by decide, by decide, by decide, by decide⟩ dX8_change_14 ?_
  exact VX_out hf he hh (by decide) (by decide) ⟨rfl, rfl, rfl⟩

set_option maxHeartbeats 4000000 in
set_option maxRecDepth 100000 in
theorem cx_ch_b4 {l : Launch} {D : va_G} {K : Nat → ClassId} {ad : Adr} (hl0 : l.stackTraces = false) (σ : Mem) (hR : Rng σ) (hM : MI (σ 0)) (a b c : Int) (ha : inR a) (hb : inR b) (hc : inR c) (hv : (vBid (σ 0) a b c) = 4) : Cb l D K ad yX8_change (.code yX8_change cX8_change 5 (some .int)) 8 1 6 σ [.ref (ad 0 23), .int (iN 98), .int (iN a), .int (iN b), .int (iN c)] (.inr "java/lang/UnsupportedOperationException") (noteR σ 4 (σ 0 7 9) (-1)) := by
  refine Cb.of (own := RX8) (ls0 := [some (.ref (ad 0 23)), some (.int (iN 98)), some (.int (iN a)), some (.int (iN b)), some (.int (iN c))]) hl0 (by decide) rfl (Nat.le_of_ble_eq_true rfl) rfl ?_
  intro X hX1 hX2 hX3 hf he hh
  subst hX1 hX2 hX3
  refine V_aload_n hf dX8_change_0 rfl rfl ?_
  refine V_aload_n hf dX8_change_1 rfl rfl ?_
  refine B_get hf l01 rfl fl_X8_10_11 rfl dX8_change_2 ?_
  refine V_iload_n hf dX8_change_5 rfl rfl ?_
  refine V_iload_n hf dX8_change_6 rfl rfl ?_
  refine V_iload_n hf dX8_change_7 rfl rfl ?_
  refine V_iload hf dX8_change_8 rfl ?_
  refine B_callVi hf (As := [_, _, _, _]) (c_judge_b hl0 0 lm0 σ hR hM a b c ha hb hc) cv_X8_308 lm0 rfl rfl rfl (Nat.le_of_ble_eq_true rfl) ⟨by decide, by decide, by decide, by decide⟩ dX8_change_10 ?_
  rw [hv]
  refine V_iload_n hf dX8_change_13 rfl rfl ?_
  refine B_callVX hf (As := [_, _]) (cr_fine4 hl0 σ hR hM a ha) cv_X8_311 l01 rfl rfl rfl (Nat.le_of_ble_eq_true rfl) ⟨by decide, by decide, by decide, by decide⟩ dX8_change_14 ?_
  exact VX_out hf he hh (by decide) (by decide) ⟨rfl, rfl, rfl⟩

set_option maxHeartbeats 4000000 in
set_option maxRecDepth 100000 in
theorem cx_ch_b3 {l : Launch} {D : va_G} {K : Nat → ClassId} {ad : Adr} (hl0 : l.stackTraces = false) (σ : Mem) (hR : Rng σ) (hM : MI (σ 0)) (a b c : Int) (ha : inR a) (hb : inR b) (hc : inR c) (hv : (vBid (σ 0) a b c) = 3) (hs6 : 0 ≤ a ∧ a < 6) : Cb l D K ad yX8_change (.code yX8_change cX8_change 5 (some .int)) 8 1 6 σ [.ref (ad 0 23), .int (iN 98), .int (iN a), .int (iN b), .int (iN c)] (.inr "java/lang/UnsupportedOperationException") (noteR σ 3 (σ 0 3 a) (-1)) := by
  refine Cb.of (own := RX8) (ls0 := [some (.ref (ad 0 23)), some (.int (iN 98)), some (.int (iN a)), some (.int (iN b)), some (.int (iN c))]) hl0 (by decide) rfl (Nat.le_of_ble_eq_true rfl) rfl ?_
  intro X hX1 hX2 hX3 hf he hh
  subst hX1 hX2 hX3
  refine V_aload_n hf dX8_change_0 rfl rfl ?_
  refine V_aload_n hf dX8_change_1 rfl rfl ?_
  refine B_get hf l01 rfl fl_X8_10_11 rfl dX8_change_2 ?_
  refine V_iload_n hf dX8_change_5 rfl rfl ?_
  refine V_iload_n hf dX8_change_6 rfl rfl ?_
  refine V_iload_n hf dX8_change_7 rfl rfl ?_
  refine V_iload hf dX8_change_8 rfl ?_
  refine B_callVi hf (As := [_, _, _, _]) (c_judge_b hl0 0 lm0 σ hR hM a b c ha hb hc) cv_X8_308 lm0 rfl rfl rfl (Nat.le_of_ble_eq_true rfl) ⟨by decide, by decide, by decide, by decide⟩ dX8_change_10 ?_
  rw [hv]
  refine V_iload_n hf dX8_change_13 rfl rfl ?_
  refine B_callVX hf (As := [_, _]) (cr_fine3 hl0 σ hR hM a hs6) cv_X8_311 l01 rfl rfl rfl (Nat.le_of_ble_eq_true rfl) ⟨by decide, by decide, by decide, by decide⟩ dX8_change_14 ?_
  exact VX_out hf he hh (by decide) (by decide) ⟨rfl, rfl, rfl⟩

set_option maxHeartbeats 4000000 in
set_option maxRecDepth 100000 in
theorem cx_ch_b5 {l : Launch} {D : va_G} {K : Nat → ClassId} {ad : Adr} (hl0 : l.stackTraces = false) (σ : Mem) (hR : Rng σ) (hM : MI (σ 0)) (a b c : Int) (ha : inR a) (hb : inR b) (hc : inR c) (hv : (vBid (σ 0) a b c) = 5) (hs6 : 0 ≤ a ∧ a < 6) : Cb l D K ad yX8_change (.code yX8_change cX8_change 5 (some .int)) 8 1 6 σ [.ref (ad 0 23), .int (iN 98), .int (iN a), .int (iN b), .int (iN c)] (.inr "java/lang/UnsupportedOperationException") (noteR σ 5 (coinsL (σ 0) a) (-1)) := by
  refine Cb.of (own := RX8) (ls0 := [some (.ref (ad 0 23)), some (.int (iN 98)), some (.int (iN a)), some (.int (iN b)), some (.int (iN c))]) hl0 (by decide) rfl (Nat.le_of_ble_eq_true rfl) rfl ?_
  intro X hX1 hX2 hX3 hf he hh
  subst hX1 hX2 hX3
  refine V_aload_n hf dX8_change_0 rfl rfl ?_
  refine V_aload_n hf dX8_change_1 rfl rfl ?_
  refine B_get hf l01 rfl fl_X8_10_11 rfl dX8_change_2 ?_
  refine V_iload_n hf dX8_change_5 rfl rfl ?_
  refine V_iload_n hf dX8_change_6 rfl rfl ?_
  refine V_iload_n hf dX8_change_7 rfl rfl ?_
  refine V_iload hf dX8_change_8 rfl ?_
  refine B_callVi hf (As := [_, _, _, _]) (c_judge_b hl0 0 lm0 σ hR hM a b c ha hb hc) cv_X8_308 lm0 rfl rfl rfl (Nat.le_of_ble_eq_true rfl) ⟨by decide, by decide, by decide, by decide⟩ dX8_change_10 ?_
  rw [hv]
  refine V_iload_n hf dX8_change_13 rfl rfl ?_
  refine B_callVX hf (As := [_, _]) (cr_fine5 hl0 σ hR hM a hs6) cv_X8_311 l01 rfl rfl rfl (Nat.le_of_ble_eq_true rfl) ⟨by decide, by decide, by decide, by decide⟩ dX8_change_14 ?_
  exact VX_out hf he hh (by decide) (by decide) ⟨rfl, rfl, rfl⟩

set_option maxHeartbeats 4000000 in
set_option maxRecDepth 100000 in
theorem c_ch_o {l : Launch} {D : va_G} {K : Nat → ClassId} {ad : Adr} (hl0 : l.stackTraces = false) (σ : Mem) (hR : Rng σ) (hM : MI (σ 0)) (a b c : Int) (ha : inR a) (hb : inR b) (hc : inR c) (hv : (vOffer (σ 0) a b) = 0) (hH : HI σ) (hS : SZ σ) (hM1 : MI (remM σ 0 0)) (h0 : 0 ≤ a ∧ a < (remM σ 0) 0 1 3) (h6 : (remM σ 0) 0 12 0 < 16) : Cb l D K ad yX8_change (.code yX8_change cX8_change 5 (some .int)) 8 1 6 σ [.ref (ad 0 23), .int (iN 111), .int (iN a), .int (iN b), .int (iN c)] (.inl (some (.int (iN (offerM (remM σ 0) 0 a b 0 13 (slotI (caO ((remM σ 0) 0) ((remM σ 0) 0 4 a) b) ((remM σ 0) 0 12 0))))))) (offerM (remM σ 0) 0 a b) := by
  refine Cb.of (own := RX8) (ls0 := [some (.ref (ad 0 23)), some (.int (iN 111)), some (.int (iN a)), some (.int (iN b)), some (.int (iN c))]) hl0 (by decide) rfl (Nat.le_of_ble_eq_true rfl) rfl ?_
  intro X hX1 hX2 hX3 hf he hh
  subst hX1 hX2 hX3
  refine V_aload_n hf dX8_change_0 rfl rfl ?_
  refine V_aload_n hf dX8_change_1 rfl rfl ?_
  refine B_get hf l01 rfl fl_X8_10_11 rfl dX8_change_2 ?_
  refine V_iload_n hf dX8_change_5 rfl rfl ?_
  refine V_iload_n hf dX8_change_6 rfl rfl ?_
  refine V_iload_n hf dX8_change_7 rfl rfl ?_
  refine V_iload hf dX8_change_8 rfl ?_
  refine B_callVi hf (As := [_, _, _, _]) (c_judge_o hl0 0 lm0 σ hR hM a b c ha hb hc) cv_X8_308 lm0 rfl rfl rfl (Nat.le_of_ble_eq_true rfl) ⟨by decide, by decide, by decide, by decide⟩ dX8_change_10 ?_
  rw [hv]
  refine V_iload_n hf dX8_change_13 rfl rfl ?_
  refine B_callVv hf (As := [_, _]) (c_fine hl0 σ hR a) cv_X8_311 l01 rfl rfl rfl (Nat.le_of_ble_eq_true rfl) ⟨by decide, by decide, by decide, by decide⟩ dX8_change_14 ?_
  refine V_aload_n hf dX8_change_17 rfl rfl ?_
  refine B_get hf l01 rfl fl_X8_29_11 rfl dX8_change_18 ?_
  refine V_aload_n hf dX8_change_21 rfl rfl ?_
  refine B_get hf l01 rfl fl_X8_10_11 rfl dX8_change_22 ?_
  refine B_callVv hf (As := [_]) (c_remember hl0 σ hR 0 ⟨by decide, by decide⟩ hH hS) cv_X8_288 l01 rfl rfl rfl (Nat.le_of_ble_eq_true rfl) ⟨by decide, by decide, by decide, by decide⟩ dX8_change_25 ?_
  refine V_aload_n hf dX8_change_28 rfl rfl ?_
  refine B_get hf l01 rfl fl_X8_10_11 rfl dX8_change_29 ?_
  refine V_iload_n hf dX8_change_32 rfl rfl ?_
  refine V_iload_n hf dX8_change_33 rfl rfl ?_
  refine V_iload_n hf dX8_change_34 rfl rfl ?_
  refine V_iload hf dX8_change_35 rfl ?_
  refine B_callVi hf (As := [_, _, _, _]) (c_do_o hl0 0 lm0 (remM σ 0) (remM_R hR hH) hM1 a b c ha hb hc h0 h6) cv_X8_314 lm0 rfl rfl rfl (Nat.le_of_ble_eq_true rfl) ⟨by decide, by decide, by decide, by decide⟩ dX8_change_37 ?_
  exact B_iret hf he rfl dX8_change_40 (by decide) (by decide) rfl rfl

set_option maxHeartbeats 4000000 in
set_option maxRecDepth 100000 in
theorem cx_ch_on1 {l : Launch} {D : va_G} {K : Nat → ClassId} {ad : Adr} (hl0 : l.stackTraces = false) (σ : Mem) (hR : Rng σ) (hM : MI (σ 0)) (a b c : Int) (ha : inR a) (hb : inR b) (hc : inR c) (hv : (vOffer (σ 0) a b) = -1) : Cb l D K ad yX8_change (.code yX8_change cX8_change 5 (some .int)) 8 1 6 σ [.ref (ad 0 23), .int (iN 111), .int (iN a), .int (iN b), .int (iN c)] (.inr "java/lang/IndexOutOfBoundsException") σ := by
  refine Cb.of (own := RX8) (ls0 := [some (.ref (ad 0 23)), some (.int (iN 111)), some (.int (iN a)), some (.int (iN b)), some (.int (iN c))]) hl0 (by decide) rfl (Nat.le_of_ble_eq_true rfl) rfl ?_
  intro X hX1 hX2 hX3 hf he hh
  subst hX1 hX2 hX3
  refine V_aload_n hf dX8_change_0 rfl rfl ?_
  refine V_aload_n hf dX8_change_1 rfl rfl ?_
  refine B_get hf l01 rfl fl_X8_10_11 rfl dX8_change_2 ?_
  refine V_iload_n hf dX8_change_5 rfl rfl ?_
  refine V_iload_n hf dX8_change_6 rfl rfl ?_
  refine V_iload_n hf dX8_change_7 rfl rfl ?_
  refine V_iload hf dX8_change_8 rfl ?_
  refine B_callVi hf (As := [_, _, _, _]) (c_judge_o hl0 0 lm0 σ hR hM a b c ha hb hc) cv_X8_308 lm0 rfl rfl rfl (Nat.le_of_ble_eq_true rfl) ⟨by decide, by decide, by decide, by decide⟩ dX8_change_10 ?_
  rw [hv]
  refine V_iload_n hf dX8_change_13 rfl rfl ?_
  refine B_callVX hf (As := [_, _]) (cx_fine1 hl0 σ hR a) cv_X8_311 l01 rfl rfl rfl (Nat.le_of_ble_eq_true rfl) ⟨by decide, by decide, by decide, by decide⟩ dX8_change_14 ?_
  exact VX_out hf he hh (by decide) (by decide) ⟨rfl, rfl, rfl⟩

set_option maxHeartbeats 4000000 in
set_option maxRecDepth 100000 in
theorem cx_ch_on2 {l : Launch} {D : va_G} {K : Nat → ClassId} {ad : Adr} (hl0 : l.stackTraces = false) (σ : Mem) (hR : Rng σ) (hM : MI (σ 0)) (a b c : Int) (ha : inR a) (hb : inR b) (hc : inR c) (hv : (vOffer (σ 0) a b) = -2) : Cb l D K ad yX8_change (.code yX8_change cX8_change 5 (some .int)) 8 1 6 σ [.ref (ad 0 23), .int (iN 111), .int (iN a), .int (iN b), .int (iN c)] (.inr "java/lang/IllegalArgumentException") σ := by
  refine Cb.of (own := RX8) (ls0 := [some (.ref (ad 0 23)), some (.int (iN 111)), some (.int (iN a)), some (.int (iN b)), some (.int (iN c))]) hl0 (by decide) rfl (Nat.le_of_ble_eq_true rfl) rfl ?_
  intro X hX1 hX2 hX3 hf he hh
  subst hX1 hX2 hX3
  refine V_aload_n hf dX8_change_0 rfl rfl ?_
  refine V_aload_n hf dX8_change_1 rfl rfl ?_
  refine B_get hf l01 rfl fl_X8_10_11 rfl dX8_change_2 ?_
  refine V_iload_n hf dX8_change_5 rfl rfl ?_
  refine V_iload_n hf dX8_change_6 rfl rfl ?_
  refine V_iload_n hf dX8_change_7 rfl rfl ?_
  refine V_iload hf dX8_change_8 rfl ?_
  refine B_callVi hf (As := [_, _, _, _]) (c_judge_o hl0 0 lm0 σ hR hM a b c ha hb hc) cv_X8_308 lm0 rfl rfl rfl (Nat.le_of_ble_eq_true rfl) ⟨by decide, by decide, by decide, by decide⟩ dX8_change_10 ?_
  rw [hv]
  refine V_iload_n hf dX8_change_13 rfl rfl ?_
  refine B_callVX hf (As := [_, _]) (cx_fine2 hl0 σ hR a) cv_X8_311 l01 rfl rfl rfl (Nat.le_of_ble_eq_true rfl) ⟨by decide, by decide, by decide, by decide⟩ dX8_change_14 ?_
  exact VX_out hf he hh (by decide) (by decide) ⟨rfl, rfl, rfl⟩

set_option maxHeartbeats 4000000 in
set_option maxRecDepth 100000 in
theorem cx_ch_o6 {l : Launch} {D : va_G} {K : Nat → ClassId} {ad : Adr} (hl0 : l.stackTraces = false) (σ : Mem) (hR : Rng σ) (hM : MI (σ 0)) (a b c : Int) (ha : inR a) (hb : inR b) (hc : inR c) (hv : (vOffer (σ 0) a b) = 6) : Cb l D K ad yX8_change (.code yX8_change cX8_change 5 (some .int)) 8 1 6 σ [.ref (ad 0 23), .int (iN 111), .int (iN a), .int (iN b), .int (iN c)] (.inr "java/lang/UnsupportedOperationException") (noteR σ 6 ((if rowOwn (σ 0) 12 a = -1 then -1 else σ 0 13 (rowOwn (σ 0) 12 a))) (-1)) := by
  refine Cb.of (own := RX8) (ls0 := [some (.ref (ad 0 23)), some (.int (iN 111)), some (.int (iN a)), some (.int (iN b)), some (.int (iN c))]) hl0 (by decide) rfl (Nat.le_of_ble_eq_true rfl) rfl ?_
  intro X hX1 hX2 hX3 hf he hh
  subst hX1 hX2 hX3
  refine V_aload_n hf dX8_change_0 rfl rfl ?_
  refine V_aload_n hf dX8_change_1 rfl rfl ?_
  refine B_get hf l01 rfl fl_X8_10_11 rfl dX8_change_2 ?_
  refine V_iload_n hf dX8_change_5 rfl rfl ?_
  refine V_iload_n hf dX8_change_6 rfl rfl ?_
  refine V_iload_n hf dX8_change_7 rfl rfl ?_
  refine V_iload hf dX8_change_8 rfl ?_
  refine B_callVi hf (As := [_, _, _, _]) (c_judge_o hl0 0 lm0 σ hR hM a b c ha hb hc) cv_X8_308 lm0 rfl rfl rfl (Nat.le_of_ble_eq_true rfl) ⟨by decide, by decide, by decide, by decide⟩ dX8_change_10 ?_
  rw [hv]
  refine V_iload_n hf dX8_change_13 rfl rfl ?_
  refine B_callVX hf (As := [_, _]) (cr_fine6 hl0 σ hR hM a ha) cv_X8_311 l01 rfl rfl rfl (Nat.le_of_ble_eq_true rfl) ⟨by decide, by decide, by decide, by decide⟩ dX8_change_14 ?_
  exact VX_out hf he hh (by decide) (by decide) ⟨rfl, rfl, rfl⟩

set_option maxHeartbeats 4000000 in
set_option maxRecDepth 100000 in
theorem c_ch_x {l : Launch} {D : va_G} {K : Nat → ClassId} {ad : Adr} (hl0 : l.stackTraces = false) (σ : Mem) (hR : Rng σ) (hM : MI (σ 0)) (a b c : Int) (ha : inR a) (hb : inR b) (hc : inR c) (hv : (if rowId (σ 0) 6 a = -1 then -3 else 0) = 0) (hH : HI σ) (hS : SZ σ) (hM1 : MI (remM σ 0 0)) (h0 : rowId ((remM σ 0) 0) 6 a ≠ -1) : Cb l D K ad yX8_change (.code yX8_change cX8_change 5 (some .int)) 8 1 6 σ [.ref (ad 0 23), .int (iN 120), .int (iN a), .int (iN b), .int (iN c)] (.inl (some (.int (iN (removeM (remM σ 0) 0 6 (rowId ((remM σ 0) 0) 6 a) 0 6 0))))) (removeM (remM σ 0) 0 6 (rowId ((remM σ 0) 0) 6 a)) := by
  refine Cb.of (own := RX8) (ls0 := [some (.ref (ad 0 23)), some (.int (iN 120)), some (.int (iN a)), some (.int (iN b)), some (.int (iN c))]) hl0 (by decide) rfl (Nat.le_of_ble_eq_true rfl) rfl ?_
  intro X hX1 hX2 hX3 hf he hh
  subst hX1 hX2 hX3
  refine V_aload_n hf dX8_change_0 rfl rfl ?_
  refine V_aload_n hf dX8_change_1 rfl rfl ?_
  refine B_get hf l01 rfl fl_X8_10_11 rfl dX8_change_2 ?_
  refine V_iload_n hf dX8_change_5 rfl rfl ?_
  refine V_iload_n hf dX8_change_6 rfl rfl ?_
  refine V_iload_n hf dX8_change_7 rfl rfl ?_
  refine V_iload hf dX8_change_8 rfl ?_
  refine B_callVi hf (As := [_, _, _, _]) (c_judge_x hl0 0 lm0 σ hR hM a b c ha hb hc) cv_X8_308 lm0 rfl rfl rfl (Nat.le_of_ble_eq_true rfl) ⟨by decide, by decide, by decide, by decide⟩ dX8_change_10 ?_
  rw [hv]
  refine V_iload_n hf dX8_change_13 rfl rfl ?_
  refine B_callVv hf (As := [_, _]) (c_fine hl0 σ hR a) cv_X8_311 l01 rfl rfl rfl (Nat.le_of_ble_eq_true rfl) ⟨by decide, by decide, by decide, by decide⟩ dX8_change_14 ?_
  refine V_aload_n hf dX8_change_17 rfl rfl ?_
  refine B_get hf l01 rfl fl_X8_29_11 rfl dX8_change_18 ?_
  refine V_aload_n hf dX8_change_21 rfl rfl ?_
  refine B_get hf l01 rfl fl_X8_10_11 rfl dX8_change_22 ?_
  refine B_callVv hf (As := [_]) (c_remember hl0 σ hR 0 ⟨by decide, by decide⟩ hH hS) cv_X8_288 l01 rfl rfl rfl (Nat.le_of_ble_eq_true rfl) ⟨by decide, by decide, by decide, by decide⟩ dX8_change_25 ?_
  refine V_aload_n hf dX8_change_28 rfl rfl ?_
  refine B_get hf l01 rfl fl_X8_10_11 rfl dX8_change_29 ?_
  refine V_iload_n hf dX8_change_32 rfl rfl ?_
  refine V_iload_n hf dX8_change_33 rfl rfl ?_
  refine V_iload_n hf dX8_change_34 rfl rfl ?_
  refine V_iload hf dX8_change_35 rfl ?_
  refine B_callVi hf (As := [_, _, _, _]) (c_do_x hl0 0 lm0 (remM σ 0) (remM_R hR hH) hM1 a b c ha hb hc h0) cv_X8_314 lm0 rfl rfl rfl (Nat.le_of_ble_eq_true rfl) ⟨by decide, by decide, by decide, by decide⟩ dX8_change_37 ?_
  exact B_iret hf he rfl dX8_change_40 (by decide) (by decide) rfl rfl

set_option maxHeartbeats 4000000 in
set_option maxRecDepth 100000 in
theorem cx_ch_xn3 {l : Launch} {D : va_G} {K : Nat → ClassId} {ad : Adr} (hl0 : l.stackTraces = false) (σ : Mem) (hR : Rng σ) (hM : MI (σ 0)) (a b c : Int) (ha : inR a) (hb : inR b) (hc : inR c) (hv : (if rowId (σ 0) 6 a = -1 then -3 else 0) = -3) : Cb l D K ad yX8_change (.code yX8_change cX8_change 5 (some .int)) 8 1 6 σ [.ref (ad 0 23), .int (iN 120), .int (iN a), .int (iN b), .int (iN c)] (.inr "java/util/NoSuchElementException") σ := by
  refine Cb.of (own := RX8) (ls0 := [some (.ref (ad 0 23)), some (.int (iN 120)), some (.int (iN a)), some (.int (iN b)), some (.int (iN c))]) hl0 (by decide) rfl (Nat.le_of_ble_eq_true rfl) rfl ?_
  intro X hX1 hX2 hX3 hf he hh
  subst hX1 hX2 hX3
  refine V_aload_n hf dX8_change_0 rfl rfl ?_
  refine V_aload_n hf dX8_change_1 rfl rfl ?_
  refine B_get hf l01 rfl fl_X8_10_11 rfl dX8_change_2 ?_
  refine V_iload_n hf dX8_change_5 rfl rfl ?_
  refine V_iload_n hf dX8_change_6 rfl rfl ?_
  refine V_iload_n hf dX8_change_7 rfl rfl ?_
  refine V_iload hf dX8_change_8 rfl ?_
  refine B_callVi hf (As := [_, _, _, _]) (c_judge_x hl0 0 lm0 σ hR hM a b c ha hb hc) cv_X8_308 lm0 rfl rfl rfl (Nat.le_of_ble_eq_true rfl) ⟨by decide, by decide, by decide, by decide⟩ dX8_change_10 ?_
  rw [hv]
  refine V_iload_n hf dX8_change_13 rfl rfl ?_
  refine B_callVX hf (As := [_, _]) (cx_fine3 hl0 σ hR a) cv_X8_311 l01 rfl rfl rfl (Nat.le_of_ble_eq_true rfl) ⟨by decide, by decide, by decide, by decide⟩ dX8_change_14 ?_
  exact VX_out hf he hh (by decide) (by decide) ⟨rfl, rfl, rfl⟩

set_option maxHeartbeats 4000000 in
set_option maxRecDepth 100000 in
theorem c_ch_y {l : Launch} {D : va_G} {K : Nat → ClassId} {ad : Adr} (hl0 : l.stackTraces = false) (σ : Mem) (hR : Rng σ) (hM : MI (σ 0)) (a b c : Int) (ha : inR a) (hb : inR b) (hc : inR c) (hv : (if rowId (σ 0) 12 a = -1 then -3 else 0) = 0) (hH : HI σ) (hS : SZ σ) (hM1 : MI (remM σ 0 0)) (h0 : rowId ((remM σ 0) 0) 12 a ≠ -1) : Cb l D K ad yX8_change (.code yX8_change cX8_change 5 (some .int)) 8 1 6 σ [.ref (ad 0 23), .int (iN 121), .int (iN a), .int (iN b), .int (iN c)] (.inl (some (.int (iN (removeM (remM σ 0) 0 12 (rowId ((remM σ 0) 0) 12 a) 0 12 0))))) (removeM (remM σ 0) 0 12 (rowId ((remM σ 0) 0) 12 a)) := by
  refine Cb.of (own := RX8) (ls0 := [some (.ref (ad 0 23)), some (.int (iN 121)), some (.int (iN a)), some (.int (iN b)), some (.int (iN c))]) hl0 (by decide) rfl (Nat.le_of_ble_eq_true rfl) rfl ?_
  intro X hX1 hX2 hX3 hf he hh
  subst hX1 hX2 hX3
  refine V_aload_n hf dX8_change_0 rfl rfl ?_
  refine V_aload_n hf dX8_change_1 rfl rfl ?_
  refine B_get hf l01 rfl fl_X8_10_11 rfl dX8_change_2 ?_
  refine V_iload_n hf dX8_change_5 rfl rfl ?_
  refine V_iload_n hf dX8_change_6 rfl rfl ?_
  refine V_iload_n hf dX8_change_7 rfl rfl ?_
  refine V_iload hf dX8_change_8 rfl ?_
  refine B_callVi hf (As := [_, _, _, _]) (c_judge_y hl0 0 lm0 σ hR hM a b c ha hb hc) cv_X8_308 lm0 rfl rfl rfl (Nat.le_of_ble_eq_true rfl) ⟨by decide, by decide, by decide, by decide⟩ dX8_change_10 ?_
  rw [hv]
  refine V_iload_n hf dX8_change_13 rfl rfl ?_
  refine B_callVv hf (As := [_, _]) (c_fine hl0 σ hR a) cv_X8_311 l01 rfl rfl rfl (Nat.le_of_ble_eq_true rfl) ⟨by decide, by decide, by decide, by decide⟩ dX8_change_14 ?_
  refine V_aload_n hf dX8_change_17 rfl rfl ?_
  refine B_get hf l01 rfl fl_X8_29_11 rfl dX8_change_18 ?_
  refine V_aload_n hf dX8_change_21 rfl rfl ?_
  refine B_get hf l01 rfl fl_X8_10_11 rfl dX8_change_22 ?_
  refine B_callVv hf (As := [_]) (c_remember hl0 σ hR 0 ⟨by decide, by decide⟩ hH hS) cv_X8_288 l01 rfl rfl rfl (Nat.le_of_ble_eq_true rfl) ⟨by decide, by decide, by decide, by decide⟩ dX8_change_25 ?_
  refine V_aload_n hf dX8_change_28 rfl rfl ?_
  refine B_get hf l01 rfl fl_X8_10_11 rfl dX8_change_29 ?_
  refine V_iload_n hf dX8_change_32 rfl rfl ?_
  refine V_iload_n hf dX8_change_33 rfl rfl ?_
  refine V_iload_n hf dX8_change_34 rfl rfl ?_
  refine V_iload hf dX8_change_35 rfl ?_
  refine B_callVi hf (As := [_, _, _, _]) (c_do_y hl0 0 lm0 (remM σ 0) (remM_R hR hH) hM1 a b c ha hb hc h0) cv_X8_314 lm0 rfl rfl rfl (Nat.le_of_ble_eq_true rfl) ⟨by decide, by decide, by decide, by decide⟩ dX8_change_37 ?_
  exact B_iret hf he rfl dX8_change_40 (by decide) (by decide) rfl rfl

set_option maxHeartbeats 4000000 in
set_option maxRecDepth 100000 in
theorem cx_ch_yn3 {l : Launch} {D : va_G} {K : Nat → ClassId} {ad : Adr} (hl0 : l.stackTraces = false) (σ : Mem) (hR : Rng σ) (hM : MI (σ 0)) (a b c : Int) (ha : inR a) (hb : inR b) (hc : inR c) (hv : (if rowId (σ 0) 12 a = -1 then -3 else 0) = -3) : Cb l D K ad yX8_change (.code yX8_change cX8_change 5 (some .int)) 8 1 6 σ [.ref (ad 0 23), .int (iN 121), .int (iN a), .int (iN b), .int (iN c)] (.inr "java/util/NoSuchElementException") σ := by
  refine Cb.of (own := RX8) (ls0 := [some (.ref (ad 0 23)), some (.int (iN 121)), some (.int (iN a)), some (.int (iN b)), some (.int (iN c))]) hl0 (by decide) rfl (Nat.le_of_ble_eq_true rfl) rfl ?_
  intro X hX1 hX2 hX3 hf he hh
  subst hX1 hX2 hX3
  refine V_aload_n hf dX8_change_0 rfl rfl ?_
  refine V_aload_n hf dX8_change_1 rfl rfl ?_
  refine B_get hf l01 rfl fl_X8_10_11 rfl dX8_change_2 ?_
  refine V_iload_n hf dX8_change_5 rfl rfl ?_
  refine V_iload_n hf dX8_change_6 rfl rfl ?_
  refine V_iload_n hf dX8_change_7 rfl rfl ?_
  refine V_iload hf dX8_change_8 rfl ?_
  refine B_callVi hf (As := [_, _, _, _]) (c_judge_y hl0 0 lm0 σ hR hM a b c ha hb hc) cv_X8_308 lm0 rfl rfl rfl (Nat.le_of_ble_eq_true rfl) ⟨by decide, by decide, by decide, by decide⟩ dX8_change_10 ?_
  rw [hv]
  refine V_iload_n hf dX8_change_13 rfl rfl ?_
  refine B_callVX hf (As := [_, _]) (cx_fine3 hl0 σ hR a) cv_X8_311 l01 rfl rfl rfl (Nat.le_of_ble_eq_true rfl) ⟨by decide, by decide, by decide, by decide⟩ dX8_change_14 ?_
  exact VX_out hf he hh (by decide) (by decide) ⟨rfl, rfl, rfl⟩

set_option maxHeartbeats 4000000 in
set_option maxRecDepth 100000 in
theorem c_ch_t {l : Launch} {D : va_G} {K : Nat → ClassId} {ad : Adr} (hl0 : l.stackTraces = false) (σ : Mem) (hR : Rng σ) (hM : MI (σ 0)) (a b c : Int) (ha : inR a) (hb : inR b) (hc : inR c) (hv : (0) = 0) (hH : HI σ) (hS : SZ σ) (hM1 : MI (remM σ 0 0)) (hT : tideOk 0 (remM σ 0)) : Cb l D K ad yX8_change (.code yX8_change cX8_change 5 (some .int)) 8 1 6 σ [.ref (ad 0 23), .int (iN 116), .int (iN a), .int (iN b), .int (iN c)] (.inl (some (.int (iN (tideM 0 (remM σ 0) 0 18 0 - (remM σ 0) 0 18 0))))) (tideM 0 (remM σ 0)) := by
  refine Cb.of (own := RX8) (ls0 := [some (.ref (ad 0 23)), some (.int (iN 116)), some (.int (iN a)), some (.int (iN b)), some (.int (iN c))]) hl0 (by decide) rfl (Nat.le_of_ble_eq_true rfl) rfl ?_
  intro X hX1 hX2 hX3 hf he hh
  subst hX1 hX2 hX3
  refine V_aload_n hf dX8_change_0 rfl rfl ?_
  refine V_aload_n hf dX8_change_1 rfl rfl ?_
  refine B_get hf l01 rfl fl_X8_10_11 rfl dX8_change_2 ?_
  refine V_iload_n hf dX8_change_5 rfl rfl ?_
  refine V_iload_n hf dX8_change_6 rfl rfl ?_
  refine V_iload_n hf dX8_change_7 rfl rfl ?_
  refine V_iload hf dX8_change_8 rfl ?_
  refine B_callVi hf (As := [_, _, _, _]) (c_judge_t hl0 0 lm0 σ hR hM a b c ha hb hc) cv_X8_308 lm0 rfl rfl rfl (Nat.le_of_ble_eq_true rfl) ⟨by decide, by decide, by decide, by decide⟩ dX8_change_10 ?_
  rw [hv]
  refine V_iload_n hf dX8_change_13 rfl rfl ?_
  refine B_callVv hf (As := [_, _]) (c_fine hl0 σ hR a) cv_X8_311 l01 rfl rfl rfl (Nat.le_of_ble_eq_true rfl) ⟨by decide, by decide, by decide, by decide⟩ dX8_change_14 ?_
  refine V_aload_n hf dX8_change_17 rfl rfl ?_
  refine B_get hf l01 rfl fl_X8_29_11 rfl dX8_change_18 ?_
  refine V_aload_n hf dX8_change_21 rfl rfl ?_
  refine B_get hf l01 rfl fl_X8_10_11 rfl dX8_change_22 ?_
  refine B_callVv hf (As := [_]) (c_remember hl0 σ hR 0 ⟨by decide, by decide⟩ hH hS) cv_X8_288 l01 rfl rfl rfl (Nat.le_of_ble_eq_true rfl) ⟨by decide, by decide, by decide, by decide⟩ dX8_change_25 ?_
  refine V_aload_n hf dX8_change_28 rfl rfl ?_
  refine B_get hf l01 rfl fl_X8_10_11 rfl dX8_change_29 ?_
  refine V_iload_n hf dX8_change_32 rfl rfl ?_
  refine V_iload_n hf dX8_change_33 rfl rfl ?_
  refine V_iload_n hf dX8_change_34 rfl rfl ?_
  refine V_iload hf dX8_change_35 rfl ?_
  refine B_callVi hf (As := [_, _, _, _]) (c_do_t hl0 0 lm0 (remM σ 0) (remM_R hR hH) hM1 a b c ha hb hc hT) cv_X8_314 lm0 rfl rfl rfl (Nat.le_of_ble_eq_true rfl) ⟨by decide, by decide, by decide, by decide⟩ dX8_change_37 ?_
  exact B_iret hf he rfl dX8_change_40 (by decide) (by decide) rfl rfl

set_option maxHeartbeats 4000000 in
set_option maxRecDepth 100000 in
theorem c_ch_f {l : Launch} {D : va_G} {K : Nat → ClassId} {ad : Adr} (hl0 : l.stackTraces = false) (σ : Mem) (hR : Rng σ) (hM : MI (σ 0)) (a b c : Int) (ha : inR a) (hb : inR b) (hc : inR c) (hv : (if 0 ≤ a ∧ a ≤ 9 then 0 else -2) = 0) (hH : HI σ) (hS : SZ σ) (hM1 : MI (remM σ 0 0)) : Cb l D K ad yX8_change (.code yX8_change cX8_change 5 (some .int)) 8 1 6 σ [.ref (ad 0 23), .int (iN 102), .int (iN a), .int (iN b), .int (iN c)] (.inl (some (.int (iN ((remM σ 0) 0 0 4))))) (st3 (remM σ 0) 0 0 4 a) := by
  refine Cb.of (own := RX8) (ls0 := [some (.ref (ad 0 23)), some (.int (iN 102)), some (.int (iN a)), some (.int (iN b)), some (.int (iN c))]) hl0 (by decide) rfl (Nat.le_of_ble_eq_true rfl) rfl ?_
  intro X hX1 hX2 hX3 hf he hh
  subst hX1 hX2 hX3
  refine V_aload_n hf dX8_change_0 rfl rfl ?_
  refine V_aload_n hf dX8_change_1 rfl rfl ?_
  refine B_get hf l01 rfl fl_X8_10_11 rfl dX8_change_2 ?_
  refine V_iload_n hf dX8_change_5 rfl rfl ?_
  refine V_iload_n hf dX8_change_6 rfl rfl ?_
  refine V_iload_n hf dX8_change_7 rfl rfl ?_
  refine V_iload hf dX8_change_8 rfl ?_
  refine B_callVi hf (As := [_, _, _, _]) (c_judge_f hl0 0 lm0 σ hR hM a b c ha hb hc) cv_X8_308 lm0 rfl rfl rfl (Nat.le_of_ble_eq_true rfl) ⟨by decide, by decide, by decide, by decide⟩ dX8_change_10 ?_
  rw [hv]
  refine V_iload_n hf dX8_change_13 rfl rfl ?_
  refine B_callVv hf (As := [_, _]) (c_fine hl0 σ hR a) cv_X8_311 l01 rfl rfl rfl (Nat.le_of_ble_eq_true rfl) ⟨by decide, by decide, by decide, by decide⟩ dX8_change_14 ?_
  refine V_aload_n hf dX8_change_17 rfl rfl ?_
  refine B_get hf l01 rfl fl_X8_29_11 rfl dX8_change_18 ?_
  refine V_aload_n hf dX8_change_21 rfl rfl ?_
  refine B_get hf l01 rfl fl_X8_10_11 rfl dX8_change_22 ?_
  refine B_callVv hf (As := [_]) (c_remember hl0 σ hR 0 ⟨by decide, by decide⟩ hH hS) cv_X8_288 l01 rfl rfl rfl (Nat.le_of_ble_eq_true rfl) ⟨by decide, by decide, by decide, by decide⟩ dX8_change_25 ?_
  refine V_aload_n hf dX8_change_28 rfl rfl ?_
  refine B_get hf l01 rfl fl_X8_10_11 rfl dX8_change_29 ?_
  refine V_iload_n hf dX8_change_32 rfl rfl ?_
  refine V_iload_n hf dX8_change_33 rfl rfl ?_
  refine V_iload_n hf dX8_change_34 rfl rfl ?_
  refine V_iload hf dX8_change_35 rfl ?_
  refine B_callVi hf (As := [_, _, _, _]) (c_do_f hl0 0 lm0 (remM σ 0) (remM_R hR hH) hM1 a b c ha hb hc) cv_X8_314 lm0 rfl rfl rfl (Nat.le_of_ble_eq_true rfl) ⟨by decide, by decide, by decide, by decide⟩ dX8_change_37 ?_
  exact B_iret hf he rfl dX8_change_40 (by decide) (by decide) rfl rfl

set_option maxHeartbeats 4000000 in
set_option maxRecDepth 100000 in
theorem cx_ch_fn2 {l : Launch} {D : va_G} {K : Nat → ClassId} {ad : Adr} (hl0 : l.stackTraces = false) (σ : Mem) (hR : Rng σ) (hM : MI (σ 0)) (a b c : Int) (ha : inR a) (hb : inR b) (hc : inR c) (hv : (if 0 ≤ a ∧ a ≤ 9 then 0 else -2) = -2) : Cb l D K ad yX8_change (.code yX8_change cX8_change 5 (some .int)) 8 1 6 σ [.ref (ad 0 23), .int (iN 102), .int (iN a), .int (iN b), .int (iN c)] (.inr "java/lang/IllegalArgumentException") σ := by
  refine Cb.of (own := RX8) (ls0 := [some (.ref (ad 0 23)), some (.int (iN 102)), some (.int (iN a)), some (.int (iN b)), some (.int (iN c))]) hl0 (by decide) rfl (Nat.le_of_ble_eq_true rfl) rfl ?_
  intro X hX1 hX2 hX3 hf he hh
  subst hX1 hX2 hX3
  refine V_aload_n hf dX8_change_0 rfl rfl ?_
  refine V_aload_n hf dX8_change_1 rfl rfl ?_
  refine B_get hf l01 rfl fl_X8_10_11 rfl dX8_change_2 ?_
  refine V_iload_n hf dX8_change_5 rfl rfl ?_
  refine V_iload_n hf dX8_change_6 rfl rfl ?_
  refine V_iload_n hf dX8_change_7 rfl rfl ?_
  refine V_iload hf dX8_change_8 rfl ?_
  refine B_callVi hf (As := [_, _, _, _]) (c_judge_f hl0 0 lm0 σ hR hM a b c ha hb hc) cv_X8_308 lm0 rfl rfl rfl (Nat.le_of_ble_eq_true rfl) ⟨by decide, by decide, by decide, by decide⟩ dX8_change_10 ?_
  rw [hv]
  refine V_iload_n hf dX8_change_13 rfl rfl ?_
  refine B_callVX hf (As := [_, _]) (cx_fine2 hl0 σ hR a) cv_X8_311 l01 rfl rfl rfl (Nat.le_of_ble_eq_true rfl) ⟨by decide, by decide, by decide, by decide⟩ dX8_change_14 ?_
  exact VX_out hf he hh (by decide) (by decide) ⟨rfl, rfl, rfl⟩

set_option maxHeartbeats 4000000 in
set_option maxRecDepth 100000 in
theorem c_addShip {l : Launch} {D : va_G} {K : Nat → ClassId} {ad : Adr} (hl0 : l.stackTraces = false) (σ σ1 : Mem) (a b : Int) (r : Int) (hC : Cb l D K ad yX8_change (.code yX8_change cX8_change 5 (some .int)) 8 1 6 σ [.ref (ad 0 23), .int (iN 115), .int (iN a), .int (iN b), .int (iN 0)] (.inl (some (.int (iN r)))) σ1) : Cb l D K ad yX8_addShip (.code yX8_addShip cX8_addShip 3 (some .int)) 9 1 6 σ [.ref (ad 0 23), .int (iN a), .int (iN b)] (.inl (some (.int (iN (r))))) σ1 := by
  refine Cb.of (own := RX8) (ls0 := [some (.ref (ad 0 23)), some (.int (iN a)), some (.int (iN b))]) hl0 (by decide) rfl (Nat.le_of_ble_eq_true rfl) rfl ?_
  intro X hX1 hX2 hX3 hf he hh
  subst hX1 hX2 hX3
  refine V_aload_n hf dX8_addShip_0 rfl rfl ?_
  refine V_bipush hf dX8_addShip_1 (by decide +kernel) ?_
  refine V_iload_n hf dX8_addShip_3 rfl rfl ?_
  refine V_iload_n hf dX8_addShip_4 rfl rfl ?_
  refine V_iconst hf dX8_addShip_5 ?_
  refine B_callVi hf (As := [_, _, _, _]) (hC) cv_X8_60 l01 rfl rfl rfl (Nat.le_of_ble_eq_true rfl) ⟨by decide, by decide, by decide, by decide⟩ dX8_addShip_6 ?_
  exact B_iret hf he rfl dX8_addShip_9 (by decide) (by decide) rfl rfl

set_option maxHeartbeats 4000000 in
set_option maxRecDepth 100000 in
theorem cx_addShip {l : Launch} {D : va_G} {K : Nat → ClassId} {ad : Adr} (hl0 : l.stackTraces = false) (σ σ1 : Mem) (a b : Int) (En : String) (hC : Cb l D K ad yX8_change (.code yX8_change cX8_change 5 (some .int)) 8 1 6 σ [.ref (ad 0 23), .int (iN 115), .int (iN a), .int (iN b), .int (iN 0)] (.inr En) σ1) : Cb l D K ad yX8_addShip (.code yX8_addShip cX8_addShip 3 (some .int)) 9 1 6 σ [.ref (ad 0 23), .int (iN a), .int (iN b)] (.inr En) σ1 := by
  refine Cb.of (own := RX8) (ls0 := [some (.ref (ad 0 23)), some (.int (iN a)), some (.int (iN b))]) hl0 (by decide) rfl (Nat.le_of_ble_eq_true rfl) rfl ?_
  intro X hX1 hX2 hX3 hf he hh
  subst hX1 hX2 hX3
  refine V_aload_n hf dX8_addShip_0 rfl rfl ?_
  refine V_bipush hf dX8_addShip_1 (by decide +kernel) ?_
  refine V_iload_n hf dX8_addShip_3 rfl rfl ?_
  refine V_iload_n hf dX8_addShip_4 rfl rfl ?_
  refine V_iconst hf dX8_addShip_5 ?_
  refine B_callVX hf (As := [_, _, _, _]) (hC) cv_X8_60 l01 rfl rfl rfl (Nat.le_of_ble_eq_true rfl) ⟨by decide, by decide, by decide, by decide⟩ dX8_addShip_6 ?_
  exact VX_out hf he hh (by decide) (by decide) ⟨rfl, rfl, rfl⟩

set_option maxHeartbeats 4000000 in
set_option maxRecDepth 100000 in
theorem c_addBarnacle {l : Launch} {D : va_G} {K : Nat → ClassId} {ad : Adr} (hl0 : l.stackTraces = false) (σ σ1 : Mem) (a b : Int) (r : Int) (hC : Cb l D K ad yX8_change (.code yX8_change cX8_change 5 (some .int)) 8 1 6 σ [.ref (ad 0 23), .int (iN 97), .int (iN a), .int (iN b), .int (iN 0)] (.inl (some (.int (iN r)))) σ1) : Cb l D K ad yX8_addBarnacle (.code yX8_addBarnacle cX8_addBarnacle 3 (some .int)) 9 1 6 σ [.ref (ad 0 23), .int (iN a), .int (iN b)] (.inl (some (.int (iN (r))))) σ1 := by
  refine Cb.of (own := RX8) (ls0 := [some (.ref (ad 0 23)), some (.int (iN a)), some (.int (iN b))]) hl0 (by decide) rfl (Nat.le_of_ble_eq_true rfl) rfl ?_
  intro X hX1 hX2 hX3 hf he hh
  subst hX1 hX2 hX3
  refine V_aload_n hf dX8_addBarnacle_0 rfl rfl ?_
  refine V_bipush hf dX8_addBarnacle_1 (by decide +kernel) ?_
  refine V_iload_n hf dX8_addBarnacle_3 rfl rfl ?_
  refine V_iload_n hf dX8_addBarnacle_4 rfl rfl ?_
  refine V_iconst hf dX8_addBarnacle_5 ?_
  refine B_callVi hf (As := [_, _, _, _]) (hC) cv_X8_60 l01 rfl rfl rfl (Nat.le_of_ble_eq_true rfl) ⟨by decide, by decide, by decide, by decide⟩ dX8_addBarnacle_6 ?_
  exact B_iret hf he rfl dX8_addBarnacle_9 (by decide) (by decide) rfl rfl

set_option maxHeartbeats 4000000 in
set_option maxRecDepth 100000 in
theorem cx_addBarnacle {l : Launch} {D : va_G} {K : Nat → ClassId} {ad : Adr} (hl0 : l.stackTraces = false) (σ σ1 : Mem) (a b : Int) (En : String) (hC : Cb l D K ad yX8_change (.code yX8_change cX8_change 5 (some .int)) 8 1 6 σ [.ref (ad 0 23), .int (iN 97), .int (iN a), .int (iN b), .int (iN 0)] (.inr En) σ1) : Cb l D K ad yX8_addBarnacle (.code yX8_addBarnacle cX8_addBarnacle 3 (some .int)) 9 1 6 σ [.ref (ad 0 23), .int (iN a), .int (iN b)] (.inr En) σ1 := by
  refine Cb.of (own := RX8) (ls0 := [some (.ref (ad 0 23)), some (.int (iN a)), some (.int (iN b))]) hl0 (by decide) rfl (Nat.le_of_ble_eq_true rfl) rfl ?_
  intro X hX1 hX2 hX3 hf he hh
  subst hX1 hX2 hX3
  refine V_aload_n hf dX8_addBarnacle_0 rfl rfl ?_
  refine V_bipush hf dX8_addBarnacle_1 (by decide +kernel) ?_
  refine V_iload_n hf dX8_addBarnacle_3 rfl rfl ?_
  refine V_iload_n hf dX8_addBarnacle_4 rfl rfl ?_
  refine V_iconst hf dX8_addBarnacle_5 ?_
  refine B_callVX hf (As := [_, _, _, _]) (hC) cv_X8_60 l01 rfl rfl rfl (Nat.le_of_ble_eq_true rfl) ⟨by decide, by decide, by decide, by decide⟩ dX8_addBarnacle_6 ?_
  exact VX_out hf he hh (by decide) (by decide) ⟨rfl, rfl, rfl⟩

set_option maxHeartbeats 4000000 in
set_option maxRecDepth 100000 in
theorem c_giveCoins {l : Launch} {D : va_G} {K : Nat → ClassId} {ad : Adr} (hl0 : l.stackTraces = false) (σ σ1 : Mem) (a b : Int) (r : Int) (hC : Cb l D K ad yX8_change (.code yX8_change cX8_change 5 (some .int)) 8 1 6 σ [.ref (ad 0 23), .int (iN 99), .int (iN a), .int (iN b), .int (iN 0)] (.inl (some (.int (iN r)))) σ1) : Cb l D K ad yX8_giveCoins (.code yX8_giveCoins cX8_giveCoins 3 (some .int)) 9 1 6 σ [.ref (ad 0 23), .int (iN a), .int (iN b)] (.inl (some (.int (iN (r))))) σ1 := by
  refine Cb.of (own := RX8) (ls0 := [some (.ref (ad 0 23)), some (.int (iN a)), some (.int (iN b))]) hl0 (by decide) rfl (Nat.le_of_ble_eq_true rfl) rfl ?_
  intro X hX1 hX2 hX3 hf he hh
  subst hX1 hX2 hX3
  refine V_aload_n hf dX8_giveCoins_0 rfl rfl ?_
  refine V_bipush hf dX8_giveCoins_1 (by decide +kernel) ?_
  refine V_iload_n hf dX8_giveCoins_3 rfl rfl ?_
  refine V_iload_n hf dX8_giveCoins_4 rfl rfl ?_
  refine V_iconst hf dX8_giveCoins_5 ?_
  refine B_callVi hf (As := [_, _, _, _]) (hC) cv_X8_60 l01 rfl rfl rfl (Nat.le_of_ble_eq_true rfl) ⟨by decide, by decide, by decide, by decide⟩ dX8_giveCoins_6 ?_
  exact B_iret hf he rfl dX8_giveCoins_9 (by decide) (by decide) rfl rfl

set_option maxHeartbeats 4000000 in
set_option maxRecDepth 100000 in
theorem cx_giveCoins {l : Launch} {D : va_G} {K : Nat → ClassId} {ad : Adr} (hl0 : l.stackTraces = false) (σ σ1 : Mem) (a b : Int) (En : String) (hC : Cb l D K ad yX8_change (.code yX8_change cX8_change 5 (some .int)) 8 1 6 σ [.ref (ad 0 23), .int (iN 99), .int (iN a), .int (iN b), .int (iN 0)] (.inr En) σ1) : Cb l D K ad yX8_giveCoins (.code yX8_giveCoins cX8_giveCoins 3 (some .int)) 9 1 6 σ [.ref (ad 0 23), .int (iN a), .int (iN b)] (.inr En) σ1 := by
  refine Cb.of (own := RX8) (ls0 := [some (.ref (ad 0 23)), some (.int (iN a)), some (.int (iN b))]) hl0 (by decide) rfl (Nat.le_of_ble_eq_true rfl) rfl ?_
  intro X hX1 hX2 hX3 hf he hh
  subst hX1 hX2 hX3
  refine V_aload_n hf dX8_giveCoins_0 rfl rfl ?_
  refine V_bipush hf dX8_giveCoins_1 (by decide +kernel) ?_
  refine V_iload_n hf dX8_giveCoins_3 rfl rfl ?_
  refine V_iload_n hf dX8_giveCoins_4 rfl rfl ?_
  refine V_iconst hf dX8_giveCoins_5 ?_
  refine B_callVX hf (As := [_, _, _, _]) (hC) cv_X8_60 l01 rfl rfl rfl (Nat.le_of_ble_eq_true rfl) ⟨by decide, by decide, by decide, by decide⟩ dX8_giveCoins_6 ?_
  exact VX_out hf he hh (by decide) (by decide) ⟨rfl, rfl, rfl⟩

set_option maxHeartbeats 4000000 in
set_option maxRecDepth 100000 in
theorem c_placeBid {l : Launch} {D : va_G} {K : Nat → ClassId} {ad : Adr} (hl0 : l.stackTraces = false) (σ σ1 : Mem) (a b c : Int) (r : Int) (hC : Cb l D K ad yX8_change (.code yX8_change cX8_change 5 (some .int)) 8 1 6 σ [.ref (ad 0 23), .int (iN 98), .int (iN a), .int (iN b), .int (iN c)] (.inl (some (.int (iN r)))) σ1) : Cb l D K ad yX8_placeBid (.code yX8_placeBid cX8_placeBid 4 (some .int)) 9 1 6 σ [.ref (ad 0 23), .int (iN a), .int (iN b), .int (iN c)] (.inl (some (.int (iN (r))))) σ1 := by
  refine Cb.of (own := RX8) (ls0 := [some (.ref (ad 0 23)), some (.int (iN a)), some (.int (iN b)), some (.int (iN c))]) hl0 (by decide) rfl (Nat.le_of_ble_eq_true rfl) rfl ?_
  intro X hX1 hX2 hX3 hf he hh
  subst hX1 hX2 hX3
  refine V_aload_n hf dX8_placeBid_0 rfl rfl ?_
  refine V_bipush hf dX8_placeBid_1 (by decide +kernel) ?_
  refine V_iload_n hf dX8_placeBid_3 rfl rfl ?_
  refine V_iload_n hf dX8_placeBid_4 rfl rfl ?_
  refine V_iload_n hf dX8_placeBid_5 rfl rfl ?_
  refine B_callVi hf (As := [_, _, _, _]) (hC) cv_X8_60 l01 rfl rfl rfl (Nat.le_of_ble_eq_true rfl) ⟨by decide, by decide, by decide, by decide⟩ dX8_placeBid_6 ?_
  exact B_iret hf he rfl dX8_placeBid_9 (by decide) (by decide) rfl rfl

set_option maxHeartbeats 4000000 in
set_option maxRecDepth 100000 in
theorem cx_placeBid {l : Launch} {D : va_G} {K : Nat → ClassId} {ad : Adr} (hl0 : l.stackTraces = false) (σ σ1 : Mem) (a b c : Int) (En : String) (hC : Cb l D K ad yX8_change (.code yX8_change cX8_change 5 (some .int)) 8 1 6 σ [.ref (ad 0 23), .int (iN 98), .int (iN a), .int (iN b), .int (iN c)] (.inr En) σ1) : Cb l D K ad yX8_placeBid (.code yX8_placeBid cX8_placeBid 4 (some .int)) 9 1 6 σ [.ref (ad 0 23), .int (iN a), .int (iN b), .int (iN c)] (.inr En) σ1 := by
  refine Cb.of (own := RX8) (ls0 := [some (.ref (ad 0 23)), some (.int (iN a)), some (.int (iN b)), some (.int (iN c))]) hl0 (by decide) rfl (Nat.le_of_ble_eq_true rfl) rfl ?_
  intro X hX1 hX2 hX3 hf he hh
  subst hX1 hX2 hX3
  refine V_aload_n hf dX8_placeBid_0 rfl rfl ?_
  refine V_bipush hf dX8_placeBid_1 (by decide +kernel) ?_
  refine V_iload_n hf dX8_placeBid_3 rfl rfl ?_
  refine V_iload_n hf dX8_placeBid_4 rfl rfl ?_
  refine V_iload_n hf dX8_placeBid_5 rfl rfl ?_
  refine B_callVX hf (As := [_, _, _, _]) (hC) cv_X8_60 l01 rfl rfl rfl (Nat.le_of_ble_eq_true rfl) ⟨by decide, by decide, by decide, by decide⟩ dX8_placeBid_6 ?_
  exact VX_out hf he hh (by decide) (by decide) ⟨rfl, rfl, rfl⟩

set_option maxHeartbeats 4000000 in
set_option maxRecDepth 100000 in
theorem c_placeOffer {l : Launch} {D : va_G} {K : Nat → ClassId} {ad : Adr} (hl0 : l.stackTraces = false) (σ σ1 : Mem) (a b : Int) (r : Int) (hC : Cb l D K ad yX8_change (.code yX8_change cX8_change 5 (some .int)) 8 1 6 σ [.ref (ad 0 23), .int (iN 111), .int (iN a), .int (iN b), .int (iN 0)] (.inl (some (.int (iN r)))) σ1) : Cb l D K ad yX8_placeOffer (.code yX8_placeOffer cX8_placeOffer 3 (some .int)) 9 1 6 σ [.ref (ad 0 23), .int (iN a), .int (iN b)] (.inl (some (.int (iN (r))))) σ1 := by
  refine Cb.of (own := RX8) (ls0 := [some (.ref (ad 0 23)), some (.int (iN a)), some (.int (iN b))]) hl0 (by decide) rfl (Nat.le_of_ble_eq_true rfl) rfl ?_
  intro X hX1 hX2 hX3 hf he hh
  subst hX1 hX2 hX3
  refine V_aload_n hf dX8_placeOffer_0 rfl rfl ?_
  refine V_bipush hf dX8_placeOffer_1 (by decide +kernel) ?_
  refine V_iload_n hf dX8_placeOffer_3 rfl rfl ?_
  refine V_iload_n hf dX8_placeOffer_4 rfl rfl ?_
  refine V_iconst hf dX8_placeOffer_5 ?_
  refine B_callVi hf (As := [_, _, _, _]) (hC) cv_X8_60 l01 rfl rfl rfl (Nat.le_of_ble_eq_true rfl) ⟨by decide, by decide, by decide, by decide⟩ dX8_placeOffer_6 ?_
  exact B_iret hf he rfl dX8_placeOffer_9 (by decide) (by decide) rfl rfl

set_option maxHeartbeats 4000000 in
set_option maxRecDepth 100000 in
theorem cx_placeOffer {l : Launch} {D : va_G} {K : Nat → ClassId} {ad : Adr} (hl0 : l.stackTraces = false) (σ σ1 : Mem) (a b : Int) (En : String) (hC : Cb l D K ad yX8_change (.code yX8_change cX8_change 5 (some .int)) 8 1 6 σ [.ref (ad 0 23), .int (iN 111), .int (iN a), .int (iN b), .int (iN 0)] (.inr En) σ1) : Cb l D K ad yX8_placeOffer (.code yX8_placeOffer cX8_placeOffer 3 (some .int)) 9 1 6 σ [.ref (ad 0 23), .int (iN a), .int (iN b)] (.inr En) σ1 := by
  refine Cb.of (own := RX8) (ls0 := [some (.ref (ad 0 23)), some (.int (iN a)), some (.int (iN b))]) hl0 (by decide) rfl (Nat.le_of_ble_eq_true rfl) rfl ?_
  intro X hX1 hX2 hX3 hf he hh
  subst hX1 hX2 hX3
  refine V_aload_n hf dX8_placeOffer_0 rfl rfl ?_
  refine V_bipush hf dX8_placeOffer_1 (by decide +kernel) ?_
  refine V_iload_n hf dX8_placeOffer_3 rfl rfl ?_
  refine V_iload_n hf dX8_placeOffer_4 rfl rfl ?_
  refine V_iconst hf dX8_placeOffer_5 ?_
  refine B_callVX hf (As := [_, _, _, _]) (hC) cv_X8_60 l01 rfl rfl rfl (Nat.le_of_ble_eq_true rfl) ⟨by decide, by decide, by decide, by decide⟩ dX8_placeOffer_6 ?_
  exact VX_out hf he hh (by decide) (by decide) ⟨rfl, rfl, rfl⟩

set_option maxHeartbeats 4000000 in
set_option maxRecDepth 100000 in
theorem c_cancelBid {l : Launch} {D : va_G} {K : Nat → ClassId} {ad : Adr} (hl0 : l.stackTraces = false) (σ σ1 : Mem) (a : Int) (r : Int) (hC : Cb l D K ad yX8_change (.code yX8_change cX8_change 5 (some .int)) 8 1 6 σ [.ref (ad 0 23), .int (iN 120), .int (iN a), .int (iN 0), .int (iN 0)] (.inl (some (.int (iN r)))) σ1) : Cb l D K ad yX8_cancelBid (.code yX8_cancelBid cX8_cancelBid 2 (some .int)) 9 1 6 σ [.ref (ad 0 23), .int (iN a)] (.inl (some (.int (iN (r))))) σ1 := by
  refine Cb.of (own := RX8) (ls0 := [some (.ref (ad 0 23)), some (.int (iN a))]) hl0 (by decide) rfl (Nat.le_of_ble_eq_true rfl) rfl ?_
  intro X hX1 hX2 hX3 hf he hh
  subst hX1 hX2 hX3
  refine V_aload_n hf dX8_cancelBid_0 rfl rfl ?_
  refine V_bipush hf dX8_cancelBid_1 (by decide +kernel) ?_
  refine V_iload_n hf dX8_cancelBid_3 rfl rfl ?_
  refine V_iconst hf dX8_cancelBid_4 ?_
  refine V_iconst hf dX8_cancelBid_5 ?_
  refine B_callVi hf (As := [_, _, _, _]) (hC) cv_X8_60 l01 rfl rfl rfl (Nat.le_of_ble_eq_true rfl) ⟨by decide, by decide, by decide, by decide⟩ dX8_cancelBid_6 ?_
  exact B_iret hf he rfl dX8_cancelBid_9 (by decide) (by decide) rfl rfl

set_option maxHeartbeats 4000000 in
set_option maxRecDepth 100000 in
theorem cx_cancelBid {l : Launch} {D : va_G} {K : Nat → ClassId} {ad : Adr} (hl0 : l.stackTraces = false) (σ σ1 : Mem) (a : Int) (En : String) (hC : Cb l D K ad yX8_change (.code yX8_change cX8_change 5 (some .int)) 8 1 6 σ [.ref (ad 0 23), .int (iN 120), .int (iN a), .int (iN 0), .int (iN 0)] (.inr En) σ1) : Cb l D K ad yX8_cancelBid (.code yX8_cancelBid cX8_cancelBid 2 (some .int)) 9 1 6 σ [.ref (ad 0 23), .int (iN a)] (.inr En) σ1 := by
  refine Cb.of (own := RX8) (ls0 := [some (.ref (ad 0 23)), some (.int (iN a))]) hl0 (by decide) rfl (Nat.le_of_ble_eq_true rfl) rfl ?_
  intro X hX1 hX2 hX3 hf he hh
  subst hX1 hX2 hX3
  refine V_aload_n hf dX8_cancelBid_0 rfl rfl ?_
  refine V_bipush hf dX8_cancelBid_1 (by decide +kernel) ?_
  refine V_iload_n hf dX8_cancelBid_3 rfl rfl ?_
  refine V_iconst hf dX8_cancelBid_4 ?_
  refine V_iconst hf dX8_cancelBid_5 ?_
  refine B_callVX hf (As := [_, _, _, _]) (hC) cv_X8_60 l01 rfl rfl rfl (Nat.le_of_ble_eq_true rfl) ⟨by decide, by decide, by decide, by decide⟩ dX8_cancelBid_6 ?_
  exact VX_out hf he hh (by decide) (by decide) ⟨rfl, rfl, rfl⟩

set_option maxHeartbeats 4000000 in
set_option maxRecDepth 100000 in
theorem c_cancelOffer {l : Launch} {D : va_G} {K : Nat → ClassId} {ad : Adr} (hl0 : l.stackTraces = false) (σ σ1 : Mem) (a : Int) (r : Int) (hC : Cb l D K ad yX8_change (.code yX8_change cX8_change 5 (some .int)) 8 1 6 σ [.ref (ad 0 23), .int (iN 121), .int (iN a), .int (iN 0), .int (iN 0)] (.inl (some (.int (iN r)))) σ1) : Cb l D K ad yX8_cancelOffer (.code yX8_cancelOffer cX8_cancelOffer 2 (some .int)) 9 1 6 σ [.ref (ad 0 23), .int (iN a)] (.inl (some (.int (iN (r))))) σ1 := by
  refine Cb.of (own := RX8) (ls0 := [some (.ref (ad 0 23)), some (.int (iN a))]) hl0 (by decide) rfl (Nat.le_of_ble_eq_true rfl) rfl ?_
  intro X hX1 hX2 hX3 hf he hh
  subst hX1 hX2 hX3
  refine V_aload_n hf dX8_cancelOffer_0 rfl rfl ?_
  refine V_bipush hf dX8_cancelOffer_1 (by decide +kernel) ?_
  refine V_iload_n hf dX8_cancelOffer_3 rfl rfl ?_
  refine V_iconst hf dX8_cancelOffer_4 ?_
  refine V_iconst hf dX8_cancelOffer_5 ?_
  refine B_callVi hf (As := [_, _, _, _]) (hC) cv_X8_60 l01 rfl rfl rfl (Nat.le_of_ble_eq_true rfl) ⟨by decide, by decide, by decide, by decide⟩ dX8_cancelOffer_6 ?_
  exact B_iret hf he rfl dX8_cancelOffer_9 (by decide) (by decide) rfl rfl

set_option maxHeartbeats 4000000 in
set_option maxRecDepth 100000 in
theorem cx_cancelOffer {l : Launch} {D : va_G} {K : Nat → ClassId} {ad : Adr} (hl0 : l.stackTraces = false) (σ σ1 : Mem) (a : Int) (En : String) (hC : Cb l D K ad yX8_change (.code yX8_change cX8_change 5 (some .int)) 8 1 6 σ [.ref (ad 0 23), .int (iN 121), .int (iN a), .int (iN 0), .int (iN 0)] (.inr En) σ1) : Cb l D K ad yX8_cancelOffer (.code yX8_cancelOffer cX8_cancelOffer 2 (some .int)) 9 1 6 σ [.ref (ad 0 23), .int (iN a)] (.inr En) σ1 := by
  refine Cb.of (own := RX8) (ls0 := [some (.ref (ad 0 23)), some (.int (iN a))]) hl0 (by decide) rfl (Nat.le_of_ble_eq_true rfl) rfl ?_
  intro X hX1 hX2 hX3 hf he hh
  subst hX1 hX2 hX3
  refine V_aload_n hf dX8_cancelOffer_0 rfl rfl ?_
  refine V_bipush hf dX8_cancelOffer_1 (by decide +kernel) ?_
  refine V_iload_n hf dX8_cancelOffer_3 rfl rfl ?_
  refine V_iconst hf dX8_cancelOffer_4 ?_
  refine V_iconst hf dX8_cancelOffer_5 ?_
  refine B_callVX hf (As := [_, _, _, _]) (hC) cv_X8_60 l01 rfl rfl rfl (Nat.le_of_ble_eq_true rfl) ⟨by decide, by decide, by decide, by decide⟩ dX8_cancelOffer_6 ?_
  exact VX_out hf he hh (by decide) (by decide) ⟨rfl, rfl, rfl⟩

set_option maxHeartbeats 4000000 in
set_option maxRecDepth 100000 in
theorem c_passTide {l : Launch} {D : va_G} {K : Nat → ClassId} {ad : Adr} (hl0 : l.stackTraces = false) (σ σ1 : Mem) (r : Int) (hC : Cb l D K ad yX8_change (.code yX8_change cX8_change 5 (some .int)) 8 1 6 σ [.ref (ad 0 23), .int (iN 116), .int (iN 0), .int (iN 0), .int (iN 0)] (.inl (some (.int (iN r)))) σ1) : Cb l D K ad yX8_passTide (.code yX8_passTide cX8_passTide 1 (some .int)) 9 1 6 σ [.ref (ad 0 23)] (.inl (some (.int (iN (r))))) σ1 := by
  refine Cb.of (own := RX8) (ls0 := [some (.ref (ad 0 23))]) hl0 (by decide) rfl (Nat.le_of_ble_eq_true rfl) rfl ?_
  intro X hX1 hX2 hX3 hf he hh
  subst hX1 hX2 hX3
  refine V_aload_n hf dX8_passTide_0 rfl rfl ?_
  refine V_bipush hf dX8_passTide_1 (by decide +kernel) ?_
  refine V_iconst hf dX8_passTide_3 ?_
  refine V_iconst hf dX8_passTide_4 ?_
  refine V_iconst hf dX8_passTide_5 ?_
  refine B_callVi hf (As := [_, _, _, _]) (hC) cv_X8_60 l01 rfl rfl rfl (Nat.le_of_ble_eq_true rfl) ⟨by decide, by decide, by decide, by decide⟩ dX8_passTide_6 ?_
  exact B_iret hf he rfl dX8_passTide_9 (by decide) (by decide) rfl rfl

set_option maxHeartbeats 4000000 in
set_option maxRecDepth 100000 in
theorem c_setFee {l : Launch} {D : va_G} {K : Nat → ClassId} {ad : Adr} (hl0 : l.stackTraces = false) (σ σ1 : Mem) (a : Int) (r : Int) (hC : Cb l D K ad yX8_change (.code yX8_change cX8_change 5 (some .int)) 8 1 6 σ [.ref (ad 0 23), .int (iN 102), .int (iN a), .int (iN 0), .int (iN 0)] (.inl (some (.int (iN r)))) σ1) : Cb l D K ad yX8_setFee (.code yX8_setFee cX8_setFee 2 (some .int)) 9 1 6 σ [.ref (ad 0 23), .int (iN a)] (.inl (some (.int (iN (r))))) σ1 := by
  refine Cb.of (own := RX8) (ls0 := [some (.ref (ad 0 23)), some (.int (iN a))]) hl0 (by decide) rfl (Nat.le_of_ble_eq_true rfl) rfl ?_
  intro X hX1 hX2 hX3 hf he hh
  subst hX1 hX2 hX3
  refine V_aload_n hf dX8_setFee_0 rfl rfl ?_
  refine V_bipush hf dX8_setFee_1 (by decide +kernel) ?_
  refine V_iload_n hf dX8_setFee_3 rfl rfl ?_
  refine V_iconst hf dX8_setFee_4 ?_
  refine V_iconst hf dX8_setFee_5 ?_
  refine B_callVi hf (As := [_, _, _, _]) (hC) cv_X8_60 l01 rfl rfl rfl (Nat.le_of_ble_eq_true rfl) ⟨by decide, by decide, by decide, by decide⟩ dX8_setFee_6 ?_
  exact B_iret hf he rfl dX8_setFee_9 (by decide) (by decide) rfl rfl

set_option maxHeartbeats 4000000 in
set_option maxRecDepth 100000 in
theorem cx_setFee {l : Launch} {D : va_G} {K : Nat → ClassId} {ad : Adr} (hl0 : l.stackTraces = false) (σ σ1 : Mem) (a : Int) (En : String) (hC : Cb l D K ad yX8_change (.code yX8_change cX8_change 5 (some .int)) 8 1 6 σ [.ref (ad 0 23), .int (iN 102), .int (iN a), .int (iN 0), .int (iN 0)] (.inr En) σ1) : Cb l D K ad yX8_setFee (.code yX8_setFee cX8_setFee 2 (some .int)) 9 1 6 σ [.ref (ad 0 23), .int (iN a)] (.inr En) σ1 := by
  refine Cb.of (own := RX8) (ls0 := [some (.ref (ad 0 23)), some (.int (iN a))]) hl0 (by decide) rfl (Nat.le_of_ble_eq_true rfl) rfl ?_
  intro X hX1 hX2 hX3 hf he hh
  subst hX1 hX2 hX3
  refine V_aload_n hf dX8_setFee_0 rfl rfl ?_
  refine V_bipush hf dX8_setFee_1 (by decide +kernel) ?_
  refine V_iload_n hf dX8_setFee_3 rfl rfl ?_
  refine V_iconst hf dX8_setFee_4 ?_
  refine V_iconst hf dX8_setFee_5 ?_
  refine B_callVX hf (As := [_, _, _, _]) (hC) cv_X8_60 l01 rfl rfl rfl (Nat.le_of_ble_eq_true rfl) ⟨by decide, by decide, by decide, by decide⟩ dX8_setFee_6 ?_
  exact VX_out hf he hh (by decide) (by decide) ⟨rfl, rfl, rfl⟩
