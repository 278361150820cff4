/-! constructors: the exchange; what they leave -/
def P8 (g : Int) (j : Nat) : Prop := (0 ≤ g ∧ g < 11 ∧ j ≤ 22) ∨ (g = 0 ∧ 23 ≤ j ∧ j ≤ 32 ∧ j ≠ 30) ∨ (0 ≤ g ∧ g < 30 ∧ j = 30)
theorem cin_X8_9 : CIN RX8 9 yX3_init "BarnacleExchange" cX3_init 1 0 := ⟨by decide, wi_X3_init, wn_X3, wc_X3_init, rfl, by decide, by decide, by decide +kernel⟩
theorem cic_X8_28 : CI RX8 28 yX2_init cX2_init 2 0 := ⟨wl_X8_28, wi_X2_init, wn_X2, wc_X2_init, rfl, by decide, by decide, by decide +kernel⟩
theorem cin_X8_35 : CIN RX8 35 yX6_init "BarnacleExchange" cX6_init 1 0 := ⟨by decide, wi_X6_init, wn_X6, wc_X6_init, rfl, by decide, by decide, by decide +kernel⟩
theorem cic_X8_42 : CI RX8 42 yJ4_init_da8c8 cJ4_init_da8c8 1 0 := ⟨wl_X8_42, wi_J4_init_da8c8, wn_J4, wc_J4_init_da8c8, rfl, by decide, by decide, by decide +kernel⟩
theorem fi_X8_10_11 : FP RX8 10 11 0 true (.object "BarnacleExchange$Market") := ⟨"BarnacleExchange", RX8, TX8, 11, tyX8, rfl, by decide, cw_X8, lg_t 306 (by decide +kernel) (by decide +kernel), Or.inl rfl, tyX8_ok, nmX8, rfl, by decide +kernel, fun _ => rfl⟩
theorem fi_X8_16_11 : FP RX8 16 11 1 true (.object "BarnacleExchange$Market") := ⟨"BarnacleExchange", RX8, TX8, 11, tyX8, rfl, by decide, cw_X8, lg_t 307 (by decide +kernel) (by decide +kernel), Or.inl rfl, tyX8_ok, nmX8, rfl, by decide +kernel, fun _ => rfl⟩
theorem fi_X8_19_11 : FP RX8 19 11 2 true (.object "BarnacleExchange$Market") := ⟨"BarnacleExchange", RX8, TX8, 11, tyX8, rfl, by decide, cw_X8, lg_t 308 (by decide +kernel) (by decide +kernel), Or.inl rfl, tyX8_ok, nmX8, rfl, by decide +kernel, fun _ => rfl⟩
theorem fi_X8_22_11 : FP RX8 22 11 3 false .boolean := ⟨"BarnacleExchange", RX8, TX8, 11, tyX8, rfl, by decide, cw_X8, lg_t 309 (by decide +kernel) (by decide +kernel), Or.inl rfl, tyX8_ok, nmX8, rfl, by decide +kernel, fun _ => rfl⟩
theorem fi_X8_29_11 : FP RX8 29 11 4 true (.object "BarnacleExchange$History") := ⟨"BarnacleExchange", RX8, TX8, 11, tyX8, rfl, by decide, cw_X8, lg_t 310 (by decide +kernel) (by decide +kernel), Or.inl rfl, tyX8_ok, nmX8, rfl, by decide +kernel, fun _ => rfl⟩
theorem fi_X8_36_11 : FP RX8 36 11 5 true (.object "BarnacleExchange$Script") := ⟨"BarnacleExchange", RX8, TX8, 11, tyX8, rfl, by decide, cw_X8, lg_t 311 (by decide +kernel) (by decide +kernel), Or.inl rfl, tyX8_ok, nmX8, rfl, by decide +kernel, fun _ => rfl⟩
theorem fi_X8_43_11 : FP RX8 43 11 6 true (.object "java/lang/StringBuilder") := ⟨"BarnacleExchange", RX8, TX8, 11, tyX8, rfl, by decide, cw_X8, lg_t 312 (by decide +kernel) (by decide +kernel), Or.inl rfl, tyX8_ok, nmX8, rfl, by decide +kernel, fun _ => rfl⟩
theorem fi_X8_47_11 : FP RX8 47 11 7 false .int := ⟨"BarnacleExchange", RX8, TX8, 11, tyX8, rfl, by decide, cw_X8, lg_t 313 (by decide +kernel) (by decide +kernel), Or.inl rfl, tyX8_ok, nmX8, rfl, by decide +kernel, fun _ => rfl⟩
theorem fi_X8_51_11 : FP RX8 51 11 8 false .int := ⟨"BarnacleExchange", RX8, TX8, 11, tyX8, rfl, by decide, cw_X8, lg_t 314 (by decide +kernel) (by decide +kernel), Or.inl rfl, tyX8_ok, nmX8, rfl, by decide +kernel, fun _ => rfl⟩
theorem fi_X8_54_11 : FP RX8 54 11 9 false .int := ⟨"BarnacleExchange", RX8, TX8, 11, tyX8, rfl, by decide, cw_X8, lg_t 315 (by decide +kernel) (by decide +kernel), Or.inl rfl, tyX8_ok, nmX8, rfl, by decide +kernel, fun _ => rfl⟩
theorem fi_X8_57_11 : FP RX8 57 11 10 false .int := ⟨"BarnacleExchange", RX8, TX8, 11, tyX8, rfl, by decide, cw_X8, lg_t 316 (by decide +kernel) (by decide +kernel), Or.inl rfl, tyX8_ok, nmX8, rfl, by decide +kernel, fun _ => rfl⟩
set_option maxHeartbeats 8000000 in
set_option maxRecDepth 100000 in
theorem k_X8 {l : Launch} {D : va_G} {K : Nat → ClassId} {ad : Adr} (hl0 : l.stackTraces = false) (E : Dic) (h0 : E 0 23 = some (.inr (11, [.null, .null, .null, .int (iN 0), .null, .null, .null, .int (iN 0), .int (iN 0), .int (iN 0), .int (iN 0)]))) (hn : ∀ (g : Int) (j : Nat), P8 g j → ¬ (g = 0 ∧ j = 23) → E g j = none) : Ctr l yX8_init (.code yX8_init cX8_init 1 none) (rmd 5 291 2987) 291 2987 D K ad E [.ref (ad 0 23)] (Pq P8 0 23 K ad E) := by
  refine Ctr.of (own := RX8) (ls0 := [some (.ref (ad 0 23))]) (by decide) rfl hl0 (Nat.le_of_ble_eq_true rfl) rfl ?_
  intro X hX1 hX2 hX3 hf he hh hci
  subst hX1 hX2 hX3
  have hci2 : Ci X := hci rfl
  refine V_aload_n hf dX8_init_0 rfl rfl ?_
  refine V_obj hf wl_X8_1 (Nat.le_of_ble_eq_true rfl) ⟨(Nat.le_of_ble_eq_true rfl), (Nat.le_of_ble_eq_true rfl)⟩ dX8_init_1 ?_
  refine V_aload_n hf dX8_init_4 rfl rfl ?_
  refine V_part hf hci2 (P := Pb 0 0 22) (g := 0) (j0 := 0) (gt := 0) (jt := 23) (C := RX3) (T := TX3) (N := 9) (ci := 7) (ty := tyX3) (fs := [.null, .null, .null, .null, .int (iN 0), .int (iN 0), .int (iN 0), .int (iN 0), .int (iN 0)]) (mc := 22) (ms := 240) ⟨rfl, by decide, by decide⟩ (fun z => by unfold Pb at z; omega) cw_X3 tyX3_ok wk_X8_7 wis_X3 wn_X3 rfl (by rw [iN_0]; decide +kernel) (Po := fun ad E => Pn (xK X) 0 0 22 ad E) (fun _ _ _ _ _ q => q.q (by decide)) (Or.inr ⟨_, cin_X8_9⟩) (fun ad E p q => k_X3 hl0 0 E p (fun j q1 q2 => q 0 j ⟨rfl, by omega, q2⟩ (by omega))) h0 (fun g' j' q => by exact hn g' j' (by unfold P8; unfold Pb at q; omega) (by unfold Pb at q; omega)) fi_X8_10_11 (fun _ => ⟨rfl, rfl⟩) (Nat.le_of_ble_eq_true rfl) (by rfl) (Nat.le_of_ble_eq_true rfl) ⟨rfl, rfl, (Nat.le_of_ble_eq_true rfl), (Nat.le_of_ble_eq_true rfl), by simp only [rmd]; omega, by simp only [rmd]; omega⟩ dX8_init_5 dX8_init_8 dX8_init_9 dX8_init_12 (fun a0 E0 A0 B0 H0 C0 => ?_)
  change V X a0 E0 15 _ [] _ _
  refine V_aload_n hf dX8_init_15 rfl rfl ?_
  refine V_part hf hci2 (P := Pb 1 0 22) (g := 1) (j0 := 0) (gt := 0) (jt := 23) (C := RX3) (T := TX3) (N := 9) (ci := 7) (ty := tyX3) (fs := [.null, .null, .null, .null, .int (iN 0), .int (iN 0), .int (iN 0), .int (iN 0), .int (iN 0)]) (mc := 22) (ms := 240) ⟨rfl, by decide, by decide⟩ (fun z => by unfold Pb at z; omega) cw_X3 tyX3_ok wk_X8_7 wis_X3 wn_X3 rfl (by rw [iN_0]; decide +kernel) (Po := fun ad E => Pn (xK X) 1 0 22 ad E) (fun _ _ _ _ _ q => q.q (by decide)) (Or.inr ⟨_, cin_X8_9⟩) (fun ad E p q => k_X3 hl0 1 E p (fun j q1 q2 => q 1 j ⟨rfl, by omega, q2⟩ (by omega))) H0 (fun g' j' q => by rw [B0 g' j' (fun z => by unfold Pb at z; unfold Pb at q; omega) (fun z => by unfold Pb at q; omega)]; exact hn g' j' (by unfold P8; unfold Pb at q; omega) (by unfold Pb at q; omega)) fi_X8_16_11 (fun _ => ⟨rfl, rfl⟩) (Nat.le_of_ble_eq_true rfl) (by rw [A0 0 23 (fun z => by unfold Pb at z; omega)]) (Nat.le_of_ble_eq_true rfl) ⟨rfl, rfl, (Nat.le_of_ble_eq_true rfl), (Nat.le_of_ble_eq_true rfl), by simp only [rmd]; omega, by simp only [rmd]; omega⟩ dX8_init_16 dX8_init_19 dX8_init_20 dX8_init_23 (fun a1 E1 A1 B1 H1 C1 => ?_)
  change V X a1 E1 26 _ [] _ _
  refine V_aload_n hf dX8_init_26 rfl rfl ?_
  refine V_part hf hci2 (P := Pb 2 0 22) (g := 2) (j0 := 0) (gt := 0) (jt := 23) (C := RX3) (T := TX3) (N := 9) (ci := 7) (ty := tyX3) (fs := [.null, .null, .null, .null, .int (iN 0), .int (iN 0), .int (iN 0), .int (iN 0), .int (iN 0)]) (mc := 22) (ms := 240) ⟨rfl, by decide, by decide⟩ (fun z => by unfold Pb at z; omega) cw_X3 tyX3_ok wk_X8_7 wis_X3 wn_X3 rfl (by rw [iN_0]; decide +kernel) (Po := fun ad E => Pn (xK X) 2 0 22 ad E) (fun _ _ _ _ _ q => q.q (by decide)) (Or.inr ⟨_, cin_X8_9⟩) (fun ad E p q => k_X3 hl0 2 E p (fun j q1 q2 => q 2 j ⟨rfl, by omega, q2⟩ (by omega))) H1 (fun g' j' q => by rw [B1 g' j' (fun z => by unfold Pb at z; unfold Pb at q; omega) (fun z => by unfold Pb at q; omega)]; rw [B0 g' j' (fun z => by unfold Pb at z; unfold Pb at q; omega) (fun z => by unfold Pb at q; omega)]; exact hn g' j' (by unfold P8; unfold Pb at q; omega) (by unfold Pb at q; omega)) fi_X8_19_11 (fun _ => ⟨rfl, rfl⟩) (Nat.le_of_ble_eq_true rfl) (by rw [A1 0 23 (fun z => by unfold Pb at z; omega), A0 0 23 (fun z => by unfold Pb at z; omega)]) (Nat.le_of_ble_eq_true rfl) ⟨rfl, rfl, (Nat.le_of_ble_eq_true rfl), (Nat.le_of_ble_eq_true rfl), by simp only [rmd]; omega, by simp only [rmd]; omega⟩ dX8_init_27 dX8_init_30 dX8_init_31 dX8_init_34 (fun a2 E2 A2 B2 H2 C2 => ?_)
  change V X a2 E2 37 _ [] _ _
  refine V_aload_n hf dX8_init_37 rfl rfl ?_
  refine V_iconst hf dX8_init_38 ?_
  refine V_putR hf (g := 0) (j := 23) (by rw [A2 0 23 (fun z => by unfold Pb at z; omega), A1 0 23 (fun z => by unfold Pb at z; omega), A0 0 23 (fun z => by unfold Pb at z; omega)]) H2 fi_X8_22_11 (by decide +kernel) (by decide +kernel) (Nat.le_of_ble_eq_true rfl) dX8_init_39 ?_
  refine V_aload_n hf dX8_init_42 rfl rfl ?_
  refine V_part hf hci2 (P := PH) (g := 0) (j0 := 24) (gt := 0) (jt := 23) (C := RX2) (T := TX2) (N := 3) (ci := 6) (ty := tyX2) (fs := [.int (iN 0), .int (iN 0), .null]) (mc := 185) (ms := 2000) (Or.inl ⟨rfl, Or.inl rfl⟩) (fun z => by unfold PH at z; omega) cw_X2 tyX2_ok wk_X8_26 wis_X2 wn_X2 rfl (by rw [iN_0]; decide +kernel) (Po := fun ad E => Pq PH 0 24 (xK X) ad E) (fun _ _ _ _ _ q => q) (Or.inl cic_X8_28) (fun ad E p q => k_X2 hl0 E p q) eset_self (fun g' j' q => by rw [eset_ne (fun z => by unfold PH at q; omega)]; rw [B2 g' j' (fun z => by unfold Pb at z; unfold PH at q; omega) (fun z => by unfold PH at q; omega)]; rw [B1 g' j' (fun z => by unfold Pb at z; unfold PH at q; omega) (fun z => by unfold PH at q; omega)]; rw [B0 g' j' (fun z => by unfold Pb at z; unfold PH at q; omega) (fun z => by unfold PH at q; omega)]; exact hn g' j' (by unfold P8; unfold PH at q; omega) (by unfold PH at q; omega)) fi_X8_29_11 (fun _ => ⟨rfl, rfl⟩) (Nat.le_of_ble_eq_true rfl) (by rw [A2 0 23 (fun z => by unfold Pb at z; omega), A1 0 23 (fun z => by unfold Pb at z; omega), A0 0 23 (fun z => by unfold Pb at z; omega)]) (Nat.le_of_ble_eq_true rfl) ⟨rfl, rfl, (Nat.le_of_ble_eq_true rfl), (Nat.le_of_ble_eq_true rfl), by simp only [rmd]; omega, by simp only [rmd]; omega⟩ dX8_init_43 dX8_init_46 dX8_init_47 dX8_init_50 (fun a3 E3 A3 B3 H3 C3 => ?_)
  change V X a3 E3 53 _ [] _ _
  refine V_aload_n hf dX8_init_53 rfl rfl ?_
  refine V_part hf hci2 (P := PS) (g := 0) (j0 := 26) (gt := 0) (jt := 23) (C := RX6) (T := TX6) (N := 7) (ci := 9) (ty := tyX6) (fs := [.null, .int (iN 0), .int (iN 0), .int (iN 0), .int (iN 0), .null, .null]) (mc := 33) (ms := 210) (Or.inl ⟨rfl, by decide, by decide⟩) (fun z => by unfold PS at z; omega) cw_X6 tyX6_ok wk_X8_33 wis_X6 wn_X6 rfl (by rw [iN_0]; decide +kernel) (Po := fun ad E => Pq PS 0 26 (xK X) ad E) (fun _ _ _ _ _ q => q) (Or.inr ⟨_, cin_X8_35⟩) (fun ad E p q => k_X6 hl0 E p q) H3 (fun g' j' q => by rw [B3 g' j' (fun z => by unfold PH at z; unfold PS at q; omega) (fun z => by unfold PS at q; omega)]; rw [eset_ne (fun z => by unfold PS at q; omega)]; rw [B2 g' j' (fun z => by unfold Pb at z; unfold PS at q; omega) (fun z => by unfold PS at q; omega)]; rw [B1 g' j' (fun z => by unfold Pb at z; unfold PS at q; omega) (fun z => by unfold PS at q; omega)]; rw [B0 g' j' (fun z => by unfold Pb at z; unfold PS at q; omega) (fun z => by unfold PS at q; omega)]; exact hn g' j' (by unfold P8; unfold PS at q; omega) (by unfold PS at q; omega)) fi_X8_36_11 (fun _ => ⟨rfl, rfl⟩) (Nat.le_of_ble_eq_true rfl) (by rw [A3 0 23 (fun z => by unfold PH at z; omega), A2 0 23 (fun z => by unfold Pb at z; omega), A1 0 23 (fun z => by unfold Pb at z; omega), A0 0 23 (fun z => by unfold Pb at z; omega)]) (Nat.le_of_ble_eq_true rfl) ⟨rfl, rfl, (Nat.le_of_ble_eq_true rfl), (Nat.le_of_ble_eq_true rfl), by simp only [rmd]; omega, by simp only [rmd]; omega⟩ dX8_init_54 dX8_init_57 dX8_init_58 dX8_init_61 (fun a4 E4 A4 B4 H4 C4 => ?_)
  change V X a4 E4 64 _ [] _ _
  refine V_aload_n hf dX8_init_64 rfl rfl ?_
  refine V_part hf hci2 (P := Pb 0 31 32) (g := 0) (j0 := 31) (gt := 0) (jt := 23) (C := RJ4) (T := TJ4) (N := 4) (ci := 1) (ty := tyJ4) (fs := [.null, .int (iN 0), .int (iN 0), .int (iN 0)]) (mc := 1) (ms := 16) ⟨rfl, by decide, by decide⟩ (fun z => by unfold Pb at z; omega) cw_J4 tyJ4_ok wk_X8_40 wis_J4 wn_J4 rfl (by rw [iN_0]; decide +kernel) (Po := fun ad E => Pn (xK X) 0 31 32 ad E) (fun _ _ _ _ _ q => q.q (by decide)) (Or.inl cic_X8_42) (fun ad E p q => k_J4 hl0 E p (fun j q1 q2 => q 0 j ⟨rfl, by omega, q2⟩ (by omega))) H4 (fun g' j' q => by rw [B4 g' j' (fun z => by unfold PS at z; unfold Pb at q; omega) (fun z => by unfold Pb at q; omega)]; rw [B3 g' j' (fun z => by unfold PH at z; unfold Pb at q; omega) (fun z => by unfold Pb at q; omega)]; rw [eset_ne (fun z => by unfold Pb at q; omega)]; rw [B2 g' j' (fun z => by unfold Pb at z; unfold Pb at q; omega) (fun z => by unfold Pb at q; omega)]; rw [B1 g' j' (fun z => by unfold Pb at z; unfold Pb at q; omega) (fun z => by unfold Pb at q; omega)]; rw [B0 g' j' (fun z => by unfold Pb at z; unfold Pb at q; omega) (fun z => by unfold Pb at q; omega)]; exact hn g' j' (by unfold P8; unfold Pb at q; omega) (by unfold Pb at q; omega)) fi_X8_43_11 (fun _ => ⟨rfl, rfl⟩) (Nat.le_of_ble_eq_true rfl) (by rw [A4 0 23 (fun z => by unfold PS at z; omega), A3 0 23 (fun z => by unfold PH at z; omega), A2 0 23 (fun z => by unfold Pb at z; omega), A1 0 23 (fun z => by unfold Pb at z; omega), A0 0 23 (fun z => by unfold Pb at z; omega)]) (Nat.le_of_ble_eq_true rfl) ⟨rfl, rfl, (Nat.le_of_ble_eq_true rfl), (Nat.le_of_ble_eq_true rfl), by simp only [rmd]; omega, by simp only [rmd]; omega⟩ dX8_init_65 dX8_init_68 dX8_init_69 dX8_init_72 (fun a5 E5 A5 B5 H5 C5 => ?_)
  change V X a5 E5 75 _ [] _ _
  have hA5 : ad 0 23 = a5 0 23 := by rw [A5 0 23 (fun z => by unfold Pb at z; omega), A4 0 23 (fun z => by unfold PS at z; omega), A3 0 23 (fun z => by unfold PH at z; omega), A2 0 23 (fun z => by unfold Pb at z; omega), A1 0 23 (fun z => by unfold Pb at z; omega), A0 0 23 (fun z => by unfold Pb at z; omega)]
  refine V_aload_n hf dX8_init_75 rfl rfl ?_
  refine V_iconst hf dX8_init_76 ?_
  refine V_putR hf (g := 0) (j := 23) hA5 H5 fi_X8_47_11 rfl rfl (Nat.le_of_ble_eq_true rfl) dX8_init_77 ?_
  refine V_aload_n hf dX8_init_80 rfl rfl ?_
  refine V_iconst hf dX8_init_81 ?_
  refine V_putR hf (g := 0) (j := 23) hA5 eset_self fi_X8_51_11 rfl rfl (Nat.le_of_ble_eq_true rfl) dX8_init_82 ?_
  refine V_aload_n hf dX8_init_85 rfl rfl ?_
  refine V_iconst hf dX8_init_86 ?_
  refine V_putR hf (g := 0) (j := 23) hA5 eset_self fi_X8_54_11 rfl rfl (Nat.le_of_ble_eq_true rfl) dX8_init_87 ?_
  refine V_aload_n hf dX8_init_90 rfl rfl ?_
  refine V_iconst hf dX8_init_91 ?_
  refine V_putR hf (g := 0) (j := 23) hA5 eset_self fi_X8_57_11 rfl rfl (Nat.le_of_ble_eq_true rfl) dX8_init_92 ?_
  refine V_vret hf he dX8_init_95 (by omega) (by omega) ⟨rfl, fun g j hq => ?_, fun g j hq => ?_, fun g j hq => ?_⟩
  · unfold P8 at hq
    rw [A5 g j (fun z => by unfold Pb at z; omega), A4 g j (fun z => by unfold PS at z; omega), A3 g j (fun z => by unfold PH at z; omega), A2 g j (fun z => by unfold Pb at z; omega), A1 g j (fun z => by unfold Pb at z; omega), A0 g j (fun z => by unfold Pb at z; omega)]
  · unfold P8 at hq
    rw [eset_ne (by omega), eset_ne (by omega), eset_ne (by omega), eset_ne (by omega), B5 g j (fun z => by unfold Pb at z; omega) (fun z => by omega), B4 g j (fun z => by unfold PS at z; omega) (fun z => by omega), B3 g j (fun z => by unfold PH at z; omega) (fun z => by omega), eset_ne (fun z => by omega), B2 g j (fun z => by unfold Pb at z; omega) (fun z => by omega), B1 g j (fun z => by unfold Pb at z; omega) (fun z => by omega), B0 g j (fun z => by unfold Pb at z; omega) (fun z => by omega)]
  · by_cases z0 : g = 0 ∧ j = 23
    · obtain ⟨rfl, rfl⟩ := z0
      rw [eset_self]
      have e0 : a0 0 0 = a5 0 0 := by rw [A5 0 0 (fun z => by unfold Pb at z; omega), A4 0 0 (fun z => by unfold PS at z; omega), A3 0 0 (fun z => by unfold PH at z; omega), A2 0 0 (fun z => by unfold Pb at z; omega), A1 0 0 (fun z => by unfold Pb at z; omega)]
      have e1 : a1 1 0 = a5 1 0 := by rw [A5 1 0 (fun z => by unfold Pb at z; omega), A4 1 0 (fun z => by unfold PS at z; omega), A3 1 0 (fun z => by unfold PH at z; omega), A2 1 0 (fun z => by unfold Pb at z; omega)]
      have e2 : a2 2 0 = a5 2 0 := by rw [A5 2 0 (fun z => by unfold Pb at z; omega), A4 2 0 (fun z => by unfold PS at z; omega), A3 2 0 (fun z => by unfold PH at z; omega)]
      have e3 : a3 0 24 = a5 0 24 := by rw [A5 0 24 (fun z => by unfold Pb at z; omega), A4 0 24 (fun z => by unfold PS at z; omega)]
      have e4 : a4 0 26 = a5 0 26 := by rw [A5 0 26 (fun z => by unfold Pb at z; omega)]
      simp [cE, σI, e0, e1, e2, e3, e4]
    · rw [eset_ne z0, eset_ne z0, eset_ne z0, eset_ne z0]
      unfold P8 at hq
      have f1 : ∀ m : Nat, True := fun _ => trivial
      by_cases c0 : g = 0 ∧ j ≤ 22
      · rw [B5 g j (fun z => by unfold Pb at z; omega) (fun z => by omega), B4 g j (fun z => by unfold PS at z; omega) (fun z => by omega), B3 g j (fun z => by unfold PH at z; omega) (fun z => by omega), eset_ne (fun z => by omega), B2 g j (fun z => by unfold Pb at z; omega) (fun z => by omega), B1 g j (fun z => by unfold Pb at z; omega) (fun z => by omega), C0 g j ⟨c0.1, by omega, c0.2⟩]
        rw [cE_mk (ad := a0) (ad' := a5) (by omega) (fun x hx => by rw [A5 g x (fun z => by unfold Pb at z; omega), A4 g x (fun z => by unfold PS at z; omega), A3 g x (fun z => by unfold PH at z; omega), A2 g x (fun z => by unfold Pb at z; omega), A1 g x (fun z => by unfold Pb at z; omega)])]
      by_cases c1 : g = 1 ∧ j ≤ 22
      · rw [B5 g j (fun z => by unfold Pb at z; omega) (fun z => by omega), B4 g j (fun z => by unfold PS at z; omega) (fun z => by omega), B3 g j (fun z => by unfold PH at z; omega) (fun z => by omega), eset_ne (fun z => by omega), B2 g j (fun z => by unfold Pb at z; omega) (fun z => by omega), C1 g j ⟨c1.1, by omega, c1.2⟩]
        rw [cE_mk (ad := a1) (ad' := a5) (by omega) (fun x hx => by rw [A5 g x (fun z => by unfold Pb at z; omega), A4 g x (fun z => by unfold PS at z; omega), A3 g x (fun z => by unfold PH at z; omega), A2 g x (fun z => by unfold Pb at z; omega)])]
      by_cases c2 : g = 2 ∧ j ≤ 22
      · rw [B5 g j (fun z => by unfold Pb at z; omega) (fun z => by omega), B4 g j (fun z => by unfold PS at z; omega) (fun z => by omega), B3 g j (fun z => by unfold PH at z; omega) (fun z => by omega), eset_ne (fun z => by omega), C2 g j ⟨c2.1, by omega, c2.2⟩]
        rw [cE_mk (ad := a2) (ad' := a5) (by omega) (fun x hx => by rw [A5 g x (fun z => by unfold Pb at z; omega), A4 g x (fun z => by unfold PS at z; omega), A3 g x (fun z => by unfold PH at z; omega)])]
      by_cases c3 : 3 ≤ g ∧ g < 11 ∧ j ≤ 22
      · rw [B5 g j (fun z => by unfold Pb at z; omega) (fun z => by omega), B4 g j (fun z => by unfold PS at z; omega) (fun z => by omega), C3 g j (Or.inr c3)]
        rw [cE_mk (ad := a3) (ad' := a5) (by omega) (fun x hx => by rw [A5 g x (fun z => by unfold Pb at z; omega), A4 g x (fun z => by unfold PS at z; omega)])]
      by_cases c24 : g = 0 ∧ j = 24
      · obtain ⟨rfl, rfl⟩ := c24
        rw [B5 0 24 (fun z => by unfold Pb at z; omega) (fun z => by omega), B4 0 24 (fun z => by unfold PS at z; omega) (fun z => by omega), C3 0 24 (Or.inl ⟨rfl, Or.inl rfl⟩)]
        simp only [cE]
        rw [A5 0 25 (fun z => by unfold Pb at z; omega), A4 0 25 (fun z => by unfold PS at z; omega)]
      by_cases c25 : g = 0 ∧ j = 25
      · obtain ⟨rfl, rfl⟩ := c25
        rw [B5 0 25 (fun z => by unfold Pb at z; omega) (fun z => by omega), B4 0 25 (fun z => by unfold PS at z; omega) (fun z => by omega), C3 0 25 (Or.inl ⟨rfl, Or.inr rfl⟩)]
        have h0 : ∀ x : Int, a5 x 0 = a3 x 0 := fun x => by rw [A5 x 0 (fun z => by unfold Pb at z; omega), A4 x 0 (fun z => by unfold PS at z; omega)]
        simp only [cE, h0]
      by_cases c5 : g = 0 ∧ 31 ≤ j
      · exact C5 g j ⟨c5.1, c5.2, by omega⟩
      rw [B5 g j (fun z => by unfold Pb at z; omega) (fun z => by omega), C4 g j (by unfold PS; omega)]
      have h27 : ∀ (x : Int) (y : Nat), 27 ≤ y → y ≤ 30 → a5 x y = a4 x y := fun x y y1 y2 => A5 x y (fun z => by unfold Pb at z; omega)
      have hj : j = 26 ∨ j = 27 ∨ j = 28 ∨ j = 29 ∨ j = 30 := by omega
      rcases hj with rfl | rfl | rfl | rfl | rfl
      · simp only [cE, h27 0 27 (by decide) (by decide), h27 0 28 (by decide) (by decide), h27 0 29 (by decide) (by decide)]
      · rfl
      · rfl
      · simp only [cE, h27 _ 30 (by decide) (by decide)]
      · rfl
/-- the first state keeps the invariant -/
theorem σI_41 (k : Int) : σI 0 41 k = if k = 6 then 1 else 0 := by
  unfold σI
  simp
theorem σI_R : Rng σI := by
  intro g j k _
  unfold σI
  repeat' split
  all_goals exact ⟨by decide, by decide⟩
theorem σI_z {g : Int} {j : Nat} {k : Int} (h : j ≠ 0 ∨ k ≠ 4) (h2 : ¬ (j = 23 ∧ (k = 7 ∨ k = 8 ∨ k = 9 ∨ k = 10))) (h3 : ¬ (j = 33 ∧ k = 0)) (h4 : ¬ (j = 40 ∧ k = 7)) (h5 : ¬ (j = 41 ∧ k = 6)) : σI g j k = 0 := by
  unfold σI
  rw [if_neg (by omega), if_neg h2, if_neg h3, if_neg h4, if_neg h5]
theorem σI_m : MR (σI 0) (σI 0 41) := by
  have s : ∀ k : Int, k ≠ 6 → σI 0 41 k = 0 := fun k hk => by rw [σI_41, if_neg hk]
  have s6 : σI 0 41 6 = 1 := by rw [σI_41, if_pos rfl]
  have z : ∀ (j : Nat) (k : Int), 1 ≤ j → j ≤ 22 → σI 0 j k = 0 := fun j k h1 h2 => σI_z (Or.inl (by omega)) (by omega) (by omega) (by omega) (by omega)
  have z0 : ∀ k : Int, k ≠ 4 → σI 0 0 k = 0 := fun k h => σI_z (Or.inr h) (by omega) (by omega) (by omega) (by omega)
  have z4 : σI 0 0 4 = 1 := by
    unfold σI
    exact if_pos ⟨rfl, rfl⟩
  have n0 := s 0 (by decide)
  have n1 := s 1 (by decide)
  have n2 := s 2 (by decide)
  have n3 := s 3 (by decide)
  refine ⟨⟨?_, ?_, ?_, ?_, ?_, ?_, ?_, ?_, ?_, ?_, ?_, ?_, ?_⟩, fun x a c => by omega, fun x a c => by omega, ⟨?_, fun k a c => ?_⟩, ⟨fun φ => by rw [n2]; rfl, fun i k a c d => by omega, fun i k a c d => by omega, fun k a c => by omega⟩, ⟨fun φ => by rw [n3]; rfl, fun i k a c d => by omega, fun i k a c d => by omega, fun k a c => by omega, fun i k a c d => by omega⟩, ⟨by rw [n0]; decide, by rw [n1]; decide, by rw [n2]; decide, by rw [n3]; decide, fun k hk => ?_, fun x a c => by omega, fun x a c => by omega, fun x a c => by omega, fun x a c => by omega⟩, ⟨fun x a c => by omega, by rw [n0, s 10 (by decide), s 12 (by decide)]; rfl⟩, fun k a c d => z0 k (by omega)⟩
  · rw [z 1 0 (by decide) (by decide), n0]
  · rw [z 1 3 (by decide) (by decide), n1]
  · rw [z 6 0 (by decide) (by decide), n2]
  · rw [z 12 0 (by decide) (by decide), n3]
  · rw [z 6 1 (by decide) (by decide), s 4 (by decide)]
  · rw [z 12 1 (by decide) (by decide), s 5 (by decide)]
  · rw [z4, s6]
  · rw [z0 5 (by decide), s 7 (by decide)]
  · rw [z 18 0 (by decide) (by decide), s 8 (by decide)]
  · rw [z 18 1 (by decide) (by decide), s 9 (by decide)]
  · rw [z0 7 (by decide), s 10 (by decide)]
  · rw [z0 6 (by decide), s 11 (by decide)]
  · rw [z0 8 (by decide), s 12 (by decide)]
  · rw [s 13 (by decide), s 8 (by decide)]
    rfl
  · rw [z 19 k (by decide) (by decide), z 20 k (by decide) (by decide), z 21 k (by decide) (by decide), z 22 k (by decide) (by decide), s _ (by omega), s _ (by omega), s _ (by omega), s _ (by omega)]
    exact ⟨rfl, rfl, rfl, rfl⟩
  · by_cases c : k = 6
    · rw [c, s6]
      decide
    · rw [s k c]
      decide
theorem INV_0 : INV σI 1 := by
  have z : ∀ (j : Nat) (k : Int), ¬ (j = 0 ∨ j = 23 ∨ j = 33 ∨ j = 40 ∨ j = 41) → σI 0 j k = 0 := fun j k h => σI_z (Or.inl (by omega)) (by omega) (by omega) (by omega) (by omega)
  have z40 : ∀ k : Int, k ≠ 7 → σI 0 40 k = 0 := fun k h => σI_z (Or.inl (by decide)) (by omega) (by omega) (by omega) (by omega)
  have z23 : ∀ k : Int, k < 7 → σI 0 23 k = 0 := fun k h => σI_z (Or.inl (by decide)) (by omega) (by omega) (by omega) (by omega)
  have m1 : ∀ k : Int, (k = 7 ∨ k = 8 ∨ k = 9 ∨ k = 10) → σI 0 23 k = -1 := fun k h => by
    unfold σI
    rw [if_neg (by omega), if_pos ⟨rfl, h⟩]
  have z407 : σI 0 40 7 = -1 := by
    unfold σI
    rw [if_neg (by omega), if_neg (by omega), if_neg (by omega), if_pos ⟨rfl, rfl⟩]
  have z33 : σI 0 33 0 = 16 := by
    unfold σI
    rw [if_neg (by omega), if_neg (by omega), if_pos ⟨rfl, rfl⟩]
  have h24 := z 24 0 (by decide)
  refine ⟨σI_R, ⟨σI_m, fun k a c => ?_⟩, fun g _ _ => ?_, fun g _ _ => σI_m.rz, ⟨⟨?_, ?_⟩, ?_⟩, fun i a c => by omega, ⟨?_, fun h => absurd (z23 3 (by decide)) h⟩, Or.inl ⟨m1 7 (by decide), z40 11 (by decide), z40 13 (by decide)⟩, ?_, ?_, ?_⟩
  · rw [σI_41]
    split <;> decide
  · rw [show σI g 6 0 = 0 from z 6 0 (by decide), show σI g 12 0 = 0 from z 12 0 (by decide)]
    decide
  · rw [h24]
    decide
  · rw [z 24 1 (by decide)]
    decide
  · rw [z40 6 (by decide), h24]
  · rw [z40 4 (by decide), z23 3 (by decide)]
  · rw [z407, m1 10 (by decide)]
  · unfold INp
    rw [z 26 1 (by decide), z40 10 (by decide)]
    exact ⟨rfl, by decide, fun k a c => by omega⟩
  · unfold OUp
    rw [z 31 3 (by decide), z40 17 (by decide), z33, z 31 1 (by decide)]
    refine ⟨rfl, by decide, by decide, rfl, fun k _ => ⟨fun c => by omega, ?_⟩⟩
    rw [z 32 k (by decide)]
    decide
