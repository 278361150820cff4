/-! constructors: the market -/
theorem cin_X3_11 : CIN RX3 11 yX1_init "BarnacleExchange" cX1_init 1 0 := ⟨by decide, wi_X1_init, wn_X1, wc_X1_init, rfl, by decide, by decide, by decide +kernel⟩
theorem fi_X3_12_7 : FP RX3 12 7 0 true (.object "BarnacleExchange$Fleet") := ⟨"BarnacleExchange$Market", RX3, TX3, 9, tyX3, rfl, by decide, cw_X3, lg_t 180 (by decide +kernel) (by decide +kernel), Or.inl rfl, tyX3_ok, nmX3, rfl, by decide +kernel, fun _ => rfl⟩
theorem cic_X3_20 : CI RX3 20 yX0_init cX0_init 1 0 := ⟨wl_X3_20, wi_X0_init, wn_X0, wc_X0_init, rfl, by decide, by decide, by decide +kernel⟩
theorem fi_X3_21_7 : FP RX3 21 7 1 true (.object "BarnacleExchange$OrderBook") := ⟨"BarnacleExchange$Market", RX3, TX3, 9, tyX3, rfl, by decide, cw_X3, lg_t 182 (by decide +kernel) (by decide +kernel), Or.inl rfl, tyX3_ok, nmX3, rfl, by decide +kernel, fun _ => rfl⟩
theorem cic_X3_27 : CI RX3 27 yX4_init cX4_init 1 0 := ⟨wl_X3_27, wi_X4_init, wn_X4, wc_X4_init, rfl, by decide, by decide, by decide +kernel⟩
theorem fi_X3_28_7 : FP RX3 28 7 2 true (.object "BarnacleExchange$OrderBook") := ⟨"BarnacleExchange$Market", RX3, TX3, 9, tyX3, rfl, by decide, cw_X3, lg_t 184 (by decide +kernel) (by decide +kernel), Or.inl rfl, tyX3_ok, nmX3, rfl, by decide +kernel, fun _ => rfl⟩
theorem cin_X3_33 : CIN RX3 33 yX7_init "BarnacleExchange" cX7_init 1 0 := ⟨by decide, wi_X7_init, wn_X7, wc_X7_init, rfl, by decide, by decide, by decide +kernel⟩
theorem fi_X3_34_7 : FP RX3 34 7 3 true (.object "BarnacleExchange$TradeLog") := ⟨"BarnacleExchange$Market", RX3, TX3, 9, tyX3, rfl, by decide, cw_X3, lg_t 186 (by decide +kernel) (by decide +kernel), Or.inl rfl, tyX3_ok, nmX3, rfl, by decide +kernel, fun _ => rfl⟩
theorem fi_X3_38_7 : FP RX3 38 7 4 false .int := ⟨"BarnacleExchange$Market", RX3, TX3, 9, tyX3, rfl, by decide, cw_X3, lg_t 188 (by decide +kernel) (by decide +kernel), Or.inl rfl, tyX3_ok, nmX3, rfl, by decide +kernel, fun _ => rfl⟩
theorem fi_X3_42_7 : FP RX3 42 7 5 false .int := ⟨"BarnacleExchange$Market", RX3, TX3, 9, tyX3, rfl, by decide, cw_X3, lg_t 190 (by decide +kernel) (by decide +kernel), Or.inl rfl, tyX3_ok, nmX3, rfl, by decide +kernel, fun _ => rfl⟩
theorem fi_X3_45_7 : FP RX3 45 7 6 false .int := ⟨"BarnacleExchange$Market", RX3, TX3, 9, tyX3, rfl, by decide, cw_X3, lg_t 192 (by decide +kernel) (by decide +kernel), Or.inl rfl, tyX3_ok, nmX3, rfl, by decide +kernel, fun _ => rfl⟩
theorem fi_X3_48_7 : FP RX3 48 7 7 false .int := ⟨"BarnacleExchange$Market", RX3, TX3, 9, tyX3, rfl, by decide, cw_X3, lg_t 194 (by decide +kernel) (by decide +kernel), Or.inl rfl, tyX3_ok, nmX3, rfl, by decide +kernel, fun _ => rfl⟩
theorem fi_X3_51_7 : FP RX3 51 7 8 false .int := ⟨"BarnacleExchange$Market", RX3, TX3, 9, tyX3, rfl, by decide, cw_X3, lg_t 196 (by decide +kernel) (by decide +kernel), Or.inl rfl, tyX3_ok, nmX3, rfl, by decide +kernel, fun _ => rfl⟩
set_option maxHeartbeats 4000000 in
set_option maxRecDepth 100000 in
theorem k_X3 {l : Launch} {D : va_G} {K : Nat → ClassId} {ad : Adr} (hl0 : l.stackTraces = false) (g : Int) (E : Dic) (h0 : E g 0 = some (.inr (7, [.null, .null, .null, .null, .int (iN 0), .int (iN 0), .int (iN 0), .int (iN 0), .int (iN 0)]))) (hn : ∀ j : Nat, 0 < j → j ≤ 22 → E g j = none) : Ctr l yX3_init (.code yX3_init cX3_init 1 none) (rmd 3 22 240) 22 240 D K ad E [.ref (ad g 0)] (Pn K g 0 22 ad E) := by
  refine Ctr.of (own := RX3) (ls0 := [some (.ref (ad g 0))]) (by decide) rfl hl0 (Nat.le_of_ble_eq_true rfl) rfl ?_
  intro X hX1 hX2 hX3 hf he hh hci
  subst hX1 hX2 hX3
  have hci2 : Ci X := hci rfl
  refine V_aload_n hf dX3_init_0 rfl rfl ?_
  refine V_obj hf wl_X3_3 (Nat.le_of_ble_eq_true rfl) ⟨(Nat.le_of_ble_eq_true rfl), (Nat.le_of_ble_eq_true rfl)⟩ dX3_init_1 ?_
  refine V_aload_n hf dX3_init_4 rfl rfl ?_
  refine V_part hf hci2 (P := Pb g 1 5) (g := g) (j0 := 1) (gt := g) (jt := 0) (C := RX1) (T := TX1) (N := 6) (ci := 5) (ty := tyX1) (fs := [.int (iN 0), .null, .null, .int (iN 0), .null, .null]) (mc := 4) (ms := 44) ⟨rfl, by decide, by decide⟩ (fun z => by have := z.2; omega) cw_X1 tyX1_ok wk_X3_9 wis_X1 wn_X1 rfl (by rw [iN_0]; decide +kernel) (Po := fun ad E => Pn (xK X) g 1 5 ad E) (fun _ _ _ _ _ q => q.q (by decide)) (Or.inr ⟨_, cin_X3_11⟩) (fun ad E p q => k_X1 hl0 g E p (fun j q1 q2 => q g j ⟨rfl, by omega, q2⟩ (by omega))) h0 (fun g' j' q => by obtain ⟨rfl, q1, q2⟩ := q; exact hn j' (by omega) (by omega)) fi_X3_12_7 (fun _ => ⟨rfl, rfl⟩) (Nat.le_of_ble_eq_true rfl) (by rfl) (Nat.le_of_ble_eq_true rfl) ⟨rfl, rfl, (Nat.le_of_ble_eq_true rfl), (Nat.le_of_ble_eq_true rfl), by simp only [rmd]; omega, by simp only [rmd]; omega⟩ dX3_init_5 dX3_init_8 dX3_init_9 dX3_init_12 (fun a0 E0 A0 B0 H0 C0 => ?_)
  change V X a0 E0 15 _ [] _ _
  refine V_aload_n hf dX3_init_15 rfl rfl ?_
  refine V_part hf hci2 (P := Pb g 6 11) (g := g) (j0 := 6) (gt := g) (jt := 0) (C := RX0) (T := TX0) (N := 7) (ci := 4) (ty := tyX0) (fs := [.int (iN 0), .int (iN 0), .null, .null, .null, .null, .null]) (mc := 5) (ms := 50) ⟨rfl, by decide, by decide⟩ (fun z => by have := z.2; omega) cw_X0 tyX0_ok wk_X3_18 wis_X0 wn_X0 rfl (by rw [iN_0]; decide +kernel) (Po := fun ad E => Pn (xK X) g 6 11 ad E) (fun _ _ _ _ _ q => q.q (by decide)) (Or.inl cic_X3_20) (fun ad E p q => k_X0 hl0 g E p (fun j q1 q2 => q g j ⟨rfl, by omega, q2⟩ (by omega))) H0 (fun g' j' q => by obtain ⟨rfl, q1, q2⟩ := q; rw [B0 g' j' (fun z => by have := z.2; omega) (by omega)]; exact hn j' (by omega) (by omega)) fi_X3_21_7 (fun _ => ⟨rfl, rfl⟩) (Nat.le_of_ble_eq_true rfl) (by rw [A0 g 0 (fun z => by have := z.2; omega)]) (Nat.le_of_ble_eq_true rfl) ⟨rfl, rfl, (Nat.le_of_ble_eq_true rfl), (Nat.le_of_ble_eq_true rfl), by simp only [rmd]; omega, by simp only [rmd]; omega⟩ dX3_init_16 dX3_init_19 dX3_init_20 dX3_init_23 (fun a1 E1 A1 B1 H1 C1 => ?_)
  change V X a1 E1 26 _ [] _ _
  refine V_aload_n hf dX3_init_26 rfl rfl ?_
  refine V_part hf hci2 (P := Pb g 12 17) (g := g) (j0 := 12) (gt := g) (jt := 0) (C := RX4) (T := TX4) (N := 7) (ci := 8) (ty := tyX4) (fs := [.int (iN 0), .int (iN 0), .null, .null, .null, .null, .null]) (mc := 5) (ms := 80) ⟨rfl, by decide, by decide⟩ (fun z => by have := z.2; omega) cw_X4 tyX4_ok wk_X3_25 wis_X4 wn_X4 rfl (by rw [iN_0]; decide +kernel) (Po := fun ad E => Pn (xK X) g 12 17 ad E) (fun _ _ _ _ _ q => q.q (by decide)) (Or.inl cic_X3_27) (fun ad E p q => k_X4 hl0 g E p (fun j q1 q2 => q g j ⟨rfl, by omega, q2⟩ (by omega))) H1 (fun g' j' q => by obtain ⟨rfl, q1, q2⟩ := q; rw [B1 g' j' (fun z => by have := z.2; omega) (by omega)]; rw [B0 g' j' (fun z => by have := z.2; omega) (by omega)]; exact hn j' (by omega) (by omega)) fi_X3_28_7 (fun _ => ⟨rfl, rfl⟩) (Nat.le_of_ble_eq_true rfl) (by rw [A1 g 0 (fun z => by have := z.2; omega), A0 g 0 (fun z => by have := z.2; omega)]) (Nat.le_of_ble_eq_true rfl) ⟨rfl, rfl, (Nat.le_of_ble_eq_true rfl), (Nat.le_of_ble_eq_true rfl), by simp only [rmd]; omega, by simp only [rmd]; omega⟩ dX3_init_27 dX3_init_30 dX3_init_31 dX3_init_34 (fun a2 E2 A2 B2 H2 C2 => ?_)
  change V X a2 E2 37 _ [] _ _
  refine V_aload_n hf dX3_init_37 rfl rfl ?_
  refine V_part hf hci2 (P := Pb g 18 22) (g := g) (j0 := 18) (gt := g) (jt := 0) (C := RX7) (T := TX7) (N := 6) (ci := 10) (ty := tyX7) (fs := [.int (iN 0), .int (iN 0), .null, .null, .null, .null]) (mc := 4) (ms := 40) ⟨rfl, by decide, by decide⟩ (fun z => by have := z.2; omega) cw_X7 tyX7_ok wk_X3_31 wis_X7 wn_X7 rfl (by rw [iN_0]; decide +kernel) (Po := fun ad E => Pn (xK X) g 18 22 ad E) (fun _ _ _ _ _ q => q.q (by decide)) (Or.inr ⟨_, cin_X3_33⟩) (fun ad E p q => k_X7 hl0 g E p (fun j q1 q2 => q g j ⟨rfl, by omega, q2⟩ (by omega))) H2 (fun g' j' q => by obtain ⟨rfl, q1, q2⟩ := q; rw [B2 g' j' (fun z => by have := z.2; omega) (by omega)]; rw [B1 g' j' (fun z => by have := z.2; omega) (by omega)]; rw [B0 g' j' (fun z => by have := z.2; omega) (by omega)]; exact hn j' (by omega) (by omega)) fi_X3_34_7 (fun _ => ⟨rfl, rfl⟩) (Nat.le_of_ble_eq_true rfl) (by rw [A2 g 0 (fun z => by have := z.2; omega), A1 g 0 (fun z => by have := z.2; omega), A0 g 0 (fun z => by have := z.2; omega)]) (Nat.le_of_ble_eq_true rfl) ⟨rfl, rfl, (Nat.le_of_ble_eq_true rfl), (Nat.le_of_ble_eq_true rfl), by simp only [rmd]; omega, by simp only [rmd]; omega⟩ dX3_init_38 dX3_init_41 dX3_init_42 dX3_init_45 (fun a3 E3 A3 B3 H3 C3 => ?_)
  change V X a3 E3 48 _ [] _ _
  have hA3 : a3 g 0 = ad g 0 := by rw [A3 g 0 (fun z => by have := z.2; omega), A2 g 0 (fun z => by have := z.2; omega), A1 g 0 (fun z => by have := z.2; omega), A0 g 0 (fun z => by have := z.2; omega)]
  refine V_aload_n hf dX3_init_48 rfl rfl ?_
  refine V_iconst hf dX3_init_49 ?_
  refine V_putR hf (g := g) (j := 0) hA3.symm H3 fi_X3_38_7 rfl rfl (Nat.le_of_ble_eq_true rfl) dX3_init_50 ?_
  refine V_aload_n hf dX3_init_53 rfl rfl ?_
  refine V_iconst hf dX3_init_54 ?_
  refine V_putR hf (g := g) (j := 0) hA3.symm eset_self fi_X3_42_7 rfl rfl (Nat.le_of_ble_eq_true rfl) dX3_init_55 ?_
  refine V_aload_n hf dX3_init_58 rfl rfl ?_
  refine V_iconst hf dX3_init_59 ?_
  refine V_putR hf (g := g) (j := 0) hA3.symm eset_self fi_X3_45_7 rfl rfl (Nat.le_of_ble_eq_true rfl) dX3_init_60 ?_
  refine V_aload_n hf dX3_init_63 rfl rfl ?_
  refine V_iconst hf dX3_init_64 ?_
  refine V_putR hf (g := g) (j := 0) hA3.symm eset_self fi_X3_48_7 rfl rfl (Nat.le_of_ble_eq_true rfl) dX3_init_65 ?_
  refine V_aload_n hf dX3_init_68 rfl rfl ?_
  refine V_iconst hf dX3_init_69 ?_
  refine V_putR hf (g := g) (j := 0) hA3.symm eset_self fi_X3_51_7 rfl rfl (Nat.le_of_ble_eq_true rfl) dX3_init_70 ?_
  refine V_vret hf he dX3_init_73 (by omega) (by omega) ⟨rfl, fun g' j' hq => ?_, fun g' j' hq => ?_, fun j' q1 q2 => ?_⟩
  · rw [A3 g' j' (fun z => hq ⟨z.1, by have := z.2; omega, by have := z.2; omega⟩), A2 g' j' (fun z => hq ⟨z.1, by have := z.2; omega, by have := z.2; omega⟩), A1 g' j' (fun z => hq ⟨z.1, by have := z.2; omega, by have := z.2; omega⟩), A0 g' j' (fun z => hq ⟨z.1, by have := z.2; omega, by have := z.2; omega⟩)]
  · repeat rw [eset_ne (fun z => hq ⟨z.1, by omega, by omega⟩)]
    rw [B3 g' j' (fun z => hq ⟨z.1, by have := z.2; omega, by have := z.2; omega⟩) (fun z => hq ⟨z.1, by omega, by omega⟩), B2 g' j' (fun z => hq ⟨z.1, by have := z.2; omega, by have := z.2; omega⟩) (fun z => hq ⟨z.1, by omega, by omega⟩), B1 g' j' (fun z => hq ⟨z.1, by have := z.2; omega, by have := z.2; omega⟩) (fun z => hq ⟨z.1, by omega, by omega⟩), B0 g' j' (fun z => hq ⟨z.1, by have := z.2; omega, by have := z.2; omega⟩) (fun z => hq ⟨z.1, by omega, by omega⟩)]
  · by_cases z0 : j' = 0
    · subst z0
      rw [eset_self]
      have e1 : a0 g 1 = a3 g 1 := by rw [A3 g 1 (fun z => by have := z.2; omega), A2 g 1 (fun z => by have := z.2; omega), A1 g 1 (fun z => by have := z.2; omega)]
      have e6 : a1 g 6 = a3 g 6 := by rw [A3 g 6 (fun z => by have := z.2; omega), A2 g 6 (fun z => by have := z.2; omega)]
      have e12 : a2 g 12 = a3 g 12 := by rw [A3 g 12 (fun z => by have := z.2; omega)]
      simp [cE, σI, e1, e6, e12]
    · repeat rw [eset_ne (fun z => z0 z.2)]
      have fr : ∀ k : Nat, j' ≠ 0 → True := fun _ _ => trivial
      by_cases c0 : j' ≤ 5
      · rw [B3 g j' (fun z => by have := z.2; omega) (fun z => z0 z.2), B2 g j' (fun z => by have := z.2; omega) (fun z => z0 z.2), B1 g j' (fun z => by have := z.2; omega) (fun z => z0 z.2), C0 g j' ⟨rfl, by omega, by omega⟩]
        rw [cE_ad (ad := a0) (ad' := a3) ⟨by omega, by omega⟩ (fun _ x x1 x2 => by rw [A3 g x (fun z => by have := z.2; omega), A2 g x (fun z => by have := z.2; omega), A1 g x (fun z => by have := z.2; omega)]) (fun x => absurd x (by omega)) (fun x => absurd x (by omega)) (fun x => absurd x (by omega))]
      · have c0_ := c0
        by_cases c1 : j' ≤ 11
        · rw [B3 g j' (fun z => by have := z.2; omega) (fun z => z0 z.2), B2 g j' (fun z => by have := z.2; omega) (fun z => z0 z.2), C1 g j' ⟨rfl, by omega, by omega⟩]
          rw [cE_ad (ad := a1) (ad' := a3) ⟨by omega, by omega⟩ (fun x => absurd x (by omega)) (fun _ x x1 x2 => by rw [A3 g x (fun z => by have := z.2; omega), A2 g x (fun z => by have := z.2; omega)]) (fun x => absurd x (by omega)) (fun x => absurd x (by omega))]
        · have c1_ := c1
          by_cases c2 : j' ≤ 17
          · rw [B3 g j' (fun z => by have := z.2; omega) (fun z => z0 z.2), C2 g j' ⟨rfl, by omega, by omega⟩]
            rw [cE_ad (ad := a2) (ad' := a3) ⟨by omega, by omega⟩ (fun x => absurd x (by omega)) (fun x => absurd x (by omega)) (fun _ x x1 x2 => by rw [A3 g x (fun z => by have := z.2; omega)]) (fun x => absurd x (by omega))]
          · have c2_ := c2
            exact C3 g j' ⟨rfl, by omega, q2⟩
