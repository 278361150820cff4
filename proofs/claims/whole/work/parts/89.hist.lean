/-! constructors: script, history, exchange -/
def PS (g : Int) (j : Nat) : Prop := (g = 0 ∧ 26 ≤ j ∧ j ≤ 29) ∨ (0 ≤ g ∧ g < 30 ∧ j = 30)
def PH (g : Int) (j : Nat) : Prop := (g = 0 ∧ (j = 24 ∨ j = 25)) ∨ (3 ≤ g ∧ g < 11 ∧ j ≤ 22)
theorem fi_X6_11_9 : FP RX6 11 9 0 true (.array .char) := ⟨"BarnacleExchange$Script", RX6, TX6, 7, tyX6, rfl, by decide, cw_X6, lg_t 245 (by decide +kernel) (by decide +kernel), Or.inl rfl, tyX6_ok, nmX6, rfl, by decide +kernel, fun _ => rfl⟩
theorem fi_X6_15_9 : FP RX6 15 9 1 false .int := ⟨"BarnacleExchange$Script", RX6, TX6, 7, tyX6, rfl, by decide, cw_X6, lg_t 247 (by decide +kernel) (by decide +kernel), Or.inl rfl, tyX6_ok, nmX6, rfl, by decide +kernel, fun _ => rfl⟩
theorem fi_X6_19_9 : FP RX6 19 9 2 false .int := ⟨"BarnacleExchange$Script", RX6, TX6, 7, tyX6, rfl, by decide, cw_X6, lg_t 249 (by decide +kernel) (by decide +kernel), Or.inl rfl, tyX6_ok, nmX6, rfl, by decide +kernel, fun _ => rfl⟩
theorem fi_X6_22_9 : FP RX6 22 9 3 false .int := ⟨"BarnacleExchange$Script", RX6, TX6, 7, tyX6, rfl, by decide, cw_X6, lg_t 250 (by decide +kernel) (by decide +kernel), Or.inl rfl, tyX6_ok, nmX6, rfl, by decide +kernel, fun _ => rfl⟩
theorem fi_X6_25_9 : FP RX6 25 9 4 false .int := ⟨"BarnacleExchange$Script", RX6, TX6, 7, tyX6, rfl, by decide, cw_X6, lg_t 252 (by decide +kernel) (by decide +kernel), Or.inl rfl, tyX6_ok, nmX6, rfl, by decide +kernel, fun _ => rfl⟩
theorem fi_X6_28_9 : FP RX6 28 9 5 true (.array .char) := ⟨"BarnacleExchange$Script", RX6, TX6, 7, tyX6, rfl, by decide, cw_X6, lg_t 253 (by decide +kernel) (by decide +kernel), Or.inl rfl, tyX6_ok, nmX6, rfl, by decide +kernel, fun _ => rfl⟩
theorem fi_X6_33_9 : FP RX6 33 9 6 true (.array (.array .int)) := ⟨"BarnacleExchange$Script", RX6, TX6, 7, tyX6, rfl, by decide, cw_X6, lg_t 255 (by decide +kernel) (by decide +kernel), Or.inl rfl, tyX6_ok, nmX6, rfl, by decide +kernel, fun _ => rfl⟩
set_option maxHeartbeats 4000000 in
set_option maxRecDepth 100000 in
theorem k_X6 {l : Launch} {D : va_G} {K : Nat → ClassId} {ad : Adr} (hl0 : l.stackTraces = false) (E : Dic) (h0 : E 0 26 = some (.inr (9, [.null, .int (iN 0), .int (iN 0), .int (iN 0), .int (iN 0), .null, .null]))) (hn : ∀ (g : Int) (j : Nat), PS g j → ¬ (g = 0 ∧ j = 26) → E g j = none) : Ctr l yX6_init (.code yX6_init cX6_init 1 none) (rmd 1 33 210) 33 210 D K ad E [.ref (ad 0 26)] (Pq PS 0 26 K ad E) := by
  refine Ctr.of (own := RX6) (ls0 := [some (.ref (ad 0 26))]) (by decide) rfl hl0 (Nat.le_of_ble_eq_true rfl) rfl ?_
  intro X hX1 hX2 hX3 hf he hh hci
  subst hX1 hX2 hX3
  have hci2 : Ci X := hci rfl
  refine V_aload_n hf dX6_init_0 rfl rfl ?_
  refine V_obj hf wl_X6_3 (Nat.le_of_ble_eq_true rfl) ⟨(Nat.le_of_ble_eq_true rfl), (Nat.le_of_ble_eq_true rfl)⟩ dX6_init_1 ?_
  refine V_aload_n hf dX6_init_4 rfl rfl ?_
  refine V_bipush hf dX6_init_5 (by decide +kernel) ?_
  refine V_newa hf (ty := .char) (t := 1) (n := 60) (g := 0) (j := 27) (a0 := (60, .inl (fun _ => iN 0))) rfl rfl wac_char rfl (by repeat (first | rw [eset_self] | rw [eset_ne (by omega)] | assumption | exact hn _ _ (by unfold PS; omega) (by omega))) ⟨by decide, by decide⟩ (by decide) rfl (by decide) (fun _ => by rw [iN_0]; rfl) ⟨by simp only [rmd]; omega, by simp only [rmd]; omega⟩ dX6_init_7 (fun v27 => ?_)
  refine V_putFR hf hci2 (g := 0) (j := 26) (by repeat (first | rw [ast_self] | rw [ast_ne (by omega)] | rfl)) (by repeat (first | rw [eset_self] | rw [eset_ne (by omega)] | assumption | exact hn _ _ (by unfold PS; omega) (by omega))) fi_X6_11_9 rfl rfl (Nat.le_of_ble_eq_true rfl) dX6_init_9 ?_
  refine V_aload_n hf dX6_init_12 rfl rfl ?_
  refine V_iconst hf dX6_init_13 ?_
  refine V_putR hf (g := 0) (j := 26) (by repeat (first | rw [ast_self] | rw [ast_ne (by omega)] | rfl)) (by repeat (first | rw [eset_self] | rw [eset_ne (by omega)] | assumption | exact hn _ _ (by unfold PS; omega) (by omega))) fi_X6_15_9 rfl rfl (Nat.le_of_ble_eq_true rfl) dX6_init_14 ?_
  refine V_aload_n hf dX6_init_17 rfl rfl ?_
  refine V_iconst hf dX6_init_18 ?_
  refine V_putR hf (g := 0) (j := 26) (by repeat (first | rw [ast_self] | rw [ast_ne (by omega)] | rfl)) (by repeat (first | rw [eset_self] | rw [eset_ne (by omega)] | assumption | exact hn _ _ (by unfold PS; omega) (by omega))) fi_X6_19_9 rfl rfl (Nat.le_of_ble_eq_true rfl) dX6_init_19 ?_
  refine V_aload_n hf dX6_init_22 rfl rfl ?_
  refine V_iconst hf dX6_init_23 ?_
  refine V_putR hf (g := 0) (j := 26) (by repeat (first | rw [ast_self] | rw [ast_ne (by omega)] | rfl)) (by repeat (first | rw [eset_self] | rw [eset_ne (by omega)] | assumption | exact hn _ _ (by unfold PS; omega) (by omega))) fi_X6_22_9 rfl rfl (Nat.le_of_ble_eq_true rfl) dX6_init_24 ?_
  refine V_aload_n hf dX6_init_27 rfl rfl ?_
  refine V_iconst hf dX6_init_28 ?_
  refine V_putR hf (g := 0) (j := 26) (by repeat (first | rw [ast_self] | rw [ast_ne (by omega)] | rfl)) (by repeat (first | rw [eset_self] | rw [eset_ne (by omega)] | assumption | exact hn _ _ (by unfold PS; omega) (by omega))) fi_X6_25_9 rfl rfl (Nat.le_of_ble_eq_true rfl) dX6_init_29 ?_
  refine V_aload_n hf dX6_init_32 rfl rfl ?_
  refine V_bipush hf dX6_init_33 (by decide +kernel) ?_
  refine V_newa hf (ty := .char) (t := 1) (n := 30) (g := 0) (j := 28) (a0 := (30, .inl (fun _ => iN 0))) rfl rfl wac_char rfl (by repeat (first | rw [eset_self] | rw [eset_ne (by omega)] | assumption | exact hn _ _ (by unfold PS; omega) (by omega))) ⟨by decide, by decide⟩ (by decide) rfl (by decide) (fun _ => by rw [iN_0]; rfl) ⟨by simp only [rmd]; omega, by simp only [rmd]; omega⟩ dX6_init_35 (fun v28 => ?_)
  refine V_putFR hf hci2 (g := 0) (j := 26) (by repeat (first | rw [ast_self] | rw [ast_ne (by omega)] | rfl)) (by repeat (first | rw [eset_self] | rw [eset_ne (by omega)] | assumption | exact hn _ _ (by unfold PS; omega) (by omega))) fi_X6_28_9 rfl rfl (Nat.le_of_ble_eq_true rfl) dX6_init_37 ?_
  refine V_aload_n hf dX6_init_40 rfl rfl ?_
  refine V_bipush hf dX6_init_41 (by decide +kernel) ?_
  refine V_iconst hf dX6_init_43 ?_
  refine V_multi hf wk_X6_31 (fun g j q => ?_) ⟨by simp only [rmd]; omega, by simp only [rmd]; omega⟩ dX6_init_44 (fun a' E' M1 M2 M3 => ?_)
  · unfold P29 at q
    repeat rw [eset_ne (by omega)]
    exact hn g j (by unfold PS; omega) (by omega)
  have n26 := M1 0 26 (by unfold P29; omega)
  have n27 := M1 0 27 (by unfold P29; omega)
  have n28 := M1 0 28 (by unfold P29; omega)
  refine V_putFR hf hci2 (g := 0) (j := 26) (by rw [n26.1]; repeat (first | rw [ast_self] | rw [ast_ne (by omega)] | rfl)) (n26.2.trans (by repeat (first | rw [eset_self] | rw [eset_ne (by omega)] | assumption | exact hn _ _ (by unfold PS; omega) (by omega)))) fi_X6_33_9 rfl rfl (Nat.le_of_ble_eq_true rfl) dX6_init_48 ?_
  refine V_vret hf he dX6_init_51 (by omega) (by omega) ⟨rfl, fun g j hq => ?_, fun g j hq => ?_, fun g j hq => ?_⟩
  · unfold PS at hq
    rw [(M1 g j (by unfold P29; omega)).1, ast_ne (by omega), ast_ne (by omega)]
  · unfold PS at hq
    rw [eset_ne (by omega), (M1 g j (by unfold P29; omega)).2]
    repeat rw [eset_ne (by omega)]
  · have b27 : a' 0 27 = v27 := n27.1.trans (by rw [ast_ne (by omega), ast_self])
    have b28 : a' 0 28 = v28 := n28.1.trans ast_self
    rcases hq with ⟨rfl, q1, q2⟩ | ⟨q1, q2, rfl⟩
    · have hj : j = 26 ∨ j = 27 ∨ j = 28 ∨ j = 29 := by omega
      rcases hj with rfl | rfl | rfl | rfl
      · rw [eset_self]
        simp [cE, σI, b27, b28]
      · rw [eset_ne (by omega), n27.2]
        simp [eset, cE, σI]
      · rw [eset_ne (by omega), n28.2]
        simp [eset, cE, σI]
      · rw [eset_ne (by omega), M2]
        rfl
    · rw [eset_ne (by omega), M3 g q1 q2]
      simp [cE, σI]
theorem cin_X2_22 : CIN RX2 22 yX3_init "BarnacleExchange" cX3_init 1 0 := ⟨by decide, wi_X3_init, wn_X3, wc_X3_init, rfl, by decide, by decide, by decide +kernel⟩
theorem fi_X2_7_6 : FP RX2 7 6 0 false .int := ⟨"BarnacleExchange$History", RX2, TX2, 3, tyX2, rfl, by decide, cw_X2, lg_t 226 (by decide +kernel) (by decide +kernel), Or.inl rfl, tyX2_ok, nmX2, rfl, by decide +kernel, fun _ => rfl⟩
theorem fi_X2_13_6 : FP RX2 13 6 1 false .int := ⟨"BarnacleExchange$History", RX2, TX2, 3, tyX2, rfl, by decide, cw_X2, lg_t 228 (by decide +kernel) (by decide +kernel), Or.inl rfl, tyX2_ok, nmX2, rfl, by decide +kernel, fun _ => rfl⟩
theorem fi_X2_18_6 : FP RX2 18 6 2 true (.array (.object "BarnacleExchange$Market")) := ⟨"BarnacleExchange$History", RX2, TX2, 3, tyX2, rfl, by decide, cw_X2, lg_t 229 (by decide +kernel) (by decide +kernel), Or.inl rfl, tyX2_ok, nmX2, rfl, by decide +kernel, fun _ => rfl⟩
set_option maxHeartbeats 4000000 in
set_option maxRecDepth 100000 in
theorem k_X2 {l : Launch} {D : va_G} {K : Nat → ClassId} {ad : Adr} (hl0 : l.stackTraces = false) (E : Dic) (h0 : E 0 24 = some (.inr (6, [.int (iN 0), .int (iN 0), .null]))) (hn : ∀ (g : Int) (j : Nat), PH g j → ¬ (g = 0 ∧ j = 24) → E g j = none) : Ctr l yX2_init (.code yX2_init cX2_init 2 none) (rmd 4 185 2000) 185 2000 D K ad E [.ref (ad 0 24)] (Pq PH 0 24 K ad E) := by
  refine Ctr.of (own := RX2) (ls0 := [some (.ref (ad 0 24)), none]) (by decide) rfl hl0 (Nat.le_of_ble_eq_true rfl) rfl ?_
  intro X hX1 hX2 hX3 hf he hh hci
  subst hX1 hX2 hX3
  have hci2 : Ci X := hci rfl
  have loop : ∀ (n i : Nat), i + n = 8 → ∀ (a : Adr) (F : Dic) (cs ss : Nat), cs = 1 + 23 * i → ss = 8 + 249 * i → (∀ (g : Int) (j : Nat), ¬ (PH g j ∧ ¬ (g = 0 ∧ j = 24)) → a g j = ad g j) → (∀ (g : Int) (j : Nat), ¬ PH g j → F g j = E g j) → F 0 24 = some (.inr (6, [.int (iN 0), .int (iN 0), .ref (a 0 25)])) → F 0 25 = some (.inl (xK X 5, 8, .inr (.inr (.inr (.inr (fun q : Nat => if q < i then some (a (3 + (q : Int)) 0) else none)))))) → (∀ (g : Int) (j : Nat), 3 ≤ g → g < 3 + i → j ≤ 22 → F g j = some (cE a (xK X) σI g j)) → (∀ (g : Int) (j : Nat), 3 + i ≤ g → g < 11 → j ≤ 22 → F g j = none) → V X a F 25 [some (.ref (ad 0 24)), some (.int (iN (i : Int)))] [] cs ss := by
    intro n
    induction n with
    | zero =>
      intro i hi a F cs ss hcs hss fa fe f24 f25 fd fn
      have hi8 : i = 8 := by omega
      subst hi8
      refine V_iload_n hf dX2_init_25 rfl rfl ?_
      refine V_bipush hf dX2_init_26 (by decide +kernel) ?_
      refine V_icmp_ge (tgt := 50) hf ⟨by omega, by omega⟩ ⟨by decide, by decide⟩ dX2_init_28 (by decide) (fun h28 => ?_) (fun h28 => absurd h28 (by omega))
      refine V_cell f25 (x' := (8, .inr (.inr (.inr (.inr (fun q : Nat => some (a (3 + (q : Int)) 0))))))) ?_ ?_
      · rw [vp_cell_q, vp_cell_q]
        refine arrV_ext fun j hj => ?_
        rw [if_pos hj]
      · refine V_vret hf he dX2_init_50 (by omega) (by omega) ⟨rfl, fa, fun g j hq => ?_, fun g j hq => ?_⟩
        · rw [eset_ne (fun z => hq (Or.inl ⟨z.1, Or.inr z.2⟩)), fe g j hq]
        · rcases hq with ⟨rfl, rfl | rfl⟩ | ⟨q1, q2, q3⟩
          · rw [eset_ne (by omega), f24]
            simp [cE, σI]
          · rw [eset_self]
            rfl
          · rw [eset_ne (by omega)]
            exact fd g j q1 (by omega) q3
    | succ n ih =>
      intro i hi a F cs ss hcs hss fa fe f24 f25 fd fn
      refine V_iload_n hf dX2_init_25 rfl rfl ?_
      refine V_bipush hf dX2_init_26 (by decide +kernel) ?_
      refine V_icmp_ge (tgt := 50) hf ⟨by omega, by omega⟩ ⟨by decide, by decide⟩ dX2_init_28 (by decide) (fun h28 => absurd h28 (by omega)) (fun h28 => ?_)
      have e24 : ad 0 24 = a 0 24 := (fa 0 24 (fun z => z.2 ⟨rfl, rfl⟩)).symm
      refine V_aload_n hf dX2_init_31 rfl rfl ?_
      refine V_getR hf (g := 0) (j := 24) e24 f24 fl_X2_18_6 rfl dX2_init_32 ?_
      refine V_iload_n hf dX2_init_35 rfl rfl ?_
      refine V_new hf (C := RX3) (T := TX3) (N := 9) (ci := 7) (ty := tyX3) (fs := [.null, .null, .null, .null, .int (iN 0), .int (iN 0), .int (iN 0), .int (iN 0), .int (iN 0)]) (g := 3 + (i : Int)) (j := 0) cw_X3 tyX3_ok wk_X2_16 wis_X3 wn_X3 rfl (by rw [iN_0]; decide +kernel) (fn _ 0 (by omega) (by omega) (by decide)) ⟨by simp only [rmd]; omega, by simp only [rmd]; omega⟩ dX2_init_36 (fun w => ?_)
      refine V_dup hf dX2_init_39 rfl ?_
      have z := k_X3 (D := xD X) (K := xK X) (ad := ast a (3 + (i : Int)) 0 w) hl0 (3 + (i : Int)) (eset F (3 + (i : Int)) 0 (.inr (7, [.null, .null, .null, .null, .int (iN 0), .int (iN 0), .int (iN 0), .int (iN 0), .int (iN 0)]))) eset_self (fun j q1 q2 => (eset_ne (by omega)).trans (fn _ j (by omega) (by omega) q2))
      rw [ast_self] at z
      refine V_callA hf z (Or.inr ⟨_, cin_X2_22⟩) (Nat.le_of_ble_eq_true rfl) ⟨rfl, rfl, (Nat.le_of_ble_eq_true rfl), (Nat.le_of_ble_eq_true rfl), by simp only [rmd]; omega, by simp only [rmd]; omega⟩ dX2_init_40 ?_ ?_
      rotate_left 1
      · rintro En ad' E' ⟨q1, -⟩
        cases q1
      rintro r a' F' ⟨q1, q2, q3, q4⟩
      cases q1
      have aw : w = a' (3 + (i : Int)) 0 := ((q2 _ 0 (fun z => by omega)).trans ast_self).symm
      have ao : ∀ (g : Int) (j : Nat), ¬ (g = 3 + (i : Int) ∧ j ≤ 22) → a' g j = a g j := fun g j q => (q2 g j (fun z => q ⟨z.1, z.2.2⟩)).trans (ast_ne fun z => q ⟨z.1, by omega⟩)
      have fo : ∀ (g : Int) (j : Nat), ¬ (g = 3 + (i : Int) ∧ j ≤ 22) → F' g j = F g j := fun g j q => (q3 g j (fun z => q ⟨z.1, z.2.2⟩)).trans (eset_ne fun z => q ⟨z.1, by omega⟩)
      have a25 : a 0 25 = a' 0 25 := (ao 0 25 (by omega)).symm
      change V X a' F' 43 _ (.ref w :: .int (iN (i : Int)) :: .ref (a 0 25) :: []) _ _
      rw [aw, a25]
      refine V_astq hf (g := 0) (j := 25) (g' := 3 + (i : Int)) (j' := 0) (t := 5) (ci := 7) (r := (RX3, TX3, 9)) ((fo 0 25 (by omega)).trans f25) rfl (q4 0 (by decide) (by decide)) rfl ⟨by omega, by omega⟩ (by omega) (by omega) dX2_init_43 ?_
      refine V_iinc (ls2 := [_, _]) hf dX2_init_44 (by decide) rfl rfl rfl ?_
      refine V_goto (tgt := 25) hf dX2_init_47 (by decide) ?_
      refine ih (i + 1) (by omega) a' _ _ _ (by omega) (by omega) (fun g j q => ?_) (fun g j q => ?_) ?_ ?_ (fun g j g1 g2 j2 => ?_) (fun g j g1 g2 j2 => ?_)
      · rw [ao g j (fun z => q ⟨Or.inr ⟨by omega, by omega, z.2⟩, by omega⟩)]
        exact fa g j q
      · rw [eset_ne (fun z => q (Or.inl ⟨z.1, Or.inr z.2⟩)), fo g j (fun z => q (Or.inr ⟨by omega, by omega, z.2⟩))]
        exact fe g j q
      · rw [eset_ne (by omega), fo 0 24 (by omega), f24, a25]
      · rw [eset_self]
        congr 8
        funext q
        unfold va_up
        by_cases c1 : q = i
        · rw [if_pos (by omega), if_pos (by omega), c1]
        · rw [if_neg (by omega)]
          dsimp only
          by_cases c2 : q < i
          · rw [if_pos c2, if_pos (by omega), ao (3 + (q : Int)) 0 (by omega)]
          · rw [if_neg c2, if_neg (by omega)]
      · rw [eset_ne (by omega)]
        by_cases c1 : g = 3 + (i : Int)
        · subst c1
          exact q4 j (by omega) j2
        · rw [fo g j (fun z => c1 z.1), fd g j g1 (by omega) j2, cE_mk j2 (fun x _ => ao g x (fun z => c1 z.1))]
      · rw [eset_ne (by omega), fo g j (fun z => by omega)]
        exact fn g j (by omega) g2 j2
  refine V_aload_n hf dX2_init_0 rfl rfl ?_
  refine V_obj hf wl_X2_1 (Nat.le_of_ble_eq_true rfl) ⟨(Nat.le_of_ble_eq_true rfl), (Nat.le_of_ble_eq_true rfl)⟩ dX2_init_1 ?_
  refine V_aload_n hf dX2_init_4 rfl rfl ?_
  refine V_iconst hf dX2_init_5 ?_
  refine V_putR hf (g := 0) (j := 24) (by repeat (first | rw [ast_self] | rw [ast_ne (by omega)] | rfl)) (by repeat (first | rw [eset_self] | rw [eset_ne (by omega)] | assumption | exact hn _ _ (by unfold PH; omega) (by omega))) fi_X2_7_6 rfl rfl (Nat.le_of_ble_eq_true rfl) dX2_init_6 ?_
  refine V_aload_n hf dX2_init_9 rfl rfl ?_
  refine V_iconst hf dX2_init_10 ?_
  refine V_putR hf (g := 0) (j := 24) (by repeat (first | rw [ast_self] | rw [ast_ne (by omega)] | rfl)) (by repeat (first | rw [eset_self] | rw [eset_ne (by omega)] | assumption | exact hn _ _ (by unfold PH; omega) (by omega))) fi_X2_13_6 rfl rfl (Nat.le_of_ble_eq_true rfl) dX2_init_11 ?_
  refine V_aload_n hf dX2_init_14 rfl rfl ?_
  refine V_bipush hf dX2_init_15 (by decide +kernel) ?_
  refine V_newq hf (t := 5) (n := 8) (C := RX3) (g := 0) (j := 25) wk_X2_16 rfl rfl (by repeat (first | rw [eset_self] | rw [eset_ne (by omega)] | assumption | exact hn _ _ (by unfold PH; omega) (by omega))) ⟨by decide, by decide⟩ (by decide) rfl (by decide) ⟨by simp only [rmd]; omega, by simp only [rmd]; omega⟩ dX2_init_17 (fun v25 => ?_)
  refine V_putFR hf hci2 (g := 0) (j := 24) (by repeat (first | rw [ast_self] | rw [ast_ne (by omega)] | rfl)) (by repeat (first | rw [eset_self] | rw [eset_ne (by omega)] | assumption | exact hn _ _ (by unfold PH; omega) (by omega))) fi_X2_18_6 rfl rfl (Nat.le_of_ble_eq_true rfl) dX2_init_20 ?_
  refine V_iconst hf dX2_init_23 ?_
  refine V_istore_n (ls2 := [_, _]) hf dX2_init_24 rfl (by decide) rfl rfl ?_
  refine loop 8 0 (by decide) _ _ _ _ (by decide) (by decide) (fun g j q => ?_) (fun g j q => ?_) ?_ ?_ (fun g j g1 g2 j2 => absurd g2 (by omega)) (fun g j g1 g2 j2 => ?_)
  · exact ast_ne (fun z => q ⟨Or.inl ⟨z.1, Or.inr z.2⟩, by omega⟩)
  · unfold PH at q
    repeat rw [eset_ne (by omega)]
  · rw [eset_self, ast_self]
    rfl
  · rw [eset_ne (by omega), eset_self]
    rfl
  · repeat rw [eset_ne (by omega)]
    exact hn g j (Or.inr ⟨by omega, g2, j2⟩) (by omega)
