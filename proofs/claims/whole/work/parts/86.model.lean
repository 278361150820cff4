/-! constructors: the model, the builder, the books, the market -/
theorem fi_X9_9_12 : FP RX9 9 12 0 true (.array .int) := ⟨"BarnacleExchangeModel", RX9, TX9, 23, tyX9, rfl, by decide, cw_X9, lg_t 1579 (by decide +kernel) (by decide +kernel), Or.inl rfl, tyX9_ok, nmX9, rfl, by decide +kernel, fun _ => rfl⟩
theorem fi_X9_13_12 : FP RX9 13 12 1 true (.array .int) := ⟨"BarnacleExchangeModel", RX9, TX9, 23, tyX9, rfl, by decide, cw_X9, lg_t 1580 (by decide +kernel) (by decide +kernel), Or.inl rfl, tyX9_ok, nmX9, rfl, by decide +kernel, fun _ => rfl⟩
theorem fi_X9_16_12 : FP RX9 16 12 2 true (.array .int) := ⟨"BarnacleExchangeModel", RX9, TX9, 23, tyX9, rfl, by decide, cw_X9, lg_t 1581 (by decide +kernel) (by decide +kernel), Or.inl rfl, tyX9_ok, nmX9, rfl, by decide +kernel, fun _ => rfl⟩
theorem fi_X9_19_12 : FP RX9 19 12 3 true (.array .int) := ⟨"BarnacleExchangeModel", RX9, TX9, 23, tyX9, rfl, by decide, cw_X9, lg_t 1582 (by decide +kernel) (by decide +kernel), Or.inl rfl, tyX9_ok, nmX9, rfl, by decide +kernel, fun _ => rfl⟩
theorem fi_X9_22_12 : FP RX9 22 12 5 true (.array .int) := ⟨"BarnacleExchangeModel", RX9, TX9, 23, tyX9, rfl, by decide, cw_X9, lg_t 1584 (by decide +kernel) (by decide +kernel), Or.inl rfl, tyX9_ok, nmX9, rfl, by decide +kernel, fun _ => rfl⟩
theorem fi_X9_25_12 : FP RX9 25 12 7 false .int := ⟨"BarnacleExchangeModel", RX9, TX9, 23, tyX9, rfl, by decide, cw_X9, lg_t 1586 (by decide +kernel) (by decide +kernel), Or.inl rfl, tyX9_ok, nmX9, rfl, by decide +kernel, fun _ => rfl⟩
theorem fi_X9_29_12 : FP RX9 29 12 9 true (.array .int) := ⟨"BarnacleExchangeModel", RX9, TX9, 23, tyX9, rfl, by decide, cw_X9, lg_t 1588 (by decide +kernel) (by decide +kernel), Or.inl rfl, tyX9_ok, nmX9, rfl, by decide +kernel, fun _ => rfl⟩
theorem fi_X9_32_12 : FP RX9 32 12 16 true (.array .int) := ⟨"BarnacleExchangeModel", RX9, TX9, 23, tyX9, rfl, by decide, cw_X9, lg_t 1595 (by decide +kernel) (by decide +kernel), Or.inl rfl, tyX9_ok, nmX9, rfl, by decide +kernel, fun _ => rfl⟩
theorem fi_X9_35_12 : FP RX9 35 12 18 true (.array .int) := ⟨"BarnacleExchangeModel", RX9, TX9, 23, tyX9, rfl, by decide, cw_X9, lg_t 1597 (by decide +kernel) (by decide +kernel), Or.inl rfl, tyX9_ok, nmX9, rfl, by decide +kernel, fun _ => rfl⟩
section VQ
variable {X : Cx} {own : String} {cc : ByteArray} {nL : Nat} {rm : Room} {ad : Adr} {E : Dic} {pc : Nat} {ls : Ls} {st : List Value} {cs ss : Nat}
theorem V_getR (hf : Cf X own cc nL rm) {g : Int} {j ci k idx a : Nat} {fs : List Value} {v : Value} (ha : a = ad g j) (hE : E g j = some (.inr (ci, fs))) (hF : FL own idx ci k) (hv : fs[k]? = some v) (hdg : decode cc pc = .ok (.getfield idx, 3)) (kk : V X ad E (pc + 3) ls (v :: st) cs ss) : V X ad E pc ls (.ref a :: st) cs ss := by
  subst ha
  exact V_get hf hE hF hv hdg kk
theorem V_iastR (hf : Cf X own cc nL rm) {g : Int} {j n a : Nat} {f : Nat → Int32} {i : Int} {x : Int32} (ha : a = ad g j) (hE : E g j = some (.inl (xK X 0, n, .inl f))) (hiR : inR i) (h0 : 0 ≤ i) (h1 : i < n) (hdg : decode cc pc = .ok (.iastore, 1)) (kk : V X ad (eset E g j (.inl (xK X 0, n, .inl (upd f i.toNat x)))) (pc + 1) ls st cs ss) : V X ad E pc ls (.int x :: .int (iN i) :: .ref a :: st) cs ss := by
  subst ha
  exact V_iast hf hE hiR h0 h1 hdg kk
end VQ
set_option maxHeartbeats 4000000 in
set_option maxRecDepth 100000 in
theorem k_X9 {l : Launch} {D : va_G} {K : Nat → ClassId} {ad : Adr} (hl0 : l.stackTraces = false) (E : Dic) (h0 : E 0 40 = some (.inr (12, [.null, .null, .null, .null, .int (iN 0), .null, .int (iN 0), .int (iN 0), .int (iN 0), .null, .int (iN 0), .int (iN 0), .int (iN 0), .int (iN 0), .int (iN 0), .int (iN 0), .null, .int (iN 0), .null, .int (iN 0), .int (iN 0), .int (iN 0), .int (iN 0)]))) (hn : ∀ j : Nat, 40 < j → j ≤ 48 → E 0 j = none) : Ctr l yX9_init (.code yX9_init cX9_init 1 none) (rmd 1 8 3008) 8 3008 D K ad E [.ref (ad 0 40)] (Pn K 0 40 48 ad E) := by
  refine Ctr.of (own := RX9) (ls0 := [some (.ref (ad 0 40))]) (by decide) rfl hl0 (Nat.le_of_ble_eq_true rfl) rfl ?_
  intro X hX1 hX2 hX3 hf he hh hci
  subst hX1 hX2 hX3
  have hci2 : Ci X := hci rfl
  have hn41 := hn 41 (by decide) (by decide)
  have hn42 := hn 42 (by decide) (by decide)
  have hn43 := hn 43 (by decide) (by decide)
  have hn44 := hn 44 (by decide) (by decide)
  have hn45 := hn 45 (by decide) (by decide)
  have hn46 := hn 46 (by decide) (by decide)
  have hn47 := hn 47 (by decide) (by decide)
  have hn48 := hn 48 (by decide) (by decide)
  refine V_aload_n hf dX9_init_0 rfl rfl ?_
  refine V_obj hf wl_X9_1 (Nat.le_of_ble_eq_true rfl) ⟨(Nat.le_of_ble_eq_true rfl), (Nat.le_of_ble_eq_true rfl)⟩ dX9_init_1 ?_
  refine V_aload_n hf dX9_init_4 rfl rfl ?_
  refine V_sipush hf dX9_init_5 (by decide +kernel) ?_
  refine V_newa hf (ty := .int) (t := 0) (n := 212) (g := 0) (j := 41) (a0 := (212, .inl (fun _ => iN 0))) rfl rfl wac_int rfl (by repeat (first | rw [eset_self] | rw [eset_ne (by omega)] | assumption)) ⟨by decide, by decide⟩ (by decide) rfl (by decide) (fun _ => by rw [iN_0]; rfl) ⟨by simp only [rmd]; omega, by simp only [rmd]; omega⟩ dX9_init_8 (fun v41 => ?_)
  refine V_putFR hf hci2 (g := 0) (j := 40) (by repeat (first | rw [ast_self] | rw [ast_ne (by omega)] | rfl)) (by repeat (first | rw [eset_self] | rw [eset_ne (by omega)] | assumption)) fi_X9_9_12 rfl rfl (Nat.le_of_ble_eq_true rfl) dX9_init_10 ?_
  refine V_aload_n hf dX9_init_13 rfl rfl ?_
  refine V_sipush hf dX9_init_14 (by decide +kernel) ?_
  refine V_newa hf (ty := .int) (t := 0) (n := 212) (g := 0) (j := 42) (a0 := (212, .inl (fun _ => iN 0))) rfl rfl wac_int rfl (by repeat (first | rw [eset_self] | rw [eset_ne (by omega)] | assumption)) ⟨by decide, by decide⟩ (by decide) rfl (by decide) (fun _ => by rw [iN_0]; rfl) ⟨by simp only [rmd]; omega, by simp only [rmd]; omega⟩ dX9_init_17 (fun v42 => ?_)
  refine V_putFR hf hci2 (g := 0) (j := 40) (by repeat (first | rw [ast_self] | rw [ast_ne (by omega)] | rfl)) (by repeat (first | rw [eset_self] | rw [eset_ne (by omega)] | assumption)) fi_X9_13_12 rfl rfl (Nat.le_of_ble_eq_true rfl) dX9_init_19 ?_
  refine V_aload_n hf dX9_init_22 rfl rfl ?_
  refine V_sipush hf dX9_init_23 (by decide +kernel) ?_
  refine V_newa hf (ty := .int) (t := 0) (n := 212) (g := 0) (j := 43) (a0 := (212, .inl (fun _ => iN 0))) rfl rfl wac_int rfl (by repeat (first | rw [eset_self] | rw [eset_ne (by omega)] | assumption)) ⟨by decide, by decide⟩ (by decide) rfl (by decide) (fun _ => by rw [iN_0]; rfl) ⟨by simp only [rmd]; omega, by simp only [rmd]; omega⟩ dX9_init_26 (fun v43 => ?_)
  refine V_putFR hf hci2 (g := 0) (j := 40) (by repeat (first | rw [ast_self] | rw [ast_ne (by omega)] | rfl)) (by repeat (first | rw [eset_self] | rw [eset_ne (by omega)] | assumption)) fi_X9_16_12 rfl rfl (Nat.le_of_ble_eq_true rfl) dX9_init_28 ?_
  refine V_aload_n hf dX9_init_31 rfl rfl ?_
  refine V_sipush hf dX9_init_32 (by decide +kernel) ?_
  refine V_newa hf (ty := .int) (t := 0) (n := 212) (g := 0) (j := 44) (a0 := (212, .inl (fun _ => iN 0))) rfl rfl wac_int rfl (by repeat (first | rw [eset_self] | rw [eset_ne (by omega)] | assumption)) ⟨by decide, by decide⟩ (by decide) rfl (by decide) (fun _ => by rw [iN_0]; rfl) ⟨by simp only [rmd]; omega, by simp only [rmd]; omega⟩ dX9_init_35 (fun v44 => ?_)
  refine V_putFR hf hci2 (g := 0) (j := 40) (by repeat (first | rw [ast_self] | rw [ast_ne (by omega)] | rfl)) (by repeat (first | rw [eset_self] | rw [eset_ne (by omega)] | assumption)) fi_X9_19_12 rfl rfl (Nat.le_of_ble_eq_true rfl) dX9_init_37 ?_
  refine V_aload_n hf dX9_init_40 rfl rfl ?_
  refine V_sipush hf dX9_init_41 (by decide +kernel) ?_
  refine V_newa hf (ty := .int) (t := 0) (n := 1696) (g := 0) (j := 45) (a0 := (1696, .inl (fun _ => iN 0))) rfl rfl wac_int rfl (by repeat (first | rw [eset_self] | rw [eset_ne (by omega)] | assumption)) ⟨by decide, by decide⟩ (by decide) rfl (by decide) (fun _ => by rw [iN_0]; rfl) ⟨by simp only [rmd]; omega, by simp only [rmd]; omega⟩ dX9_init_44 (fun v45 => ?_)
  refine V_putFR hf hci2 (g := 0) (j := 40) (by repeat (first | rw [ast_self] | rw [ast_ne (by omega)] | rfl)) (by repeat (first | rw [eset_self] | rw [eset_ne (by omega)] | assumption)) fi_X9_22_12 rfl rfl (Nat.le_of_ble_eq_true rfl) dX9_init_46 ?_
  refine V_aload_n hf dX9_init_49 rfl rfl ?_
  refine V_iconst hf dX9_init_50 ?_
  refine V_putR hf (g := 0) (j := 40) (by repeat (first | rw [ast_self] | rw [ast_ne (by omega)] | rfl)) (by repeat (first | rw [eset_self] | rw [eset_ne (by omega)] | assumption)) fi_X9_25_12 rfl rfl (Nat.le_of_ble_eq_true rfl) dX9_init_51 ?_
  refine V_aload_n hf dX9_init_54 rfl rfl ?_
  refine V_bipush hf dX9_init_55 (by decide +kernel) ?_
  refine V_newa hf (ty := .int) (t := 0) (n := 60) (g := 0) (j := 46) (a0 := (60, .inl (fun _ => iN 0))) rfl rfl wac_int rfl (by repeat (first | rw [eset_self] | rw [eset_ne (by omega)] | assumption)) ⟨by decide, by decide⟩ (by decide) rfl (by decide) (fun _ => by rw [iN_0]; rfl) ⟨by simp only [rmd]; omega, by simp only [rmd]; omega⟩ dX9_init_57 (fun v46 => ?_)
  refine V_putFR hf hci2 (g := 0) (j := 40) (by repeat (first | rw [ast_self] | rw [ast_ne (by omega)] | rfl)) (by repeat (first | rw [eset_self] | rw [eset_ne (by omega)] | assumption)) fi_X9_29_12 rfl rfl (Nat.le_of_ble_eq_true rfl) dX9_init_59 ?_
  refine V_aload_n hf dX9_init_62 rfl rfl ?_
  refine V_sipush hf dX9_init_63 (by decide +kernel) ?_
  refine V_newa hf (ty := .int) (t := 0) (n := 160) (g := 0) (j := 47) (a0 := (160, .inl (fun _ => iN 0))) rfl rfl wac_int rfl (by repeat (first | rw [eset_self] | rw [eset_ne (by omega)] | assumption)) ⟨by decide, by decide⟩ (by decide) rfl (by decide) (fun _ => by rw [iN_0]; rfl) ⟨by simp only [rmd]; omega, by simp only [rmd]; omega⟩ dX9_init_66 (fun v47 => ?_)
  refine V_putFR hf hci2 (g := 0) (j := 40) (by repeat (first | rw [ast_self] | rw [ast_ne (by omega)] | rfl)) (by repeat (first | rw [eset_self] | rw [eset_ne (by omega)] | assumption)) fi_X9_32_12 rfl rfl (Nat.le_of_ble_eq_true rfl) dX9_init_68 ?_
  refine V_aload_n hf dX9_init_71 rfl rfl ?_
  refine V_sipush hf dX9_init_72 (by decide +kernel) ?_
  refine V_newa hf (ty := .int) (t := 0) (n := 244) (g := 0) (j := 48) (a0 := (244, .inl (fun _ => iN 0))) rfl rfl wac_int rfl (by repeat (first | rw [eset_self] | rw [eset_ne (by omega)] | assumption)) ⟨by decide, by decide⟩ (by decide) rfl (by decide) (fun _ => by rw [iN_0]; rfl) ⟨by simp only [rmd]; omega, by simp only [rmd]; omega⟩ dX9_init_75 (fun v48 => ?_)
  refine V_putFR hf hci2 (g := 0) (j := 40) (by repeat (first | rw [ast_self] | rw [ast_ne (by omega)] | rfl)) (by repeat (first | rw [eset_self] | rw [eset_ne (by omega)] | assumption)) fi_X9_35_12 rfl rfl (Nat.le_of_ble_eq_true rfl) dX9_init_77 ?_
  refine V_aload_n hf dX9_init_80 rfl rfl ?_
  refine V_getR hf (g := 0) (j := 40) (by repeat (first | rw [ast_self] | rw [ast_ne (by omega)] | rfl)) (by repeat (first | rw [eset_self] | rw [eset_ne (by omega)] | assumption)) fl_X9_9_12 rfl dX9_init_81 ?_
  refine V_bipush hf dX9_init_84 (by decide +kernel) ?_
  refine V_iconst hf dX9_init_86 ?_
  refine V_iastR hf (g := 0) (j := 41) (by repeat (first | rw [ast_self] | rw [ast_ne (by omega)] | rfl)) (by repeat (first | rw [eset_self] | rw [eset_ne (by omega)] | assumption)) ⟨by decide, by decide⟩ (by decide) (by decide) dX9_init_87 ?_
  refine V_vret hf he dX9_init_88 (by omega) (by omega) ⟨rfl, fun g' j' hq => ?_, fun g' j' hq => ?_, fun j' q1 q2 => ?_⟩
  · repeat (first | rw [ast_ne (by omega)])
  · repeat (first | rw [eset_ne (by omega)])
  · have hj : j' = 40 ∨ j' = 41 ∨ j' = 42 ∨ j' = 43 ∨ j' = 44 ∨ j' = 45 ∨ j' = 46 ∨ j' = 47 ∨ j' = 48 := by omega
    rcases hj with rfl | rfl | rfl | rfl | rfl | rfl | rfl | rfl | rfl
    all_goals simp [eset, cE, ast, σI]
    funext i
    unfold upd
    by_cases e : i = 6
    · rw [if_pos e, if_pos (by omega)]
    · rw [if_neg e, if_neg (by omega)]
theorem fi_J5_15_1 : FP RJ5 15 1 0 false (.array .byte) := ⟨"java/lang/AbstractStringBuilder", RJ4, TJ4, 4, tyJ4, rfl, by decide, cw_J4, lg_t 291 (by decide +kernel) (by decide +kernel), Or.inl rfl, tyJ4_ok, nmJ4, rfl, by decide +kernel, fun _ => rfl⟩
theorem fi_J5_22_1 : FP RJ5 22 1 1 false .byte := ⟨"java/lang/AbstractStringBuilder", RJ4, TJ4, 4, tyJ4, rfl, by decide, cw_J4, lg_t 292 (by decide +kernel) (by decide +kernel), Or.inl rfl, tyJ4_ok, nmJ4, rfl, by decide +kernel, fun _ => rfl⟩
set_option maxHeartbeats 4000000 in
set_option maxRecDepth 100000 in
theorem k_J5 {l : Launch} {D : va_G} {K : Nat → ClassId} {ad : Adr} (hl0 : l.stackTraces = false) (E : Dic) (h0 : E 0 31 = some (.inr (1, [.null, .int (iN 0), .int (iN 0), .int (iN 0)]))) (hn : ∀ j : Nat, 31 < j → j ≤ 32 → E 0 j = none) : Ctr l yJ5_init_d00df (.code yJ5_init_d00df cJ5_init_d00df 2 none) (rmd 1 1 16) 1 16 D K ad E [.ref (ad 0 31), .int (iN 16)] (Pn K 0 31 32 ad E) := by
  refine Ctr.of (own := RJ5) (ls0 := [some (.ref (ad 0 31)), some (.int (iN 16))]) (by decide) rfl hl0 (Nat.le_of_ble_eq_true rfl) rfl ?_
  intro X hX1 hX2 hX3 hf he hh hci
  subst hX1 hX2 hX3
  have hci2 : Ci X := hci rfl
  have hn32 := hn 32 (by decide) (by decide)
  refine V_aload_n hf dJ5_init_d00df_0 rfl rfl ?_
  refine V_obj hf wl_J5_3 (Nat.le_of_ble_eq_true rfl) ⟨(Nat.le_of_ble_eq_true rfl), (Nat.le_of_ble_eq_true rfl)⟩ dJ5_init_d00df_1 ?_
  refine V_gcs hf wf_J5_18 dJ5_init_d00df_4 ?_
  refine V_if_eq (tgt := 25) hf ⟨by decide, by decide⟩ dJ5_init_d00df_7 (by decide) (fun h => absurd h (by decide)) (fun _ => ?_)
  refine V_aload_n hf dJ5_init_d00df_10 rfl rfl ?_
  refine V_iload_n hf dJ5_init_d00df_11 rfl rfl ?_
  refine V_newa hf (ty := .byte) (t := 4) (n := 16) (g := 0) (j := 32) (a0 := (16, .inl (fun _ => iN 0))) rfl rfl wac_byte rfl (by repeat (first | rw [eset_self] | rw [eset_ne (by omega)] | assumption)) ⟨by decide, by decide⟩ (by decide) rfl (by decide) (fun _ => by rw [iN_0]; rfl) ⟨by simp only [rmd]; omega, by simp only [rmd]; omega⟩ dJ5_init_d00df_12 (fun v32 => ?_)
  refine V_putR hf (g := 0) (j := 31) (by repeat (first | rw [ast_self] | rw [ast_ne (by omega)] | rfl)) (by repeat (first | rw [eset_self] | rw [eset_ne (by omega)] | assumption)) fi_J5_15_1 rfl rfl (Nat.le_of_ble_eq_true rfl) dJ5_init_d00df_14 ?_
  refine V_aload_n hf dJ5_init_d00df_17 rfl rfl ?_
  refine V_iconst hf dJ5_init_d00df_18 ?_
  refine V_putR hf (g := 0) (j := 31) (by repeat (first | rw [ast_self] | rw [ast_ne (by omega)] | rfl)) (by repeat (first | rw [eset_self] | rw [eset_ne (by omega)] | assumption)) fi_J5_22_1 rfl rfl (Nat.le_of_ble_eq_true rfl) dJ5_init_d00df_19 ?_
  refine V_goto (tgt := 38) hf dJ5_init_d00df_22 (by decide) ?_
  refine V_vret hf he dJ5_init_d00df_38 (by omega) (by omega) ⟨rfl, fun g' j' hq => ?_, fun g' j' hq => ?_, fun j' q1 q2 => ?_⟩
  · repeat (first | rw [ast_ne (by omega)])
  · repeat (first | rw [eset_ne (by omega)])
  · have hj : j' = 31 ∨ j' = 32 := by omega
    rcases hj with rfl | rfl
    all_goals simp [eset, cE, ast, σI]
theorem cic_J4_1 : CI RJ4 1 yJ5_init_d00df cJ5_init_d00df 2 1 := ⟨wl_J4_1, wi_J5_init_d00df, wn_J5, wc_J5_init_d00df, rfl, by decide, by decide, by decide +kernel⟩
set_option maxHeartbeats 4000000 in
set_option maxRecDepth 100000 in
theorem k_J4 {l : Launch} {D : va_G} {K : Nat → ClassId} {ad : Adr} (hl0 : l.stackTraces = false) (E : Dic) (h0 : E 0 31 = some (.inr (1, [.null, .int (iN 0), .int (iN 0), .int (iN 0)]))) (hn : ∀ j : Nat, 31 < j → j ≤ 32 → E 0 j = none) : Ctr l yJ4_init_da8c8 (.code yJ4_init_da8c8 cJ4_init_da8c8 1 none) (rmd 2 1 16) 1 16 D K ad E [.ref (ad 0 31)] (Pn K 0 31 32 ad E) := by
  refine Ctr.of (own := RJ4) (ls0 := [some (.ref (ad 0 31))]) (by decide) rfl hl0 (Nat.le_of_ble_eq_true rfl) rfl ?_
  intro X hX1 hX2 hX3 hf he hh hci
  subst hX1 hX2 hX3
  refine V_aload_n hf dJ4_init_da8c8_0 rfl rfl ?_
  refine V_bipush hf dJ4_init_da8c8_1 (by decide +kernel) ?_
  refine V_callI hf (As := [_]) (k_J5 hl0 E h0 hn) cic_J4_1 rfl (Nat.le_of_ble_eq_true rfl) ⟨rfl, rfl, (Nat.le_of_ble_eq_true rfl), (Nat.le_of_ble_eq_true rfl), by simp only [rmd]; omega, by simp only [rmd]; omega⟩ dJ4_init_da8c8_3 ?_ ?_
  · rintro r ad' E' ⟨q1, q2, q3, q4⟩
    cases q1
    exact V_vret hf he dJ4_init_da8c8_6 (by omega) (by omega) ⟨rfl, q2, q3, q4⟩
  · rintro En ad' E' ⟨q1, -⟩
    cases q1
theorem cic_X0_3 : CI RX0 3 yX5_init cX5_init 2 1 := ⟨wl_X0_3, wi_X5_init, wn_X5, wc_X5_init, rfl, by decide, by decide, by decide +kernel⟩
set_option maxHeartbeats 4000000 in
set_option maxRecDepth 100000 in
theorem k_X0 {l : Launch} {D : va_G} {K : Nat → ClassId} {ad : Adr} (hl0 : l.stackTraces = false) (g : Int) (E : Dic) (h0 : E g 6 = some (.inr (4, [.int (iN 0), .int (iN 0), .null, .null, .null, .null, .null]))) (hn : ∀ j : Nat, 6 < j → j ≤ 11 → E g j = none) : Ctr l yX0_init (.code yX0_init cX0_init 1 none) (rmd 2 5 50) 5 50 D K ad E [.ref (ad g 6)] (Pn K g 6 11 ad E) := by
  refine Ctr.of (own := RX0) (ls0 := [some (.ref (ad g 6))]) (by decide) rfl hl0 (Nat.le_of_ble_eq_true rfl) rfl ?_
  intro X hX1 hX2 hX3 hf he hh hci
  subst hX1 hX2 hX3
  refine V_aload_n hf dX0_init_0 rfl rfl ?_
  refine V_bipush hf dX0_init_1 (by decide +kernel) ?_
  refine V_callI hf (As := [_]) (k_X5b hl0 g E h0 hn) cic_X0_3 rfl (Nat.le_of_ble_eq_true rfl) ⟨rfl, rfl, (Nat.le_of_ble_eq_true rfl), (Nat.le_of_ble_eq_true rfl), by simp only [rmd]; omega, by simp only [rmd]; omega⟩ dX0_init_3 ?_ ?_
  · rintro r ad' E' ⟨q1, q2, q3, q4⟩
    cases q1
    exact V_vret hf he dX0_init_6 (by omega) (by omega) ⟨rfl, q2, q3, q4⟩
  · rintro En ad' E' ⟨q1, -⟩
    cases q1
theorem cic_X4_3 : CI RX4 3 yX5_init cX5_init 2 1 := ⟨wl_X4_3, wi_X5_init, wn_X5, wc_X5_init, rfl, by decide, by decide, by decide +kernel⟩
set_option maxHeartbeats 4000000 in
set_option maxRecDepth 100000 in
theorem k_X4 {l : Launch} {D : va_G} {K : Nat → ClassId} {ad : Adr} (hl0 : l.stackTraces = false) (g : Int) (E : Dic) (h0 : E g 12 = some (.inr (8, [.int (iN 0), .int (iN 0), .null, .null, .null, .null, .null]))) (hn : ∀ j : Nat, 12 < j → j ≤ 17 → E g j = none) : Ctr l yX4_init (.code yX4_init cX4_init 1 none) (rmd 2 5 80) 5 80 D K ad E [.ref (ad g 12)] (Pn K g 12 17 ad E) := by
  refine Ctr.of (own := RX4) (ls0 := [some (.ref (ad g 12))]) (by decide) rfl hl0 (Nat.le_of_ble_eq_true rfl) rfl ?_
  intro X hX1 hX2 hX3 hf he hh hci
  subst hX1 hX2 hX3
  refine V_aload_n hf dX4_init_0 rfl rfl ?_
  refine V_bipush hf dX4_init_1 (by decide +kernel) ?_
  refine V_callI hf (As := [_]) (k_X5o hl0 g E h0 hn) cic_X4_3 rfl (Nat.le_of_ble_eq_true rfl) ⟨rfl, rfl, (Nat.le_of_ble_eq_true rfl), (Nat.le_of_ble_eq_true rfl), by simp only [rmd]; omega, by simp only [rmd]; omega⟩ dX4_init_3 ?_ ?_
  · rintro r ad' E' ⟨q1, q2, q3, q4⟩
    cases q1
    exact V_vret hf he dX4_init_6 (by omega) (by omega) ⟨rfl, q2, q3, q4⟩
  · rintro En ad' E' ⟨q1, -⟩
    cases q1
theorem cE_ad {ad ad' : Adr} {K : Nat → ClassId} {σ : Mem} {g : Int} {j : Nat} (h : 1 ≤ j ∧ j ≤ 22) (h1 : j = 1 → ∀ j' : Nat, 2 ≤ j' → j' ≤ 5 → ad' g j' = ad g j') (h6 : j = 6 → ∀ j' : Nat, 7 ≤ j' → j' ≤ 11 → ad' g j' = ad g j') (h12 : j = 12 → ∀ j' : Nat, 13 ≤ j' → j' ≤ 17 → ad' g j' = ad g j') (h18 : j = 18 → ∀ j' : Nat, 19 ≤ j' → j' ≤ 22 → ad' g j' = ad g j') : cE ad' K σ g j = cE ad K σ g j := by
  have hj : j = 1 ∨ j = 2 ∨ j = 3 ∨ j = 4 ∨ j = 5 ∨ j = 6 ∨ j = 7 ∨ j = 8 ∨ j = 9 ∨ j = 10 ∨ j = 11 ∨ j = 12 ∨ j = 13 ∨ j = 14 ∨ j = 15 ∨ j = 16 ∨ j = 17 ∨ j = 18 ∨ j = 19 ∨ j = 20 ∨ j = 21 ∨ j = 22 := by omega
  rcases hj with rfl | rfl | rfl | rfl | rfl | rfl | rfl | rfl | rfl | rfl | rfl | rfl | rfl | rfl | rfl | rfl | rfl | rfl | rfl | rfl | rfl | rfl
  · have a := h1 rfl
    simp only [cE, a 2 (by decide) (by decide), a 3 (by decide) (by decide), a 4 (by decide) (by decide), a 5 (by decide) (by decide)]
  all_goals first | rfl | skip
  · have a := h6 rfl
    simp only [cE, a 7 (by decide) (by decide), a 8 (by decide) (by decide), a 9 (by decide) (by decide), a 10 (by decide) (by decide), a 11 (by decide) (by decide)]
  · have a := h12 rfl
    simp only [cE, a 13 (by decide) (by decide), a 14 (by decide) (by decide), a 15 (by decide) (by decide), a 16 (by decide) (by decide), a 17 (by decide) (by decide)]
  · have a := h18 rfl
    simp only [cE, a 19 (by decide) (by decide), a 20 (by decide) (by decide), a 21 (by decide) (by decide), a 22 (by decide) (by decide)]
/-- a constructor's post, its places by a predicate -/
def Pq (P : Int → Nat → Prop) (g : Int) (j0 : Nat) (K : Nat → ClassId) (ad : Adr) (E : Dic) : Out → Adr → Dic → Prop := fun o ad' E' => o = .inl none ∧ (∀ (g' : Int) (j' : Nat), ¬ (P g' j' ∧ ¬ (g' = g ∧ j' = j0)) → ad' g' j' = ad g' j') ∧ (∀ (g' : Int) (j' : Nat), ¬ P g' j' → E' g' j' = E g' j') ∧ ∀ (g' : Int) (j' : Nat), P g' j' → E' g' j' = some (cE ad' K σI g' j')
def Pb (g : Int) (lo hi : Nat) : Int → Nat → Prop := fun g' j' => g' = g ∧ lo ≤ j' ∧ j' ≤ hi
def CA (own : String) (index : Nat) (y : MethodName) (bytes : ByteArray) (maxL : Nat) : Prop := CI own index y bytes maxL 0 ∨ ∃ host : String, CIN own index y host bytes maxL 0
theorem Pn.q {K : Nat → ClassId} {g : Int} {lo hi : Nat} {ad ad' : Adr} {E E' : Dic} {o : Out} (hl : lo ≤ hi) (h : Pn K g lo hi ad E o ad' E') : Pq (Pb g lo hi) g lo K ad E o ad' E' := by
  obtain ⟨h1, h2, h3, h4⟩ := h
  refine ⟨h1, fun g' j' q => h2 g' j' fun z => q ⟨⟨z.1, by omega, z.2.2⟩, by omega⟩, fun g' j' q => h3 g' j' q, fun g' j' q => ?_⟩
  obtain ⟨rfl, q1, q2⟩ := q
  exact h4 j' q1 q2
section VPT
variable {X : Cx} {own : String} {cc : ByteArray} {nL : Nat} {rm : Room} {ad : Adr} {E : Dic} {pc : Nat} {ls : Ls} {st : List Value} {cs ss : Nat}
theorem V_callA (hf : Cf X own cc nL rm) {index : Nat} {y : MethodName} {bytes : ByteArray} {maxL mc ms b : Nat} {rm2 : Room} {post : Out → Adr → Dic → Prop}
    (hM : Ctr (xl X) y (.code y bytes maxL none) rm2 mc ms (xD X) (xK X) ad E [.ref b] post) (hw : CA own index y bytes maxL) (hst : (st.map fun v => v.category).sum ≤ 8)
    (hrm : rm2.cells = mc ∧ rm2.slots = ms ∧ rm2.frames + 1 ≤ rm.frames ∧ 8 + (maxL + 11) + rm2.locals ≤ rm.locals ∧ cs + mc ≤ rm.cells ∧ ss + ms ≤ rm.slots)
    (hdg : decode cc pc = .ok (.invokespecial index, 3))
    (kk : ∀ (r : Option Value) (ad' : Adr) (E' : Dic), post (.inl r) ad' E' → V X ad' E' (pc + 3) ls (r.toList ++ st) (cs + mc) (ss + ms))
    (kx : ∀ (En : String) (ad' : Adr) (E' : Dic), post (.inr En) ad' E' → VX X ad' E' pc En ls st (cs + mc) (ss + ms)) : V X ad E pc ls (.ref b :: st) cs ss := by
  rcases hw with hw | ⟨host, hw⟩
  · exact V_callI hf (As := []) hM hw rfl hst hrm hdg kk kx
  · exact V_callIN hf (As := []) hM hw rfl hst hrm hdg kk kx
/-- new, dup, <init>, putfield -/
theorem V_part (hf : Cf X own cc nL rm) (hci : Ci X) {P : Int → Nat → Prop} {g gt : Int} {j0 jt : Nat} (hP0 : P g j0) (hPt : ¬ P gt jt) {iW iI iF : Nat} {C : String} {T : u_T} {N ci : Nat} {ty : Nat → FieldType} {fs : List Value}
    (hin : ∀ w ∈ u_ws C T N, w ∈ lw_good) (hty : ∀ k, k < N → parseFieldDescriptor (T k).2.2.1 = some (ty k)) (hcl : Cond.classLink own iW C ∈ lw_good) (hinst : Cond.instantiable C N ∈ lw_good) (hini : Cond.initialized C ∈ lw_good) (hc : vwCl[ci]? = some (C, T, N)) (hfs : ∀ j, j < N → defaultValue (ty j) = vp_V fs j)
    {y : MethodName} {bytes : ByteArray} {maxL mc ms : Nat} {rm2 : Room} {Po : Adr → Dic → Out → Adr → Dic → Prop} (hPo : ∀ (ad : Adr) (E : Dic) (o : Out) (ad' : Adr) (E' : Dic), Po ad E o ad' E' → Pq P g j0 (xK X) ad E o ad' E') (hw : CA own iI y bytes maxL)
    (hM : ∀ (ad : Adr) (E : Dic), E g j0 = some (.inr (ci, fs)) → (∀ (g' : Int) (j' : Nat), P g' j' → ¬ (g' = g ∧ j' = j0) → E g' j' = none) → Ctr (xl X) y (.code y bytes maxL none) rm2 mc ms (xD X) (xK X) ad E [.ref (ad g j0)] (Po ad E))
    {ci0 k : Nat} {fs0 : List Value} {tyF : FieldType} (H0 : E gt jt = some (.inr (ci0, fs0))) (hN : ∀ (g' : Int) (j' : Nat), P g' j' → E g' j' = none) (hF : FP own iF ci0 k true tyF) (hfit : ∀ v : Nat, narrow tyF (.ref v) = .ref v ∧ fits tyF (.ref v) = true) (hlen : k < fs0.length) {a : Nat} (ha : a = ad gt jt) (hst : (st.map fun v => v.category).sum ≤ 6)
    (hrm : rm2.cells = mc ∧ rm2.slots = ms ∧ rm2.frames + 1 ≤ rm.frames ∧ 8 + (maxL + 11) + rm2.locals ≤ rm.locals ∧ cs + 1 + mc ≤ rm.cells ∧ ss + N + ms ≤ rm.slots)
    (d0 : decode cc pc = .ok (.new iW, 3)) (d3 : decode cc (pc + 3) = .ok (.dup, 1)) (d4 : decode cc (pc + 4) = .ok (.invokespecial iI, 3)) (d7 : decode cc (pc + 7) = .ok (.putfield iF, 3))
    (kk : ∀ (ad' : Adr) (E' : Dic), (∀ (g' : Int) (j' : Nat), ¬ P g' j' → ad' g' j' = ad g' j') → (∀ (g' : Int) (j' : Nat), ¬ P g' j' → ¬ (g' = gt ∧ j' = jt) → E' g' j' = E g' j') → E' gt jt = some (.inr (ci0, fs0.set k (.ref (ad' g j0)))) → (∀ (g' : Int) (j' : Nat), P g' j' → E' g' j' = some (cE ad' (xK X) σI g' j')) → V X ad' E' (pc + 10) ls st (cs + 1 + mc) (ss + N + ms)) : V X ad E pc ls (.ref a :: st) cs ss := by
  subst ha
  have hne : ¬ (gt = g ∧ jt = j0) := fun q => hPt (by rw [q.1, q.2]; exact hP0)
  refine V_new hf hin hty hcl hinst hini hc hfs (hN g j0 hP0) ⟨by omega, by omega⟩ d0 (fun w => ?_)
  refine V_dup hf d3 rfl ?_
  have z := hM (ast ad g j0 w) (eset E g j0 (.inr (ci, fs))) eset_self (fun g' j' p q => (eset_ne q).trans (hN g' j' p))
  rw [ast_self] at z
  refine V_callA hf z hw (by show 1 + (1 + (st.map fun v => v.category).sum) ≤ 8; omega) ⟨hrm.1, hrm.2.1, hrm.2.2.1, hrm.2.2.2.1, hrm.2.2.2.2.1, hrm.2.2.2.2.2⟩ d4 ?_ ?_
  · intro r ad' E' q0
    obtain ⟨q1, q2, q3, q4⟩ := hPo _ _ _ _ _ q0
    cases q1
    have aw : ad' g j0 = w := (q2 g j0 (fun q => q.2 ⟨rfl, rfl⟩)).trans ast_self
    have at_ : ad gt jt = ad' gt jt := ((q2 gt jt (fun q => hPt q.1)).trans (ast_ne hne)).symm
    refine V_putFR hf hci at_ ((q3 gt jt hPt).trans ((eset_ne hne).trans H0)) hF (hfit w).1 (hfit w).2 hlen d7 ?_
    refine kk ad' _ (fun g' j' p => (q2 g' j' (fun q => p q.1)).trans (ast_ne fun q => p (by rw [q.1, q.2]; exact hP0))) (fun g' j' p q => (eset_ne q).trans ((q3 g' j' p).trans (eset_ne fun z => p (by rw [z.1, z.2]; exact hP0)))) (by rw [eset_self, aw]) (fun g' j' p => (eset_ne fun q => hPt (by rw [← q.1, ← q.2]; exact p)).trans (q4 g' j' p))
  · intro En ad' E' q0
    obtain ⟨q1, -⟩ := hPo _ _ _ _ _ q0
    cases q1
end VPT
