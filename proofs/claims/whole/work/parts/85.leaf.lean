/-! constructors of what holds no other object -/
/-- the memory that the constructors leave -/
def σI : Mem := fun _ j k => if j = 0 ∧ k = 4 then 1 else if j = 23 ∧ (k = 7 ∨ k = 8 ∨ k = 9 ∨ k = 10) then -1 else if j = 33 ∧ k = 0 then 16 else if j = 40 ∧ k = 7 then -1 else if j = 41 ∧ k = 6 then 1 else 0
/-- a constructor's post: the places from lo (the object itself) to hi are laid -/
def Pn (K : Nat → ClassId) (g : Int) (lo hi : Nat) (ad : Adr) (E : Dic) : Out → Adr → Dic → Prop := fun o ad' E' => o = .inl none ∧ (∀ (g' : Int) (j' : Nat), ¬ (g' = g ∧ lo < j' ∧ j' ≤ hi) → ad' g' j' = ad g' j') ∧ (∀ (g' : Int) (j' : Nat), ¬ (g' = g ∧ lo ≤ j' ∧ j' ≤ hi) → E' g' j' = E g' j') ∧ ∀ j' : Nat, lo ≤ j' → j' ≤ hi → E' g j' = some (cE ad' K σI g j')
section VP
variable {X : Cx} {own : String} {cc : ByteArray} {nL : Nat} {rm : Room} {ad : Adr} {E : Dic} {pc : Nat} {ls : Ls} {st : List Value} {cs ss : Nat}
theorem V_putR (hf : Cf X own cc nL rm) {g : Int} {j ci k idx a : Nat} {fs : List Value} {v : Value} {ty : FieldType} (ha : a = ad g j) (hE : E g j = some (.inr (ci, fs))) (hF : FP own idx ci k false ty) (hn : narrow ty v = v) (hfit : fits ty v = true) (hlen : k < fs.length) (hdg : decode cc pc = .ok (.putfield idx, 3)) (kk : V X ad (eset E g j (.inr (ci, fs.set k v))) (pc + 3) ls st cs ss) : V X ad E pc ls (v :: .ref a :: st) cs ss := by
  subst ha
  exact V_put hf hE hF hn hfit hlen hdg kk
theorem V_putFR (hf : Cf X own cc nL rm) (hci : Ci X) {g : Int} {j ci k idx a : Nat} {fs : List Value} {v : Value} {ty : FieldType} (ha : a = ad g j) (hE : E g j = some (.inr (ci, fs))) (hF : FP own idx ci k true ty) (hn : narrow ty v = v) (hfit : fits ty v = true) (hlen : k < fs.length) (hdg : decode cc pc = .ok (.putfield idx, 3)) (kk : V X ad (eset E g j (.inr (ci, fs.set k v))) (pc + 3) ls st cs ss) : V X ad E pc ls (v :: .ref a :: st) cs ss := by
  subst ha
  exact V_putF hf hci hE hF hn hfit hlen hdg kk
end VP
theorem fi_X1_9_5 : FP RX1 9 5 0 false .int := ⟨"BarnacleExchange$Fleet", RX1, TX1, 6, tyX1, rfl, by decide, cw_X1, lg_t 54 (by decide +kernel) (by decide +kernel), Or.inl rfl, tyX1_ok, nmX1, rfl, by decide +kernel, fun _ => rfl⟩
theorem fi_X1_15_5 : FP RX1 15 5 1 true (.array .int) := ⟨"BarnacleExchange$Fleet", RX1, TX1, 6, tyX1, rfl, by decide, cw_X1, lg_t 57 (by decide +kernel) (by decide +kernel), Or.inl rfl, tyX1_ok, nmX1, rfl, by decide +kernel, fun _ => rfl⟩
theorem fi_X1_19_5 : FP RX1 19 5 2 true (.array .int) := ⟨"BarnacleExchange$Fleet", RX1, TX1, 6, tyX1, rfl, by decide, cw_X1, lg_t 60 (by decide +kernel) (by decide +kernel), Or.inl rfl, tyX1_ok, nmX1, rfl, by decide +kernel, fun _ => rfl⟩
theorem fi_X1_22_5 : FP RX1 22 5 3 false .int := ⟨"BarnacleExchange$Fleet", RX1, TX1, 6, tyX1, rfl, by decide, cw_X1, lg_t 63 (by decide +kernel) (by decide +kernel), Or.inl rfl, tyX1_ok, nmX1, rfl, by decide +kernel, fun _ => rfl⟩
theorem fi_X1_25_5 : FP RX1 25 5 4 true (.array .int) := ⟨"BarnacleExchange$Fleet", RX1, TX1, 6, tyX1, rfl, by decide, cw_X1, lg_t 66 (by decide +kernel) (by decide +kernel), Or.inl rfl, tyX1_ok, nmX1, rfl, by decide +kernel, fun _ => rfl⟩
theorem fi_X1_28_5 : FP RX1 28 5 5 true (.array .int) := ⟨"BarnacleExchange$Fleet", RX1, TX1, 6, tyX1, rfl, by decide, cw_X1, lg_t 69 (by decide +kernel) (by decide +kernel), Or.inl rfl, tyX1_ok, nmX1, rfl, by decide +kernel, fun _ => rfl⟩
set_option maxHeartbeats 4000000 in
set_option maxRecDepth 100000 in
theorem k_X1 {l : Launch} {D : va_G} {K : Nat → ClassId} {ad : Adr} (hl0 : l.stackTraces = false) (g : Int) (E : Dic) (h0 : E g 1 = some (.inr (5, [.int (iN 0), .null, .null, .int (iN 0), .null, .null]))) (hn : ∀ j : Nat, 1 < j → j ≤ 5 → E g j = none) : Ctr l yX1_init (.code yX1_init cX1_init 1 none) (rmd 1 4 44) 4 44 D K ad E [.ref (ad g 1)] (Pn K g 1 5 ad E) := by
  refine Ctr.of (own := RX1) (ls0 := [some (.ref (ad g 1))]) (by decide) rfl hl0 (Nat.le_of_ble_eq_true rfl) rfl ?_
  intro X hX1 hX2 hX3 hf he hh hci
  subst hX1 hX2 hX3
  have hci2 : Ci X := hci rfl
  have hn2 := hn 2 (by decide) (by decide)
  have hn3 := hn 3 (by decide) (by decide)
  have hn4 := hn 4 (by decide) (by decide)
  have hn5 := hn 5 (by decide) (by decide)
  refine V_aload_n hf dX1_init_0 rfl rfl ?_
  refine V_obj hf wl_X1_3 (Nat.le_of_ble_eq_true rfl) ⟨(Nat.le_of_ble_eq_true rfl), (Nat.le_of_ble_eq_true rfl)⟩ dX1_init_1 ?_
  refine V_aload_n hf dX1_init_4 rfl rfl ?_
  refine V_iconst hf dX1_init_5 ?_
  refine V_putR hf (g := g) (j := 1) (by repeat (first | rw [ast_self] | rw [ast_ne (by omega)] | rfl)) (by repeat (first | rw [eset_self] | rw [eset_ne (by omega)] | assumption)) fi_X1_9_5 rfl rfl (Nat.le_of_ble_eq_true rfl) dX1_init_6 ?_
  refine V_aload_n hf dX1_init_9 rfl rfl ?_
  refine V_bipush hf dX1_init_10 (by decide +kernel) ?_
  refine V_newa hf (ty := .int) (t := 0) (n := 6) (g := g) (j := 2) (a0 := (6, .inl (fun _ => iN 0))) rfl rfl wac_int rfl (by repeat (first | rw [eset_self] | rw [eset_ne (by omega)] | assumption)) ⟨by decide, by decide⟩ (by decide) rfl (by decide) (fun _ => by rw [iN_0]; rfl) ⟨by simp only [rmd]; omega, by simp only [rmd]; omega⟩ dX1_init_12 (fun v2 => ?_)
  refine V_putFR hf hci2 (g := g) (j := 1) (by repeat (first | rw [ast_self] | rw [ast_ne (by omega)] | rfl)) (by repeat (first | rw [eset_self] | rw [eset_ne (by omega)] | assumption)) fi_X1_15_5 rfl rfl (Nat.le_of_ble_eq_true rfl) dX1_init_14 ?_
  refine V_aload_n hf dX1_init_17 rfl rfl ?_
  refine V_bipush hf dX1_init_18 (by decide +kernel) ?_
  refine V_newa hf (ty := .int) (t := 0) (n := 6) (g := g) (j := 3) (a0 := (6, .inl (fun _ => iN 0))) rfl rfl wac_int rfl (by repeat (first | rw [eset_self] | rw [eset_ne (by omega)] | assumption)) ⟨by decide, by decide⟩ (by decide) rfl (by decide) (fun _ => by rw [iN_0]; rfl) ⟨by simp only [rmd]; omega, by simp only [rmd]; omega⟩ dX1_init_20 (fun v3 => ?_)
  refine V_putFR hf hci2 (g := g) (j := 1) (by repeat (first | rw [ast_self] | rw [ast_ne (by omega)] | rfl)) (by repeat (first | rw [eset_self] | rw [eset_ne (by omega)] | assumption)) fi_X1_19_5 rfl rfl (Nat.le_of_ble_eq_true rfl) dX1_init_22 ?_
  refine V_aload_n hf dX1_init_25 rfl rfl ?_
  refine V_iconst hf dX1_init_26 ?_
  refine V_putR hf (g := g) (j := 1) (by repeat (first | rw [ast_self] | rw [ast_ne (by omega)] | rfl)) (by repeat (first | rw [eset_self] | rw [eset_ne (by omega)] | assumption)) fi_X1_22_5 rfl rfl (Nat.le_of_ble_eq_true rfl) dX1_init_27 ?_
  refine V_aload_n hf dX1_init_30 rfl rfl ?_
  refine V_bipush hf dX1_init_31 (by decide +kernel) ?_
  refine V_newa hf (ty := .int) (t := 0) (n := 16) (g := g) (j := 4) (a0 := (16, .inl (fun _ => iN 0))) rfl rfl wac_int rfl (by repeat (first | rw [eset_self] | rw [eset_ne (by omega)] | assumption)) ⟨by decide, by decide⟩ (by decide) rfl (by decide) (fun _ => by rw [iN_0]; rfl) ⟨by simp only [rmd]; omega, by simp only [rmd]; omega⟩ dX1_init_33 (fun v4 => ?_)
  refine V_putFR hf hci2 (g := g) (j := 1) (by repeat (first | rw [ast_self] | rw [ast_ne (by omega)] | rfl)) (by repeat (first | rw [eset_self] | rw [eset_ne (by omega)] | assumption)) fi_X1_25_5 rfl rfl (Nat.le_of_ble_eq_true rfl) dX1_init_35 ?_
  refine V_aload_n hf dX1_init_38 rfl rfl ?_
  refine V_bipush hf dX1_init_39 (by decide +kernel) ?_
  refine V_newa hf (ty := .int) (t := 0) (n := 16) (g := g) (j := 5) (a0 := (16, .inl (fun _ => iN 0))) rfl rfl wac_int rfl (by repeat (first | rw [eset_self] | rw [eset_ne (by omega)] | assumption)) ⟨by decide, by decide⟩ (by decide) rfl (by decide) (fun _ => by rw [iN_0]; rfl) ⟨by simp only [rmd]; omega, by simp only [rmd]; omega⟩ dX1_init_41 (fun v5 => ?_)
  refine V_putFR hf hci2 (g := g) (j := 1) (by repeat (first | rw [ast_self] | rw [ast_ne (by omega)] | rfl)) (by repeat (first | rw [eset_self] | rw [eset_ne (by omega)] | assumption)) fi_X1_28_5 rfl rfl (Nat.le_of_ble_eq_true rfl) dX1_init_43 ?_
  refine V_vret hf he dX1_init_46 (by omega) (by omega) ⟨rfl, fun g' j' hq => ?_, fun g' j' hq => ?_, fun j' q1 q2 => ?_⟩
  · repeat (first | rw [ast_ne (by omega)])
  · repeat (first | rw [eset_ne (by omega)])
  · have hj : j' = 1 ∨ j' = 2 ∨ j' = 3 ∨ j' = 4 ∨ j' = 5 := by omega
    rcases hj with rfl | rfl | rfl | rfl | rfl
    all_goals simp [eset, cE, ast, σI]
theorem fi_X5_9_4 : FP RX5 9 4 0 false .int := ⟨"BarnacleExchange$OrderBook", RX0, TX0, 7, tyX0, rfl, by decide, cw_X0, lg_t 95 (by decide +kernel) (by decide +kernel), Or.inl rfl, tyX0_ok, nmX0, rfl, by decide +kernel, fun _ => rfl⟩
theorem fi_X5_15_4 : FP RX5 15 4 1 false .int := ⟨"BarnacleExchange$OrderBook", RX0, TX0, 7, tyX0, rfl, by decide, cw_X0, lg_t 98 (by decide +kernel) (by decide +kernel), Or.inl rfl, tyX0_ok, nmX0, rfl, by decide +kernel, fun _ => rfl⟩
theorem fi_X5_18_4 : FP RX5 18 4 2 true (.array .int) := ⟨"BarnacleExchange$OrderBook", RX0, TX0, 7, tyX0, rfl, by decide, cw_X0, lg_t 99 (by decide +kernel) (by decide +kernel), Or.inl rfl, tyX0_ok, nmX0, rfl, by decide +kernel, fun _ => rfl⟩
theorem fi_X5_22_4 : FP RX5 22 4 3 true (.array .int) := ⟨"BarnacleExchange$OrderBook", RX0, TX0, 7, tyX0, rfl, by decide, cw_X0, lg_t 102 (by decide +kernel) (by decide +kernel), Or.inl rfl, tyX0_ok, nmX0, rfl, by decide +kernel, fun _ => rfl⟩
theorem fi_X5_25_4 : FP RX5 25 4 4 true (.array .int) := ⟨"BarnacleExchange$OrderBook", RX0, TX0, 7, tyX0, rfl, by decide, cw_X0, lg_t 105 (by decide +kernel) (by decide +kernel), Or.inl rfl, tyX0_ok, nmX0, rfl, by decide +kernel, fun _ => rfl⟩
theorem fi_X5_28_4 : FP RX5 28 4 5 true (.array .int) := ⟨"BarnacleExchange$OrderBook", RX0, TX0, 7, tyX0, rfl, by decide, cw_X0, lg_t 110 (by decide +kernel) (by decide +kernel), Or.inl rfl, tyX0_ok, nmX0, rfl, by decide +kernel, fun _ => rfl⟩
theorem fi_X5_31_4 : FP RX5 31 4 6 true (.array .int) := ⟨"BarnacleExchange$OrderBook", RX0, TX0, 7, tyX0, rfl, by decide, cw_X0, lg_t 117 (by decide +kernel) (by decide +kernel), Or.inl rfl, tyX0_ok, nmX0, rfl, by decide +kernel, fun _ => rfl⟩
set_option maxHeartbeats 4000000 in
set_option maxRecDepth 100000 in
theorem k_X5b {l : Launch} {D : va_G} {K : Nat → ClassId} {ad : Adr} (hl0 : l.stackTraces = false) (g : Int) (E : Dic) (h0 : E g 6 = some (.inr (4, [.int (iN 0), .int (iN 0), .null, .null, .null, .null, .null]))) (hn : ∀ j : Nat, 6 < j → j ≤ 11 → E g j = none) : Ctr l yX5_init (.code yX5_init cX5_init 2 none) (rmd 1 5 50) 5 50 D K ad E [.ref (ad g 6), .int (iN 10)] (Pn K g 6 11 ad E) := by
  refine Ctr.of (own := RX5) (ls0 := [some (.ref (ad g 6)), some (.int (iN 10))]) (by decide) rfl hl0 (Nat.le_of_ble_eq_true rfl) rfl ?_
  intro X hX1 hX2 hX3 hf he hh hci
  subst hX1 hX2 hX3
  have hci2 : Ci X := hci rfl
  have hn7 := hn 7 (by decide) (by decide)
  have hn8 := hn 8 (by decide) (by decide)
  have hn9 := hn 9 (by decide) (by decide)
  have hn10 := hn 10 (by decide) (by decide)
  have hn11 := hn 11 (by decide) (by decide)
  refine V_aload_n hf dX5_init_0 rfl rfl ?_
  refine V_obj hf wl_X5_3 (Nat.le_of_ble_eq_true rfl) ⟨(Nat.le_of_ble_eq_true rfl), (Nat.le_of_ble_eq_true rfl)⟩ dX5_init_1 ?_
  refine V_aload_n hf dX5_init_4 rfl rfl ?_
  refine V_iconst hf dX5_init_5 ?_
  refine V_putR hf (g := g) (j := 6) (by repeat (first | rw [ast_self] | rw [ast_ne (by omega)] | rfl)) (by repeat (first | rw [eset_self] | rw [eset_ne (by omega)] | assumption)) fi_X5_9_4 rfl rfl (Nat.le_of_ble_eq_true rfl) dX5_init_6 ?_
  refine V_aload_n hf dX5_init_9 rfl rfl ?_
  refine V_iconst hf dX5_init_10 ?_
  refine V_putR hf (g := g) (j := 6) (by repeat (first | rw [ast_self] | rw [ast_ne (by omega)] | rfl)) (by repeat (first | rw [eset_self] | rw [eset_ne (by omega)] | assumption)) fi_X5_15_4 rfl rfl (Nat.le_of_ble_eq_true rfl) dX5_init_11 ?_
  refine V_aload_n hf dX5_init_14 rfl rfl ?_
  refine V_iload_n hf dX5_init_15 rfl rfl ?_
  refine V_newa hf (ty := .int) (t := 0) (n := 10) (g := g) (j := 7) (a0 := (10, .inl (fun _ => iN 0))) rfl rfl wac_int rfl (by repeat (first | rw [eset_self] | rw [eset_ne (by omega)] | assumption)) ⟨by decide, by decide⟩ (by decide) rfl (by decide) (fun _ => by rw [iN_0]; rfl) ⟨by simp only [rmd]; omega, by simp only [rmd]; omega⟩ dX5_init_16 (fun v7 => ?_)
  refine V_putFR hf hci2 (g := g) (j := 6) (by repeat (first | rw [ast_self] | rw [ast_ne (by omega)] | rfl)) (by repeat (first | rw [eset_self] | rw [eset_ne (by omega)] | assumption)) fi_X5_18_4 rfl rfl (Nat.le_of_ble_eq_true rfl) dX5_init_18 ?_
  refine V_aload_n hf dX5_init_21 rfl rfl ?_
  refine V_iload_n hf dX5_init_22 rfl rfl ?_
  refine V_newa hf (ty := .int) (t := 0) (n := 10) (g := g) (j := 8) (a0 := (10, .inl (fun _ => iN 0))) rfl rfl wac_int rfl (by repeat (first | rw [eset_self] | rw [eset_ne (by omega)] | assumption)) ⟨by decide, by decide⟩ (by decide) rfl (by decide) (fun _ => by rw [iN_0]; rfl) ⟨by simp only [rmd]; omega, by simp only [rmd]; omega⟩ dX5_init_23 (fun v8 => ?_)
  refine V_putFR hf hci2 (g := g) (j := 6) (by repeat (first | rw [ast_self] | rw [ast_ne (by omega)] | rfl)) (by repeat (first | rw [eset_self] | rw [eset_ne (by omega)] | assumption)) fi_X5_22_4 rfl rfl (Nat.le_of_ble_eq_true rfl) dX5_init_25 ?_
  refine V_aload_n hf dX5_init_28 rfl rfl ?_
  refine V_iload_n hf dX5_init_29 rfl rfl ?_
  refine V_newa hf (ty := .int) (t := 0) (n := 10) (g := g) (j := 9) (a0 := (10, .inl (fun _ => iN 0))) rfl rfl wac_int rfl (by repeat (first | rw [eset_self] | rw [eset_ne (by omega)] | assumption)) ⟨by decide, by decide⟩ (by decide) rfl (by decide) (fun _ => by rw [iN_0]; rfl) ⟨by simp only [rmd]; omega, by simp only [rmd]; omega⟩ dX5_init_30 (fun v9 => ?_)
  refine V_putFR hf hci2 (g := g) (j := 6) (by repeat (first | rw [ast_self] | rw [ast_ne (by omega)] | rfl)) (by repeat (first | rw [eset_self] | rw [eset_ne (by omega)] | assumption)) fi_X5_25_4 rfl rfl (Nat.le_of_ble_eq_true rfl) dX5_init_32 ?_
  refine V_aload_n hf dX5_init_35 rfl rfl ?_
  refine V_iload_n hf dX5_init_36 rfl rfl ?_
  refine V_newa hf (ty := .int) (t := 0) (n := 10) (g := g) (j := 10) (a0 := (10, .inl (fun _ => iN 0))) rfl rfl wac_int rfl (by repeat (first | rw [eset_self] | rw [eset_ne (by omega)] | assumption)) ⟨by decide, by decide⟩ (by decide) rfl (by decide) (fun _ => by rw [iN_0]; rfl) ⟨by simp only [rmd]; omega, by simp only [rmd]; omega⟩ dX5_init_37 (fun v10 => ?_)
  refine V_putFR hf hci2 (g := g) (j := 6) (by repeat (first | rw [ast_self] | rw [ast_ne (by omega)] | rfl)) (by repeat (first | rw [eset_self] | rw [eset_ne (by omega)] | assumption)) fi_X5_28_4 rfl rfl (Nat.le_of_ble_eq_true rfl) dX5_init_39 ?_
  refine V_aload_n hf dX5_init_42 rfl rfl ?_
  refine V_iload_n hf dX5_init_43 rfl rfl ?_
  refine V_newa hf (ty := .int) (t := 0) (n := 10) (g := g) (j := 11) (a0 := (10, .inl (fun _ => iN 0))) rfl rfl wac_int rfl (by repeat (first | rw [eset_self] | rw [eset_ne (by omega)] | assumption)) ⟨by decide, by decide⟩ (by decide) rfl (by decide) (fun _ => by rw [iN_0]; rfl) ⟨by simp only [rmd]; omega, by simp only [rmd]; omega⟩ dX5_init_44 (fun v11 => ?_)
  refine V_putFR hf hci2 (g := g) (j := 6) (by repeat (first | rw [ast_self] | rw [ast_ne (by omega)] | rfl)) (by repeat (first | rw [eset_self] | rw [eset_ne (by omega)] | assumption)) fi_X5_31_4 rfl rfl (Nat.le_of_ble_eq_true rfl) dX5_init_46 ?_
  refine V_vret hf he dX5_init_49 (by omega) (by omega) ⟨rfl, fun g' j' hq => ?_, fun g' j' hq => ?_, fun j' q1 q2 => ?_⟩
  · repeat (first | rw [ast_ne (by omega)])
  · repeat (first | rw [eset_ne (by omega)])
  · have hj : j' = 6 ∨ j' = 7 ∨ j' = 8 ∨ j' = 9 ∨ j' = 10 ∨ j' = 11 := by omega
    rcases hj with rfl | rfl | rfl | rfl | rfl | rfl
    all_goals simp [eset, cE, ast, σI]
theorem fi_X5_9_8 : FP RX5 9 8 0 false .int := ⟨"BarnacleExchange$OrderBook", RX4, TX4, 7, tyX4, rfl, by decide, cw_X4, lg_t 95 (by decide +kernel) (by decide +kernel), Or.inl rfl, tyX4_ok, nmX4, rfl, by decide +kernel, fun _ => rfl⟩
theorem fi_X5_15_8 : FP RX5 15 8 1 false .int := ⟨"BarnacleExchange$OrderBook", RX4, TX4, 7, tyX4, rfl, by decide, cw_X4, lg_t 98 (by decide +kernel) (by decide +kernel), Or.inl rfl, tyX4_ok, nmX4, rfl, by decide +kernel, fun _ => rfl⟩
theorem fi_X5_18_8 : FP RX5 18 8 2 true (.array .int) := ⟨"BarnacleExchange$OrderBook", RX4, TX4, 7, tyX4, rfl, by decide, cw_X4, lg_t 99 (by decide +kernel) (by decide +kernel), Or.inl rfl, tyX4_ok, nmX4, rfl, by decide +kernel, fun _ => rfl⟩
theorem fi_X5_22_8 : FP RX5 22 8 3 true (.array .int) := ⟨"BarnacleExchange$OrderBook", RX4, TX4, 7, tyX4, rfl, by decide, cw_X4, lg_t 102 (by decide +kernel) (by decide +kernel), Or.inl rfl, tyX4_ok, nmX4, rfl, by decide +kernel, fun _ => rfl⟩
theorem fi_X5_25_8 : FP RX5 25 8 4 true (.array .int) := ⟨"BarnacleExchange$OrderBook", RX4, TX4, 7, tyX4, rfl, by decide, cw_X4, lg_t 105 (by decide +kernel) (by decide +kernel), Or.inl rfl, tyX4_ok, nmX4, rfl, by decide +kernel, fun _ => rfl⟩
theorem fi_X5_28_8 : FP RX5 28 8 5 true (.array .int) := ⟨"BarnacleExchange$OrderBook", RX4, TX4, 7, tyX4, rfl, by decide, cw_X4, lg_t 110 (by decide +kernel) (by decide +kernel), Or.inl rfl, tyX4_ok, nmX4, rfl, by decide +kernel, fun _ => rfl⟩
theorem fi_X5_31_8 : FP RX5 31 8 6 true (.array .int) := ⟨"BarnacleExchange$OrderBook", RX4, TX4, 7, tyX4, rfl, by decide, cw_X4, lg_t 117 (by decide +kernel) (by decide +kernel), Or.inl rfl, tyX4_ok, nmX4, rfl, by decide +kernel, fun _ => rfl⟩
set_option maxHeartbeats 4000000 in
set_option maxRecDepth 100000 in
theorem k_X5o {l : Launch} {D : va_G} {K : Nat → ClassId} {ad : Adr} (hl0 : l.stackTraces = false) (g : Int) (E : Dic) (h0 : E g 12 = some (.inr (8, [.int (iN 0), .int (iN 0), .null, .null, .null, .null, .null]))) (hn : ∀ j : Nat, 12 < j → j ≤ 17 → E g j = none) : Ctr l yX5_init (.code yX5_init cX5_init 2 none) (rmd 1 5 80) 5 80 D K ad E [.ref (ad g 12), .int (iN 16)] (Pn K g 12 17 ad E) := by
  refine Ctr.of (own := RX5) (ls0 := [some (.ref (ad g 12)), some (.int (iN 16))]) (by decide) rfl hl0 (Nat.le_of_ble_eq_true rfl) rfl ?_
  intro X hX1 hX2 hX3 hf he hh hci
  subst hX1 hX2 hX3
  have hci2 : Ci X := hci rfl
  have hn13 := hn 13 (by decide) (by decide)
  have hn14 := hn 14 (by decide) (by decide)
  have hn15 := hn 15 (by decide) (by decide)
  have hn16 := hn 16 (by decide) (by decide)
  have hn17 := hn 17 (by decide) (by decide)
  refine V_aload_n hf dX5_init_0 rfl rfl ?_
  refine V_obj hf wl_X5_3 (Nat.le_of_ble_eq_true rfl) ⟨(Nat.le_of_ble_eq_true rfl), (Nat.le_of_ble_eq_true rfl)⟩ dX5_init_1 ?_
  refine V_aload_n hf dX5_init_4 rfl rfl ?_
  refine V_iconst hf dX5_init_5 ?_
  refine V_putR hf (g := g) (j := 12) (by repeat (first | rw [ast_self] | rw [ast_ne (by omega)] | rfl)) (by repeat (first | rw [eset_self] | rw [eset_ne (by omega)] | assumption)) fi_X5_9_8 rfl rfl (Nat.le_of_ble_eq_true rfl) dX5_init_6 ?_
  refine V_aload_n hf dX5_init_9 rfl rfl ?_
  refine V_iconst hf dX5_init_10 ?_
  refine V_putR hf (g := g) (j := 12) (by repeat (first | rw [ast_self] | rw [ast_ne (by omega)] | rfl)) (by repeat (first | rw [eset_self] | rw [eset_ne (by omega)] | assumption)) fi_X5_15_8 rfl rfl (Nat.le_of_ble_eq_true rfl) dX5_init_11 ?_
  refine V_aload_n hf dX5_init_14 rfl rfl ?_
  refine V_iload_n hf dX5_init_15 rfl rfl ?_
  refine V_newa hf (ty := .int) (t := 0) (n := 16) (g := g) (j := 13) (a0 := (16, .inl (fun _ => iN 0))) rfl rfl wac_int rfl (by repeat (first | rw [eset_self] | rw [eset_ne (by omega)] | assumption)) ⟨by decide, by decide⟩ (by decide) rfl (by decide) (fun _ => by rw [iN_0]; rfl) ⟨by simp only [rmd]; omega, by simp only [rmd]; omega⟩ dX5_init_16 (fun v13 => ?_)
  refine V_putFR hf hci2 (g := g) (j := 12) (by repeat (first | rw [ast_self] | rw [ast_ne (by omega)] | rfl)) (by repeat (first | rw [eset_self] | rw [eset_ne (by omega)] | assumption)) fi_X5_18_8 rfl rfl (Nat.le_of_ble_eq_true rfl) dX5_init_18 ?_
  refine V_aload_n hf dX5_init_21 rfl rfl ?_
  refine V_iload_n hf dX5_init_22 rfl rfl ?_
  refine V_newa hf (ty := .int) (t := 0) (n := 16) (g := g) (j := 14) (a0 := (16, .inl (fun _ => iN 0))) rfl rfl wac_int rfl (by repeat (first | rw [eset_self] | rw [eset_ne (by omega)] | assumption)) ⟨by decide, by decide⟩ (by decide) rfl (by decide) (fun _ => by rw [iN_0]; rfl) ⟨by simp only [rmd]; omega, by simp only [rmd]; omega⟩ dX5_init_23 (fun v14 => ?_)
  refine V_putFR hf hci2 (g := g) (j := 12) (by repeat (first | rw [ast_self] | rw [ast_ne (by omega)] | rfl)) (by repeat (first | rw [eset_self] | rw [eset_ne (by omega)] | assumption)) fi_X5_22_8 rfl rfl (Nat.le_of_ble_eq_true rfl) dX5_init_25 ?_
  refine V_aload_n hf dX5_init_28 rfl rfl ?_
  refine V_iload_n hf dX5_init_29 rfl rfl ?_
  refine V_newa hf (ty := .int) (t := 0) (n := 16) (g := g) (j := 15) (a0 := (16, .inl (fun _ => iN 0))) rfl rfl wac_int rfl (by repeat (first | rw [eset_self] | rw [eset_ne (by omega)] | assumption)) ⟨by decide, by decide⟩ (by decide) rfl (by decide) (fun _ => by rw [iN_0]; rfl) ⟨by simp only [rmd]; omega, by simp only [rmd]; omega⟩ dX5_init_30 (fun v15 => ?_)
  refine V_putFR hf hci2 (g := g) (j := 12) (by repeat (first | rw [ast_self] | rw [ast_ne (by omega)] | rfl)) (by repeat (first | rw [eset_self] | rw [eset_ne (by omega)] | assumption)) fi_X5_25_8 rfl rfl (Nat.le_of_ble_eq_true rfl) dX5_init_32 ?_
  refine V_aload_n hf dX5_init_35 rfl rfl ?_
  refine V_iload_n hf dX5_init_36 rfl rfl ?_
  refine V_newa hf (ty := .int) (t := 0) (n := 16) (g := g) (j := 16) (a0 := (16, .inl (fun _ => iN 0))) rfl rfl wac_int rfl (by repeat (first | rw [eset_self] | rw [eset_ne (by omega)] | assumption)) ⟨by decide, by decide⟩ (by decide) rfl (by decide) (fun _ => by rw [iN_0]; rfl) ⟨by simp only [rmd]; omega, by simp only [rmd]; omega⟩ dX5_init_37 (fun v16 => ?_)
  refine V_putFR hf hci2 (g := g) (j := 12) (by repeat (first | rw [ast_self] | rw [ast_ne (by omega)] | rfl)) (by repeat (first | rw [eset_self] | rw [eset_ne (by omega)] | assumption)) fi_X5_28_8 rfl rfl (Nat.le_of_ble_eq_true rfl) dX5_init_39 ?_
  refine V_aload_n hf dX5_init_42 rfl rfl ?_
  refine V_iload_n hf dX5_init_43 rfl rfl ?_
  refine V_newa hf (ty := .int) (t := 0) (n := 16) (g := g) (j := 17) (a0 := (16, .inl (fun _ => iN 0))) rfl rfl wac_int rfl (by repeat (first | rw [eset_self] | rw [eset_ne (by omega)] | assumption)) ⟨by decide, by decide⟩ (by decide) rfl (by decide) (fun _ => by rw [iN_0]; rfl) ⟨by simp only [rmd]; omega, by simp only [rmd]; omega⟩ dX5_init_44 (fun v17 => ?_)
  refine V_putFR hf hci2 (g := g) (j := 12) (by repeat (first | rw [ast_self] | rw [ast_ne (by omega)] | rfl)) (by repeat (first | rw [eset_self] | rw [eset_ne (by omega)] | assumption)) fi_X5_31_8 rfl rfl (Nat.le_of_ble_eq_true rfl) dX5_init_46 ?_
  refine V_vret hf he dX5_init_49 (by omega) (by omega) ⟨rfl, fun g' j' hq => ?_, fun g' j' hq => ?_, fun j' q1 q2 => ?_⟩
  · repeat (first | rw [ast_ne (by omega)])
  · repeat (first | rw [eset_ne (by omega)])
  · have hj : j' = 12 ∨ j' = 13 ∨ j' = 14 ∨ j' = 15 ∨ j' = 16 ∨ j' = 17 := by omega
    rcases hj with rfl | rfl | rfl | rfl | rfl | rfl
    all_goals simp [eset, cE, ast, σI]
theorem fi_X7_7_10 : FP RX7 7 10 0 false .int := ⟨"BarnacleExchange$TradeLog", RX7, TX7, 6, tyX7, rfl, by decide, cw_X7, lg_t 154 (by decide +kernel) (by decide +kernel), Or.inl rfl, tyX7_ok, nmX7, rfl, by decide +kernel, fun _ => rfl⟩
theorem fi_X7_13_10 : FP RX7 13 10 1 false .int := ⟨"BarnacleExchange$TradeLog", RX7, TX7, 6, tyX7, rfl, by decide, cw_X7, lg_t 157 (by decide +kernel) (by decide +kernel), Or.inl rfl, tyX7_ok, nmX7, rfl, by decide +kernel, fun _ => rfl⟩
theorem fi_X7_16_10 : FP RX7 16 10 2 true (.array .int) := ⟨"BarnacleExchange$TradeLog", RX7, TX7, 6, tyX7, rfl, by decide, cw_X7, lg_t 159 (by decide +kernel) (by decide +kernel), Or.inl rfl, tyX7_ok, nmX7, rfl, by decide +kernel, fun _ => rfl⟩
theorem fi_X7_20_10 : FP RX7 20 10 3 true (.array .int) := ⟨"BarnacleExchange$TradeLog", RX7, TX7, 6, tyX7, rfl, by decide, cw_X7, lg_t 161 (by decide +kernel) (by decide +kernel), Or.inl rfl, tyX7_ok, nmX7, rfl, by decide +kernel, fun _ => rfl⟩
theorem fi_X7_23_10 : FP RX7 23 10 4 true (.array .int) := ⟨"BarnacleExchange$TradeLog", RX7, TX7, 6, tyX7, rfl, by decide, cw_X7, lg_t 163 (by decide +kernel) (by decide +kernel), Or.inl rfl, tyX7_ok, nmX7, rfl, by decide +kernel, fun _ => rfl⟩
theorem fi_X7_26_10 : FP RX7 26 10 5 true (.array .int) := ⟨"BarnacleExchange$TradeLog", RX7, TX7, 6, tyX7, rfl, by decide, cw_X7, lg_t 165 (by decide +kernel) (by decide +kernel), Or.inl rfl, tyX7_ok, nmX7, rfl, by decide +kernel, fun _ => rfl⟩
set_option maxHeartbeats 4000000 in
set_option maxRecDepth 100000 in
theorem k_X7 {l : Launch} {D : va_G} {K : Nat → ClassId} {ad : Adr} (hl0 : l.stackTraces = false) (g : Int) (E : Dic) (h0 : E g 18 = some (.inr (10, [.int (iN 0), .int (iN 0), .null, .null, .null, .null]))) (hn : ∀ j : Nat, 18 < j → j ≤ 22 → E g j = none) : Ctr l yX7_init (.code yX7_init cX7_init 1 none) (rmd 1 4 40) 4 40 D K ad E [.ref (ad g 18)] (Pn K g 18 22 ad E) := by
  refine Ctr.of (own := RX7) (ls0 := [some (.ref (ad g 18))]) (by decide) rfl hl0 (Nat.le_of_ble_eq_true rfl) rfl ?_
  intro X hX1 hX2 hX3 hf he hh hci
  subst hX1 hX2 hX3
  have hci2 : Ci X := hci rfl
  have hn19 := hn 19 (by decide) (by decide)
  have hn20 := hn 20 (by decide) (by decide)
  have hn21 := hn 21 (by decide) (by decide)
  have hn22 := hn 22 (by decide) (by decide)
  refine V_aload_n hf dX7_init_0 rfl rfl ?_
  refine V_obj hf wl_X7_1 (Nat.le_of_ble_eq_true rfl) ⟨(Nat.le_of_ble_eq_true rfl), (Nat.le_of_ble_eq_true rfl)⟩ dX7_init_1 ?_
  refine V_aload_n hf dX7_init_4 rfl rfl ?_
  refine V_iconst hf dX7_init_5 ?_
  refine V_putR hf (g := g) (j := 18) (by repeat (first | rw [ast_self] | rw [ast_ne (by omega)] | rfl)) (by repeat (first | rw [eset_self] | rw [eset_ne (by omega)] | assumption)) fi_X7_7_10 rfl rfl (Nat.le_of_ble_eq_true rfl) dX7_init_6 ?_
  refine V_aload_n hf dX7_init_9 rfl rfl ?_
  refine V_iconst hf dX7_init_10 ?_
  refine V_putR hf (g := g) (j := 18) (by repeat (first | rw [ast_self] | rw [ast_ne (by omega)] | rfl)) (by repeat (first | rw [eset_self] | rw [eset_ne (by omega)] | assumption)) fi_X7_13_10 rfl rfl (Nat.le_of_ble_eq_true rfl) dX7_init_11 ?_
  refine V_aload_n hf dX7_init_14 rfl rfl ?_
  refine V_bipush hf dX7_init_15 (by decide +kernel) ?_
  refine V_newa hf (ty := .int) (t := 0) (n := 10) (g := g) (j := 19) (a0 := (10, .inl (fun _ => iN 0))) rfl rfl wac_int rfl (by repeat (first | rw [eset_self] | rw [eset_ne (by omega)] | assumption)) ⟨by decide, by decide⟩ (by decide) rfl (by decide) (fun _ => by rw [iN_0]; rfl) ⟨by simp only [rmd]; omega, by simp only [rmd]; omega⟩ dX7_init_17 (fun v19 => ?_)
  refine V_putFR hf hci2 (g := g) (j := 18) (by repeat (first | rw [ast_self] | rw [ast_ne (by omega)] | rfl)) (by repeat (first | rw [eset_self] | rw [eset_ne (by omega)] | assumption)) fi_X7_16_10 rfl rfl (Nat.le_of_ble_eq_true rfl) dX7_init_19 ?_
  refine V_aload_n hf dX7_init_22 rfl rfl ?_
  refine V_bipush hf dX7_init_23 (by decide +kernel) ?_
  refine V_newa hf (ty := .int) (t := 0) (n := 10) (g := g) (j := 20) (a0 := (10, .inl (fun _ => iN 0))) rfl rfl wac_int rfl (by repeat (first | rw [eset_self] | rw [eset_ne (by omega)] | assumption)) ⟨by decide, by decide⟩ (by decide) rfl (by decide) (fun _ => by rw [iN_0]; rfl) ⟨by simp only [rmd]; omega, by simp only [rmd]; omega⟩ dX7_init_25 (fun v20 => ?_)
  refine V_putFR hf hci2 (g := g) (j := 18) (by repeat (first | rw [ast_self] | rw [ast_ne (by omega)] | rfl)) (by repeat (first | rw [eset_self] | rw [eset_ne (by omega)] | assumption)) fi_X7_20_10 rfl rfl (Nat.le_of_ble_eq_true rfl) dX7_init_27 ?_
  refine V_aload_n hf dX7_init_30 rfl rfl ?_
  refine V_bipush hf dX7_init_31 (by decide +kernel) ?_
  refine V_newa hf (ty := .int) (t := 0) (n := 10) (g := g) (j := 21) (a0 := (10, .inl (fun _ => iN 0))) rfl rfl wac_int rfl (by repeat (first | rw [eset_self] | rw [eset_ne (by omega)] | assumption)) ⟨by decide, by decide⟩ (by decide) rfl (by decide) (fun _ => by rw [iN_0]; rfl) ⟨by simp only [rmd]; omega, by simp only [rmd]; omega⟩ dX7_init_33 (fun v21 => ?_)
  refine V_putFR hf hci2 (g := g) (j := 18) (by repeat (first | rw [ast_self] | rw [ast_ne (by omega)] | rfl)) (by repeat (first | rw [eset_self] | rw [eset_ne (by omega)] | assumption)) fi_X7_23_10 rfl rfl (Nat.le_of_ble_eq_true rfl) dX7_init_35 ?_
  refine V_aload_n hf dX7_init_38 rfl rfl ?_
  refine V_bipush hf dX7_init_39 (by decide +kernel) ?_
  refine V_newa hf (ty := .int) (t := 0) (n := 10) (g := g) (j := 22) (a0 := (10, .inl (fun _ => iN 0))) rfl rfl wac_int rfl (by repeat (first | rw [eset_self] | rw [eset_ne (by omega)] | assumption)) ⟨by decide, by decide⟩ (by decide) rfl (by decide) (fun _ => by rw [iN_0]; rfl) ⟨by simp only [rmd]; omega, by simp only [rmd]; omega⟩ dX7_init_41 (fun v22 => ?_)
  refine V_putFR hf hci2 (g := g) (j := 18) (by repeat (first | rw [ast_self] | rw [ast_ne (by omega)] | rfl)) (by repeat (first | rw [eset_self] | rw [eset_ne (by omega)] | assumption)) fi_X7_26_10 rfl rfl (Nat.le_of_ble_eq_true rfl) dX7_init_43 ?_
  refine V_vret hf he dX7_init_46 (by omega) (by omega) ⟨rfl, fun g' j' hq => ?_, fun g' j' hq => ?_, fun j' q1 q2 => ?_⟩
  · repeat (first | rw [ast_ne (by omega)])
  · repeat (first | rw [eset_ne (by omega)])
  · have hj : j' = 18 ∨ j' = 19 ∨ j' = 20 ∨ j' = 21 ∨ j' = 22 := by omega
    rcases hj with rfl | rfl | rfl | rfl | rfl
    all_goals simp [eset, cE, ast, σI]
