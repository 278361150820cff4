/-! the law from its entry to its loop -/
theorem gnv : ∀ j : Nat, gnL.getD j 0 = if j ≤ 22 then 11 else if j ≤ 29 then 1 else if j = 30 then 30 else if j ≤ 32 then 1 else if j ≤ 39 then 0 else if j ≤ 48 then 1 else if j = 49 then 0 else if j ≤ 51 then 1 else 0 := by
  intro j
  by_cases h : j < 52
  · revert h
    revert j
    decide +kernel
  · rw [List.getD_eq_getElem?_getD, List.getElem?_eq_none (show gnL.length ≤ j by show 52 ≤ j; omega)]
    show (0 : Int) = _
    repeat' split
    all_goals omega
theorem lvp_iff {g : Int} {j : Nat} : lvp g j ↔ P8 g j ∨ (g = 0 ∧ 40 ≤ j ∧ j ≤ 48) ∨ (g = 0 ∧ (j = 50 ∨ j = 51)) := by
  unfold P8
  show 0 ≤ g ∧ g < gnL.getD j 0 ↔ _
  rw [gnv]
  repeat' split
  all_goals omega
set_option maxHeartbeats 4000000 in
theorem cE_adA {ad ad' : Adr} {K : Nat → ClassId} {σ : Mem} {g : Int} {j : Nat} (hj : j ≤ 32) (h : ∀ (x : Int) (y : Nat), y ≤ 32 → ad x y = ad' x y) : cE ad K σ g j = cE ad' K σ g j := by
  have h0 := fun x => h x 0 (by decide)
  have h1 := fun x => h x 1 (by decide)
  have h2 := fun x => h x 2 (by decide)
  have h3 := fun x => h x 3 (by decide)
  have h4 := fun x => h x 4 (by decide)
  have h5 := fun x => h x 5 (by decide)
  have h6 := fun x => h x 6 (by decide)
  have h7 := fun x => h x 7 (by decide)
  have h8 := fun x => h x 8 (by decide)
  have h9 := fun x => h x 9 (by decide)
  have h10 := fun x => h x 10 (by decide)
  have h11 := fun x => h x 11 (by decide)
  have h12 := fun x => h x 12 (by decide)
  have h13 := fun x => h x 13 (by decide)
  have h14 := fun x => h x 14 (by decide)
  have h15 := fun x => h x 15 (by decide)
  have h16 := fun x => h x 16 (by decide)
  have h17 := fun x => h x 17 (by decide)
  have h18 := fun x => h x 18 (by decide)
  have h19 := fun x => h x 19 (by decide)
  have h20 := fun x => h x 20 (by decide)
  have h21 := fun x => h x 21 (by decide)
  have h22 := fun x => h x 22 (by decide)
  have h24 := fun x => h x 24 (by decide)
  have h25 := fun x => h x 25 (by decide)
  have h26 := fun x => h x 26 (by decide)
  have h27 := fun x => h x 27 (by decide)
  have h28 := fun x => h x 28 (by decide)
  have h29 := fun x => h x 29 (by decide)
  have h30 := fun x => h x 30 (by decide)
  have h31 := fun x => h x 31 (by decide)
  have h32 := fun x => h x 32 (by decide)
  unfold cE
  split
  all_goals first | rfl | (simp only [h0, h1, h2, h3, h4, h5, h6, h7, h8, h9, h10, h11, h12, h13, h14, h15, h16, h17, h18, h19, h20, h21, h22, h24, h25, h26, h27, h28, h29, h30, h31, h32]; done) | (exact absurd hj (by decide))
set_option maxHeartbeats 4000000 in
theorem cE_adB {ad ad' : Adr} {K : Nat → ClassId} {σ : Mem} {g : Int} {j : Nat} (hj : 40 ≤ j) (h : ∀ (x : Int) (y : Nat), 40 ≤ y → y ≤ 48 → ad x y = ad' x y) : cE ad K σ g j = cE ad' K σ g j := by
  have h41 := fun x => h x 41 (by decide) (by decide)
  have h42 := fun x => h x 42 (by decide) (by decide)
  have h43 := fun x => h x 43 (by decide) (by decide)
  have h44 := fun x => h x 44 (by decide) (by decide)
  have h45 := fun x => h x 45 (by decide) (by decide)
  have h46 := fun x => h x 46 (by decide) (by decide)
  have h47 := fun x => h x 47 (by decide) (by decide)
  have h48 := fun x => h x 48 (by decide) (by decide)
  unfold cE
  split
  all_goals first | rfl | (simp only [h41, h42, h43, h44, h45, h46, h47, h48]; done) | (exact absurd hj (by decide))
theorem cic_L_168 : CI RL 168 yX8_init cX8_init 1 0 := ⟨wl_L_168, wi_X8_init, wn_X8, wc_X8_init, rfl, by decide, by decide, by decide +kernel⟩
theorem cic_L_171 : CI RL 171 yX9_init cX9_init 1 0 := ⟨wl_L_171, wi_X9_init, wn_X9, wc_X9_init, rfl, by decide, by decide, by decide +kernel⟩
set_option maxHeartbeats 8000000 in
set_option maxRecDepth 100000 in
theorem law_entry {X : Cx} {b L : Nat} {xs : Nat → Int32} (hf : Cf X RL cL_law 9 room_1) (hl0 : (xl X).stackTraces = false) (hsc : Sc X b L xs) (hL : L ≤ 2048)
    (hend : ∀ (ad : Adr) (E : Dic) (ls : Ls) (cs ss : Nat), cs ≤ 603072 → ss ≤ 7182441 → V X ad E 3115 ls [.int (iN 1)] cs ss) (ad0 : Adr) :
    V X ad0 (fun _ _ => none) 0 [some (.ref b), none, none, none, none, none, none, none, none] [] 0 0 := by
  refine V_new hf (g := 0) (j := 23) (ci := 11) (fs := [.null, .null, .null, .int (iN 0), .null, .null, .null, .int (iN 0), .int (iN 0), .int (iN 0), .int (iN 0)]) cw_X8 tyX8_ok wk_L_8 wis_X8 wn_X8 rfl (by rw [iN_0]; decide +kernel) rfl ⟨Nat.le_of_ble_eq_true rfl, Nat.le_of_ble_eq_true rfl⟩ dL_law_0 (fun w => ?_)
  refine V_dup hf dL_law_3 rfl ?_
  have z := k_X8 (D := xD X) (K := xK X) (ad := ast ad0 0 23 w) hl0 (eset (fun _ _ => none) 0 23 (.inr (11, [.null, .null, .null, .int (iN 0), .null, .null, .null, .int (iN 0), .int (iN 0), .int (iN 0), .int (iN 0)]))) eset_self (fun g j _ q => (eset_ne q).trans rfl)
  rw [ast_self] at z
  refine V_callI hf (As := []) (b := w) (st := [.ref w]) z cic_L_168 rfl (Nat.le_of_ble_eq_true rfl) ⟨rfl, rfl, Nat.le_of_ble_eq_true rfl, Nat.le_of_ble_eq_true rfl, Nat.le_of_ble_eq_true rfl, Nat.le_of_ble_eq_true rfl⟩ dL_law_4 ?_ ?_
  · rintro r ad1 E1 ⟨q1, q2, q3, q4⟩
    cases q1
    have a23 : ad1 0 23 = w := (q2 0 23 (fun q => q.2 ⟨rfl, rfl⟩)).trans ast_self
    have n1 : ∀ (g : Int) (j : Nat), ¬ P8 g j → E1 g j = none := fun g j hp => (q3 g j hp).trans ((eset_ne (fun q => hp (by rw [q.1, q.2]; exact Or.inr (Or.inl ⟨rfl, by decide, by decide, by decide⟩)))).trans rfl)
    change V X ad1 E1 7 _ [.ref w] _ _
    refine V_astore_n (ls2 := [_, _, _, _, _, _, _, _, _]) hf dL_law_7 rfl (by decide) rfl rfl ?_
    refine V_new hf (g := 0) (j := 40) (ci := 12) (fs := [.null, .null, .null, .null, .int (iN 0), .null, .int (iN 0), .int (iN 0), .int (iN 0), .null, .int (iN 0), .int (iN 0), .int (iN 0), .int (iN 0), .int (iN 0), .int (iN 0), .null, .int (iN 0), .null, .int (iN 0), .int (iN 0), .int (iN 0), .int (iN 0)]) cw_X9 tyX9_ok wk_L_169 wis_X9 wn_X9 rfl (by rw [iN_0]; decide +kernel) (n1 0 40 (by unfold P8; omega)) ⟨Nat.le_of_ble_eq_true rfl, Nat.le_of_ble_eq_true rfl⟩ dL_law_8 (fun w2 => ?_)
    refine V_dup hf dL_law_11 rfl ?_
    have z2 := k_X9 (D := xD X) (K := xK X) (ad := ast ad1 0 40 w2) hl0 (eset E1 0 40 (.inr (12, [.null, .null, .null, .null, .int (iN 0), .null, .int (iN 0), .int (iN 0), .int (iN 0), .null, .int (iN 0), .int (iN 0), .int (iN 0), .int (iN 0), .int (iN 0), .int (iN 0), .null, .int (iN 0), .null, .int (iN 0), .int (iN 0), .int (iN 0), .int (iN 0)]))) eset_self (fun j h1 h2 => (eset_ne (by omega)).trans (n1 0 j (by unfold P8; omega)))
    rw [ast_self] at z2
    refine V_callI hf (As := []) (b := w2) (st := [.ref w2]) z2 cic_L_171 rfl (Nat.le_of_ble_eq_true rfl) ⟨rfl, rfl, Nat.le_of_ble_eq_true rfl, Nat.le_of_ble_eq_true rfl, Nat.le_of_ble_eq_true rfl, Nat.le_of_ble_eq_true rfl⟩ dL_law_12 ?_ ?_
    · rintro r ad3 E3 ⟨r1, r2, r3, r4⟩
      cases r1
      have a40 : ad3 0 40 = w2 := (r2 0 40 (by omega)).trans ast_self
      have n3 : ∀ (g : Int) (j : Nat), ¬ P8 g j → ¬ (g = 0 ∧ 40 ≤ j ∧ j ≤ 48) → E3 g j = none := fun g j hp hq => (r3 g j hq).trans ((eset_ne (fun q => hq ⟨q.1, by omega, by omega⟩)).trans (n1 g j hp))
      have p3 : ∀ (g : Int) (j : Nat), P8 g j → E3 g j = some (cE ad1 (xK X) σI g j) := fun g j hp => by
        have hq : ¬ (g = 0 ∧ 40 ≤ j ∧ j ≤ 48) := by
          unfold P8 at hp
          omega
        exact (r3 g j hq).trans ((eset_ne (fun q => hq ⟨q.1, by omega, by omega⟩)).trans (q4 g j hp))
      change V X ad3 E3 15 _ [.ref w2] _ _
      refine V_astore_n (ls2 := [_, _, _, _, _, _, _, _, _]) hf dL_law_15 rfl (by decide) rfl rfl ?_
      refine V_iconst hf dL_law_16 ?_
      refine V_newa hf (atype := .long) (ty := .long) (t := 2) (n := 1) (g := 0) (j := 50) (a0 := (1, .inr (.inl (fun _ => 0)))) rfl rfl (lg_t 2137 (by decide +kernel) (by decide +kernel)) rfl (n3 0 50 (by unfold P8; omega) (by omega)) ⟨by decide, by decide⟩ (by decide) rfl (by decide) (fun _ => rfl) ⟨Nat.le_of_ble_eq_true rfl, Nat.le_of_ble_eq_true rfl⟩ dL_law_17 (fun w3 => ?_)
      refine V_astore_n (ls2 := [_, _, _, _, _, _, _, _, _]) hf dL_law_19 rfl (by decide) rfl rfl ?_
      refine V_iconst hf dL_law_20 ?_
      refine V_newa hf (atype := .double) (ty := .double) (t := 3) (n := 1) (g := 0) (j := 51) (a0 := (1, .inr (.inr (.inr (.inl (fun _ => 0)))))) rfl rfl (lg_t 2138 (by decide +kernel) (by decide +kernel)) rfl ((eset_ne (by omega)).trans (n3 0 51 (by unfold P8; omega) (by omega))) ⟨by decide, by decide⟩ (by decide) rfl (by decide) (fun _ => rfl) ⟨Nat.le_of_ble_eq_true rfl, Nat.le_of_ble_eq_true rfl⟩ dL_law_21 (fun w4 => ?_)
      refine V_astore (ls2 := [_, _, _, _, _, _, _, _, _]) hf dL_law_23 (by decide) rfl rfl ?_
      refine V_iconst hf dL_law_25 ?_
      refine V_istore (ls2 := [_, _, _, _, _, _, _, _, _]) hf dL_law_26 (by decide) rfl rfl ?_
      have hE : eset (eset E3 0 50 (.inl (xK X 2, (1, .inr (.inl (fun _ => 0)))))) 0 51 (.inl (xK X 3, (1, .inr (.inr (.inr (.inl (fun _ => 0))))))) = Es (ast (ast ad3 0 50 w3) 0 51 w4) (xK X) σI := by
        funext g j
        by_cases hl : lvp g j
        · rw [Es_at hl]
          rcases lvp_iff.mp hl with hp | ⟨rfl, h1, h2⟩ | ⟨rfl, h1⟩
          · have hj : j ≤ 32 := by
              unfold P8 at hp
              omega
            rw [eset_ne (by omega), eset_ne (by omega), p3 g j hp]
            refine congrArg some (cE_adA (ad := ad1) (ad' := ast (ast ad3 0 50 w3) 0 51 w4) hj (fun x y hy => ?_))
            rw [ast_j (by omega), ast_j (by omega), r2 x y (by omega), ast_j (by omega)]
          · rw [eset_ne (by omega), eset_ne (by omega), r4 j h1 h2]
            refine congrArg some (cE_adB (ad := ad3) (ad' := ast (ast ad3 0 50 w3) 0 51 w4) h1 (fun x y hy1 hy2 => ?_))
            rw [ast_j (by omega), ast_j (by omega)]
          · rcases h1 with rfl | rfl
            · rw [eset_ne (by omega), eset_self]
              rfl
            · rw [eset_self]
              rfl
        · have hn := fun q => hl (lvp_iff.mpr q)
          rw [show Es (ast (ast ad3 0 50 w3) 0 51 w4) (xK X) σI g j = none from if_neg hl, eset_ne (fun q => hn (Or.inr (Or.inr ⟨q.1, Or.inr q.2⟩))), eset_ne (fun q => hn (Or.inr (Or.inr ⟨q.1, Or.inl q.2⟩))), n3 g j (fun q => hn (Or.inl q)) (fun q => hn (Or.inr (Or.inl q)))]
      have e23 : ast (ast ad3 0 50 w3) 0 51 w4 0 23 = w := by
        rw [ast_j (by decide), ast_j (by decide), r2 0 23 (by omega), ast_j (by decide), a23]
      have e40 : ast (ast ad3 0 50 w3) 0 51 w4 0 40 = w2 := by
        rw [ast_j (by decide), ast_j (by decide), a40]
      have e50 : ast (ast ad3 0 50 w3) 0 51 w4 0 50 = w3 := by
        rw [ast_j (by decide), ast_self]
      have e51 : ast (ast ad3 0 50 w3) 0 51 w4 0 51 = w4 := ast_self
      have K9 := law_loop hf hl0 hsc hL hend (L + 1) 0 (ast (ast ad3 0 50 w3) 0 51 w4) σI (0 + 1 + 291 + 1 + 8 + 1 + 1) (0 + 11 + 2987 + 23 + 3008 + 1 + 1) (by omega) (by decide) (by omega) INV_0 (by decide) (by decide)
      rw [hE]
      have hls : lsB (ast (ast ad3 0 50 w3) 0 51 w4) b 0 = [some (.ref b), some (.ref w), some (.ref w2), some (.ref w3), some (.ref w4), some (.int (iN 0)), none, none, none] := by
        show [some (Value.ref b), some (Value.ref (ast (ast ad3 0 50 w3) 0 51 w4 0 23)), some (Value.ref (ast (ast ad3 0 50 w3) 0 51 w4 0 40)), some (Value.ref (ast (ast ad3 0 50 w3) 0 51 w4 0 50)), some (Value.ref (ast (ast ad3 0 50 w3) 0 51 w4 0 51)), some (Value.int (iN 0)), none, none, none] = _
        rw [e23, e40, e50, e51]
      rw [hls] at K9
      exact K9
    · rintro En ad' E' ⟨q1, -⟩
      cases q1
  · rintro En ad' E' ⟨q1, -⟩
    cases q1
