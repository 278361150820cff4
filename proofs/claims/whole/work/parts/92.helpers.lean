/-! the law's helpers: calls that catch -/
set_option maxHeartbeats 4000000 in
set_option maxRecDepth 100000 in
theorem u_addShip {l : Launch} {D : va_G} {K : Nat → ClassId} {ad : Adr} (hl0 : l.stackTraces = false) {σ σ1 : Mem} {oc : Out} {k v : Int} (a : Int) (b : Int) (hC : Cb l D K ad yX8_addShip (.code yX8_addShip cX8_addShip 3 (some .int)) 9 1 6 σ [.ref (ad 0 23), .int (iN a), .int (iN b)] oc σ1) (hO : Oc ["java/lang/IllegalArgumentException", "java/lang/UnsupportedOperationException"] oc k v) (hv : inR v) : Cb l D K ad yL_addShip (.codeWith yL_addShip cL_addShip 5 (some .int) hh_L_addShip) 10 1 6 σ [.ref (ad 0 23), .int (iN a), .int (iN b), .ref (ad 0 50)] (.inl (some (.int (iN k)))) (if k = 0 then st3 σ1 0 50 0 v else σ1) := by
  refine Ctr.ofH (own := RL) (ls0 := [some (.ref (ad 0 23)), some (.int (iN a)), some (.int (iN b)), some (.ref (ad 0 50)), none]) (by decide) rfl hl0 (Nat.le_of_ble_eq_true rfl) rfl ?_
  intro X hX1 hX2 hX3 hf he hT
  subst hX1 hX2 hX3
  rcases hO with ⟨rfl, rfl⟩ | ⟨i, En, hi, rfl, rfl⟩
  · rw [if_pos rfl] at he
    refine V_aload_n hf dL_addShip_0 rfl rfl ?_
    refine V_iconst hf dL_addShip_1 ?_
    refine V_aload_n hf dL_addShip_2 rfl rfl ?_
    refine V_iload_n hf dL_addShip_3 rfl rfl ?_
    refine V_iload_n hf dL_addShip_4 rfl rfl ?_
    refine B_callVi hf (As := [_, _]) hC cv_L_7 l01 rfl rfl rfl (Nat.le_of_ble_eq_true rfl) ⟨by decide, by decide, by decide, by decide⟩ dL_addShip_5 ?_
    refine V_i2l hf hv dL_addShip_8 ?_
    refine B_last hf dL_addShip_9 ?_
    refine V_goto (tgt := 21) hf dL_addShip_10 (by decide) ?_
    refine V_iconst hf dL_addShip_21 ?_
    exact B_iret hf he rfl dL_addShip_22 (by decide) (by decide) rfl rfl
  · rcases i with _ | _ | i
    · cases hi
      rw [if_neg (by decide)] at he
      refine V_aload_n hf dL_addShip_0 rfl rfl ?_
      refine V_iconst hf dL_addShip_1 ?_
      refine V_aload_n hf dL_addShip_2 rfl rfl ?_
      refine V_iload_n hf dL_addShip_3 rfl rfl ?_
      refine V_iload_n hf dL_addShip_4 rfl rfl ?_
      refine B_callVX hf (As := [_, _]) hC cv_L_7 l01 rfl rfl rfl (Nat.le_of_ble_eq_true rfl) ⟨by decide, by decide, by decide, by decide⟩ dL_addShip_5 ?_
      refine VX_catch hf hT [] (⟨0, 10, 13, 13⟩ : ExceptionTableEntry) [(⟨0, 10, 17, 15⟩ : ExceptionTableEntry)] rfl (fun z hz => absurd hz List.not_mem_nil) rfl (by decide) wk_L_13 (by decide) (fun w => ?_)
      change V X _ _ 13 _ _ _ _
      refine V_astore (ls2 := [_, _, _, _, _]) hf dL_addShip_13 (by decide) rfl rfl ?_
      refine V_iconst hf dL_addShip_15 ?_
      exact B_iret hf he rfl dL_addShip_16 (by decide) (by decide) rfl rfl
    · cases hi
      rw [if_neg (by decide)] at he
      refine V_aload_n hf dL_addShip_0 rfl rfl ?_
      refine V_iconst hf dL_addShip_1 ?_
      refine V_aload_n hf dL_addShip_2 rfl rfl ?_
      refine V_iload_n hf dL_addShip_3 rfl rfl ?_
      refine V_iload_n hf dL_addShip_4 rfl rfl ?_
      refine B_callVX hf (As := [_, _]) hC cv_L_7 l01 rfl rfl rfl (Nat.le_of_ble_eq_true rfl) ⟨by decide, by decide, by decide, by decide⟩ dL_addShip_5 ?_
      refine VX_catch hf hT [(⟨0, 10, 13, 13⟩ : ExceptionTableEntry)] (⟨0, 10, 17, 15⟩ : ExceptionTableEntry) [] rfl (fun z hz => by simp only [List.mem_cons, List.not_mem_nil, or_false] at hz; subst hz; exact Or.inr ⟨by decide, "java/lang/IllegalArgumentException", wk_L_13, by decide⟩) rfl (by decide) wk_L_15 (by decide) (fun w => ?_)
      change V X _ _ 17 _ _ _ _
      refine V_astore (ls2 := [_, _, _, _, _]) hf dL_addShip_17 (by decide) rfl rfl ?_
      refine V_iconst hf dL_addShip_19 ?_
      exact B_iret hf he rfl dL_addShip_20 (by decide) (by decide) rfl rfl
    · simp at hi
set_option maxHeartbeats 4000000 in
set_option maxRecDepth 100000 in
theorem u_addBarnacle {l : Launch} {D : va_G} {K : Nat → ClassId} {ad : Adr} (hl0 : l.stackTraces = false) {σ σ1 : Mem} {oc : Out} {k v : Int} (a : Int) (b : Int) (hC : Cb l D K ad yX8_addBarnacle (.code yX8_addBarnacle cX8_addBarnacle 3 (some .int)) 9 1 6 σ [.ref (ad 0 23), .int (iN a), .int (iN b)] oc σ1) (hO : Oc ["java/lang/IndexOutOfBoundsException", "java/lang/IllegalArgumentException", "java/lang/UnsupportedOperationException"] oc k v) (hv : inR v) : Cb l D K ad yL_addBarnacle (.codeWith yL_addBarnacle cL_addBarnacle 5 (some .int) hh_L_addBarnacle) 10 1 6 σ [.ref (ad 0 23), .int (iN a), .int (iN b), .ref (ad 0 50)] (.inl (some (.int (iN k)))) (if k = 0 then st3 σ1 0 50 0 v else σ1) := by
  refine Ctr.ofH (own := RL) (ls0 := [some (.ref (ad 0 23)), some (.int (iN a)), some (.int (iN b)), some (.ref (ad 0 50)), none]) (by decide) rfl hl0 (Nat.le_of_ble_eq_true rfl) rfl ?_
  intro X hX1 hX2 hX3 hf he hT
  subst hX1 hX2 hX3
  rcases hO with ⟨rfl, rfl⟩ | ⟨i, En, hi, rfl, rfl⟩
  · rw [if_pos rfl] at he
    refine V_aload_n hf dL_addBarnacle_0 rfl rfl ?_
    refine V_iconst hf dL_addBarnacle_1 ?_
    refine V_aload_n hf dL_addBarnacle_2 rfl rfl ?_
    refine V_iload_n hf dL_addBarnacle_3 rfl rfl ?_
    refine V_iload_n hf dL_addBarnacle_4 rfl rfl ?_
    refine B_callVi hf (As := [_, _]) hC cv_L_17 l01 rfl rfl rfl (Nat.le_of_ble_eq_true rfl) ⟨by decide, by decide, by decide, by decide⟩ dL_addBarnacle_5 ?_
    refine V_i2l hf hv dL_addBarnacle_8 ?_
    refine B_last hf dL_addBarnacle_9 ?_
    refine V_goto (tgt := 25) hf dL_addBarnacle_10 (by decide) ?_
    refine V_iconst hf dL_addBarnacle_25 ?_
    exact B_iret hf he rfl dL_addBarnacle_26 (by decide) (by decide) rfl rfl
  · rcases i with _ | _ | _ | i
    · cases hi
      rw [if_neg (by decide)] at he
      refine V_aload_n hf dL_addBarnacle_0 rfl rfl ?_
      refine V_iconst hf dL_addBarnacle_1 ?_
      refine V_aload_n hf dL_addBarnacle_2 rfl rfl ?_
      refine V_iload_n hf dL_addBarnacle_3 rfl rfl ?_
      refine V_iload_n hf dL_addBarnacle_4 rfl rfl ?_
      refine B_callVX hf (As := [_, _]) hC cv_L_17 l01 rfl rfl rfl (Nat.le_of_ble_eq_true rfl) ⟨by decide, by decide, by decide, by decide⟩ dL_addBarnacle_5 ?_
      refine VX_catch hf hT [] (⟨0, 10, 13, 20⟩ : ExceptionTableEntry) [(⟨0, 10, 17, 13⟩ : ExceptionTableEntry), (⟨0, 10, 21, 15⟩ : ExceptionTableEntry)] rfl (fun z hz => absurd hz List.not_mem_nil) rfl (by decide) wk_L_20 (by decide) (fun w => ?_)
      change V X _ _ 13 _ _ _ _
      refine V_astore (ls2 := [_, _, _, _, _]) hf dL_addBarnacle_13 (by decide) rfl rfl ?_
      refine V_iconst hf dL_addBarnacle_15 ?_
      exact B_iret hf he rfl dL_addBarnacle_16 (by decide) (by decide) rfl rfl
    · cases hi
      rw [if_neg (by decide)] at he
      refine V_aload_n hf dL_addBarnacle_0 rfl rfl ?_
      refine V_iconst hf dL_addBarnacle_1 ?_
      refine V_aload_n hf dL_addBarnacle_2 rfl rfl ?_
      refine V_iload_n hf dL_addBarnacle_3 rfl rfl ?_
      refine V_iload_n hf dL_addBarnacle_4 rfl rfl ?_
      refine B_callVX hf (As := [_, _]) hC cv_L_17 l01 rfl rfl rfl (Nat.le_of_ble_eq_true rfl) ⟨by decide, by decide, by decide, by decide⟩ dL_addBarnacle_5 ?_
      refine VX_catch hf hT [(⟨0, 10, 13, 20⟩ : ExceptionTableEntry)] (⟨0, 10, 17, 13⟩ : ExceptionTableEntry) [(⟨0, 10, 21, 15⟩ : ExceptionTableEntry)] rfl (fun z hz => by simp only [List.mem_cons, List.not_mem_nil, or_false] at hz; subst hz; exact Or.inr ⟨by decide, "java/lang/IndexOutOfBoundsException", wk_L_20, by decide⟩) rfl (by decide) wk_L_13 (by decide) (fun w => ?_)
      change V X _ _ 17 _ _ _ _
      refine V_astore (ls2 := [_, _, _, _, _]) hf dL_addBarnacle_17 (by decide) rfl rfl ?_
      refine V_iconst hf dL_addBarnacle_19 ?_
      exact B_iret hf he rfl dL_addBarnacle_20 (by decide) (by decide) rfl rfl
    · cases hi
      rw [if_neg (by decide)] at he
      refine V_aload_n hf dL_addBarnacle_0 rfl rfl ?_
      refine V_iconst hf dL_addBarnacle_1 ?_
      refine V_aload_n hf dL_addBarnacle_2 rfl rfl ?_
      refine V_iload_n hf dL_addBarnacle_3 rfl rfl ?_
      refine V_iload_n hf dL_addBarnacle_4 rfl rfl ?_
      refine B_callVX hf (As := [_, _]) hC cv_L_17 l01 rfl rfl rfl (Nat.le_of_ble_eq_true rfl) ⟨by decide, by decide, by decide, by decide⟩ dL_addBarnacle_5 ?_
      refine VX_catch hf hT [(⟨0, 10, 13, 20⟩ : ExceptionTableEntry), (⟨0, 10, 17, 13⟩ : ExceptionTableEntry)] (⟨0, 10, 21, 15⟩ : ExceptionTableEntry) [] rfl (fun z hz => by simp only [List.mem_cons, List.not_mem_nil, or_false] at hz; exact hz.elim (fun e => by subst e; exact Or.inr ⟨by decide, "java/lang/IndexOutOfBoundsException", wk_L_20, by decide⟩) (fun e => by subst e; exact Or.inr ⟨by decide, "java/lang/IllegalArgumentException", wk_L_13, by decide⟩)) rfl (by decide) wk_L_15 (by decide) (fun w => ?_)
      change V X _ _ 21 _ _ _ _
      refine V_astore (ls2 := [_, _, _, _, _]) hf dL_addBarnacle_21 (by decide) rfl rfl ?_
      refine V_iconst hf dL_addBarnacle_23 ?_
      exact B_iret hf he rfl dL_addBarnacle_24 (by decide) (by decide) rfl rfl
    · simp at hi
set_option maxHeartbeats 4000000 in
set_option maxRecDepth 100000 in
theorem u_giveCoins {l : Launch} {D : va_G} {K : Nat → ClassId} {ad : Adr} (hl0 : l.stackTraces = false) {σ σ1 : Mem} {oc : Out} {k v : Int} (a : Int) (b : Int) (hC : Cb l D K ad yX8_giveCoins (.code yX8_giveCoins cX8_giveCoins 3 (some .int)) 9 1 6 σ [.ref (ad 0 23), .int (iN a), .int (iN b)] oc σ1) (hO : Oc ["java/lang/IndexOutOfBoundsException", "java/lang/IllegalArgumentException"] oc k v) (hv : inR v) : Cb l D K ad yL_giveCoins (.codeWith yL_giveCoins cL_giveCoins 5 (some .int) hh_L_giveCoins) 10 1 6 σ [.ref (ad 0 23), .int (iN a), .int (iN b), .ref (ad 0 50)] (.inl (some (.int (iN k)))) (if k = 0 then st3 σ1 0 50 0 v else σ1) := by
  refine Ctr.ofH (own := RL) (ls0 := [some (.ref (ad 0 23)), some (.int (iN a)), some (.int (iN b)), some (.ref (ad 0 50)), none]) (by decide) rfl hl0 (Nat.le_of_ble_eq_true rfl) rfl ?_
  intro X hX1 hX2 hX3 hf he hT
  subst hX1 hX2 hX3
  rcases hO with ⟨rfl, rfl⟩ | ⟨i, En, hi, rfl, rfl⟩
  · rw [if_pos rfl] at he
    refine V_aload_n hf dL_giveCoins_0 rfl rfl ?_
    refine V_iconst hf dL_giveCoins_1 ?_
    refine V_aload_n hf dL_giveCoins_2 rfl rfl ?_
    refine V_iload_n hf dL_giveCoins_3 rfl rfl ?_
    refine V_iload_n hf dL_giveCoins_4 rfl rfl ?_
    refine B_callVi hf (As := [_, _]) hC cv_L_22 l01 rfl rfl rfl (Nat.le_of_ble_eq_true rfl) ⟨by decide, by decide, by decide, by decide⟩ dL_giveCoins_5 ?_
    refine V_i2l hf hv dL_giveCoins_8 ?_
    refine B_last hf dL_giveCoins_9 ?_
    refine V_goto (tgt := 21) hf dL_giveCoins_10 (by decide) ?_
    refine V_iconst hf dL_giveCoins_21 ?_
    exact B_iret hf he rfl dL_giveCoins_22 (by decide) (by decide) rfl rfl
  · rcases i with _ | _ | i
    · cases hi
      rw [if_neg (by decide)] at he
      refine V_aload_n hf dL_giveCoins_0 rfl rfl ?_
      refine V_iconst hf dL_giveCoins_1 ?_
      refine V_aload_n hf dL_giveCoins_2 rfl rfl ?_
      refine V_iload_n hf dL_giveCoins_3 rfl rfl ?_
      refine V_iload_n hf dL_giveCoins_4 rfl rfl ?_
      refine B_callVX hf (As := [_, _]) hC cv_L_22 l01 rfl rfl rfl (Nat.le_of_ble_eq_true rfl) ⟨by decide, by decide, by decide, by decide⟩ dL_giveCoins_5 ?_
      refine VX_catch hf hT [] (⟨0, 10, 13, 20⟩ : ExceptionTableEntry) [(⟨0, 10, 17, 13⟩ : ExceptionTableEntry)] rfl (fun z hz => absurd hz List.not_mem_nil) rfl (by decide) wk_L_20 (by decide) (fun w => ?_)
      change V X _ _ 13 _ _ _ _
      refine V_astore (ls2 := [_, _, _, _, _]) hf dL_giveCoins_13 (by decide) rfl rfl ?_
      refine V_iconst hf dL_giveCoins_15 ?_
      exact B_iret hf he rfl dL_giveCoins_16 (by decide) (by decide) rfl rfl
    · cases hi
      rw [if_neg (by decide)] at he
      refine V_aload_n hf dL_giveCoins_0 rfl rfl ?_
      refine V_iconst hf dL_giveCoins_1 ?_
      refine V_aload_n hf dL_giveCoins_2 rfl rfl ?_
      refine V_iload_n hf dL_giveCoins_3 rfl rfl ?_
      refine V_iload_n hf dL_giveCoins_4 rfl rfl ?_
      refine B_callVX hf (As := [_, _]) hC cv_L_22 l01 rfl rfl rfl (Nat.le_of_ble_eq_true rfl) ⟨by decide, by decide, by decide, by decide⟩ dL_giveCoins_5 ?_
      refine VX_catch hf hT [(⟨0, 10, 13, 20⟩ : ExceptionTableEntry)] (⟨0, 10, 17, 13⟩ : ExceptionTableEntry) [] rfl (fun z hz => by simp only [List.mem_cons, List.not_mem_nil, or_false] at hz; subst hz; exact Or.inr ⟨by decide, "java/lang/IndexOutOfBoundsException", wk_L_20, by decide⟩) rfl (by decide) wk_L_13 (by decide) (fun w => ?_)
      change V X _ _ 17 _ _ _ _
      refine V_astore (ls2 := [_, _, _, _, _]) hf dL_giveCoins_17 (by decide) rfl rfl ?_
      refine V_iconst hf dL_giveCoins_19 ?_
      exact B_iret hf he rfl dL_giveCoins_20 (by decide) (by decide) rfl rfl
    · simp at hi
set_option maxHeartbeats 4000000 in
set_option maxRecDepth 100000 in
theorem u_coinsOf {l : Launch} {D : va_G} {K : Nat → ClassId} {ad : Adr} (hl0 : l.stackTraces = false) {σ σ1 : Mem} {oc : Out} {k v : Int} (a : Int) (hC : Cb l D K ad yX8_coinsOf (.code yX8_coinsOf cX8_coinsOf 2 (some .int)) 9 1 6 σ [.ref (ad 0 23), .int (iN a)] oc σ1) (hO : Oc ["java/lang/IndexOutOfBoundsException"] oc k v) (hv : inR v) : Cb l D K ad yL_coinsOf (.codeWith yL_coinsOf cL_coinsOf 4 (some .int) hh_L_coinsOf) 10 1 6 σ [.ref (ad 0 23), .int (iN a), .ref (ad 0 50)] (.inl (some (.int (iN k)))) (if k = 0 then st3 σ1 0 50 0 v else σ1) := by
  refine Ctr.ofH (own := RL) (ls0 := [some (.ref (ad 0 23)), some (.int (iN a)), some (.ref (ad 0 50)), none]) (by decide) rfl hl0 (Nat.le_of_ble_eq_true rfl) rfl ?_
  intro X hX1 hX2 hX3 hf he hT
  subst hX1 hX2 hX3
  rcases hO with ⟨rfl, rfl⟩ | ⟨i, En, hi, rfl, rfl⟩
  · rw [if_pos rfl] at he
    refine V_aload_n hf dL_coinsOf_0 rfl rfl ?_
    refine V_iconst hf dL_coinsOf_1 ?_
    refine V_aload_n hf dL_coinsOf_2 rfl rfl ?_
    refine V_iload_n hf dL_coinsOf_3 rfl rfl ?_
    refine B_callVi hf (As := [_]) hC cv_L_25 l01 rfl rfl rfl (Nat.le_of_ble_eq_true rfl) ⟨by decide, by decide, by decide, by decide⟩ dL_coinsOf_4 ?_
    refine V_i2l hf hv dL_coinsOf_7 ?_
    refine B_last hf dL_coinsOf_8 ?_
    refine V_goto (tgt := 15) hf dL_coinsOf_9 (by decide) ?_
    refine V_iconst hf dL_coinsOf_15 ?_
    exact B_iret hf he rfl dL_coinsOf_16 (by decide) (by decide) rfl rfl
  · rcases i with _ | i
    · cases hi
      rw [if_neg (by decide)] at he
      refine V_aload_n hf dL_coinsOf_0 rfl rfl ?_
      refine V_iconst hf dL_coinsOf_1 ?_
      refine V_aload_n hf dL_coinsOf_2 rfl rfl ?_
      refine V_iload_n hf dL_coinsOf_3 rfl rfl ?_
      refine B_callVX hf (As := [_]) hC cv_L_25 l01 rfl rfl rfl (Nat.le_of_ble_eq_true rfl) ⟨by decide, by decide, by decide, by decide⟩ dL_coinsOf_4 ?_
      refine VX_catch hf hT [] (⟨0, 9, 12, 20⟩ : ExceptionTableEntry) [] rfl (fun z hz => absurd hz List.not_mem_nil) rfl (by decide) wk_L_20 (by decide) (fun w => ?_)
      change V X _ _ 12 _ _ _ _
      refine V_astore_n (ls2 := [_, _, _, _]) hf dL_coinsOf_12 rfl (by decide) rfl rfl ?_
      refine V_iconst hf dL_coinsOf_13 ?_
      exact B_iret hf he rfl dL_coinsOf_14 (by decide) (by decide) rfl rfl
    · simp at hi
set_option maxHeartbeats 4000000 in
set_option maxRecDepth 100000 in
theorem u_reservedCoins {l : Launch} {D : va_G} {K : Nat → ClassId} {ad : Adr} (hl0 : l.stackTraces = false) {σ σ1 : Mem} {oc : Out} {k v : Int} (a : Int) (hC : Cb l D K ad yX8_reservedCoins (.code yX8_reservedCoins cX8_reservedCoins 2 (some .int)) 9 1 6 σ [.ref (ad 0 23), .int (iN a)] oc σ1) (hO : Oc ["java/lang/IndexOutOfBoundsException"] oc k v) (hv : inR v) : Cb l D K ad yL_reservedCoins (.codeWith yL_reservedCoins cL_reservedCoins 4 (some .int) hh_L_reservedCoins) 10 1 6 σ [.ref (ad 0 23), .int (iN a), .ref (ad 0 50)] (.inl (some (.int (iN k)))) (if k = 0 then st3 σ1 0 50 0 v else σ1) := by
  refine Ctr.ofH (own := RL) (ls0 := [some (.ref (ad 0 23)), some (.int (iN a)), some (.ref (ad 0 50)), none]) (by decide) rfl hl0 (Nat.le_of_ble_eq_true rfl) rfl ?_
  intro X hX1 hX2 hX3 hf he hT
  subst hX1 hX2 hX3
  rcases hO with ⟨rfl, rfl⟩ | ⟨i, En, hi, rfl, rfl⟩
  · rw [if_pos rfl] at he
    refine V_aload_n hf dL_reservedCoins_0 rfl rfl ?_
    refine V_iconst hf dL_reservedCoins_1 ?_
    refine V_aload_n hf dL_reservedCoins_2 rfl rfl ?_
    refine V_iload_n hf dL_reservedCoins_3 rfl rfl ?_
    refine B_callVi hf (As := [_]) hC cv_L_29 l01 rfl rfl rfl (Nat.le_of_ble_eq_true rfl) ⟨by decide, by decide, by decide, by decide⟩ dL_reservedCoins_4 ?_
    refine V_i2l hf hv dL_reservedCoins_7 ?_
    refine B_last hf dL_reservedCoins_8 ?_
    refine V_goto (tgt := 15) hf dL_reservedCoins_9 (by decide) ?_
    refine V_iconst hf dL_reservedCoins_15 ?_
    exact B_iret hf he rfl dL_reservedCoins_16 (by decide) (by decide) rfl rfl
  · rcases i with _ | i
    · cases hi
      rw [if_neg (by decide)] at he
      refine V_aload_n hf dL_reservedCoins_0 rfl rfl ?_
      refine V_iconst hf dL_reservedCoins_1 ?_
      refine V_aload_n hf dL_reservedCoins_2 rfl rfl ?_
      refine V_iload_n hf dL_reservedCoins_3 rfl rfl ?_
      refine B_callVX hf (As := [_]) hC cv_L_29 l01 rfl rfl rfl (Nat.le_of_ble_eq_true rfl) ⟨by decide, by decide, by decide, by decide⟩ dL_reservedCoins_4 ?_
      refine VX_catch hf hT [] (⟨0, 9, 12, 20⟩ : ExceptionTableEntry) [] rfl (fun z hz => absurd hz List.not_mem_nil) rfl (by decide) wk_L_20 (by decide) (fun w => ?_)
      change V X _ _ 12 _ _ _ _
      refine V_astore_n (ls2 := [_, _, _, _]) hf dL_reservedCoins_12 rfl (by decide) rfl rfl ?_
      refine V_iconst hf dL_reservedCoins_13 ?_
      exact B_iret hf he rfl dL_reservedCoins_14 (by decide) (by decide) rfl rfl
    · simp at hi
set_option maxHeartbeats 4000000 in
set_option maxRecDepth 100000 in
theorem u_capacityOf {l : Launch} {D : va_G} {K : Nat → ClassId} {ad : Adr} (hl0 : l.stackTraces = false) {σ σ1 : Mem} {oc : Out} {k v : Int} (a : Int) (hC : Cb l D K ad yX8_capacityOf (.code yX8_capacityOf cX8_capacityOf 2 (some .int)) 9 1 6 σ [.ref (ad 0 23), .int (iN a)] oc σ1) (hO : Oc ["java/lang/IndexOutOfBoundsException"] oc k v) (hv : inR v) : Cb l D K ad yL_capacityOf (.codeWith yL_capacityOf cL_capacityOf 4 (some .int) hh_L_capacityOf) 10 1 6 σ [.ref (ad 0 23), .int (iN a), .ref (ad 0 50)] (.inl (some (.int (iN k)))) (if k = 0 then st3 σ1 0 50 0 v else σ1) := by
  refine Ctr.ofH (own := RL) (ls0 := [some (.ref (ad 0 23)), some (.int (iN a)), some (.ref (ad 0 50)), none]) (by decide) rfl hl0 (Nat.le_of_ble_eq_true rfl) rfl ?_
  intro X hX1 hX2 hX3 hf he hT
  subst hX1 hX2 hX3
  rcases hO with ⟨rfl, rfl⟩ | ⟨i, En, hi, rfl, rfl⟩
  · rw [if_pos rfl] at he
    refine V_aload_n hf dL_capacityOf_0 rfl rfl ?_
    refine V_iconst hf dL_capacityOf_1 ?_
    refine V_aload_n hf dL_capacityOf_2 rfl rfl ?_
    refine V_iload_n hf dL_capacityOf_3 rfl rfl ?_
    refine B_callVi hf (As := [_]) hC cv_L_32 l01 rfl rfl rfl (Nat.le_of_ble_eq_true rfl) ⟨by decide, by decide, by decide, by decide⟩ dL_capacityOf_4 ?_
    refine V_i2l hf hv dL_capacityOf_7 ?_
    refine B_last hf dL_capacityOf_8 ?_
    refine V_goto (tgt := 15) hf dL_capacityOf_9 (by decide) ?_
    refine V_iconst hf dL_capacityOf_15 ?_
    exact B_iret hf he rfl dL_capacityOf_16 (by decide) (by decide) rfl rfl
  · rcases i with _ | i
    · cases hi
      rw [if_neg (by decide)] at he
      refine V_aload_n hf dL_capacityOf_0 rfl rfl ?_
      refine V_iconst hf dL_capacityOf_1 ?_
      refine V_aload_n hf dL_capacityOf_2 rfl rfl ?_
      refine V_iload_n hf dL_capacityOf_3 rfl rfl ?_
      refine B_callVX hf (As := [_]) hC cv_L_32 l01 rfl rfl rfl (Nat.le_of_ble_eq_true rfl) ⟨by decide, by decide, by decide, by decide⟩ dL_capacityOf_4 ?_
      refine VX_catch hf hT [] (⟨0, 9, 12, 20⟩ : ExceptionTableEntry) [] rfl (fun z hz => absurd hz List.not_mem_nil) rfl (by decide) wk_L_20 (by decide) (fun w => ?_)
      change V X _ _ 12 _ _ _ _
      refine V_astore_n (ls2 := [_, _, _, _]) hf dL_capacityOf_12 rfl (by decide) rfl rfl ?_
      refine V_iconst hf dL_capacityOf_13 ?_
      exact B_iret hf he rfl dL_capacityOf_14 (by decide) (by decide) rfl rfl
    · simp at hi
set_option maxHeartbeats 4000000 in
set_option maxRecDepth 100000 in
theorem u_loadOf {l : Launch} {D : va_G} {K : Nat → ClassId} {ad : Adr} (hl0 : l.stackTraces = false) {σ σ1 : Mem} {oc : Out} {k v : Int} (a : Int) (hC : Cb l D K ad yX8_loadOf (.code yX8_loadOf cX8_loadOf 2 (some .int)) 9 1 6 σ [.ref (ad 0 23), .int (iN a)] oc σ1) (hO : Oc ["java/lang/IndexOutOfBoundsException"] oc k v) (hv : inR v) : Cb l D K ad yL_loadOf (.codeWith yL_loadOf cL_loadOf 4 (some .int) hh_L_loadOf) 10 1 6 σ [.ref (ad 0 23), .int (iN a), .ref (ad 0 50)] (.inl (some (.int (iN k)))) (if k = 0 then st3 σ1 0 50 0 v else σ1) := by
  refine Ctr.ofH (own := RL) (ls0 := [some (.ref (ad 0 23)), some (.int (iN a)), some (.ref (ad 0 50)), none]) (by decide) rfl hl0 (Nat.le_of_ble_eq_true rfl) rfl ?_
  intro X hX1 hX2 hX3 hf he hT
  subst hX1 hX2 hX3
  rcases hO with ⟨rfl, rfl⟩ | ⟨i, En, hi, rfl, rfl⟩
  · rw [if_pos rfl] at he
    refine V_aload_n hf dL_loadOf_0 rfl rfl ?_
    refine V_iconst hf dL_loadOf_1 ?_
    refine V_aload_n hf dL_loadOf_2 rfl rfl ?_
    refine V_iload_n hf dL_loadOf_3 rfl rfl ?_
    refine B_callVi hf (As := [_]) hC cv_L_35 l01 rfl rfl rfl (Nat.le_of_ble_eq_true rfl) ⟨by decide, by decide, by decide, by decide⟩ dL_loadOf_4 ?_
    refine V_i2l hf hv dL_loadOf_7 ?_
    refine B_last hf dL_loadOf_8 ?_
    refine V_goto (tgt := 15) hf dL_loadOf_9 (by decide) ?_
    refine V_iconst hf dL_loadOf_15 ?_
    exact B_iret hf he rfl dL_loadOf_16 (by decide) (by decide) rfl rfl
  · rcases i with _ | i
    · cases hi
      rw [if_neg (by decide)] at he
      refine V_aload_n hf dL_loadOf_0 rfl rfl ?_
      refine V_iconst hf dL_loadOf_1 ?_
      refine V_aload_n hf dL_loadOf_2 rfl rfl ?_
      refine V_iload_n hf dL_loadOf_3 rfl rfl ?_
      refine B_callVX hf (As := [_]) hC cv_L_35 l01 rfl rfl rfl (Nat.le_of_ble_eq_true rfl) ⟨by decide, by decide, by decide, by decide⟩ dL_loadOf_4 ?_
      refine VX_catch hf hT [] (⟨0, 9, 12, 20⟩ : ExceptionTableEntry) [] rfl (fun z hz => absurd hz List.not_mem_nil) rfl (by decide) wk_L_20 (by decide) (fun w => ?_)
      change V X _ _ 12 _ _ _ _
      refine V_astore_n (ls2 := [_, _, _, _]) hf dL_loadOf_12 rfl (by decide) rfl rfl ?_
      refine V_iconst hf dL_loadOf_13 ?_
      exact B_iret hf he rfl dL_loadOf_14 (by decide) (by decide) rfl rfl
    · simp at hi
set_option maxHeartbeats 4000000 in
set_option maxRecDepth 100000 in
theorem u_freePlaces {l : Launch} {D : va_G} {K : Nat → ClassId} {ad : Adr} (hl0 : l.stackTraces = false) {σ σ1 : Mem} {oc : Out} {k v : Int} (a : Int) (hC : Cb l D K ad yX8_freePlaces (.code yX8_freePlaces cX8_freePlaces 2 (some .int)) 9 1 6 σ [.ref (ad 0 23), .int (iN a)] oc σ1) (hO : Oc ["java/lang/IndexOutOfBoundsException"] oc k v) (hv : inR v) : Cb l D K ad yL_freePlaces (.codeWith yL_freePlaces cL_freePlaces 4 (some .int) hh_L_freePlaces) 10 1 6 σ [.ref (ad 0 23), .int (iN a), .ref (ad 0 50)] (.inl (some (.int (iN k)))) (if k = 0 then st3 σ1 0 50 0 v else σ1) := by
  refine Ctr.ofH (own := RL) (ls0 := [some (.ref (ad 0 23)), some (.int (iN a)), some (.ref (ad 0 50)), none]) (by decide) rfl hl0 (Nat.le_of_ble_eq_true rfl) rfl ?_
  intro X hX1 hX2 hX3 hf he hT
  subst hX1 hX2 hX3
  rcases hO with ⟨rfl, rfl⟩ | ⟨i, En, hi, rfl, rfl⟩
  · rw [if_pos rfl] at he
    refine V_aload_n hf dL_freePlaces_0 rfl rfl ?_
    refine V_iconst hf dL_freePlaces_1 ?_
    refine V_aload_n hf dL_freePlaces_2 rfl rfl ?_
    refine V_iload_n hf dL_freePlaces_3 rfl rfl ?_
    refine B_callVi hf (As := [_]) hC cv_L_38 l01 rfl rfl rfl (Nat.le_of_ble_eq_true rfl) ⟨by decide, by decide, by decide, by decide⟩ dL_freePlaces_4 ?_
    refine V_i2l hf hv dL_freePlaces_7 ?_
    refine B_last hf dL_freePlaces_8 ?_
    refine V_goto (tgt := 15) hf dL_freePlaces_9 (by decide) ?_
    refine V_iconst hf dL_freePlaces_15 ?_
    exact B_iret hf he rfl dL_freePlaces_16 (by decide) (by decide) rfl rfl
  · rcases i with _ | i
    · cases hi
      rw [if_neg (by decide)] at he
      refine V_aload_n hf dL_freePlaces_0 rfl rfl ?_
      refine V_iconst hf dL_freePlaces_1 ?_
      refine V_aload_n hf dL_freePlaces_2 rfl rfl ?_
      refine V_iload_n hf dL_freePlaces_3 rfl rfl ?_
      refine B_callVX hf (As := [_]) hC cv_L_38 l01 rfl rfl rfl (Nat.le_of_ble_eq_true rfl) ⟨by decide, by decide, by decide, by decide⟩ dL_freePlaces_4 ?_
      refine VX_catch hf hT [] (⟨0, 9, 12, 20⟩ : ExceptionTableEntry) [] rfl (fun z hz => absurd hz List.not_mem_nil) rfl (by decide) wk_L_20 (by decide) (fun w => ?_)
      change V X _ _ 12 _ _ _ _
      refine V_astore_n (ls2 := [_, _, _, _]) hf dL_freePlaces_12 rfl (by decide) rfl rfl ?_
      refine V_iconst hf dL_freePlaces_13 ?_
      exact B_iret hf he rfl dL_freePlaces_14 (by decide) (by decide) rfl rfl
    · simp at hi
set_option maxHeartbeats 4000000 in
set_option maxRecDepth 100000 in
theorem u_barnacleAt {l : Launch} {D : va_G} {K : Nat → ClassId} {ad : Adr} (hl0 : l.stackTraces = false) {σ σ1 : Mem} {oc : Out} {k v : Int} (a : Int) (b : Int) (hC : Cb l D K ad yX8_barnacleAt (.code yX8_barnacleAt cX8_barnacleAt 4 (some .int)) 9 1 6 σ [.ref (ad 0 23), .int (iN a), .int (iN b)] oc σ1) (hO : Oc ["java/lang/IndexOutOfBoundsException", "java/util/NoSuchElementException"] oc k v) (hv : inR v) : Cb l D K ad yL_barnacleAt (.codeWith yL_barnacleAt cL_barnacleAt 5 (some .int) hh_L_barnacleAt) 10 1 6 σ [.ref (ad 0 23), .int (iN a), .int (iN b), .ref (ad 0 50)] (.inl (some (.int (iN k)))) (if k = 0 then st3 σ1 0 50 0 v else σ1) := by
  refine Ctr.ofH (own := RL) (ls0 := [some (.ref (ad 0 23)), some (.int (iN a)), some (.int (iN b)), some (.ref (ad 0 50)), none]) (by decide) rfl hl0 (Nat.le_of_ble_eq_true rfl) rfl ?_
  intro X hX1 hX2 hX3 hf he hT
  subst hX1 hX2 hX3
  rcases hO with ⟨rfl, rfl⟩ | ⟨i, En, hi, rfl, rfl⟩
  · rw [if_pos rfl] at he
    refine V_aload_n hf dL_barnacleAt_0 rfl rfl ?_
    refine V_iconst hf dL_barnacleAt_1 ?_
    refine V_aload_n hf dL_barnacleAt_2 rfl rfl ?_
    refine V_iload_n hf dL_barnacleAt_3 rfl rfl ?_
    refine V_iload_n hf dL_barnacleAt_4 rfl rfl ?_
    refine B_callVi hf (As := [_, _]) hC cv_L_41 l01 rfl rfl rfl (Nat.le_of_ble_eq_true rfl) ⟨by decide, by decide, by decide, by decide⟩ dL_barnacleAt_5 ?_
    refine V_i2l hf hv dL_barnacleAt_8 ?_
    refine B_last hf dL_barnacleAt_9 ?_
    refine V_goto (tgt := 21) hf dL_barnacleAt_10 (by decide) ?_
    refine V_iconst hf dL_barnacleAt_21 ?_
    exact B_iret hf he rfl dL_barnacleAt_22 (by decide) (by decide) rfl rfl
  · rcases i with _ | _ | i
    · cases hi
      rw [if_neg (by decide)] at he
      refine V_aload_n hf dL_barnacleAt_0 rfl rfl ?_
      refine V_iconst hf dL_barnacleAt_1 ?_
      refine V_aload_n hf dL_barnacleAt_2 rfl rfl ?_
      refine V_iload_n hf dL_barnacleAt_3 rfl rfl ?_
      refine V_iload_n hf dL_barnacleAt_4 rfl rfl ?_
      refine B_callVX hf (As := [_, _]) hC cv_L_41 l01 rfl rfl rfl (Nat.le_of_ble_eq_true rfl) ⟨by decide, by decide, by decide, by decide⟩ dL_barnacleAt_5 ?_
      refine VX_catch hf hT [] (⟨0, 10, 13, 20⟩ : ExceptionTableEntry) [(⟨0, 10, 17, 44⟩ : ExceptionTableEntry)] rfl (fun z hz => absurd hz List.not_mem_nil) rfl (by decide) wk_L_20 (by decide) (fun w => ?_)
      change V X _ _ 13 _ _ _ _
      refine V_astore (ls2 := [_, _, _, _, _]) hf dL_barnacleAt_13 (by decide) rfl rfl ?_
      refine V_iconst hf dL_barnacleAt_15 ?_
      exact B_iret hf he rfl dL_barnacleAt_16 (by decide) (by decide) rfl rfl
    · cases hi
      rw [if_neg (by decide)] at he
      refine V_aload_n hf dL_barnacleAt_0 rfl rfl ?_
      refine V_iconst hf dL_barnacleAt_1 ?_
      refine V_aload_n hf dL_barnacleAt_2 rfl rfl ?_
      refine V_iload_n hf dL_barnacleAt_3 rfl rfl ?_
      refine V_iload_n hf dL_barnacleAt_4 rfl rfl ?_
      refine B_callVX hf (As := [_, _]) hC cv_L_41 l01 rfl rfl rfl (Nat.le_of_ble_eq_true rfl) ⟨by decide, by decide, by decide, by decide⟩ dL_barnacleAt_5 ?_
      refine VX_catch hf hT [(⟨0, 10, 13, 20⟩ : ExceptionTableEntry)] (⟨0, 10, 17, 44⟩ : ExceptionTableEntry) [] rfl (fun z hz => by simp only [List.mem_cons, List.not_mem_nil, or_false] at hz; subst hz; exact Or.inr ⟨by decide, "java/lang/IndexOutOfBoundsException", wk_L_20, by decide⟩) rfl (by decide) wk_L_44 (by decide) (fun w => ?_)
      change V X _ _ 17 _ _ _ _
      refine V_astore (ls2 := [_, _, _, _, _]) hf dL_barnacleAt_17 (by decide) rfl rfl ?_
      refine V_iconst hf dL_barnacleAt_19 ?_
      exact B_iret hf he rfl dL_barnacleAt_20 (by decide) (by decide) rfl rfl
    · simp at hi
set_option maxHeartbeats 4000000 in
set_option maxRecDepth 100000 in
theorem u_shipOf {l : Launch} {D : va_G} {K : Nat → ClassId} {ad : Adr} (hl0 : l.stackTraces = false) {σ σ1 : Mem} {oc : Out} {k v : Int} (a : Int) (hC : Cb l D K ad yX8_shipOf (.code yX8_shipOf cX8_shipOf 2 (some .int)) 9 1 6 σ [.ref (ad 0 23), .int (iN a)] oc σ1) (hO : Oc ["java/lang/IndexOutOfBoundsException"] oc k v) (hv : inR v) : Cb l D K ad yL_shipOf (.codeWith yL_shipOf cL_shipOf 4 (some .int) hh_L_shipOf) 10 1 6 σ [.ref (ad 0 23), .int (iN a), .ref (ad 0 50)] (.inl (some (.int (iN k)))) (if k = 0 then st3 σ1 0 50 0 v else σ1) := by
  refine Ctr.ofH (own := RL) (ls0 := [some (.ref (ad 0 23)), some (.int (iN a)), some (.ref (ad 0 50)), none]) (by decide) rfl hl0 (Nat.le_of_ble_eq_true rfl) rfl ?_
  intro X hX1 hX2 hX3 hf he hT
  subst hX1 hX2 hX3
  rcases hO with ⟨rfl, rfl⟩ | ⟨i, En, hi, rfl, rfl⟩
  · rw [if_pos rfl] at he
    refine V_aload_n hf dL_shipOf_0 rfl rfl ?_
    refine V_iconst hf dL_shipOf_1 ?_
    refine V_aload_n hf dL_shipOf_2 rfl rfl ?_
    refine V_iload_n hf dL_shipOf_3 rfl rfl ?_
    refine B_callVi hf (As := [_]) hC cv_L_46 l01 rfl rfl rfl (Nat.le_of_ble_eq_true rfl) ⟨by decide, by decide, by decide, by decide⟩ dL_shipOf_4 ?_
    refine V_i2l hf hv dL_shipOf_7 ?_
    refine B_last hf dL_shipOf_8 ?_
    refine V_goto (tgt := 15) hf dL_shipOf_9 (by decide) ?_
    refine V_iconst hf dL_shipOf_15 ?_
    exact B_iret hf he rfl dL_shipOf_16 (by decide) (by decide) rfl rfl
  · rcases i with _ | i
    · cases hi
      rw [if_neg (by decide)] at he
      refine V_aload_n hf dL_shipOf_0 rfl rfl ?_
      refine V_iconst hf dL_shipOf_1 ?_
      refine V_aload_n hf dL_shipOf_2 rfl rfl ?_
      refine V_iload_n hf dL_shipOf_3 rfl rfl ?_
      refine B_callVX hf (As := [_]) hC cv_L_46 l01 rfl rfl rfl (Nat.le_of_ble_eq_true rfl) ⟨by decide, by decide, by decide, by decide⟩ dL_shipOf_4 ?_
      refine VX_catch hf hT [] (⟨0, 9, 12, 20⟩ : ExceptionTableEntry) [] rfl (fun z hz => absurd hz List.not_mem_nil) rfl (by decide) wk_L_20 (by decide) (fun w => ?_)
      change V X _ _ 12 _ _ _ _
      refine V_astore_n (ls2 := [_, _, _, _]) hf dL_shipOf_12 rfl (by decide) rfl rfl ?_
      refine V_iconst hf dL_shipOf_13 ?_
      exact B_iret hf he rfl dL_shipOf_14 (by decide) (by decide) rfl rfl
    · simp at hi
set_option maxHeartbeats 4000000 in
set_option maxRecDepth 100000 in
theorem u_gradeOf {l : Launch} {D : va_G} {K : Nat → ClassId} {ad : Adr} (hl0 : l.stackTraces = false) {σ σ1 : Mem} {oc : Out} {k v : Int} (a : Int) (hC : Cb l D K ad yX8_gradeOf (.code yX8_gradeOf cX8_gradeOf 2 (some .int)) 9 1 6 σ [.ref (ad 0 23), .int (iN a)] oc σ1) (hO : Oc ["java/lang/IndexOutOfBoundsException"] oc k v) (hv : inR v) : Cb l D K ad yL_gradeOf (.codeWith yL_gradeOf cL_gradeOf 4 (some .int) hh_L_gradeOf) 10 1 6 σ [.ref (ad 0 23), .int (iN a), .ref (ad 0 50)] (.inl (some (.int (iN k)))) (if k = 0 then st3 σ1 0 50 0 v else σ1) := by
  refine Ctr.ofH (own := RL) (ls0 := [some (.ref (ad 0 23)), some (.int (iN a)), some (.ref (ad 0 50)), none]) (by decide) rfl hl0 (Nat.le_of_ble_eq_true rfl) rfl ?_
  intro X hX1 hX2 hX3 hf he hT
  subst hX1 hX2 hX3
  rcases hO with ⟨rfl, rfl⟩ | ⟨i, En, hi, rfl, rfl⟩
  · rw [if_pos rfl] at he
    refine V_aload_n hf dL_gradeOf_0 rfl rfl ?_
    refine V_iconst hf dL_gradeOf_1 ?_
    refine V_aload_n hf dL_gradeOf_2 rfl rfl ?_
    refine V_iload_n hf dL_gradeOf_3 rfl rfl ?_
    refine B_callVi hf (As := [_]) hC cv_L_49 l01 rfl rfl rfl (Nat.le_of_ble_eq_true rfl) ⟨by decide, by decide, by decide, by decide⟩ dL_gradeOf_4 ?_
    refine V_i2l hf hv dL_gradeOf_7 ?_
    refine B_last hf dL_gradeOf_8 ?_
    refine V_goto (tgt := 15) hf dL_gradeOf_9 (by decide) ?_
    refine V_iconst hf dL_gradeOf_15 ?_
    exact B_iret hf he rfl dL_gradeOf_16 (by decide) (by decide) rfl rfl
  · rcases i with _ | i
    · cases hi
      rw [if_neg (by decide)] at he
      refine V_aload_n hf dL_gradeOf_0 rfl rfl ?_
      refine V_iconst hf dL_gradeOf_1 ?_
      refine V_aload_n hf dL_gradeOf_2 rfl rfl ?_
      refine V_iload_n hf dL_gradeOf_3 rfl rfl ?_
      refine B_callVX hf (As := [_]) hC cv_L_49 l01 rfl rfl rfl (Nat.le_of_ble_eq_true rfl) ⟨by decide, by decide, by decide, by decide⟩ dL_gradeOf_4 ?_
      refine VX_catch hf hT [] (⟨0, 9, 12, 20⟩ : ExceptionTableEntry) [] rfl (fun z hz => absurd hz List.not_mem_nil) rfl (by decide) wk_L_20 (by decide) (fun w => ?_)
      change V X _ _ 12 _ _ _ _
      refine V_astore_n (ls2 := [_, _, _, _]) hf dL_gradeOf_12 rfl (by decide) rfl rfl ?_
      refine V_iconst hf dL_gradeOf_13 ?_
      exact B_iret hf he rfl dL_gradeOf_14 (by decide) (by decide) rfl rfl
    · simp at hi
set_option maxHeartbeats 4000000 in
set_option maxRecDepth 100000 in
theorem u_isOffered {l : Launch} {D : va_G} {K : Nat → ClassId} {ad : Adr} (hl0 : l.stackTraces = false) {σ σ1 : Mem} {oc : Out} {k v : Int} (a : Int) (hC : Cb l D K ad yX8_isOffered (.code yX8_isOffered cX8_isOffered 2 (some .boolean)) 9 1 6 σ [.ref (ad 0 23), .int (iN a)] oc σ1) (hO : Oc ["java/lang/IndexOutOfBoundsException"] oc k v) (hv : v = 0 ∨ v = 1) : Cb l D K ad yL_isOffered (.codeWith yL_isOffered cL_isOffered 4 (some .int) hh_L_isOffered) 10 1 6 σ [.ref (ad 0 23), .int (iN a), .ref (ad 0 50)] (.inl (some (.int (iN k)))) (if k = 0 then st3 σ1 0 50 0 v else σ1) := by
  refine Ctr.ofH (own := RL) (ls0 := [some (.ref (ad 0 23)), some (.int (iN a)), some (.ref (ad 0 50)), none]) (by decide) rfl hl0 (Nat.le_of_ble_eq_true rfl) rfl ?_
  intro X hX1 hX2 hX3 hf he hT
  subst hX1 hX2 hX3
  rcases hO with ⟨rfl, rfl⟩ | ⟨i, En, hi, rfl, rfl⟩
  · rw [if_pos rfl] at he
    refine V_aload_n hf dL_isOffered_0 rfl rfl ?_
    refine V_iconst hf dL_isOffered_1 ?_
    refine V_aload_n hf dL_isOffered_2 rfl rfl ?_
    refine V_iload_n hf dL_isOffered_3 rfl rfl ?_
    refine B_callVi hf (As := [_]) hC cv_L_52 l01 rfl rfl rfl (Nat.le_of_ble_eq_true rfl) ⟨by decide, by decide, by decide, by decide⟩ dL_isOffered_4 ?_
    rcases hv with rfl | rfl
    · refine V_if_eq (tgt := 14) hf ⟨by decide, by decide⟩ dL_isOffered_7 (by decide) (fun h => ?_) (fun h => absurd rfl h)
      refine V_lconst (a := 0) hf (by decide +kernel) dL_isOffered_14 ?_
      refine B_last hf dL_isOffered_15 ?_
      refine V_goto (tgt := 22) hf dL_isOffered_16 (by decide) ?_
      refine V_iconst hf dL_isOffered_22 ?_
      exact B_iret hf he rfl dL_isOffered_23 (by decide) (by decide) rfl rfl
    · refine V_if_eq (tgt := 14) hf ⟨by decide, by decide⟩ dL_isOffered_7 (by decide) (fun h => absurd h (by decide)) (fun h => ?_)
      refine V_lconst (a := 1) hf (by decide +kernel) dL_isOffered_10 ?_
      refine V_goto (tgt := 15) hf dL_isOffered_11 (by decide) ?_
      refine B_last hf dL_isOffered_15 ?_
      refine V_goto (tgt := 22) hf dL_isOffered_16 (by decide) ?_
      refine V_iconst hf dL_isOffered_22 ?_
      exact B_iret hf he rfl dL_isOffered_23 (by decide) (by decide) rfl rfl
  · rcases i with _ | i
    · cases hi
      rw [if_neg (by decide)] at he
      refine V_aload_n hf dL_isOffered_0 rfl rfl ?_
      refine V_iconst hf dL_isOffered_1 ?_
      refine V_aload_n hf dL_isOffered_2 rfl rfl ?_
      refine V_iload_n hf dL_isOffered_3 rfl rfl ?_
      refine B_callVX hf (As := [_]) hC cv_L_52 l01 rfl rfl rfl (Nat.le_of_ble_eq_true rfl) ⟨by decide, by decide, by decide, by decide⟩ dL_isOffered_4 ?_
      refine VX_catch hf hT [] (⟨0, 16, 19, 20⟩ : ExceptionTableEntry) [] rfl (fun z hz => absurd hz List.not_mem_nil) rfl (by decide) wk_L_20 (by decide) (fun w => ?_)
      change V X _ _ 19 _ _ _ _
      refine V_astore_n (ls2 := [_, _, _, _]) hf dL_isOffered_19 rfl (by decide) rfl rfl ?_
      refine V_iconst hf dL_isOffered_20 ?_
      exact B_iret hf he rfl dL_isOffered_21 (by decide) (by decide) rfl rfl
    · simp at hi
set_option maxHeartbeats 4000000 in
set_option maxRecDepth 100000 in
theorem u_placeBid {l : Launch} {D : va_G} {K : Nat → ClassId} {ad : Adr} (hl0 : l.stackTraces = false) {σ σ1 : Mem} {oc : Out} {k v : Int} (a : Int) (b : Int) (c : Int) (hC : Cb l D K ad yX8_placeBid (.code yX8_placeBid cX8_placeBid 4 (some .int)) 9 1 6 σ [.ref (ad 0 23), .int (iN a), .int (iN b), .int (iN c)] oc σ1) (hO : Oc ["java/lang/IndexOutOfBoundsException", "java/lang/IllegalArgumentException", "java/lang/UnsupportedOperationException"] oc k v) (hv : inR v) : Cb l D K ad yL_placeBid (.codeWith yL_placeBid cL_placeBid 6 (some .int) hh_L_placeBid) 10 1 6 σ [.ref (ad 0 23), .int (iN a), .int (iN b), .int (iN c), .ref (ad 0 50)] (.inl (some (.int (iN k)))) (if k = 0 then st3 σ1 0 50 0 v else σ1) := by
  refine Ctr.ofH (own := RL) (ls0 := [some (.ref (ad 0 23)), some (.int (iN a)), some (.int (iN b)), some (.int (iN c)), some (.ref (ad 0 50)), none]) (by decide) rfl hl0 (Nat.le_of_ble_eq_true rfl) rfl ?_
  intro X hX1 hX2 hX3 hf he hT
  subst hX1 hX2 hX3
  rcases hO with ⟨rfl, rfl⟩ | ⟨i, En, hi, rfl, rfl⟩
  · rw [if_pos rfl] at he
    refine V_aload hf dL_placeBid_0 rfl ?_
    refine V_iconst hf dL_placeBid_2 ?_
    refine V_aload_n hf dL_placeBid_3 rfl rfl ?_
    refine V_iload_n hf dL_placeBid_4 rfl rfl ?_
    refine V_iload_n hf dL_placeBid_5 rfl rfl ?_
    refine V_iload_n hf dL_placeBid_6 rfl rfl ?_
    refine B_callVi hf (As := [_, _, _]) hC cv_L_56 l01 rfl rfl rfl (Nat.le_of_ble_eq_true rfl) ⟨by decide, by decide, by decide, by decide⟩ dL_placeBid_7 ?_
    refine V_i2l hf hv dL_placeBid_10 ?_
    refine B_last hf dL_placeBid_11 ?_
    refine V_goto (tgt := 27) hf dL_placeBid_12 (by decide) ?_
    refine V_iconst hf dL_placeBid_27 ?_
    exact B_iret hf he rfl dL_placeBid_28 (by decide) (by decide) rfl rfl
  · rcases i with _ | _ | _ | i
    · cases hi
      rw [if_neg (by decide)] at he
      refine V_aload hf dL_placeBid_0 rfl ?_
      refine V_iconst hf dL_placeBid_2 ?_
      refine V_aload_n hf dL_placeBid_3 rfl rfl ?_
      refine V_iload_n hf dL_placeBid_4 rfl rfl ?_
      refine V_iload_n hf dL_placeBid_5 rfl rfl ?_
      refine V_iload_n hf dL_placeBid_6 rfl rfl ?_
      refine B_callVX hf (As := [_, _, _]) hC cv_L_56 l01 rfl rfl rfl (Nat.le_of_ble_eq_true rfl) ⟨by decide, by decide, by decide, by decide⟩ dL_placeBid_7 ?_
      refine VX_catch hf hT [] (⟨0, 12, 15, 20⟩ : ExceptionTableEntry) [(⟨0, 12, 19, 13⟩ : ExceptionTableEntry), (⟨0, 12, 23, 15⟩ : ExceptionTableEntry)] rfl (fun z hz => absurd hz List.not_mem_nil) rfl (by decide) wk_L_20 (by decide) (fun w => ?_)
      change V X _ _ 15 _ _ _ _
      refine V_astore (ls2 := [_, _, _, _, _, _]) hf dL_placeBid_15 (by decide) rfl rfl ?_
      refine V_iconst hf dL_placeBid_17 ?_
      exact B_iret hf he rfl dL_placeBid_18 (by decide) (by decide) rfl rfl
    · cases hi
      rw [if_neg (by decide)] at he
      refine V_aload hf dL_placeBid_0 rfl ?_
      refine V_iconst hf dL_placeBid_2 ?_
      refine V_aload_n hf dL_placeBid_3 rfl rfl ?_
      refine V_iload_n hf dL_placeBid_4 rfl rfl ?_
      refine V_iload_n hf dL_placeBid_5 rfl rfl ?_
      refine V_iload_n hf dL_placeBid_6 rfl rfl ?_
      refine B_callVX hf (As := [_, _, _]) hC cv_L_56 l01 rfl rfl rfl (Nat.le_of_ble_eq_true rfl) ⟨by decide, by decide, by decide, by decide⟩ dL_placeBid_7 ?_
      refine VX_catch hf hT [(⟨0, 12, 15, 20⟩ : ExceptionTableEntry)] (⟨0, 12, 19, 13⟩ : ExceptionTableEntry) [(⟨0, 12, 23, 15⟩ : ExceptionTableEntry)] rfl (fun z hz => by simp only [List.mem_cons, List.not_mem_nil, or_false] at hz; subst hz; exact Or.inr ⟨by decide, "java/lang/IndexOutOfBoundsException", wk_L_20, by decide⟩) rfl (by decide) wk_L_13 (by decide) (fun w => ?_)
      change V X _ _ 19 _ _ _ _
      refine V_astore (ls2 := [_, _, _, _, _, _]) hf dL_placeBid_19 (by decide) rfl rfl ?_
      refine V_iconst hf dL_placeBid_21 ?_
      exact B_iret hf he rfl dL_placeBid_22 (by decide) (by decide) rfl rfl
    · cases hi
      rw [if_neg (by decide)] at he
      refine V_aload hf dL_placeBid_0 rfl ?_
      refine V_iconst hf dL_placeBid_2 ?_
      refine V_aload_n hf dL_placeBid_3 rfl rfl ?_
      refine V_iload_n hf dL_placeBid_4 rfl rfl ?_
      refine V_iload_n hf dL_placeBid_5 rfl rfl ?_
      refine V_iload_n hf dL_placeBid_6 rfl rfl ?_
      refine B_callVX hf (As := [_, _, _]) hC cv_L_56 l01 rfl rfl rfl (Nat.le_of_ble_eq_true rfl) ⟨by decide, by decide, by decide, by decide⟩ dL_placeBid_7 ?_
      refine VX_catch hf hT [(⟨0, 12, 15, 20⟩ : ExceptionTableEntry), (⟨0, 12, 19, 13⟩ : ExceptionTableEntry)] (⟨0, 12, 23, 15⟩ : ExceptionTableEntry) [] rfl (fun z hz => by simp only [List.mem_cons, List.not_mem_nil, or_false] at hz; exact hz.elim (fun e => by subst e; exact Or.inr ⟨by decide, "java/lang/IndexOutOfBoundsException", wk_L_20, by decide⟩) (fun e => by subst e; exact Or.inr ⟨by decide, "java/lang/IllegalArgumentException", wk_L_13, by decide⟩)) rfl (by decide) wk_L_15 (by decide) (fun w => ?_)
      change V X _ _ 23 _ _ _ _
      refine V_astore (ls2 := [_, _, _, _, _, _]) hf dL_placeBid_23 (by decide) rfl rfl ?_
      refine V_iconst hf dL_placeBid_25 ?_
      exact B_iret hf he rfl dL_placeBid_26 (by decide) (by decide) rfl rfl
    · simp at hi
set_option maxHeartbeats 4000000 in
set_option maxRecDepth 100000 in
theorem u_placeOffer {l : Launch} {D : va_G} {K : Nat → ClassId} {ad : Adr} (hl0 : l.stackTraces = false) {σ σ1 : Mem} {oc : Out} {k v : Int} (a : Int) (b : Int) (hC : Cb l D K ad yX8_placeOffer (.code yX8_placeOffer cX8_placeOffer 3 (some .int)) 9 1 6 σ [.ref (ad 0 23), .int (iN a), .int (iN b)] oc σ1) (hO : Oc ["java/lang/IndexOutOfBoundsException", "java/lang/IllegalArgumentException", "java/lang/UnsupportedOperationException"] oc k v) (hv : inR v) : Cb l D K ad yL_placeOffer (.codeWith yL_placeOffer cL_placeOffer 5 (some .int) hh_L_placeOffer) 10 1 6 σ [.ref (ad 0 23), .int (iN a), .int (iN b), .ref (ad 0 50)] (.inl (some (.int (iN k)))) (if k = 0 then st3 σ1 0 50 0 v else σ1) := by
  refine Ctr.ofH (own := RL) (ls0 := [some (.ref (ad 0 23)), some (.int (iN a)), some (.int (iN b)), some (.ref (ad 0 50)), none]) (by decide) rfl hl0 (Nat.le_of_ble_eq_true rfl) rfl ?_
  intro X hX1 hX2 hX3 hf he hT
  subst hX1 hX2 hX3
  rcases hO with ⟨rfl, rfl⟩ | ⟨i, En, hi, rfl, rfl⟩
  · rw [if_pos rfl] at he
    refine V_aload_n hf dL_placeOffer_0 rfl rfl ?_
    refine V_iconst hf dL_placeOffer_1 ?_
    refine V_aload_n hf dL_placeOffer_2 rfl rfl ?_
    refine V_iload_n hf dL_placeOffer_3 rfl rfl ?_
    refine V_iload_n hf dL_placeOffer_4 rfl rfl ?_
    refine B_callVi hf (As := [_, _]) hC cv_L_60 l01 rfl rfl rfl (Nat.le_of_ble_eq_true rfl) ⟨by decide, by decide, by decide, by decide⟩ dL_placeOffer_5 ?_
    refine V_i2l hf hv dL_placeOffer_8 ?_
    refine B_last hf dL_placeOffer_9 ?_
    refine V_goto (tgt := 25) hf dL_placeOffer_10 (by decide) ?_
    refine V_iconst hf dL_placeOffer_25 ?_
    exact B_iret hf he rfl dL_placeOffer_26 (by decide) (by decide) rfl rfl
  · rcases i with _ | _ | _ | i
    · cases hi
      rw [if_neg (by decide)] at he
      refine V_aload_n hf dL_placeOffer_0 rfl rfl ?_
      refine V_iconst hf dL_placeOffer_1 ?_
      refine V_aload_n hf dL_placeOffer_2 rfl rfl ?_
      refine V_iload_n hf dL_placeOffer_3 rfl rfl ?_
      refine V_iload_n hf dL_placeOffer_4 rfl rfl ?_
      refine B_callVX hf (As := [_, _]) hC cv_L_60 l01 rfl rfl rfl (Nat.le_of_ble_eq_true rfl) ⟨by decide, by decide, by decide, by decide⟩ dL_placeOffer_5 ?_
      refine VX_catch hf hT [] (⟨0, 10, 13, 20⟩ : ExceptionTableEntry) [(⟨0, 10, 17, 13⟩ : ExceptionTableEntry), (⟨0, 10, 21, 15⟩ : ExceptionTableEntry)] rfl (fun z hz => absurd hz List.not_mem_nil) rfl (by decide) wk_L_20 (by decide) (fun w => ?_)
      change V X _ _ 13 _ _ _ _
      refine V_astore (ls2 := [_, _, _, _, _]) hf dL_placeOffer_13 (by decide) rfl rfl ?_
      refine V_iconst hf dL_placeOffer_15 ?_
      exact B_iret hf he rfl dL_placeOffer_16 (by decide) (by decide) rfl rfl
    · cases hi
      rw [if_neg (by decide)] at he
      refine V_aload_n hf dL_placeOffer_0 rfl rfl ?_
      refine V_iconst hf dL_placeOffer_1 ?_
      refine V_aload_n hf dL_placeOffer_2 rfl rfl ?_
      refine V_iload_n hf dL_placeOffer_3 rfl rfl ?_
      refine V_iload_n hf dL_placeOffer_4 rfl rfl ?_
      refine B_callVX hf (As := [_, _]) hC cv_L_60 l01 rfl rfl rfl (Nat.le_of_ble_eq_true rfl) ⟨by decide, by decide, by decide, by decide⟩ dL_placeOffer_5 ?_
      refine VX_catch hf hT [(⟨0, 10, 13, 20⟩ : ExceptionTableEntry)] (⟨0, 10, 17, 13⟩ : ExceptionTableEntry) [(⟨0, 10, 21, 15⟩ : ExceptionTableEntry)] rfl (fun z hz => by simp only [List.mem_cons, List.not_mem_nil, or_false] at hz; subst hz; exact Or.inr ⟨by decide, "java/lang/IndexOutOfBoundsException", wk_L_20, by decide⟩) rfl (by decide) wk_L_13 (by decide) (fun w => ?_)
      change V X _ _ 17 _ _ _ _
      refine V_astore (ls2 := [_, _, _, _, _]) hf dL_placeOffer_17 (by decide) rfl rfl ?_
      refine V_iconst hf dL_placeOffer_19 ?_
      exact B_iret hf he rfl dL_placeOffer_20 (by decide) (by decide) rfl rfl
    · cases hi
      rw [if_neg (by decide)] at he
      refine V_aload_n hf dL_placeOffer_0 rfl rfl ?_
      refine V_iconst hf dL_placeOffer_1 ?_
      refine V_aload_n hf dL_placeOffer_2 rfl rfl ?_
      refine V_iload_n hf dL_placeOffer_3 rfl rfl ?_
      refine V_iload_n hf dL_placeOffer_4 rfl rfl ?_
      refine B_callVX hf (As := [_, _]) hC cv_L_60 l01 rfl rfl rfl (Nat.le_of_ble_eq_true rfl) ⟨by decide, by decide, by decide, by decide⟩ dL_placeOffer_5 ?_
      refine VX_catch hf hT [(⟨0, 10, 13, 20⟩ : ExceptionTableEntry), (⟨0, 10, 17, 13⟩ : ExceptionTableEntry)] (⟨0, 10, 21, 15⟩ : ExceptionTableEntry) [] rfl (fun z hz => by simp only [List.mem_cons, List.not_mem_nil, or_false] at hz; exact hz.elim (fun e => by subst e; exact Or.inr ⟨by decide, "java/lang/IndexOutOfBoundsException", wk_L_20, by decide⟩) (fun e => by subst e; exact Or.inr ⟨by decide, "java/lang/IllegalArgumentException", wk_L_13, by decide⟩)) rfl (by decide) wk_L_15 (by decide) (fun w => ?_)
      change V X _ _ 21 _ _ _ _
      refine V_astore (ls2 := [_, _, _, _, _]) hf dL_placeOffer_21 (by decide) rfl rfl ?_
      refine V_iconst hf dL_placeOffer_23 ?_
      exact B_iret hf he rfl dL_placeOffer_24 (by decide) (by decide) rfl rfl
    · simp at hi
set_option maxHeartbeats 4000000 in
set_option maxRecDepth 100000 in
theorem u_cancelBid {l : Launch} {D : va_G} {K : Nat → ClassId} {ad : Adr} (hl0 : l.stackTraces = false) {σ σ1 : Mem} {oc : Out} {k v : Int} (a : Int) (hC : Cb l D K ad yX8_cancelBid (.code yX8_cancelBid cX8_cancelBid 2 (some .int)) 9 1 6 σ [.ref (ad 0 23), .int (iN a)] oc σ1) (hO : Oc ["java/util/NoSuchElementException"] oc k v) (hv : inR v) : Cb l D K ad yL_cancelBid (.codeWith yL_cancelBid cL_cancelBid 4 (some .int) hh_L_cancelBid) 10 1 6 σ [.ref (ad 0 23), .int (iN a), .ref (ad 0 50)] (.inl (some (.int (iN k)))) (if k = 0 then st3 σ1 0 50 0 v else σ1) := by
  refine Ctr.ofH (own := RL) (ls0 := [some (.ref (ad 0 23)), some (.int (iN a)), some (.ref (ad 0 50)), none]) (by decide) rfl hl0 (Nat.le_of_ble_eq_true rfl) rfl ?_
  intro X hX1 hX2 hX3 hf he hT
  subst hX1 hX2 hX3
  rcases hO with ⟨rfl, rfl⟩ | ⟨i, En, hi, rfl, rfl⟩
  · rw [if_pos rfl] at he
    refine V_aload_n hf dL_cancelBid_0 rfl rfl ?_
    refine V_iconst hf dL_cancelBid_1 ?_
    refine V_aload_n hf dL_cancelBid_2 rfl rfl ?_
    refine V_iload_n hf dL_cancelBid_3 rfl rfl ?_
    refine B_callVi hf (As := [_]) hC cv_L_63 l01 rfl rfl rfl (Nat.le_of_ble_eq_true rfl) ⟨by decide, by decide, by decide, by decide⟩ dL_cancelBid_4 ?_
    refine V_i2l hf hv dL_cancelBid_7 ?_
    refine B_last hf dL_cancelBid_8 ?_
    refine V_goto (tgt := 15) hf dL_cancelBid_9 (by decide) ?_
    refine V_iconst hf dL_cancelBid_15 ?_
    exact B_iret hf he rfl dL_cancelBid_16 (by decide) (by decide) rfl rfl
  · rcases i with _ | i
    · cases hi
      rw [if_neg (by decide)] at he
      refine V_aload_n hf dL_cancelBid_0 rfl rfl ?_
      refine V_iconst hf dL_cancelBid_1 ?_
      refine V_aload_n hf dL_cancelBid_2 rfl rfl ?_
      refine V_iload_n hf dL_cancelBid_3 rfl rfl ?_
      refine B_callVX hf (As := [_]) hC cv_L_63 l01 rfl rfl rfl (Nat.le_of_ble_eq_true rfl) ⟨by decide, by decide, by decide, by decide⟩ dL_cancelBid_4 ?_
      refine VX_catch hf hT [] (⟨0, 9, 12, 44⟩ : ExceptionTableEntry) [] rfl (fun z hz => absurd hz List.not_mem_nil) rfl (by decide) wk_L_44 (by decide) (fun w => ?_)
      change V X _ _ 12 _ _ _ _
      refine V_astore_n (ls2 := [_, _, _, _]) hf dL_cancelBid_12 rfl (by decide) rfl rfl ?_
      refine V_iconst hf dL_cancelBid_13 ?_
      exact B_iret hf he rfl dL_cancelBid_14 (by decide) (by decide) rfl rfl
    · simp at hi
set_option maxHeartbeats 4000000 in
set_option maxRecDepth 100000 in
theorem u_cancelOffer {l : Launch} {D : va_G} {K : Nat → ClassId} {ad : Adr} (hl0 : l.stackTraces = false) {σ σ1 : Mem} {oc : Out} {k v : Int} (a : Int) (hC : Cb l D K ad yX8_cancelOffer (.code yX8_cancelOffer cX8_cancelOffer 2 (some .int)) 9 1 6 σ [.ref (ad 0 23), .int (iN a)] oc σ1) (hO : Oc ["java/util/NoSuchElementException"] oc k v) (hv : inR v) : Cb l D K ad yL_cancelOffer (.codeWith yL_cancelOffer cL_cancelOffer 4 (some .int) hh_L_cancelOffer) 10 1 6 σ [.ref (ad 0 23), .int (iN a), .ref (ad 0 50)] (.inl (some (.int (iN k)))) (if k = 0 then st3 σ1 0 50 0 v else σ1) := by
  refine Ctr.ofH (own := RL) (ls0 := [some (.ref (ad 0 23)), some (.int (iN a)), some (.ref (ad 0 50)), none]) (by decide) rfl hl0 (Nat.le_of_ble_eq_true rfl) rfl ?_
  intro X hX1 hX2 hX3 hf he hT
  subst hX1 hX2 hX3
  rcases hO with ⟨rfl, rfl⟩ | ⟨i, En, hi, rfl, rfl⟩
  · rw [if_pos rfl] at he
    refine V_aload_n hf dL_cancelOffer_0 rfl rfl ?_
    refine V_iconst hf dL_cancelOffer_1 ?_
    refine V_aload_n hf dL_cancelOffer_2 rfl rfl ?_
    refine V_iload_n hf dL_cancelOffer_3 rfl rfl ?_
    refine B_callVi hf (As := [_]) hC cv_L_66 l01 rfl rfl rfl (Nat.le_of_ble_eq_true rfl) ⟨by decide, by decide, by decide, by decide⟩ dL_cancelOffer_4 ?_
    refine V_i2l hf hv dL_cancelOffer_7 ?_
    refine B_last hf dL_cancelOffer_8 ?_
    refine V_goto (tgt := 15) hf dL_cancelOffer_9 (by decide) ?_
    refine V_iconst hf dL_cancelOffer_15 ?_
    exact B_iret hf he rfl dL_cancelOffer_16 (by decide) (by decide) rfl rfl
  · rcases i with _ | i
    · cases hi
      rw [if_neg (by decide)] at he
      refine V_aload_n hf dL_cancelOffer_0 rfl rfl ?_
      refine V_iconst hf dL_cancelOffer_1 ?_
      refine V_aload_n hf dL_cancelOffer_2 rfl rfl ?_
      refine V_iload_n hf dL_cancelOffer_3 rfl rfl ?_
      refine B_callVX hf (As := [_]) hC cv_L_66 l01 rfl rfl rfl (Nat.le_of_ble_eq_true rfl) ⟨by decide, by decide, by decide, by decide⟩ dL_cancelOffer_4 ?_
      refine VX_catch hf hT [] (⟨0, 9, 12, 44⟩ : ExceptionTableEntry) [] rfl (fun z hz => absurd hz List.not_mem_nil) rfl (by decide) wk_L_44 (by decide) (fun w => ?_)
      change V X _ _ 12 _ _ _ _
      refine V_astore_n (ls2 := [_, _, _, _]) hf dL_cancelOffer_12 rfl (by decide) rfl rfl ?_
      refine V_iconst hf dL_cancelOffer_13 ?_
      exact B_iret hf he rfl dL_cancelOffer_14 (by decide) (by decide) rfl rfl
    · simp at hi
set_option maxHeartbeats 4000000 in
set_option maxRecDepth 100000 in
theorem u_bidAt {l : Launch} {D : va_G} {K : Nat → ClassId} {ad : Adr} (hl0 : l.stackTraces = false) {σ σ1 : Mem} {oc : Out} {k v : Int} (a : Int) (hC : Cb l D K ad yX8_bidAt (.code yX8_bidAt cX8_bidAt 2 (some .int)) 9 1 6 σ [.ref (ad 0 23), .int (iN a)] oc σ1) (hO : Oc ["java/util/NoSuchElementException"] oc k v) (hv : inR v) : Cb l D K ad yL_bidAt (.codeWith yL_bidAt cL_bidAt 4 (some .int) hh_L_bidAt) 10 1 6 σ [.ref (ad 0 23), .int (iN a), .ref (ad 0 50)] (.inl (some (.int (iN k)))) (if k = 0 then st3 σ1 0 50 0 v else σ1) := by
  refine Ctr.ofH (own := RL) (ls0 := [some (.ref (ad 0 23)), some (.int (iN a)), some (.ref (ad 0 50)), none]) (by decide) rfl hl0 (Nat.le_of_ble_eq_true rfl) rfl ?_
  intro X hX1 hX2 hX3 hf he hT
  subst hX1 hX2 hX3
  rcases hO with ⟨rfl, rfl⟩ | ⟨i, En, hi, rfl, rfl⟩
  · rw [if_pos rfl] at he
    refine V_aload_n hf dL_bidAt_0 rfl rfl ?_
    refine V_iconst hf dL_bidAt_1 ?_
    refine V_aload_n hf dL_bidAt_2 rfl rfl ?_
    refine V_iload_n hf dL_bidAt_3 rfl rfl ?_
    refine B_callVi hf (As := [_]) hC cv_L_69 l01 rfl rfl rfl (Nat.le_of_ble_eq_true rfl) ⟨by decide, by decide, by decide, by decide⟩ dL_bidAt_4 ?_
    refine V_i2l hf hv dL_bidAt_7 ?_
    refine B_last hf dL_bidAt_8 ?_
    refine V_goto (tgt := 15) hf dL_bidAt_9 (by decide) ?_
    refine V_iconst hf dL_bidAt_15 ?_
    exact B_iret hf he rfl dL_bidAt_16 (by decide) (by decide) rfl rfl
  · rcases i with _ | i
    · cases hi
      rw [if_neg (by decide)] at he
      refine V_aload_n hf dL_bidAt_0 rfl rfl ?_
      refine V_iconst hf dL_bidAt_1 ?_
      refine V_aload_n hf dL_bidAt_2 rfl rfl ?_
      refine V_iload_n hf dL_bidAt_3 rfl rfl ?_
      refine B_callVX hf (As := [_]) hC cv_L_69 l01 rfl rfl rfl (Nat.le_of_ble_eq_true rfl) ⟨by decide, by decide, by decide, by decide⟩ dL_bidAt_4 ?_
      refine VX_catch hf hT [] (⟨0, 9, 12, 44⟩ : ExceptionTableEntry) [] rfl (fun z hz => absurd hz List.not_mem_nil) rfl (by decide) wk_L_44 (by decide) (fun w => ?_)
      change V X _ _ 12 _ _ _ _
      refine V_astore_n (ls2 := [_, _, _, _]) hf dL_bidAt_12 rfl (by decide) rfl rfl ?_
      refine V_iconst hf dL_bidAt_13 ?_
      exact B_iret hf he rfl dL_bidAt_14 (by decide) (by decide) rfl rfl
    · simp at hi
set_option maxHeartbeats 4000000 in
set_option maxRecDepth 100000 in
theorem u_offerAt {l : Launch} {D : va_G} {K : Nat → ClassId} {ad : Adr} (hl0 : l.stackTraces = false) {σ σ1 : Mem} {oc : Out} {k v : Int} (a : Int) (hC : Cb l D K ad yX8_offerAt (.code yX8_offerAt cX8_offerAt 2 (some .int)) 9 1 6 σ [.ref (ad 0 23), .int (iN a)] oc σ1) (hO : Oc ["java/util/NoSuchElementException"] oc k v) (hv : inR v) : Cb l D K ad yL_offerAt (.codeWith yL_offerAt cL_offerAt 4 (some .int) hh_L_offerAt) 10 1 6 σ [.ref (ad 0 23), .int (iN a), .ref (ad 0 50)] (.inl (some (.int (iN k)))) (if k = 0 then st3 σ1 0 50 0 v else σ1) := by
  refine Ctr.ofH (own := RL) (ls0 := [some (.ref (ad 0 23)), some (.int (iN a)), some (.ref (ad 0 50)), none]) (by decide) rfl hl0 (Nat.le_of_ble_eq_true rfl) rfl ?_
  intro X hX1 hX2 hX3 hf he hT
  subst hX1 hX2 hX3
  rcases hO with ⟨rfl, rfl⟩ | ⟨i, En, hi, rfl, rfl⟩
  · rw [if_pos rfl] at he
    refine V_aload_n hf dL_offerAt_0 rfl rfl ?_
    refine V_iconst hf dL_offerAt_1 ?_
    refine V_aload_n hf dL_offerAt_2 rfl rfl ?_
    refine V_iload_n hf dL_offerAt_3 rfl rfl ?_
    refine B_callVi hf (As := [_]) hC cv_L_72 l01 rfl rfl rfl (Nat.le_of_ble_eq_true rfl) ⟨by decide, by decide, by decide, by decide⟩ dL_offerAt_4 ?_
    refine V_i2l hf hv dL_offerAt_7 ?_
    refine B_last hf dL_offerAt_8 ?_
    refine V_goto (tgt := 15) hf dL_offerAt_9 (by decide) ?_
    refine V_iconst hf dL_offerAt_15 ?_
    exact B_iret hf he rfl dL_offerAt_16 (by decide) (by decide) rfl rfl
  · rcases i with _ | i
    · cases hi
      rw [if_neg (by decide)] at he
      refine V_aload_n hf dL_offerAt_0 rfl rfl ?_
      refine V_iconst hf dL_offerAt_1 ?_
      refine V_aload_n hf dL_offerAt_2 rfl rfl ?_
      refine V_iload_n hf dL_offerAt_3 rfl rfl ?_
      refine B_callVX hf (As := [_]) hC cv_L_72 l01 rfl rfl rfl (Nat.le_of_ble_eq_true rfl) ⟨by decide, by decide, by decide, by decide⟩ dL_offerAt_4 ?_
      refine VX_catch hf hT [] (⟨0, 9, 12, 44⟩ : ExceptionTableEntry) [] rfl (fun z hz => absurd hz List.not_mem_nil) rfl (by decide) wk_L_44 (by decide) (fun w => ?_)
      change V X _ _ 12 _ _ _ _
      refine V_astore_n (ls2 := [_, _, _, _]) hf dL_offerAt_12 rfl (by decide) rfl rfl ?_
      refine V_iconst hf dL_offerAt_13 ?_
      exact B_iret hf he rfl dL_offerAt_14 (by decide) (by decide) rfl rfl
    · simp at hi
set_option maxHeartbeats 4000000 in
set_option maxRecDepth 100000 in
theorem u_shipOfBid {l : Launch} {D : va_G} {K : Nat → ClassId} {ad : Adr} (hl0 : l.stackTraces = false) {σ σ1 : Mem} {oc : Out} {k v : Int} (a : Int) (hC : Cb l D K ad yX8_shipOfBid (.code yX8_shipOfBid cX8_shipOfBid 2 (some .int)) 9 1 6 σ [.ref (ad 0 23), .int (iN a)] oc σ1) (hO : Oc ["java/util/NoSuchElementException"] oc k v) (hv : inR v) : Cb l D K ad yL_shipOfBid (.codeWith yL_shipOfBid cL_shipOfBid 4 (some .int) hh_L_shipOfBid) 10 1 6 σ [.ref (ad 0 23), .int (iN a), .ref (ad 0 50)] (.inl (some (.int (iN k)))) (if k = 0 then st3 σ1 0 50 0 v else σ1) := by
  refine Ctr.ofH (own := RL) (ls0 := [some (.ref (ad 0 23)), some (.int (iN a)), some (.ref (ad 0 50)), none]) (by decide) rfl hl0 (Nat.le_of_ble_eq_true rfl) rfl ?_
  intro X hX1 hX2 hX3 hf he hT
  subst hX1 hX2 hX3
  rcases hO with ⟨rfl, rfl⟩ | ⟨i, En, hi, rfl, rfl⟩
  · rw [if_pos rfl] at he
    refine V_aload_n hf dL_shipOfBid_0 rfl rfl ?_
    refine V_iconst hf dL_shipOfBid_1 ?_
    refine V_aload_n hf dL_shipOfBid_2 rfl rfl ?_
    refine V_iload_n hf dL_shipOfBid_3 rfl rfl ?_
    refine B_callVi hf (As := [_]) hC cv_L_75 l01 rfl rfl rfl (Nat.le_of_ble_eq_true rfl) ⟨by decide, by decide, by decide, by decide⟩ dL_shipOfBid_4 ?_
    refine V_i2l hf hv dL_shipOfBid_7 ?_
    refine B_last hf dL_shipOfBid_8 ?_
    refine V_goto (tgt := 15) hf dL_shipOfBid_9 (by decide) ?_
    refine V_iconst hf dL_shipOfBid_15 ?_
    exact B_iret hf he rfl dL_shipOfBid_16 (by decide) (by decide) rfl rfl
  · rcases i with _ | i
    · cases hi
      rw [if_neg (by decide)] at he
      refine V_aload_n hf dL_shipOfBid_0 rfl rfl ?_
      refine V_iconst hf dL_shipOfBid_1 ?_
      refine V_aload_n hf dL_shipOfBid_2 rfl rfl ?_
      refine V_iload_n hf dL_shipOfBid_3 rfl rfl ?_
      refine B_callVX hf (As := [_]) hC cv_L_75 l01 rfl rfl rfl (Nat.le_of_ble_eq_true rfl) ⟨by decide, by decide, by decide, by decide⟩ dL_shipOfBid_4 ?_
      refine VX_catch hf hT [] (⟨0, 9, 12, 44⟩ : ExceptionTableEntry) [] rfl (fun z hz => absurd hz List.not_mem_nil) rfl (by decide) wk_L_44 (by decide) (fun w => ?_)
      change V X _ _ 12 _ _ _ _
      refine V_astore_n (ls2 := [_, _, _, _]) hf dL_shipOfBid_12 rfl (by decide) rfl rfl ?_
      refine V_iconst hf dL_shipOfBid_13 ?_
      exact B_iret hf he rfl dL_shipOfBid_14 (by decide) (by decide) rfl rfl
    · simp at hi
set_option maxHeartbeats 4000000 in
set_option maxRecDepth 100000 in
theorem u_gradeOfBid {l : Launch} {D : va_G} {K : Nat → ClassId} {ad : Adr} (hl0 : l.stackTraces = false) {σ σ1 : Mem} {oc : Out} {k v : Int} (a : Int) (hC : Cb l D K ad yX8_gradeOfBid (.code yX8_gradeOfBid cX8_gradeOfBid 2 (some .int)) 9 1 6 σ [.ref (ad 0 23), .int (iN a)] oc σ1) (hO : Oc ["java/util/NoSuchElementException"] oc k v) (hv : inR v) : Cb l D K ad yL_gradeOfBid (.codeWith yL_gradeOfBid cL_gradeOfBid 4 (some .int) hh_L_gradeOfBid) 10 1 6 σ [.ref (ad 0 23), .int (iN a), .ref (ad 0 50)] (.inl (some (.int (iN k)))) (if k = 0 then st3 σ1 0 50 0 v else σ1) := by
  refine Ctr.ofH (own := RL) (ls0 := [some (.ref (ad 0 23)), some (.int (iN a)), some (.ref (ad 0 50)), none]) (by decide) rfl hl0 (Nat.le_of_ble_eq_true rfl) rfl ?_
  intro X hX1 hX2 hX3 hf he hT
  subst hX1 hX2 hX3
  rcases hO with ⟨rfl, rfl⟩ | ⟨i, En, hi, rfl, rfl⟩
  · rw [if_pos rfl] at he
    refine V_aload_n hf dL_gradeOfBid_0 rfl rfl ?_
    refine V_iconst hf dL_gradeOfBid_1 ?_
    refine V_aload_n hf dL_gradeOfBid_2 rfl rfl ?_
    refine V_iload_n hf dL_gradeOfBid_3 rfl rfl ?_
    refine B_callVi hf (As := [_]) hC cv_L_78 l01 rfl rfl rfl (Nat.le_of_ble_eq_true rfl) ⟨by decide, by decide, by decide, by decide⟩ dL_gradeOfBid_4 ?_
    refine V_i2l hf hv dL_gradeOfBid_7 ?_
    refine B_last hf dL_gradeOfBid_8 ?_
    refine V_goto (tgt := 15) hf dL_gradeOfBid_9 (by decide) ?_
    refine V_iconst hf dL_gradeOfBid_15 ?_
    exact B_iret hf he rfl dL_gradeOfBid_16 (by decide) (by decide) rfl rfl
  · rcases i with _ | i
    · cases hi
      rw [if_neg (by decide)] at he
      refine V_aload_n hf dL_gradeOfBid_0 rfl rfl ?_
      refine V_iconst hf dL_gradeOfBid_1 ?_
      refine V_aload_n hf dL_gradeOfBid_2 rfl rfl ?_
      refine V_iload_n hf dL_gradeOfBid_3 rfl rfl ?_
      refine B_callVX hf (As := [_]) hC cv_L_78 l01 rfl rfl rfl (Nat.le_of_ble_eq_true rfl) ⟨by decide, by decide, by decide, by decide⟩ dL_gradeOfBid_4 ?_
      refine VX_catch hf hT [] (⟨0, 9, 12, 44⟩ : ExceptionTableEntry) [] rfl (fun z hz => absurd hz List.not_mem_nil) rfl (by decide) wk_L_44 (by decide) (fun w => ?_)
      change V X _ _ 12 _ _ _ _
      refine V_astore_n (ls2 := [_, _, _, _]) hf dL_gradeOfBid_12 rfl (by decide) rfl rfl ?_
      refine V_iconst hf dL_gradeOfBid_13 ?_
      exact B_iret hf he rfl dL_gradeOfBid_14 (by decide) (by decide) rfl rfl
    · simp at hi
set_option maxHeartbeats 4000000 in
set_option maxRecDepth 100000 in
theorem u_priceOfBid {l : Launch} {D : va_G} {K : Nat → ClassId} {ad : Adr} (hl0 : l.stackTraces = false) {σ σ1 : Mem} {oc : Out} {k v : Int} (a : Int) (hC : Cb l D K ad yX8_priceOfBid (.code yX8_priceOfBid cX8_priceOfBid 2 (some .int)) 9 1 6 σ [.ref (ad 0 23), .int (iN a)] oc σ1) (hO : Oc ["java/util/NoSuchElementException"] oc k v) (hv : inR v) : Cb l D K ad yL_priceOfBid (.codeWith yL_priceOfBid cL_priceOfBid 4 (some .int) hh_L_priceOfBid) 10 1 6 σ [.ref (ad 0 23), .int (iN a), .ref (ad 0 50)] (.inl (some (.int (iN k)))) (if k = 0 then st3 σ1 0 50 0 v else σ1) := by
  refine Ctr.ofH (own := RL) (ls0 := [some (.ref (ad 0 23)), some (.int (iN a)), some (.ref (ad 0 50)), none]) (by decide) rfl hl0 (Nat.le_of_ble_eq_true rfl) rfl ?_
  intro X hX1 hX2 hX3 hf he hT
  subst hX1 hX2 hX3
  rcases hO with ⟨rfl, rfl⟩ | ⟨i, En, hi, rfl, rfl⟩
  · rw [if_pos rfl] at he
    refine V_aload_n hf dL_priceOfBid_0 rfl rfl ?_
    refine V_iconst hf dL_priceOfBid_1 ?_
    refine V_aload_n hf dL_priceOfBid_2 rfl rfl ?_
    refine V_iload_n hf dL_priceOfBid_3 rfl rfl ?_
    refine B_callVi hf (As := [_]) hC cv_L_81 l01 rfl rfl rfl (Nat.le_of_ble_eq_true rfl) ⟨by decide, by decide, by decide, by decide⟩ dL_priceOfBid_4 ?_
    refine V_i2l hf hv dL_priceOfBid_7 ?_
    refine B_last hf dL_priceOfBid_8 ?_
    refine V_goto (tgt := 15) hf dL_priceOfBid_9 (by decide) ?_
    refine V_iconst hf dL_priceOfBid_15 ?_
    exact B_iret hf he rfl dL_priceOfBid_16 (by decide) (by decide) rfl rfl
  · rcases i with _ | i
    · cases hi
      rw [if_neg (by decide)] at he
      refine V_aload_n hf dL_priceOfBid_0 rfl rfl ?_
      refine V_iconst hf dL_priceOfBid_1 ?_
      refine V_aload_n hf dL_priceOfBid_2 rfl rfl ?_
      refine V_iload_n hf dL_priceOfBid_3 rfl rfl ?_
      refine B_callVX hf (As := [_]) hC cv_L_81 l01 rfl rfl rfl (Nat.le_of_ble_eq_true rfl) ⟨by decide, by decide, by decide, by decide⟩ dL_priceOfBid_4 ?_
      refine VX_catch hf hT [] (⟨0, 9, 12, 44⟩ : ExceptionTableEntry) [] rfl (fun z hz => absurd hz List.not_mem_nil) rfl (by decide) wk_L_44 (by decide) (fun w => ?_)
      change V X _ _ 12 _ _ _ _
      refine V_astore_n (ls2 := [_, _, _, _]) hf dL_priceOfBid_12 rfl (by decide) rfl rfl ?_
      refine V_iconst hf dL_priceOfBid_13 ?_
      exact B_iret hf he rfl dL_priceOfBid_14 (by decide) (by decide) rfl rfl
    · simp at hi
set_option maxHeartbeats 4000000 in
set_option maxRecDepth 100000 in
theorem u_ageOfBid {l : Launch} {D : va_G} {K : Nat → ClassId} {ad : Adr} (hl0 : l.stackTraces = false) {σ σ1 : Mem} {oc : Out} {k v : Int} (a : Int) (hC : Cb l D K ad yX8_ageOfBid (.code yX8_ageOfBid cX8_ageOfBid 2 (some .int)) 9 1 6 σ [.ref (ad 0 23), .int (iN a)] oc σ1) (hO : Oc ["java/util/NoSuchElementException"] oc k v) (hv : inR v) : Cb l D K ad yL_ageOfBid (.codeWith yL_ageOfBid cL_ageOfBid 4 (some .int) hh_L_ageOfBid) 10 1 6 σ [.ref (ad 0 23), .int (iN a), .ref (ad 0 50)] (.inl (some (.int (iN k)))) (if k = 0 then st3 σ1 0 50 0 v else σ1) := by
  refine Ctr.ofH (own := RL) (ls0 := [some (.ref (ad 0 23)), some (.int (iN a)), some (.ref (ad 0 50)), none]) (by decide) rfl hl0 (Nat.le_of_ble_eq_true rfl) rfl ?_
  intro X hX1 hX2 hX3 hf he hT
  subst hX1 hX2 hX3
  rcases hO with ⟨rfl, rfl⟩ | ⟨i, En, hi, rfl, rfl⟩
  · rw [if_pos rfl] at he
    refine V_aload_n hf dL_ageOfBid_0 rfl rfl ?_
    refine V_iconst hf dL_ageOfBid_1 ?_
    refine V_aload_n hf dL_ageOfBid_2 rfl rfl ?_
    refine V_iload_n hf dL_ageOfBid_3 rfl rfl ?_
    refine B_callVi hf (As := [_]) hC cv_L_84 l01 rfl rfl rfl (Nat.le_of_ble_eq_true rfl) ⟨by decide, by decide, by decide, by decide⟩ dL_ageOfBid_4 ?_
    refine V_i2l hf hv dL_ageOfBid_7 ?_
    refine B_last hf dL_ageOfBid_8 ?_
    refine V_goto (tgt := 15) hf dL_ageOfBid_9 (by decide) ?_
    refine V_iconst hf dL_ageOfBid_15 ?_
    exact B_iret hf he rfl dL_ageOfBid_16 (by decide) (by decide) rfl rfl
  · rcases i with _ | i
    · cases hi
      rw [if_neg (by decide)] at he
      refine V_aload_n hf dL_ageOfBid_0 rfl rfl ?_
      refine V_iconst hf dL_ageOfBid_1 ?_
      refine V_aload_n hf dL_ageOfBid_2 rfl rfl ?_
      refine V_iload_n hf dL_ageOfBid_3 rfl rfl ?_
      refine B_callVX hf (As := [_]) hC cv_L_84 l01 rfl rfl rfl (Nat.le_of_ble_eq_true rfl) ⟨by decide, by decide, by decide, by decide⟩ dL_ageOfBid_4 ?_
      refine VX_catch hf hT [] (⟨0, 9, 12, 44⟩ : ExceptionTableEntry) [] rfl (fun z hz => absurd hz List.not_mem_nil) rfl (by decide) wk_L_44 (by decide) (fun w => ?_)
      change V X _ _ 12 _ _ _ _
      refine V_astore_n (ls2 := [_, _, _, _]) hf dL_ageOfBid_12 rfl (by decide) rfl rfl ?_
      refine V_iconst hf dL_ageOfBid_13 ?_
      exact B_iret hf he rfl dL_ageOfBid_14 (by decide) (by decide) rfl rfl
    · simp at hi
set_option maxHeartbeats 4000000 in
set_option maxRecDepth 100000 in
theorem u_barnacleOfOffer {l : Launch} {D : va_G} {K : Nat → ClassId} {ad : Adr} (hl0 : l.stackTraces = false) {σ σ1 : Mem} {oc : Out} {k v : Int} (a : Int) (hC : Cb l D K ad yX8_barnacleOfOffer (.code yX8_barnacleOfOffer cX8_barnacleOfOffer 2 (some .int)) 9 1 6 σ [.ref (ad 0 23), .int (iN a)] oc σ1) (hO : Oc ["java/util/NoSuchElementException"] oc k v) (hv : inR v) : Cb l D K ad yL_barnacleOfOffer (.codeWith yL_barnacleOfOffer cL_barnacleOfOffer 4 (some .int) hh_L_barnacleOfOffer) 10 1 6 σ [.ref (ad 0 23), .int (iN a), .ref (ad 0 50)] (.inl (some (.int (iN k)))) (if k = 0 then st3 σ1 0 50 0 v else σ1) := by
  refine Ctr.ofH (own := RL) (ls0 := [some (.ref (ad 0 23)), some (.int (iN a)), some (.ref (ad 0 50)), none]) (by decide) rfl hl0 (Nat.le_of_ble_eq_true rfl) rfl ?_
  intro X hX1 hX2 hX3 hf he hT
  subst hX1 hX2 hX3
  rcases hO with ⟨rfl, rfl⟩ | ⟨i, En, hi, rfl, rfl⟩
  · rw [if_pos rfl] at he
    refine V_aload_n hf dL_barnacleOfOffer_0 rfl rfl ?_
    refine V_iconst hf dL_barnacleOfOffer_1 ?_
    refine V_aload_n hf dL_barnacleOfOffer_2 rfl rfl ?_
    refine V_iload_n hf dL_barnacleOfOffer_3 rfl rfl ?_
    refine B_callVi hf (As := [_]) hC cv_L_87 l01 rfl rfl rfl (Nat.le_of_ble_eq_true rfl) ⟨by decide, by decide, by decide, by decide⟩ dL_barnacleOfOffer_4 ?_
    refine V_i2l hf hv dL_barnacleOfOffer_7 ?_
    refine B_last hf dL_barnacleOfOffer_8 ?_
    refine V_goto (tgt := 15) hf dL_barnacleOfOffer_9 (by decide) ?_
    refine V_iconst hf dL_barnacleOfOffer_15 ?_
    exact B_iret hf he rfl dL_barnacleOfOffer_16 (by decide) (by decide) rfl rfl
  · rcases i with _ | i
    · cases hi
      rw [if_neg (by decide)] at he
      refine V_aload_n hf dL_barnacleOfOffer_0 rfl rfl ?_
      refine V_iconst hf dL_barnacleOfOffer_1 ?_
      refine V_aload_n hf dL_barnacleOfOffer_2 rfl rfl ?_
      refine V_iload_n hf dL_barnacleOfOffer_3 rfl rfl ?_
      refine B_callVX hf (As := [_]) hC cv_L_87 l01 rfl rfl rfl (Nat.le_of_ble_eq_true rfl) ⟨by decide, by decide, by decide, by decide⟩ dL_barnacleOfOffer_4 ?_
      refine VX_catch hf hT [] (⟨0, 9, 12, 44⟩ : ExceptionTableEntry) [] rfl (fun z hz => absurd hz List.not_mem_nil) rfl (by decide) wk_L_44 (by decide) (fun w => ?_)
      change V X _ _ 12 _ _ _ _
      refine V_astore_n (ls2 := [_, _, _, _]) hf dL_barnacleOfOffer_12 rfl (by decide) rfl rfl ?_
      refine V_iconst hf dL_barnacleOfOffer_13 ?_
      exact B_iret hf he rfl dL_barnacleOfOffer_14 (by decide) (by decide) rfl rfl
    · simp at hi
set_option maxHeartbeats 4000000 in
set_option maxRecDepth 100000 in
theorem u_priceOfOffer {l : Launch} {D : va_G} {K : Nat → ClassId} {ad : Adr} (hl0 : l.stackTraces = false) {σ σ1 : Mem} {oc : Out} {k v : Int} (a : Int) (hC : Cb l D K ad yX8_priceOfOffer (.code yX8_priceOfOffer cX8_priceOfOffer 2 (some .int)) 9 1 6 σ [.ref (ad 0 23), .int (iN a)] oc σ1) (hO : Oc ["java/util/NoSuchElementException"] oc k v) (hv : inR v) : Cb l D K ad yL_priceOfOffer (.codeWith yL_priceOfOffer cL_priceOfOffer 4 (some .int) hh_L_priceOfOffer) 10 1 6 σ [.ref (ad 0 23), .int (iN a), .ref (ad 0 50)] (.inl (some (.int (iN k)))) (if k = 0 then st3 σ1 0 50 0 v else σ1) := by
  refine Ctr.ofH (own := RL) (ls0 := [some (.ref (ad 0 23)), some (.int (iN a)), some (.ref (ad 0 50)), none]) (by decide) rfl hl0 (Nat.le_of_ble_eq_true rfl) rfl ?_
  intro X hX1 hX2 hX3 hf he hT
  subst hX1 hX2 hX3
  rcases hO with ⟨rfl, rfl⟩ | ⟨i, En, hi, rfl, rfl⟩
  · rw [if_pos rfl] at he
    refine V_aload_n hf dL_priceOfOffer_0 rfl rfl ?_
    refine V_iconst hf dL_priceOfOffer_1 ?_
    refine V_aload_n hf dL_priceOfOffer_2 rfl rfl ?_
    refine V_iload_n hf dL_priceOfOffer_3 rfl rfl ?_
    refine B_callVi hf (As := [_]) hC cv_L_90 l01 rfl rfl rfl (Nat.le_of_ble_eq_true rfl) ⟨by decide, by decide, by decide, by decide⟩ dL_priceOfOffer_4 ?_
    refine V_i2l hf hv dL_priceOfOffer_7 ?_
    refine B_last hf dL_priceOfOffer_8 ?_
    refine V_goto (tgt := 15) hf dL_priceOfOffer_9 (by decide) ?_
    refine V_iconst hf dL_priceOfOffer_15 ?_
    exact B_iret hf he rfl dL_priceOfOffer_16 (by decide) (by decide) rfl rfl
  · rcases i with _ | i
    · cases hi
      rw [if_neg (by decide)] at he
      refine V_aload_n hf dL_priceOfOffer_0 rfl rfl ?_
      refine V_iconst hf dL_priceOfOffer_1 ?_
      refine V_aload_n hf dL_priceOfOffer_2 rfl rfl ?_
      refine V_iload_n hf dL_priceOfOffer_3 rfl rfl ?_
      refine B_callVX hf (As := [_]) hC cv_L_90 l01 rfl rfl rfl (Nat.le_of_ble_eq_true rfl) ⟨by decide, by decide, by decide, by decide⟩ dL_priceOfOffer_4 ?_
      refine VX_catch hf hT [] (⟨0, 9, 12, 44⟩ : ExceptionTableEntry) [] rfl (fun z hz => absurd hz List.not_mem_nil) rfl (by decide) wk_L_44 (by decide) (fun w => ?_)
      change V X _ _ 12 _ _ _ _
      refine V_astore_n (ls2 := [_, _, _, _]) hf dL_priceOfOffer_12 rfl (by decide) rfl rfl ?_
      refine V_iconst hf dL_priceOfOffer_13 ?_
      exact B_iret hf he rfl dL_priceOfOffer_14 (by decide) (by decide) rfl rfl
    · simp at hi
set_option maxHeartbeats 4000000 in
set_option maxRecDepth 100000 in
theorem u_ageOfOffer {l : Launch} {D : va_G} {K : Nat → ClassId} {ad : Adr} (hl0 : l.stackTraces = false) {σ σ1 : Mem} {oc : Out} {k v : Int} (a : Int) (hC : Cb l D K ad yX8_ageOfOffer (.code yX8_ageOfOffer cX8_ageOfOffer 2 (some .int)) 9 1 6 σ [.ref (ad 0 23), .int (iN a)] oc σ1) (hO : Oc ["java/util/NoSuchElementException"] oc k v) (hv : inR v) : Cb l D K ad yL_ageOfOffer (.codeWith yL_ageOfOffer cL_ageOfOffer 4 (some .int) hh_L_ageOfOffer) 10 1 6 σ [.ref (ad 0 23), .int (iN a), .ref (ad 0 50)] (.inl (some (.int (iN k)))) (if k = 0 then st3 σ1 0 50 0 v else σ1) := by
  refine Ctr.ofH (own := RL) (ls0 := [some (.ref (ad 0 23)), some (.int (iN a)), some (.ref (ad 0 50)), none]) (by decide) rfl hl0 (Nat.le_of_ble_eq_true rfl) rfl ?_
  intro X hX1 hX2 hX3 hf he hT
  subst hX1 hX2 hX3
  rcases hO with ⟨rfl, rfl⟩ | ⟨i, En, hi, rfl, rfl⟩
  · rw [if_pos rfl] at he
    refine V_aload_n hf dL_ageOfOffer_0 rfl rfl ?_
    refine V_iconst hf dL_ageOfOffer_1 ?_
    refine V_aload_n hf dL_ageOfOffer_2 rfl rfl ?_
    refine V_iload_n hf dL_ageOfOffer_3 rfl rfl ?_
    refine B_callVi hf (As := [_]) hC cv_L_93 l01 rfl rfl rfl (Nat.le_of_ble_eq_true rfl) ⟨by decide, by decide, by decide, by decide⟩ dL_ageOfOffer_4 ?_
    refine V_i2l hf hv dL_ageOfOffer_7 ?_
    refine B_last hf dL_ageOfOffer_8 ?_
    refine V_goto (tgt := 15) hf dL_ageOfOffer_9 (by decide) ?_
    refine V_iconst hf dL_ageOfOffer_15 ?_
    exact B_iret hf he rfl dL_ageOfOffer_16 (by decide) (by decide) rfl rfl
  · rcases i with _ | i
    · cases hi
      rw [if_neg (by decide)] at he
      refine V_aload_n hf dL_ageOfOffer_0 rfl rfl ?_
      refine V_iconst hf dL_ageOfOffer_1 ?_
      refine V_aload_n hf dL_ageOfOffer_2 rfl rfl ?_
      refine V_iload_n hf dL_ageOfOffer_3 rfl rfl ?_
      refine B_callVX hf (As := [_]) hC cv_L_93 l01 rfl rfl rfl (Nat.le_of_ble_eq_true rfl) ⟨by decide, by decide, by decide, by decide⟩ dL_ageOfOffer_4 ?_
      refine VX_catch hf hT [] (⟨0, 9, 12, 44⟩ : ExceptionTableEntry) [] rfl (fun z hz => absurd hz List.not_mem_nil) rfl (by decide) wk_L_44 (by decide) (fun w => ?_)
      change V X _ _ 12 _ _ _ _
      refine V_astore_n (ls2 := [_, _, _, _]) hf dL_ageOfOffer_12 rfl (by decide) rfl rfl ?_
      refine V_iconst hf dL_ageOfOffer_13 ?_
      exact B_iret hf he rfl dL_ageOfOffer_14 (by decide) (by decide) rfl rfl
    · simp at hi
set_option maxHeartbeats 4000000 in
set_option maxRecDepth 100000 in
theorem u_matchFor {l : Launch} {D : va_G} {K : Nat → ClassId} {ad : Adr} (hl0 : l.stackTraces = false) {σ σ1 : Mem} {oc : Out} {k v : Int} (a : Int) (hC : Cb l D K ad yX8_matchFor (.code yX8_matchFor cX8_matchFor 2 (some .int)) 9 1 6 σ [.ref (ad 0 23), .int (iN a)] oc σ1) (hO : Oc ["java/util/NoSuchElementException"] oc k v) (hv : inR v) : Cb l D K ad yL_matchFor (.codeWith yL_matchFor cL_matchFor 4 (some .int) hh_L_matchFor) 10 1 6 σ [.ref (ad 0 23), .int (iN a), .ref (ad 0 50)] (.inl (some (.int (iN k)))) (if k = 0 then st3 σ1 0 50 0 v else σ1) := by
  refine Ctr.ofH (own := RL) (ls0 := [some (.ref (ad 0 23)), some (.int (iN a)), some (.ref (ad 0 50)), none]) (by decide) rfl hl0 (Nat.le_of_ble_eq_true rfl) rfl ?_
  intro X hX1 hX2 hX3 hf he hT
  subst hX1 hX2 hX3
  rcases hO with ⟨rfl, rfl⟩ | ⟨i, En, hi, rfl, rfl⟩
  · rw [if_pos rfl] at he
    refine V_aload_n hf dL_matchFor_0 rfl rfl ?_
    refine V_iconst hf dL_matchFor_1 ?_
    refine V_aload_n hf dL_matchFor_2 rfl rfl ?_
    refine V_iload_n hf dL_matchFor_3 rfl rfl ?_
    refine B_callVi hf (As := [_]) hC cv_L_96 l01 rfl rfl rfl (Nat.le_of_ble_eq_true rfl) ⟨by decide, by decide, by decide, by decide⟩ dL_matchFor_4 ?_
    refine V_i2l hf hv dL_matchFor_7 ?_
    refine B_last hf dL_matchFor_8 ?_
    refine V_goto (tgt := 15) hf dL_matchFor_9 (by decide) ?_
    refine V_iconst hf dL_matchFor_15 ?_
    exact B_iret hf he rfl dL_matchFor_16 (by decide) (by decide) rfl rfl
  · rcases i with _ | i
    · cases hi
      rw [if_neg (by decide)] at he
      refine V_aload_n hf dL_matchFor_0 rfl rfl ?_
      refine V_iconst hf dL_matchFor_1 ?_
      refine V_aload_n hf dL_matchFor_2 rfl rfl ?_
      refine V_iload_n hf dL_matchFor_3 rfl rfl ?_
      refine B_callVX hf (As := [_]) hC cv_L_96 l01 rfl rfl rfl (Nat.le_of_ble_eq_true rfl) ⟨by decide, by decide, by decide, by decide⟩ dL_matchFor_4 ?_
      refine VX_catch hf hT [] (⟨0, 9, 12, 44⟩ : ExceptionTableEntry) [] rfl (fun z hz => absurd hz List.not_mem_nil) rfl (by decide) wk_L_44 (by decide) (fun w => ?_)
      change V X _ _ 12 _ _ _ _
      refine V_astore_n (ls2 := [_, _, _, _]) hf dL_matchFor_12 rfl (by decide) rfl rfl ?_
      refine V_iconst hf dL_matchFor_13 ?_
      exact B_iret hf he rfl dL_matchFor_14 (by decide) (by decide) rfl rfl
    · simp at hi
set_option maxHeartbeats 4000000 in
set_option maxRecDepth 100000 in
theorem u_matchByBarnacles {l : Launch} {D : va_G} {K : Nat → ClassId} {ad : Adr} (hl0 : l.stackTraces = false) {σ σ1 : Mem} {oc : Out} {k v : Int} (a : Int) (hC : Cb l D K ad yX8_matchByBarnacles (.code yX8_matchByBarnacles cX8_matchByBarnacles 2 (some .int)) 9 1 6 σ [.ref (ad 0 23), .int (iN a)] oc σ1) (hO : Oc ["java/util/NoSuchElementException"] oc k v) (hv : inR v) : Cb l D K ad yL_matchByBarnacles (.codeWith yL_matchByBarnacles cL_matchByBarnacles 4 (some .int) hh_L_matchByBarnacles) 10 1 6 σ [.ref (ad 0 23), .int (iN a), .ref (ad 0 50)] (.inl (some (.int (iN k)))) (if k = 0 then st3 σ1 0 50 0 v else σ1) := by
  refine Ctr.ofH (own := RL) (ls0 := [some (.ref (ad 0 23)), some (.int (iN a)), some (.ref (ad 0 50)), none]) (by decide) rfl hl0 (Nat.le_of_ble_eq_true rfl) rfl ?_
  intro X hX1 hX2 hX3 hf he hT
  subst hX1 hX2 hX3
  rcases hO with ⟨rfl, rfl⟩ | ⟨i, En, hi, rfl, rfl⟩
  · rw [if_pos rfl] at he
    refine V_aload_n hf dL_matchByBarnacles_0 rfl rfl ?_
    refine V_iconst hf dL_matchByBarnacles_1 ?_
    refine V_aload_n hf dL_matchByBarnacles_2 rfl rfl ?_
    refine V_iload_n hf dL_matchByBarnacles_3 rfl rfl ?_
    refine B_callVi hf (As := [_]) hC cv_L_99 l01 rfl rfl rfl (Nat.le_of_ble_eq_true rfl) ⟨by decide, by decide, by decide, by decide⟩ dL_matchByBarnacles_4 ?_
    refine V_i2l hf hv dL_matchByBarnacles_7 ?_
    refine B_last hf dL_matchByBarnacles_8 ?_
    refine V_goto (tgt := 15) hf dL_matchByBarnacles_9 (by decide) ?_
    refine V_iconst hf dL_matchByBarnacles_15 ?_
    exact B_iret hf he rfl dL_matchByBarnacles_16 (by decide) (by decide) rfl rfl
  · rcases i with _ | i
    · cases hi
      rw [if_neg (by decide)] at he
      refine V_aload_n hf dL_matchByBarnacles_0 rfl rfl ?_
      refine V_iconst hf dL_matchByBarnacles_1 ?_
      refine V_aload_n hf dL_matchByBarnacles_2 rfl rfl ?_
      refine V_iload_n hf dL_matchByBarnacles_3 rfl rfl ?_
      refine B_callVX hf (As := [_]) hC cv_L_99 l01 rfl rfl rfl (Nat.le_of_ble_eq_true rfl) ⟨by decide, by decide, by decide, by decide⟩ dL_matchByBarnacles_4 ?_
      refine VX_catch hf hT [] (⟨0, 9, 12, 44⟩ : ExceptionTableEntry) [] rfl (fun z hz => absurd hz List.not_mem_nil) rfl (by decide) wk_L_44 (by decide) (fun w => ?_)
      change V X _ _ 12 _ _ _ _
      refine V_astore_n (ls2 := [_, _, _, _]) hf dL_matchByBarnacles_12 rfl (by decide) rfl rfl ?_
      refine V_iconst hf dL_matchByBarnacles_13 ?_
      exact B_iret hf he rfl dL_matchByBarnacles_14 (by decide) (by decide) rfl rfl
    · simp at hi
set_option maxHeartbeats 4000000 in
set_option maxRecDepth 100000 in
theorem u_spread {l : Launch} {D : va_G} {K : Nat → ClassId} {ad : Adr} (hl0 : l.stackTraces = false) {σ σ1 : Mem} {oc : Out} {k v : Int} (hC : Cb l D K ad yX8_spread (.code yX8_spread cX8_spread 1 (some .int)) 9 1 6 σ [.ref (ad 0 23)] oc σ1) (hO : Oc ["java/util/NoSuchElementException"] oc k v) (hv : inR v) : Cb l D K ad yL_spread (.codeWith yL_spread cL_spread 3 (some .int) hh_L_spread) 10 1 6 σ [.ref (ad 0 23), .ref (ad 0 50)] (.inl (some (.int (iN k)))) (if k = 0 then st3 σ1 0 50 0 v else σ1) := by
  refine Ctr.ofH (own := RL) (ls0 := [some (.ref (ad 0 23)), some (.ref (ad 0 50)), none]) (by decide) rfl hl0 (Nat.le_of_ble_eq_true rfl) rfl ?_
  intro X hX1 hX2 hX3 hf he hT
  subst hX1 hX2 hX3
  rcases hO with ⟨rfl, rfl⟩ | ⟨i, En, hi, rfl, rfl⟩
  · rw [if_pos rfl] at he
    refine V_aload_n hf dL_spread_0 rfl rfl ?_
    refine V_iconst hf dL_spread_1 ?_
    refine V_aload_n hf dL_spread_2 rfl rfl ?_
    refine B_callVi hf (As := []) hC cv_L_102 l01 rfl rfl rfl (Nat.le_of_ble_eq_true rfl) ⟨by decide, by decide, by decide, by decide⟩ dL_spread_3 ?_
    refine V_i2l hf hv dL_spread_6 ?_
    refine B_last hf dL_spread_7 ?_
    refine V_goto (tgt := 14) hf dL_spread_8 (by decide) ?_
    refine V_iconst hf dL_spread_14 ?_
    exact B_iret hf he rfl dL_spread_15 (by decide) (by decide) rfl rfl
  · rcases i with _ | i
    · cases hi
      rw [if_neg (by decide)] at he
      refine V_aload_n hf dL_spread_0 rfl rfl ?_
      refine V_iconst hf dL_spread_1 ?_
      refine V_aload_n hf dL_spread_2 rfl rfl ?_
      refine B_callVX hf (As := []) hC cv_L_102 l01 rfl rfl rfl (Nat.le_of_ble_eq_true rfl) ⟨by decide, by decide, by decide, by decide⟩ dL_spread_3 ?_
      refine VX_catch hf hT [] (⟨0, 8, 11, 44⟩ : ExceptionTableEntry) [] rfl (fun z hz => absurd hz List.not_mem_nil) rfl (by decide) wk_L_44 (by decide) (fun w => ?_)
      change V X _ _ 11 _ _ _ _
      refine V_astore_n (ls2 := [_, _, _]) hf dL_spread_11 rfl (by decide) rfl rfl ?_
      refine V_iconst hf dL_spread_12 ?_
      exact B_iret hf he rfl dL_spread_13 (by decide) (by decide) rfl rfl
    · simp at hi
set_option maxHeartbeats 4000000 in
set_option maxRecDepth 100000 in
theorem u_setFee {l : Launch} {D : va_G} {K : Nat → ClassId} {ad : Adr} (hl0 : l.stackTraces = false) {σ σ1 : Mem} {oc : Out} {k v : Int} (a : Int) (hC : Cb l D K ad yX8_setFee (.code yX8_setFee cX8_setFee 2 (some .int)) 9 1 6 σ [.ref (ad 0 23), .int (iN a)] oc σ1) (hO : Oc ["java/lang/IllegalArgumentException"] oc k v) (hv : inR v) : Cb l D K ad yL_setFee (.codeWith yL_setFee cL_setFee 4 (some .int) hh_L_setFee) 10 1 6 σ [.ref (ad 0 23), .int (iN a), .ref (ad 0 50)] (.inl (some (.int (iN k)))) (if k = 0 then st3 σ1 0 50 0 v else σ1) := by
  refine Ctr.ofH (own := RL) (ls0 := [some (.ref (ad 0 23)), some (.int (iN a)), some (.ref (ad 0 50)), none]) (by decide) rfl hl0 (Nat.le_of_ble_eq_true rfl) rfl ?_
  intro X hX1 hX2 hX3 hf he hT
  subst hX1 hX2 hX3
  rcases hO with ⟨rfl, rfl⟩ | ⟨i, En, hi, rfl, rfl⟩
  · rw [if_pos rfl] at he
    refine V_aload_n hf dL_setFee_0 rfl rfl ?_
    refine V_iconst hf dL_setFee_1 ?_
    refine V_aload_n hf dL_setFee_2 rfl rfl ?_
    refine V_iload_n hf dL_setFee_3 rfl rfl ?_
    refine B_callVi hf (As := [_]) hC cv_L_106 l01 rfl rfl rfl (Nat.le_of_ble_eq_true rfl) ⟨by decide, by decide, by decide, by decide⟩ dL_setFee_4 ?_
    refine V_i2l hf hv dL_setFee_7 ?_
    refine B_last hf dL_setFee_8 ?_
    refine V_goto (tgt := 15) hf dL_setFee_9 (by decide) ?_
    refine V_iconst hf dL_setFee_15 ?_
    exact B_iret hf he rfl dL_setFee_16 (by decide) (by decide) rfl rfl
  · rcases i with _ | i
    · cases hi
      rw [if_neg (by decide)] at he
      refine V_aload_n hf dL_setFee_0 rfl rfl ?_
      refine V_iconst hf dL_setFee_1 ?_
      refine V_aload_n hf dL_setFee_2 rfl rfl ?_
      refine V_iload_n hf dL_setFee_3 rfl rfl ?_
      refine B_callVX hf (As := [_]) hC cv_L_106 l01 rfl rfl rfl (Nat.le_of_ble_eq_true rfl) ⟨by decide, by decide, by decide, by decide⟩ dL_setFee_4 ?_
      refine VX_catch hf hT [] (⟨0, 9, 12, 13⟩ : ExceptionTableEntry) [] rfl (fun z hz => absurd hz List.not_mem_nil) rfl (by decide) wk_L_13 (by decide) (fun w => ?_)
      change V X _ _ 12 _ _ _ _
      refine V_astore_n (ls2 := [_, _, _, _]) hf dL_setFee_12 rfl (by decide) rfl rfl ?_
      refine V_iconst hf dL_setFee_13 ?_
      exact B_iret hf he rfl dL_setFee_14 (by decide) (by decide) rfl rfl
    · simp at hi
set_option maxHeartbeats 4000000 in
set_option maxRecDepth 100000 in
theorem u_buyerOf {l : Launch} {D : va_G} {K : Nat → ClassId} {ad : Adr} (hl0 : l.stackTraces = false) {σ σ1 : Mem} {oc : Out} {k v : Int} (a : Int) (hC : Cb l D K ad yX8_buyerOf (.code yX8_buyerOf cX8_buyerOf 2 (some .int)) 9 1 6 σ [.ref (ad 0 23), .int (iN a)] oc σ1) (hO : Oc ["java/util/NoSuchElementException"] oc k v) (hv : inR v) : Cb l D K ad yL_buyerOf (.codeWith yL_buyerOf cL_buyerOf 4 (some .int) hh_L_buyerOf) 10 1 6 σ [.ref (ad 0 23), .int (iN a), .ref (ad 0 50)] (.inl (some (.int (iN k)))) (if k = 0 then st3 σ1 0 50 0 v else σ1) := by
  refine Ctr.ofH (own := RL) (ls0 := [some (.ref (ad 0 23)), some (.int (iN a)), some (.ref (ad 0 50)), none]) (by decide) rfl hl0 (Nat.le_of_ble_eq_true rfl) rfl ?_
  intro X hX1 hX2 hX3 hf he hT
  subst hX1 hX2 hX3
  rcases hO with ⟨rfl, rfl⟩ | ⟨i, En, hi, rfl, rfl⟩
  · rw [if_pos rfl] at he
    refine V_aload_n hf dL_buyerOf_0 rfl rfl ?_
    refine V_iconst hf dL_buyerOf_1 ?_
    refine V_aload_n hf dL_buyerOf_2 rfl rfl ?_
    refine V_iload_n hf dL_buyerOf_3 rfl rfl ?_
    refine B_callVi hf (As := [_]) hC cv_L_109 l01 rfl rfl rfl (Nat.le_of_ble_eq_true rfl) ⟨by decide, by decide, by decide, by decide⟩ dL_buyerOf_4 ?_
    refine V_i2l hf hv dL_buyerOf_7 ?_
    refine B_last hf dL_buyerOf_8 ?_
    refine V_goto (tgt := 15) hf dL_buyerOf_9 (by decide) ?_
    refine V_iconst hf dL_buyerOf_15 ?_
    exact B_iret hf he rfl dL_buyerOf_16 (by decide) (by decide) rfl rfl
  · rcases i with _ | i
    · cases hi
      rw [if_neg (by decide)] at he
      refine V_aload_n hf dL_buyerOf_0 rfl rfl ?_
      refine V_iconst hf dL_buyerOf_1 ?_
      refine V_aload_n hf dL_buyerOf_2 rfl rfl ?_
      refine V_iload_n hf dL_buyerOf_3 rfl rfl ?_
      refine B_callVX hf (As := [_]) hC cv_L_109 l01 rfl rfl rfl (Nat.le_of_ble_eq_true rfl) ⟨by decide, by decide, by decide, by decide⟩ dL_buyerOf_4 ?_
      refine VX_catch hf hT [] (⟨0, 9, 12, 44⟩ : ExceptionTableEntry) [] rfl (fun z hz => absurd hz List.not_mem_nil) rfl (by decide) wk_L_44 (by decide) (fun w => ?_)
      change V X _ _ 12 _ _ _ _
      refine V_astore_n (ls2 := [_, _, _, _]) hf dL_buyerOf_12 rfl (by decide) rfl rfl ?_
      refine V_iconst hf dL_buyerOf_13 ?_
      exact B_iret hf he rfl dL_buyerOf_14 (by decide) (by decide) rfl rfl
    · simp at hi
set_option maxHeartbeats 4000000 in
set_option maxRecDepth 100000 in
theorem u_sellerOf {l : Launch} {D : va_G} {K : Nat → ClassId} {ad : Adr} (hl0 : l.stackTraces = false) {σ σ1 : Mem} {oc : Out} {k v : Int} (a : Int) (hC : Cb l D K ad yX8_sellerOf (.code yX8_sellerOf cX8_sellerOf 2 (some .int)) 9 1 6 σ [.ref (ad 0 23), .int (iN a)] oc σ1) (hO : Oc ["java/util/NoSuchElementException"] oc k v) (hv : inR v) : Cb l D K ad yL_sellerOf (.codeWith yL_sellerOf cL_sellerOf 4 (some .int) hh_L_sellerOf) 10 1 6 σ [.ref (ad 0 23), .int (iN a), .ref (ad 0 50)] (.inl (some (.int (iN k)))) (if k = 0 then st3 σ1 0 50 0 v else σ1) := by
  refine Ctr.ofH (own := RL) (ls0 := [some (.ref (ad 0 23)), some (.int (iN a)), some (.ref (ad 0 50)), none]) (by decide) rfl hl0 (Nat.le_of_ble_eq_true rfl) rfl ?_
  intro X hX1 hX2 hX3 hf he hT
  subst hX1 hX2 hX3
  rcases hO with ⟨rfl, rfl⟩ | ⟨i, En, hi, rfl, rfl⟩
  · rw [if_pos rfl] at he
    refine V_aload_n hf dL_sellerOf_0 rfl rfl ?_
    refine V_iconst hf dL_sellerOf_1 ?_
    refine V_aload_n hf dL_sellerOf_2 rfl rfl ?_
    refine V_iload_n hf dL_sellerOf_3 rfl rfl ?_
    refine B_callVi hf (As := [_]) hC cv_L_112 l01 rfl rfl rfl (Nat.le_of_ble_eq_true rfl) ⟨by decide, by decide, by decide, by decide⟩ dL_sellerOf_4 ?_
    refine V_i2l hf hv dL_sellerOf_7 ?_
    refine B_last hf dL_sellerOf_8 ?_
    refine V_goto (tgt := 15) hf dL_sellerOf_9 (by decide) ?_
    refine V_iconst hf dL_sellerOf_15 ?_
    exact B_iret hf he rfl dL_sellerOf_16 (by decide) (by decide) rfl rfl
  · rcases i with _ | i
    · cases hi
      rw [if_neg (by decide)] at he
      refine V_aload_n hf dL_sellerOf_0 rfl rfl ?_
      refine V_iconst hf dL_sellerOf_1 ?_
      refine V_aload_n hf dL_sellerOf_2 rfl rfl ?_
      refine V_iload_n hf dL_sellerOf_3 rfl rfl ?_
      refine B_callVX hf (As := [_]) hC cv_L_112 l01 rfl rfl rfl (Nat.le_of_ble_eq_true rfl) ⟨by decide, by decide, by decide, by decide⟩ dL_sellerOf_4 ?_
      refine VX_catch hf hT [] (⟨0, 9, 12, 44⟩ : ExceptionTableEntry) [] rfl (fun z hz => absurd hz List.not_mem_nil) rfl (by decide) wk_L_44 (by decide) (fun w => ?_)
      change V X _ _ 12 _ _ _ _
      refine V_astore_n (ls2 := [_, _, _, _]) hf dL_sellerOf_12 rfl (by decide) rfl rfl ?_
      refine V_iconst hf dL_sellerOf_13 ?_
      exact B_iret hf he rfl dL_sellerOf_14 (by decide) (by decide) rfl rfl
    · simp at hi
set_option maxHeartbeats 4000000 in
set_option maxRecDepth 100000 in
theorem u_barnacleOf {l : Launch} {D : va_G} {K : Nat → ClassId} {ad : Adr} (hl0 : l.stackTraces = false) {σ σ1 : Mem} {oc : Out} {k v : Int} (a : Int) (hC : Cb l D K ad yX8_barnacleOf (.code yX8_barnacleOf cX8_barnacleOf 2 (some .int)) 9 1 6 σ [.ref (ad 0 23), .int (iN a)] oc σ1) (hO : Oc ["java/util/NoSuchElementException"] oc k v) (hv : inR v) : Cb l D K ad yL_barnacleOf (.codeWith yL_barnacleOf cL_barnacleOf 4 (some .int) hh_L_barnacleOf) 10 1 6 σ [.ref (ad 0 23), .int (iN a), .ref (ad 0 50)] (.inl (some (.int (iN k)))) (if k = 0 then st3 σ1 0 50 0 v else σ1) := by
  refine Ctr.ofH (own := RL) (ls0 := [some (.ref (ad 0 23)), some (.int (iN a)), some (.ref (ad 0 50)), none]) (by decide) rfl hl0 (Nat.le_of_ble_eq_true rfl) rfl ?_
  intro X hX1 hX2 hX3 hf he hT
  subst hX1 hX2 hX3
  rcases hO with ⟨rfl, rfl⟩ | ⟨i, En, hi, rfl, rfl⟩
  · rw [if_pos rfl] at he
    refine V_aload_n hf dL_barnacleOf_0 rfl rfl ?_
    refine V_iconst hf dL_barnacleOf_1 ?_
    refine V_aload_n hf dL_barnacleOf_2 rfl rfl ?_
    refine V_iload_n hf dL_barnacleOf_3 rfl rfl ?_
    refine B_callVi hf (As := [_]) hC cv_L_115 l01 rfl rfl rfl (Nat.le_of_ble_eq_true rfl) ⟨by decide, by decide, by decide, by decide⟩ dL_barnacleOf_4 ?_
    refine V_i2l hf hv dL_barnacleOf_7 ?_
    refine B_last hf dL_barnacleOf_8 ?_
    refine V_goto (tgt := 15) hf dL_barnacleOf_9 (by decide) ?_
    refine V_iconst hf dL_barnacleOf_15 ?_
    exact B_iret hf he rfl dL_barnacleOf_16 (by decide) (by decide) rfl rfl
  · rcases i with _ | i
    · cases hi
      rw [if_neg (by decide)] at he
      refine V_aload_n hf dL_barnacleOf_0 rfl rfl ?_
      refine V_iconst hf dL_barnacleOf_1 ?_
      refine V_aload_n hf dL_barnacleOf_2 rfl rfl ?_
      refine V_iload_n hf dL_barnacleOf_3 rfl rfl ?_
      refine B_callVX hf (As := [_]) hC cv_L_115 l01 rfl rfl rfl (Nat.le_of_ble_eq_true rfl) ⟨by decide, by decide, by decide, by decide⟩ dL_barnacleOf_4 ?_
      refine VX_catch hf hT [] (⟨0, 9, 12, 44⟩ : ExceptionTableEntry) [] rfl (fun z hz => absurd hz List.not_mem_nil) rfl (by decide) wk_L_44 (by decide) (fun w => ?_)
      change V X _ _ 12 _ _ _ _
      refine V_astore_n (ls2 := [_, _, _, _]) hf dL_barnacleOf_12 rfl (by decide) rfl rfl ?_
      refine V_iconst hf dL_barnacleOf_13 ?_
      exact B_iret hf he rfl dL_barnacleOf_14 (by decide) (by decide) rfl rfl
    · simp at hi
set_option maxHeartbeats 4000000 in
set_option maxRecDepth 100000 in
theorem u_priceOf {l : Launch} {D : va_G} {K : Nat → ClassId} {ad : Adr} (hl0 : l.stackTraces = false) {σ σ1 : Mem} {oc : Out} {k v : Int} (a : Int) (hC : Cb l D K ad yX8_priceOf (.code yX8_priceOf cX8_priceOf 2 (some .int)) 9 1 6 σ [.ref (ad 0 23), .int (iN a)] oc σ1) (hO : Oc ["java/util/NoSuchElementException"] oc k v) (hv : inR v) : Cb l D K ad yL_priceOf (.codeWith yL_priceOf cL_priceOf 4 (some .int) hh_L_priceOf) 10 1 6 σ [.ref (ad 0 23), .int (iN a), .ref (ad 0 50)] (.inl (some (.int (iN k)))) (if k = 0 then st3 σ1 0 50 0 v else σ1) := by
  refine Ctr.ofH (own := RL) (ls0 := [some (.ref (ad 0 23)), some (.int (iN a)), some (.ref (ad 0 50)), none]) (by decide) rfl hl0 (Nat.le_of_ble_eq_true rfl) rfl ?_
  intro X hX1 hX2 hX3 hf he hT
  subst hX1 hX2 hX3
  rcases hO with ⟨rfl, rfl⟩ | ⟨i, En, hi, rfl, rfl⟩
  · rw [if_pos rfl] at he
    refine V_aload_n hf dL_priceOf_0 rfl rfl ?_
    refine V_iconst hf dL_priceOf_1 ?_
    refine V_aload_n hf dL_priceOf_2 rfl rfl ?_
    refine V_iload_n hf dL_priceOf_3 rfl rfl ?_
    refine B_callVi hf (As := [_]) hC cv_L_118 l01 rfl rfl rfl (Nat.le_of_ble_eq_true rfl) ⟨by decide, by decide, by decide, by decide⟩ dL_priceOf_4 ?_
    refine V_i2l hf hv dL_priceOf_7 ?_
    refine B_last hf dL_priceOf_8 ?_
    refine V_goto (tgt := 15) hf dL_priceOf_9 (by decide) ?_
    refine V_iconst hf dL_priceOf_15 ?_
    exact B_iret hf he rfl dL_priceOf_16 (by decide) (by decide) rfl rfl
  · rcases i with _ | i
    · cases hi
      rw [if_neg (by decide)] at he
      refine V_aload_n hf dL_priceOf_0 rfl rfl ?_
      refine V_iconst hf dL_priceOf_1 ?_
      refine V_aload_n hf dL_priceOf_2 rfl rfl ?_
      refine V_iload_n hf dL_priceOf_3 rfl rfl ?_
      refine B_callVX hf (As := [_]) hC cv_L_118 l01 rfl rfl rfl (Nat.le_of_ble_eq_true rfl) ⟨by decide, by decide, by decide, by decide⟩ dL_priceOf_4 ?_
      refine VX_catch hf hT [] (⟨0, 9, 12, 44⟩ : ExceptionTableEntry) [] rfl (fun z hz => absurd hz List.not_mem_nil) rfl (by decide) wk_L_44 (by decide) (fun w => ?_)
      change V X _ _ 12 _ _ _ _
      refine V_astore_n (ls2 := [_, _, _, _]) hf dL_priceOf_12 rfl (by decide) rfl rfl ?_
      refine V_iconst hf dL_priceOf_13 ?_
      exact B_iret hf he rfl dL_priceOf_14 (by decide) (by decide) rfl rfl
    · simp at hi
set_option maxHeartbeats 4000000 in
set_option maxRecDepth 100000 in
theorem u_shipByWealth {l : Launch} {D : va_G} {K : Nat → ClassId} {ad : Adr} (hl0 : l.stackTraces = false) {σ σ1 : Mem} {oc : Out} {k v : Int} (a : Int) (hC : Cb l D K ad yX8_shipByWealth (.code yX8_shipByWealth cX8_shipByWealth 3 (some .int)) 9 1 6 σ [.ref (ad 0 23), .int (iN a)] oc σ1) (hO : Oc ["java/util/NoSuchElementException"] oc k v) (hv : inR v) : Cb l D K ad yL_shipByWealth (.codeWith yL_shipByWealth cL_shipByWealth 4 (some .int) hh_L_shipByWealth) 10 1 6 σ [.ref (ad 0 23), .int (iN a), .ref (ad 0 50)] (.inl (some (.int (iN k)))) (if k = 0 then st3 σ1 0 50 0 v else σ1) := by
  refine Ctr.ofH (own := RL) (ls0 := [some (.ref (ad 0 23)), some (.int (iN a)), some (.ref (ad 0 50)), none]) (by decide) rfl hl0 (Nat.le_of_ble_eq_true rfl) rfl ?_
  intro X hX1 hX2 hX3 hf he hT
  subst hX1 hX2 hX3
  rcases hO with ⟨rfl, rfl⟩ | ⟨i, En, hi, rfl, rfl⟩
  · rw [if_pos rfl] at he
    refine V_aload_n hf dL_shipByWealth_0 rfl rfl ?_
    refine V_iconst hf dL_shipByWealth_1 ?_
    refine V_aload_n hf dL_shipByWealth_2 rfl rfl ?_
    refine V_iload_n hf dL_shipByWealth_3 rfl rfl ?_
    refine B_callVi hf (As := [_]) hC cv_L_121 l01 rfl rfl rfl (Nat.le_of_ble_eq_true rfl) ⟨by decide, by decide, by decide, by decide⟩ dL_shipByWealth_4 ?_
    refine V_i2l hf hv dL_shipByWealth_7 ?_
    refine B_last hf dL_shipByWealth_8 ?_
    refine V_goto (tgt := 15) hf dL_shipByWealth_9 (by decide) ?_
    refine V_iconst hf dL_shipByWealth_15 ?_
    exact B_iret hf he rfl dL_shipByWealth_16 (by decide) (by decide) rfl rfl
  · rcases i with _ | i
    · cases hi
      rw [if_neg (by decide)] at he
      refine V_aload_n hf dL_shipByWealth_0 rfl rfl ?_
      refine V_iconst hf dL_shipByWealth_1 ?_
      refine V_aload_n hf dL_shipByWealth_2 rfl rfl ?_
      refine V_iload_n hf dL_shipByWealth_3 rfl rfl ?_
      refine B_callVX hf (As := [_]) hC cv_L_121 l01 rfl rfl rfl (Nat.le_of_ble_eq_true rfl) ⟨by decide, by decide, by decide, by decide⟩ dL_shipByWealth_4 ?_
      refine VX_catch hf hT [] (⟨0, 9, 12, 44⟩ : ExceptionTableEntry) [] rfl (fun z hz => absurd hz List.not_mem_nil) rfl (by decide) wk_L_44 (by decide) (fun w => ?_)
      change V X _ _ 12 _ _ _ _
      refine V_astore_n (ls2 := [_, _, _, _]) hf dL_shipByWealth_12 rfl (by decide) rfl rfl ?_
      refine V_iconst hf dL_shipByWealth_13 ?_
      exact B_iret hf he rfl dL_shipByWealth_14 (by decide) (by decide) rfl rfl
    · simp at hi
set_option maxHeartbeats 4000000 in
set_option maxRecDepth 100000 in
theorem u_outputAt {l : Launch} {D : va_G} {K : Nat → ClassId} {ad : Adr} (hl0 : l.stackTraces = false) {σ σ1 : Mem} {oc : Out} {k v : Int} (a : Int) (hC : Cb l D K ad yX8_outputAt (.code yX8_outputAt cX8_outputAt 2 (some .char)) 9 1 6 σ [.ref (ad 0 23), .int (iN a)] oc σ1) (hO : Oc ["java/lang/IndexOutOfBoundsException"] oc k v) (hv : inR v) : Cb l D K ad yL_outputAt (.codeWith yL_outputAt cL_outputAt 4 (some .int) hh_L_outputAt) 10 1 6 σ [.ref (ad 0 23), .int (iN a), .ref (ad 0 50)] (.inl (some (.int (iN k)))) (if k = 0 then st3 σ1 0 50 0 v else σ1) := by
  refine Ctr.ofH (own := RL) (ls0 := [some (.ref (ad 0 23)), some (.int (iN a)), some (.ref (ad 0 50)), none]) (by decide) rfl hl0 (Nat.le_of_ble_eq_true rfl) rfl ?_
  intro X hX1 hX2 hX3 hf he hT
  subst hX1 hX2 hX3
  rcases hO with ⟨rfl, rfl⟩ | ⟨i, En, hi, rfl, rfl⟩
  · rw [if_pos rfl] at he
    refine V_aload_n hf dL_outputAt_0 rfl rfl ?_
    refine V_iconst hf dL_outputAt_1 ?_
    refine V_aload_n hf dL_outputAt_2 rfl rfl ?_
    refine V_iload_n hf dL_outputAt_3 rfl rfl ?_
    refine B_callVi hf (As := [_]) hC cv_L_137 l01 rfl rfl rfl (Nat.le_of_ble_eq_true rfl) ⟨by decide, by decide, by decide, by decide⟩ dL_outputAt_4 ?_
    refine V_i2l hf hv dL_outputAt_7 ?_
    refine B_last hf dL_outputAt_8 ?_
    refine V_goto (tgt := 15) hf dL_outputAt_9 (by decide) ?_
    refine V_iconst hf dL_outputAt_15 ?_
    exact B_iret hf he rfl dL_outputAt_16 (by decide) (by decide) rfl rfl
  · rcases i with _ | i
    · cases hi
      rw [if_neg (by decide)] at he
      refine V_aload_n hf dL_outputAt_0 rfl rfl ?_
      refine V_iconst hf dL_outputAt_1 ?_
      refine V_aload_n hf dL_outputAt_2 rfl rfl ?_
      refine V_iload_n hf dL_outputAt_3 rfl rfl ?_
      refine B_callVX hf (As := [_]) hC cv_L_137 l01 rfl rfl rfl (Nat.le_of_ble_eq_true rfl) ⟨by decide, by decide, by decide, by decide⟩ dL_outputAt_4 ?_
      refine VX_catch hf hT [] (⟨0, 9, 12, 20⟩ : ExceptionTableEntry) [] rfl (fun z hz => absurd hz List.not_mem_nil) rfl (by decide) wk_L_20 (by decide) (fun w => ?_)
      change V X _ _ 12 _ _ _ _
      refine V_astore_n (ls2 := [_, _, _, _]) hf dL_outputAt_12 rfl (by decide) rfl rfl ?_
      refine V_iconst hf dL_outputAt_13 ?_
      exact B_iret hf he rfl dL_outputAt_14 (by decide) (by decide) rfl rfl
    · simp at hi
set_option maxHeartbeats 4000000 in
set_option maxRecDepth 100000 in
theorem u_appendInput {l : Launch} {D : va_G} {K : Nat → ClassId} {ad : Adr} (hl0 : l.stackTraces = false) {σ σ1 : Mem} {oc : Out} {k v : Int} (a : Int) (hC : Cb l D K ad yX8_appendInput (.code yX8_appendInput cX8_appendInput 2 (some .int)) 9 1 6 σ [.ref (ad 0 23), .int (iN a)] oc σ1) (hO : Oc ["java/lang/IllegalArgumentException", "java/lang/IllegalStateException"] oc k v) (hv : inR v) : Cb l D K ad yL_appendInput (.codeWith yL_appendInput cL_appendInput 4 (some .int) hh_L_appendInput) 10 1 6 σ [.ref (ad 0 23), .int (iN a), .ref (ad 0 50)] (.inl (some (.int (iN k)))) (if k = 0 then st3 σ1 0 50 0 v else σ1) := by
  refine Ctr.ofH (own := RL) (ls0 := [some (.ref (ad 0 23)), some (.int (iN a)), some (.ref (ad 0 50)), none]) (by decide) rfl hl0 (Nat.le_of_ble_eq_true rfl) rfl ?_
  intro X hX1 hX2 hX3 hf he hT
  subst hX1 hX2 hX3
  rcases hO with ⟨rfl, rfl⟩ | ⟨i, En, hi, rfl, rfl⟩
  · rw [if_pos rfl] at he
    refine V_aload_n hf dL_appendInput_0 rfl rfl ?_
    refine V_iconst hf dL_appendInput_1 ?_
    refine V_aload_n hf dL_appendInput_2 rfl rfl ?_
    refine V_iload_n hf dL_appendInput_3 rfl rfl ?_
    refine B_callVi hf (As := [_]) hC cv_L_141 l01 rfl rfl rfl (Nat.le_of_ble_eq_true rfl) ⟨by decide, by decide, by decide, by decide⟩ dL_appendInput_4 ?_
    refine V_i2l hf hv dL_appendInput_7 ?_
    refine B_last hf dL_appendInput_8 ?_
    refine V_goto (tgt := 18) hf dL_appendInput_9 (by decide) ?_
    refine V_iconst hf dL_appendInput_18 ?_
    exact B_iret hf he rfl dL_appendInput_19 (by decide) (by decide) rfl rfl
  · rcases i with _ | _ | i
    · cases hi
      rw [if_neg (by decide)] at he
      refine V_aload_n hf dL_appendInput_0 rfl rfl ?_
      refine V_iconst hf dL_appendInput_1 ?_
      refine V_aload_n hf dL_appendInput_2 rfl rfl ?_
      refine V_iload_n hf dL_appendInput_3 rfl rfl ?_
      refine B_callVX hf (As := [_]) hC cv_L_141 l01 rfl rfl rfl (Nat.le_of_ble_eq_true rfl) ⟨by decide, by decide, by decide, by decide⟩ dL_appendInput_4 ?_
      refine VX_catch hf hT [] (⟨0, 9, 12, 13⟩ : ExceptionTableEntry) [(⟨0, 9, 15, 145⟩ : ExceptionTableEntry)] rfl (fun z hz => absurd hz List.not_mem_nil) rfl (by decide) wk_L_13 (by decide) (fun w => ?_)
      change V X _ _ 12 _ _ _ _
      refine V_astore_n (ls2 := [_, _, _, _]) hf dL_appendInput_12 rfl (by decide) rfl rfl ?_
      refine V_iconst hf dL_appendInput_13 ?_
      exact B_iret hf he rfl dL_appendInput_14 (by decide) (by decide) rfl rfl
    · cases hi
      rw [if_neg (by decide)] at he
      refine V_aload_n hf dL_appendInput_0 rfl rfl ?_
      refine V_iconst hf dL_appendInput_1 ?_
      refine V_aload_n hf dL_appendInput_2 rfl rfl ?_
      refine V_iload_n hf dL_appendInput_3 rfl rfl ?_
      refine B_callVX hf (As := [_]) hC cv_L_141 l01 rfl rfl rfl (Nat.le_of_ble_eq_true rfl) ⟨by decide, by decide, by decide, by decide⟩ dL_appendInput_4 ?_
      refine VX_catch hf hT [(⟨0, 9, 12, 13⟩ : ExceptionTableEntry)] (⟨0, 9, 15, 145⟩ : ExceptionTableEntry) [] rfl (fun z hz => by simp only [List.mem_cons, List.not_mem_nil, or_false] at hz; subst hz; exact Or.inr ⟨by decide, "java/lang/IllegalArgumentException", wk_L_13, by decide⟩) rfl (by decide) wk_L_145 (by decide) (fun w => ?_)
      change V X _ _ 15 _ _ _ _
      refine V_astore_n (ls2 := [_, _, _, _]) hf dL_appendInput_15 rfl (by decide) rfl rfl ?_
      refine V_iconst hf dL_appendInput_16 ?_
      exact B_iret hf he rfl dL_appendInput_17 (by decide) (by decide) rfl rfl
    · simp at hi
set_option maxHeartbeats 4000000 in
set_option maxRecDepth 100000 in
theorem u_execute {l : Launch} {D : va_G} {K : Nat → ClassId} {ad : Adr} (hl0 : l.stackTraces = false) {σ σ1 : Mem} {oc : Out} {k v : Int} (hC : Cb l D K ad yX8_execute (.code yX8_execute cX8_execute 4 (some .int)) 9 1 6 σ [.ref (ad 0 23)] oc σ1) (hO : Oc ["java/lang/IllegalArgumentException", "java/lang/IllegalStateException", "java/lang/UnsupportedOperationException"] oc k v) (hv : inR v) : Cb l D K ad yL_execute (.codeWith yL_execute cL_execute 3 (some .int) hh_L_execute) 10 1 6 σ [.ref (ad 0 23), .ref (ad 0 50)] (.inl (some (.int (iN k)))) (if k = 0 then st3 σ1 0 50 0 v else σ1) := by
  refine Ctr.ofH (own := RL) (ls0 := [some (.ref (ad 0 23)), some (.ref (ad 0 50)), none]) (by decide) rfl hl0 (Nat.le_of_ble_eq_true rfl) rfl ?_
  intro X hX1 hX2 hX3 hf he hT
  subst hX1 hX2 hX3
  rcases hO with ⟨rfl, rfl⟩ | ⟨i, En, hi, rfl, rfl⟩
  · rw [if_pos rfl] at he
    refine V_aload_n hf dL_execute_0 rfl rfl ?_
    refine V_iconst hf dL_execute_1 ?_
    refine V_aload_n hf dL_execute_2 rfl rfl ?_
    refine B_callVi hf (As := []) hC cv_L_147 l01 rfl rfl rfl (Nat.le_of_ble_eq_true rfl) ⟨by decide, by decide, by decide, by decide⟩ dL_execute_3 ?_
    refine V_i2l hf hv dL_execute_6 ?_
    refine B_last hf dL_execute_7 ?_
    refine V_goto (tgt := 20) hf dL_execute_8 (by decide) ?_
    refine V_iconst hf dL_execute_20 ?_
    exact B_iret hf he rfl dL_execute_21 (by decide) (by decide) rfl rfl
  · rcases i with _ | _ | _ | i
    · cases hi
      rw [if_neg (by decide)] at he
      refine V_aload_n hf dL_execute_0 rfl rfl ?_
      refine V_iconst hf dL_execute_1 ?_
      refine V_aload_n hf dL_execute_2 rfl rfl ?_
      refine B_callVX hf (As := []) hC cv_L_147 l01 rfl rfl rfl (Nat.le_of_ble_eq_true rfl) ⟨by decide, by decide, by decide, by decide⟩ dL_execute_3 ?_
      refine VX_catch hf hT [] (⟨0, 8, 11, 13⟩ : ExceptionTableEntry) [(⟨0, 8, 14, 145⟩ : ExceptionTableEntry), (⟨0, 8, 17, 15⟩ : ExceptionTableEntry)] rfl (fun z hz => absurd hz List.not_mem_nil) rfl (by decide) wk_L_13 (by decide) (fun w => ?_)
      change V X _ _ 11 _ _ _ _
      refine V_astore_n (ls2 := [_, _, _]) hf dL_execute_11 rfl (by decide) rfl rfl ?_
      refine V_iconst hf dL_execute_12 ?_
      exact B_iret hf he rfl dL_execute_13 (by decide) (by decide) rfl rfl
    · cases hi
      rw [if_neg (by decide)] at he
      refine V_aload_n hf dL_execute_0 rfl rfl ?_
      refine V_iconst hf dL_execute_1 ?_
      refine V_aload_n hf dL_execute_2 rfl rfl ?_
      refine B_callVX hf (As := []) hC cv_L_147 l01 rfl rfl rfl (Nat.le_of_ble_eq_true rfl) ⟨by decide, by decide, by decide, by decide⟩ dL_execute_3 ?_
      refine VX_catch hf hT [(⟨0, 8, 11, 13⟩ : ExceptionTableEntry)] (⟨0, 8, 14, 145⟩ : ExceptionTableEntry) [(⟨0, 8, 17, 15⟩ : ExceptionTableEntry)] rfl (fun z hz => by simp only [List.mem_cons, List.not_mem_nil, or_false] at hz; subst hz; exact Or.inr ⟨by decide, "java/lang/IllegalArgumentException", wk_L_13, by decide⟩) rfl (by decide) wk_L_145 (by decide) (fun w => ?_)
      change V X _ _ 14 _ _ _ _
      refine V_astore_n (ls2 := [_, _, _]) hf dL_execute_14 rfl (by decide) rfl rfl ?_
      refine V_iconst hf dL_execute_15 ?_
      exact B_iret hf he rfl dL_execute_16 (by decide) (by decide) rfl rfl
    · cases hi
      rw [if_neg (by decide)] at he
      refine V_aload_n hf dL_execute_0 rfl rfl ?_
      refine V_iconst hf dL_execute_1 ?_
      refine V_aload_n hf dL_execute_2 rfl rfl ?_
      refine B_callVX hf (As := []) hC cv_L_147 l01 rfl rfl rfl (Nat.le_of_ble_eq_true rfl) ⟨by decide, by decide, by decide, by decide⟩ dL_execute_3 ?_
      refine VX_catch hf hT [(⟨0, 8, 11, 13⟩ : ExceptionTableEntry), (⟨0, 8, 14, 145⟩ : ExceptionTableEntry)] (⟨0, 8, 17, 15⟩ : ExceptionTableEntry) [] rfl (fun z hz => by simp only [List.mem_cons, List.not_mem_nil, or_false] at hz; exact hz.elim (fun e => by subst e; exact Or.inr ⟨by decide, "java/lang/IllegalArgumentException", wk_L_13, by decide⟩) (fun e => by subst e; exact Or.inr ⟨by decide, "java/lang/IllegalStateException", wk_L_145, by decide⟩)) rfl (by decide) wk_L_15 (by decide) (fun w => ?_)
      change V X _ _ 17 _ _ _ _
      refine V_astore_n (ls2 := [_, _, _]) hf dL_execute_17 rfl (by decide) rfl rfl ?_
      refine V_iconst hf dL_execute_18 ?_
      exact B_iret hf he rfl dL_execute_19 (by decide) (by decide) rfl rfl
    · simp at hi
set_option maxHeartbeats 4000000 in
set_option maxRecDepth 100000 in
theorem u_syntaxErrorOffset {l : Launch} {D : va_G} {K : Nat → ClassId} {ad : Adr} (hl0 : l.stackTraces = false) {σ σ1 : Mem} {oc : Out} {k v : Int} (hC : Cb l D K ad yX8_syntaxErrorOffset (.code yX8_syntaxErrorOffset cX8_syntaxErrorOffset 1 (some .int)) 9 1 6 σ [.ref (ad 0 23)] oc σ1) (hO : Oc ["java/util/NoSuchElementException"] oc k v) (hv : inR v) : Cb l D K ad yL_syntaxErrorOffset (.codeWith yL_syntaxErrorOffset cL_syntaxErrorOffset 3 (some .int) hh_L_syntaxErrorOffset) 10 1 6 σ [.ref (ad 0 23), .ref (ad 0 50)] (.inl (some (.int (iN k)))) (if k = 0 then st3 σ1 0 50 0 v else σ1) := by
  refine Ctr.ofH (own := RL) (ls0 := [some (.ref (ad 0 23)), some (.ref (ad 0 50)), none]) (by decide) rfl hl0 (Nat.le_of_ble_eq_true rfl) rfl ?_
  intro X hX1 hX2 hX3 hf he hT
  subst hX1 hX2 hX3
  rcases hO with ⟨rfl, rfl⟩ | ⟨i, En, hi, rfl, rfl⟩
  · rw [if_pos rfl] at he
    refine V_aload_n hf dL_syntaxErrorOffset_0 rfl rfl ?_
    refine V_iconst hf dL_syntaxErrorOffset_1 ?_
    refine V_aload_n hf dL_syntaxErrorOffset_2 rfl rfl ?_
    refine B_callVi hf (As := []) hC cv_L_150 l01 rfl rfl rfl (Nat.le_of_ble_eq_true rfl) ⟨by decide, by decide, by decide, by decide⟩ dL_syntaxErrorOffset_3 ?_
    refine V_i2l hf hv dL_syntaxErrorOffset_6 ?_
    refine B_last hf dL_syntaxErrorOffset_7 ?_
    refine V_goto (tgt := 14) hf dL_syntaxErrorOffset_8 (by decide) ?_
    refine V_iconst hf dL_syntaxErrorOffset_14 ?_
    exact B_iret hf he rfl dL_syntaxErrorOffset_15 (by decide) (by decide) rfl rfl
  · rcases i with _ | i
    · cases hi
      rw [if_neg (by decide)] at he
      refine V_aload_n hf dL_syntaxErrorOffset_0 rfl rfl ?_
      refine V_iconst hf dL_syntaxErrorOffset_1 ?_
      refine V_aload_n hf dL_syntaxErrorOffset_2 rfl rfl ?_
      refine B_callVX hf (As := []) hC cv_L_150 l01 rfl rfl rfl (Nat.le_of_ble_eq_true rfl) ⟨by decide, by decide, by decide, by decide⟩ dL_syntaxErrorOffset_3 ?_
      refine VX_catch hf hT [] (⟨0, 8, 11, 44⟩ : ExceptionTableEntry) [] rfl (fun z hz => absurd hz List.not_mem_nil) rfl (by decide) wk_L_44 (by decide) (fun w => ?_)
      change V X _ _ 11 _ _ _ _
      refine V_astore_n (ls2 := [_, _, _]) hf dL_syntaxErrorOffset_11 rfl (by decide) rfl rfl ?_
      refine V_iconst hf dL_syntaxErrorOffset_12 ?_
      exact B_iret hf he rfl dL_syntaxErrorOffset_13 (by decide) (by decide) rfl rfl
    · simp at hi
set_option maxHeartbeats 4000000 in
set_option maxRecDepth 100000 in
theorem u_rejectionReason {l : Launch} {D : va_G} {K : Nat → ClassId} {ad : Adr} (hl0 : l.stackTraces = false) {σ σ1 : Mem} {oc : Out} {k v : Int} (hC : Cb l D K ad yX8_rejectionReason (.code yX8_rejectionReason cX8_rejectionReason 1 (some .int)) 9 1 6 σ [.ref (ad 0 23)] oc σ1) (hO : Oc ["java/util/NoSuchElementException"] oc k v) (hv : inR v) : Cb l D K ad yL_rejectionReason (.codeWith yL_rejectionReason cL_rejectionReason 3 (some .int) hh_L_rejectionReason) 10 1 6 σ [.ref (ad 0 23), .ref (ad 0 50)] (.inl (some (.int (iN k)))) (if k = 0 then st3 σ1 0 50 0 v else σ1) := by
  refine Ctr.ofH (own := RL) (ls0 := [some (.ref (ad 0 23)), some (.ref (ad 0 50)), none]) (by decide) rfl hl0 (Nat.le_of_ble_eq_true rfl) rfl ?_
  intro X hX1 hX2 hX3 hf he hT
  subst hX1 hX2 hX3
  rcases hO with ⟨rfl, rfl⟩ | ⟨i, En, hi, rfl, rfl⟩
  · rw [if_pos rfl] at he
    refine V_aload_n hf dL_rejectionReason_0 rfl rfl ?_
    refine V_iconst hf dL_rejectionReason_1 ?_
    refine V_aload_n hf dL_rejectionReason_2 rfl rfl ?_
    refine B_callVi hf (As := []) hC cv_L_153 l01 rfl rfl rfl (Nat.le_of_ble_eq_true rfl) ⟨by decide, by decide, by decide, by decide⟩ dL_rejectionReason_3 ?_
    refine V_i2l hf hv dL_rejectionReason_6 ?_
    refine B_last hf dL_rejectionReason_7 ?_
    refine V_goto (tgt := 14) hf dL_rejectionReason_8 (by decide) ?_
    refine V_iconst hf dL_rejectionReason_14 ?_
    exact B_iret hf he rfl dL_rejectionReason_15 (by decide) (by decide) rfl rfl
  · rcases i with _ | i
    · cases hi
      rw [if_neg (by decide)] at he
      refine V_aload_n hf dL_rejectionReason_0 rfl rfl ?_
      refine V_iconst hf dL_rejectionReason_1 ?_
      refine V_aload_n hf dL_rejectionReason_2 rfl rfl ?_
      refine B_callVX hf (As := []) hC cv_L_153 l01 rfl rfl rfl (Nat.le_of_ble_eq_true rfl) ⟨by decide, by decide, by decide, by decide⟩ dL_rejectionReason_3 ?_
      refine VX_catch hf hT [] (⟨0, 8, 11, 44⟩ : ExceptionTableEntry) [] rfl (fun z hz => absurd hz List.not_mem_nil) rfl (by decide) wk_L_44 (by decide) (fun w => ?_)
      change V X _ _ 11 _ _ _ _
      refine V_astore_n (ls2 := [_, _, _]) hf dL_rejectionReason_11 rfl (by decide) rfl rfl ?_
      refine V_iconst hf dL_rejectionReason_12 ?_
      exact B_iret hf he rfl dL_rejectionReason_13 (by decide) (by decide) rfl rfl
    · simp at hi
set_option maxHeartbeats 4000000 in
set_option maxRecDepth 100000 in
theorem u_rejectionDetail {l : Launch} {D : va_G} {K : Nat → ClassId} {ad : Adr} (hl0 : l.stackTraces = false) {σ σ1 : Mem} {oc : Out} {k v : Int} (hC : Cb l D K ad yX8_rejectionDetail (.code yX8_rejectionDetail cX8_rejectionDetail 1 (some .int)) 9 1 6 σ [.ref (ad 0 23)] oc σ1) (hO : Oc ["java/util/NoSuchElementException"] oc k v) (hv : inR v) : Cb l D K ad yL_rejectionDetail (.codeWith yL_rejectionDetail cL_rejectionDetail 3 (some .int) hh_L_rejectionDetail) 10 1 6 σ [.ref (ad 0 23), .ref (ad 0 50)] (.inl (some (.int (iN k)))) (if k = 0 then st3 σ1 0 50 0 v else σ1) := by
  refine Ctr.ofH (own := RL) (ls0 := [some (.ref (ad 0 23)), some (.ref (ad 0 50)), none]) (by decide) rfl hl0 (Nat.le_of_ble_eq_true rfl) rfl ?_
  intro X hX1 hX2 hX3 hf he hT
  subst hX1 hX2 hX3
  rcases hO with ⟨rfl, rfl⟩ | ⟨i, En, hi, rfl, rfl⟩
  · rw [if_pos rfl] at he
    refine V_aload_n hf dL_rejectionDetail_0 rfl rfl ?_
    refine V_iconst hf dL_rejectionDetail_1 ?_
    refine V_aload_n hf dL_rejectionDetail_2 rfl rfl ?_
    refine B_callVi hf (As := []) hC cv_L_156 l01 rfl rfl rfl (Nat.le_of_ble_eq_true rfl) ⟨by decide, by decide, by decide, by decide⟩ dL_rejectionDetail_3 ?_
    refine V_i2l hf hv dL_rejectionDetail_6 ?_
    refine B_last hf dL_rejectionDetail_7 ?_
    refine V_goto (tgt := 14) hf dL_rejectionDetail_8 (by decide) ?_
    refine V_iconst hf dL_rejectionDetail_14 ?_
    exact B_iret hf he rfl dL_rejectionDetail_15 (by decide) (by decide) rfl rfl
  · rcases i with _ | i
    · cases hi
      rw [if_neg (by decide)] at he
      refine V_aload_n hf dL_rejectionDetail_0 rfl rfl ?_
      refine V_iconst hf dL_rejectionDetail_1 ?_
      refine V_aload_n hf dL_rejectionDetail_2 rfl rfl ?_
      refine B_callVX hf (As := []) hC cv_L_156 l01 rfl rfl rfl (Nat.le_of_ble_eq_true rfl) ⟨by decide, by decide, by decide, by decide⟩ dL_rejectionDetail_3 ?_
      refine VX_catch hf hT [] (⟨0, 8, 11, 44⟩ : ExceptionTableEntry) [] rfl (fun z hz => absurd hz List.not_mem_nil) rfl (by decide) wk_L_44 (by decide) (fun w => ?_)
      change V X _ _ 11 _ _ _ _
      refine V_astore_n (ls2 := [_, _, _]) hf dL_rejectionDetail_11 rfl (by decide) rfl rfl ?_
      refine V_iconst hf dL_rejectionDetail_12 ?_
      exact B_iret hf he rfl dL_rejectionDetail_13 (by decide) (by decide) rfl rfl
    · simp at hi
set_option maxHeartbeats 4000000 in
set_option maxRecDepth 100000 in
theorem u_causeReason {l : Launch} {D : va_G} {K : Nat → ClassId} {ad : Adr} (hl0 : l.stackTraces = false) {σ σ1 : Mem} {oc : Out} {k v : Int} (hC : Cb l D K ad yX8_causeReason (.code yX8_causeReason cX8_causeReason 1 (some .int)) 9 1 6 σ [.ref (ad 0 23)] oc σ1) (hO : Oc ["java/util/NoSuchElementException"] oc k v) (hv : inR v) : Cb l D K ad yL_causeReason (.codeWith yL_causeReason cL_causeReason 3 (some .int) hh_L_causeReason) 10 1 6 σ [.ref (ad 0 23), .ref (ad 0 50)] (.inl (some (.int (iN k)))) (if k = 0 then st3 σ1 0 50 0 v else σ1) := by
  refine Ctr.ofH (own := RL) (ls0 := [some (.ref (ad 0 23)), some (.ref (ad 0 50)), none]) (by decide) rfl hl0 (Nat.le_of_ble_eq_true rfl) rfl ?_
  intro X hX1 hX2 hX3 hf he hT
  subst hX1 hX2 hX3
  rcases hO with ⟨rfl, rfl⟩ | ⟨i, En, hi, rfl, rfl⟩
  · rw [if_pos rfl] at he
    refine V_aload_n hf dL_causeReason_0 rfl rfl ?_
    refine V_iconst hf dL_causeReason_1 ?_
    refine V_aload_n hf dL_causeReason_2 rfl rfl ?_
    refine B_callVi hf (As := []) hC cv_L_159 l01 rfl rfl rfl (Nat.le_of_ble_eq_true rfl) ⟨by decide, by decide, by decide, by decide⟩ dL_causeReason_3 ?_
    refine V_i2l hf hv dL_causeReason_6 ?_
    refine B_last hf dL_causeReason_7 ?_
    refine V_goto (tgt := 14) hf dL_causeReason_8 (by decide) ?_
    refine V_iconst hf dL_causeReason_14 ?_
    exact B_iret hf he rfl dL_causeReason_15 (by decide) (by decide) rfl rfl
  · rcases i with _ | i
    · cases hi
      rw [if_neg (by decide)] at he
      refine V_aload_n hf dL_causeReason_0 rfl rfl ?_
      refine V_iconst hf dL_causeReason_1 ?_
      refine V_aload_n hf dL_causeReason_2 rfl rfl ?_
      refine B_callVX hf (As := []) hC cv_L_159 l01 rfl rfl rfl (Nat.le_of_ble_eq_true rfl) ⟨by decide, by decide, by decide, by decide⟩ dL_causeReason_3 ?_
      refine VX_catch hf hT [] (⟨0, 8, 11, 44⟩ : ExceptionTableEntry) [] rfl (fun z hz => absurd hz List.not_mem_nil) rfl (by decide) wk_L_44 (by decide) (fun w => ?_)
      change V X _ _ 11 _ _ _ _
      refine V_astore_n (ls2 := [_, _, _]) hf dL_causeReason_11 rfl (by decide) rfl rfl ?_
      refine V_iconst hf dL_causeReason_12 ?_
      exact B_iret hf he rfl dL_causeReason_13 (by decide) (by decide) rfl rfl
    · simp at hi
set_option maxHeartbeats 4000000 in
set_option maxRecDepth 100000 in
theorem u_undo {l : Launch} {D : va_G} {K : Nat → ClassId} {ad : Adr} (hl0 : l.stackTraces = false) {σ σ1 : Mem} {oc : Out} {k v : Int} (hC : Cb l D K ad yX8_undo (.code yX8_undo cX8_undo 1 (some .int)) 9 1 6 σ [.ref (ad 0 23)] oc σ1) (hO : Oc ["java/lang/IllegalStateException"] oc k v) (hv : inR v) : Cb l D K ad yL_undo (.codeWith yL_undo cL_undo 3 (some .int) hh_L_undo) 10 1 6 σ [.ref (ad 0 23), .ref (ad 0 50)] (.inl (some (.int (iN k)))) (if k = 0 then st3 σ1 0 50 0 v else σ1) := by
  refine Ctr.ofH (own := RL) (ls0 := [some (.ref (ad 0 23)), some (.ref (ad 0 50)), none]) (by decide) rfl hl0 (Nat.le_of_ble_eq_true rfl) rfl ?_
  intro X hX1 hX2 hX3 hf he hT
  subst hX1 hX2 hX3
  rcases hO with ⟨rfl, rfl⟩ | ⟨i, En, hi, rfl, rfl⟩
  · rw [if_pos rfl] at he
    refine V_aload_n hf dL_undo_0 rfl rfl ?_
    refine V_iconst hf dL_undo_1 ?_
    refine V_aload_n hf dL_undo_2 rfl rfl ?_
    refine B_callVi hf (As := []) hC cv_L_162 l01 rfl rfl rfl (Nat.le_of_ble_eq_true rfl) ⟨by decide, by decide, by decide, by decide⟩ dL_undo_3 ?_
    refine V_i2l hf hv dL_undo_6 ?_
    refine B_last hf dL_undo_7 ?_
    refine V_goto (tgt := 14) hf dL_undo_8 (by decide) ?_
    refine V_iconst hf dL_undo_14 ?_
    exact B_iret hf he rfl dL_undo_15 (by decide) (by decide) rfl rfl
  · rcases i with _ | i
    · cases hi
      rw [if_neg (by decide)] at he
      refine V_aload_n hf dL_undo_0 rfl rfl ?_
      refine V_iconst hf dL_undo_1 ?_
      refine V_aload_n hf dL_undo_2 rfl rfl ?_
      refine B_callVX hf (As := []) hC cv_L_162 l01 rfl rfl rfl (Nat.le_of_ble_eq_true rfl) ⟨by decide, by decide, by decide, by decide⟩ dL_undo_3 ?_
      refine VX_catch hf hT [] (⟨0, 8, 11, 145⟩ : ExceptionTableEntry) [] rfl (fun z hz => absurd hz List.not_mem_nil) rfl (by decide) wk_L_145 (by decide) (fun w => ?_)
      change V X _ _ 11 _ _ _ _
      refine V_astore_n (ls2 := [_, _, _]) hf dL_undo_11 rfl (by decide) rfl rfl ?_
      refine V_iconst hf dL_undo_12 ?_
      exact B_iret hf he rfl dL_undo_13 (by decide) (by decide) rfl rfl
    · simp at hi
set_option maxHeartbeats 4000000 in
set_option maxRecDepth 100000 in
theorem u_restoreSnapshot {l : Launch} {D : va_G} {K : Nat → ClassId} {ad : Adr} (hl0 : l.stackTraces = false) {σ σ1 : Mem} {oc : Out} {k v : Int} (hC : Cb l D K ad yX8_restoreSnapshot (.code yX8_restoreSnapshot cX8_restoreSnapshot 1 (some .int)) 9 1 6 σ [.ref (ad 0 23)] oc σ1) (hO : Oc ["java/lang/IllegalStateException"] oc k v) (hv : inR v) : Cb l D K ad yL_restoreSnapshot (.codeWith yL_restoreSnapshot cL_restoreSnapshot 3 (some .int) hh_L_restoreSnapshot) 10 1 6 σ [.ref (ad 0 23), .ref (ad 0 50)] (.inl (some (.int (iN k)))) (if k = 0 then st3 σ1 0 50 0 v else σ1) := by
  refine Ctr.ofH (own := RL) (ls0 := [some (.ref (ad 0 23)), some (.ref (ad 0 50)), none]) (by decide) rfl hl0 (Nat.le_of_ble_eq_true rfl) rfl ?_
  intro X hX1 hX2 hX3 hf he hT
  subst hX1 hX2 hX3
  rcases hO with ⟨rfl, rfl⟩ | ⟨i, En, hi, rfl, rfl⟩
  · rw [if_pos rfl] at he
    refine V_aload_n hf dL_restoreSnapshot_0 rfl rfl ?_
    refine V_iconst hf dL_restoreSnapshot_1 ?_
    refine V_aload_n hf dL_restoreSnapshot_2 rfl rfl ?_
    refine B_callVi hf (As := []) hC cv_L_165 l01 rfl rfl rfl (Nat.le_of_ble_eq_true rfl) ⟨by decide, by decide, by decide, by decide⟩ dL_restoreSnapshot_3 ?_
    refine V_i2l hf hv dL_restoreSnapshot_6 ?_
    refine B_last hf dL_restoreSnapshot_7 ?_
    refine V_goto (tgt := 14) hf dL_restoreSnapshot_8 (by decide) ?_
    refine V_iconst hf dL_restoreSnapshot_14 ?_
    exact B_iret hf he rfl dL_restoreSnapshot_15 (by decide) (by decide) rfl rfl
  · rcases i with _ | i
    · cases hi
      rw [if_neg (by decide)] at he
      refine V_aload_n hf dL_restoreSnapshot_0 rfl rfl ?_
      refine V_iconst hf dL_restoreSnapshot_1 ?_
      refine V_aload_n hf dL_restoreSnapshot_2 rfl rfl ?_
      refine B_callVX hf (As := []) hC cv_L_165 l01 rfl rfl rfl (Nat.le_of_ble_eq_true rfl) ⟨by decide, by decide, by decide, by decide⟩ dL_restoreSnapshot_3 ?_
      refine VX_catch hf hT [] (⟨0, 8, 11, 145⟩ : ExceptionTableEntry) [] rfl (fun z hz => absurd hz List.not_mem_nil) rfl (by decide) wk_L_145 (by decide) (fun w => ?_)
      change V X _ _ 11 _ _ _ _
      refine V_astore_n (ls2 := [_, _, _]) hf dL_restoreSnapshot_11 rfl (by decide) rfl rfl ?_
      refine V_iconst hf dL_restoreSnapshot_12 ?_
      exact B_iret hf he rfl dL_restoreSnapshot_13 (by decide) (by decide) rfl rfl
    · simp at hi
