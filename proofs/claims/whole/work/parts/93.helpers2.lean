/-! the law's helpers: the line, the mean -/
set_option maxHeartbeats 4000000 in
set_option maxRecDepth 100000 in
theorem u_writeShip_o {l : Launch} {D : va_G} {K : Nat → ClassId} {ad : Adr} (hl0 : l.stackTraces = false) {σ : Mem} {v : Int} {Φ : Mem → Prop} (a : Int) (hC : Cg l D K ad yX8_writeShip (.code yX8_writeShip cX8_writeShip 5 (some .int)) 9 500 1500 σ [.ref (ad 0 23), .int (iN a)] (some (.int (iN v))) Φ) (hv : inR v) : Ctr l yL_writeShip (.codeWith yL_writeShip cL_writeShip 4 (some .int) hh_L_writeShip) (rmd 10 500 1500) 500 1500 D K ad (Es ad K σ) [.ref (ad 0 23), .int (iN a), .ref (ad 0 50)] (Pg K ad (some (.int (iN 0))) (fun σ' => ∃ σ1, Φ σ1 ∧ σ' = st3 σ1 0 50 0 v)) := by
  refine Ctr.ofH (own := RL) (ls0 := [some (.ref (ad 0 23)), some (.int (iN a)), some (.ref (ad 0 50)), none]) (by decide) rfl hl0 (Nat.le_of_ble_eq_true rfl) rfl ?_
  intro X hX1 hX2 hX3 hf he hT
  subst hX1 hX2 hX3
  change B X ad σ 0 _ _ _ _
  refine V_aload_n hf dL_writeShip_0 rfl rfl ?_
  refine V_iconst hf dL_writeShip_1 ?_
  refine V_aload_n hf dL_writeShip_2 rfl rfl ?_
  refine V_iload_n hf dL_writeShip_3 rfl rfl ?_
  refine B_gV hf (As := [_]) hC cv_L_134 l01 rfl rfl rfl (Nat.le_of_ble_eq_true rfl) ⟨by decide, by decide, by decide, by decide⟩ dL_writeShip_4 (fun w σ1 hΦ => ?_)
  change B X (ast ad 0 32 w) σ1 7 _ [.int (iN v), .int (iN 0), .ref (ast ad 0 32 w 0 50)] _ _
  refine V_i2l hf hv dL_writeShip_7 ?_
  refine B_last hf dL_writeShip_8 ?_
  refine V_goto (tgt := 15) hf dL_writeShip_9 (by decide) ?_
  refine V_iconst hf dL_writeShip_15 ?_
  exact G_iret hf he (v := w) rfl dL_writeShip_16 (by decide) (by decide) rfl rfl ⟨σ1, hΦ, rfl⟩
set_option maxHeartbeats 4000000 in
set_option maxRecDepth 100000 in
theorem u_writeShip_x {l : Launch} {D : va_G} {K : Nat → ClassId} {ad : Adr} (hl0 : l.stackTraces = false) {σ σ1 : Mem} (a : Int) (hC : Cb l D K ad yX8_writeShip (.code yX8_writeShip cX8_writeShip 5 (some .int)) 9 500 1500 σ [.ref (ad 0 23), .int (iN a)] (.inr "java/lang/IndexOutOfBoundsException") σ1) : Cb l D K ad yL_writeShip (.codeWith yL_writeShip cL_writeShip 4 (some .int) hh_L_writeShip) 10 500 1500 σ [.ref (ad 0 23), .int (iN a), .ref (ad 0 50)] (.inl (some (.int (iN 1)))) σ1 := by
  refine Ctr.ofH (own := RL) (ls0 := [some (.ref (ad 0 23)), some (.int (iN a)), some (.ref (ad 0 50)), none]) (by decide) rfl hl0 (Nat.le_of_ble_eq_true rfl) rfl ?_
  intro X hX1 hX2 hX3 hf he hT
  subst hX1 hX2 hX3
  refine V_aload_n hf dL_writeShip_0 rfl rfl ?_
  refine V_iconst hf dL_writeShip_1 ?_
  refine V_aload_n hf dL_writeShip_2 rfl rfl ?_
  refine V_iload_n hf dL_writeShip_3 rfl rfl ?_
  refine B_callVX hf (As := [_]) hC cv_L_134 l01 rfl rfl rfl (Nat.le_of_ble_eq_true rfl) ⟨by decide, by decide, by decide, by decide⟩ dL_writeShip_4 ?_
  refine VX_catch hf hT [] (⟨0, 9, 12, 20⟩ : ExceptionTableEntry) [] rfl (fun z hz => absurd hz List.not_mem_nil) rfl (by decide) wk_L_20 (by decide) (fun w => ?_)
  change V X _ _ 12 _ _ _ _
  refine V_astore_n (ls2 := [_, _, _, _]) hf dL_writeShip_12 rfl (by decide) rfl rfl ?_
  refine V_iconst hf dL_writeShip_13 ?_
  exact B_iret hf he rfl dL_writeShip_14 (by decide) (by decide) rfl rfl
set_option maxHeartbeats 4000000 in
set_option maxRecDepth 100000 in
theorem u_meanPrice {l : Launch} {D : va_G} {K : Nat → ClassId} {ad : Adr} (hl0 : l.stackTraces = false) {σ σ1 : Mem} {oc : Out} {k : Int} {d : UInt64} (hC : Cb l D K ad yX8_meanPrice (.code yX8_meanPrice cX8_meanPrice 2 (some .double)) 9 1 6 σ [.ref (ad 0 23)] oc σ1) (hO : (k = 0 ∧ oc = .inl (some (.double d))) ∨ (k = 1 ∧ oc = .inr "java/lang/ArithmeticException")) : Cb l D K ad yL_meanPrice (.codeWith yL_meanPrice cL_meanPrice 3 (some .int) hh_L_meanPrice) 10 1 6 σ [.ref (ad 0 23), .ref (ad 0 51)] (.inl (some (.int (iN k)))) (if k = 0 then st3 σ1 0 51 0 (d.toNat : Int) else σ1) := by
  refine Ctr.ofH (own := RL) (ls0 := [some (.ref (ad 0 23)), some (.ref (ad 0 51)), none]) (by decide) rfl hl0 (Nat.le_of_ble_eq_true rfl) rfl ?_
  intro X hX1 hX2 hX3 hf he hT
  subst hX1 hX2 hX3
  rcases hO with ⟨rfl, rfl⟩ | ⟨rfl, rfl⟩
  · rw [if_pos rfl] at he
    refine V_aload_n hf dL_meanPrice_0 rfl rfl ?_
    refine V_iconst hf dL_meanPrice_1 ?_
    refine V_aload_n hf dL_meanPrice_2 rfl rfl ?_
    refine B_callVi hf (As := []) hC cv_L_124 l01 rfl rfl rfl (Nat.le_of_ble_eq_true rfl) ⟨by decide, by decide, by decide, by decide⟩ dL_meanPrice_3 ?_
    refine B_dast hf dL_meanPrice_6 ?_
    refine V_goto (tgt := 13) hf dL_meanPrice_7 (by decide) ?_
    refine V_iconst hf dL_meanPrice_13 ?_
    exact B_iret hf he rfl dL_meanPrice_14 (by decide) (by decide) rfl rfl
  · rw [if_neg (by decide)] at he
    refine V_aload_n hf dL_meanPrice_0 rfl rfl ?_
    refine V_iconst hf dL_meanPrice_1 ?_
    refine V_aload_n hf dL_meanPrice_2 rfl rfl ?_
    refine B_callVX hf (As := []) hC cv_L_124 l01 rfl rfl rfl (Nat.le_of_ble_eq_true rfl) ⟨by decide, by decide, by decide, by decide⟩ dL_meanPrice_3 ?_
    refine VX_catch hf hT [] (⟨0, 7, 10, 128⟩ : ExceptionTableEntry) [] rfl (fun z hz => absurd hz List.not_mem_nil) rfl (by decide) wk_L_128 (by decide) (fun w => ?_)
    change V X _ _ 10 _ _ _ _
    refine V_astore_n (ls2 := [_, _, _]) hf dL_meanPrice_10 rfl (by decide) rfl rfl ?_
    refine V_iconst hf dL_meanPrice_11 ?_
    exact B_iret hf he rfl dL_meanPrice_12 (by decide) (by decide) rfl rfl
