/-! the law's helpers: the share -/
set_option maxHeartbeats 4000000 in
set_option maxRecDepth 100000 in
theorem u_offeredShare {l : Launch} {D : va_G} {K : Nat → ClassId} {ad : Adr} (hl0 : l.stackTraces = false) {σ σ1 : Mem} {oc : Out} {k : Int} {d : UInt32} (hC : Cb l D K ad yX8_offeredShare (.code yX8_offeredShare cX8_offeredShare 2 (some .float)) 9 1 6 σ [.ref (ad 0 23)] oc σ1) (hO : (k = 0 ∧ oc = .inl (some (.float d)) ∧ vf_n64 (FP.f2d d)) ∨ (k = 1 ∧ oc = .inr "java/lang/ArithmeticException")) : Cb l D K ad yL_offeredShare (.codeWith yL_offeredShare cL_offeredShare 3 (some .int) hh_L_offeredShare) 10 1 6 σ [.ref (ad 0 23), .ref (ad 0 51)] (.inl (some (.int (iN k)))) (if k = 0 then st3 σ1 0 51 0 ((FP.f2d d).toNat : Int) else σ1) := by
  refine Ctr.ofH (own := RL) (ls0 := [some (.ref (ad 0 23)), some (.ref (ad 0 51)), none]) (by decide) rfl hl0 (Nat.le_of_ble_eq_true rfl) rfl ?_
  intro X hX1 hX2 hX3 hf he hT
  subst hX1 hX2 hX3
  rcases hO with ⟨rfl, rfl, hn⟩ | ⟨rfl, rfl⟩
  · rw [if_pos rfl] at he
    refine V_aload_n hf dL_offeredShare_0 rfl rfl ?_
    refine V_iconst hf dL_offeredShare_1 ?_
    refine V_aload_n hf dL_offeredShare_2 rfl rfl ?_
    refine B_callVi hf (As := []) hC cv_L_130 l01 rfl rfl rfl (Nat.le_of_ble_eq_true rfl) ⟨by decide, by decide, by decide, by decide⟩ dL_offeredShare_3 ?_
    refine V_f2d hf hn dL_offeredShare_6 ?_
    refine B_dast hf dL_offeredShare_7 ?_
    refine V_goto (tgt := 14) hf dL_offeredShare_8 (by decide) ?_
    refine V_iconst hf dL_offeredShare_14 ?_
    exact B_iret hf he rfl dL_offeredShare_15 (by decide) (by decide) rfl rfl
  · rw [if_neg (by decide)] at he
    refine V_aload_n hf dL_offeredShare_0 rfl rfl ?_
    refine V_iconst hf dL_offeredShare_1 ?_
    refine V_aload_n hf dL_offeredShare_2 rfl rfl ?_
    refine B_callVX hf (As := []) hC cv_L_130 l01 rfl rfl rfl (Nat.le_of_ble_eq_true rfl) ⟨by decide, by decide, by decide, by decide⟩ dL_offeredShare_3 ?_
    refine VX_catch hf hT [] (⟨0, 8, 11, 128⟩ : ExceptionTableEntry) [] rfl (fun z hz => absurd hz List.not_mem_nil) rfl (by decide) wk_L_128 (by decide) (fun w => ?_)
    change V X _ _ 11 _ _ _ _
    refine V_astore_n (ls2 := [_, _, _]) hf dL_offeredShare_11 rfl (by decide) rfl rfl ?_
    refine V_iconst hf dL_offeredShare_12 ?_
    exact B_iret hf he rfl dL_offeredShare_13 (by decide) (by decide) rfl rfl
