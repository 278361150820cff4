/-! the exchange: the commands -/
def cappM (σ : Mem) (c : Int) : Mem :=
  let σ1 := st3 σ 0 27 (σ 0 26 1) c
  st3 σ1 0 26 1 (σ1 0 26 1 + 1)
/-- behind the reading of the input -/
def cx0 (ch : Int → Int) (len : Int) (σ : Mem) : Mem := st3 (aM (cAll ch len 31 (st3 σ 0 26 3 0) 0).1 (cAll ch len 31 (st3 σ 0 26 3 0) 0).2.1) 0 26 1 0
theorem cAll_p {ch : Int → Int} {len : Int} : ∀ {f : Nat} {σ : Mem} {p : Int}, C6 σ ch len → 0 ≤ p ∧ p ≤ 60 → 0 ≤ σ 0 26 3 → σ 0 26 3 ≤ 30 → C6 (cAll ch len f σ p).1 ch len ∧ (0 ≤ (cAll ch len f σ p).2.1 ∧ (cAll ch len f σ p).2.1 ≤ 60) ∧ ((cAll ch len f σ p).2.2 = 0 ∨ (cAll ch len f σ p).2.2 = 1) ∧ 0 ≤ (cAll ch len f σ p).1 0 26 3 ∧ (cAll ch len f σ p).1 0 26 3 ≤ 30
  | 0, σ, p, hP, hp, h0, h3 => ⟨hP, hp, Or.inl rfl, h0, h3⟩
  | f + 1, σ, p, hP, hp, h0, h3 => by
    unfold cAll
    by_cases h1 : 30 ≤ σ 0 26 3
    · rw [if_pos h1]
      exact ⟨hP, hp, Or.inl rfl, h0, h3⟩
    · rw [if_neg h1]
      have hr := cRead_p (n := σ 0 26 3) hP ⟨h0, by omega⟩ hp
      have r3 : (cRead ch len (σ 0 26 3) σ p).1 0 26 3 = σ 0 26 3 := cRead_3
      by_cases h2 : (cRead ch len (σ 0 26 3) σ p).2.2 = 0
      · rw [if_pos h2]
        exact ⟨hr.1, hr.2.1, Or.inl rfl, by dsimp only; omega, by dsimp only; omega⟩
      · rw [if_neg h2]
        have hst := hr.1.st (g := 0) (j := 26) (i := 3) (v := σ 0 26 3 + 1) ⟨by omega, by omega⟩ (by decide) (by decide)
        by_cases h4 : (cRead ch len (σ 0 26 3) σ p).2.1 = len
        · rw [if_pos h4]
          exact ⟨hst, hr.2.1, Or.inr rfl, by dsimp only; rw [st3_self]; omega, by dsimp only; rw [st3_self]; omega⟩
        · rw [if_neg h4]
          by_cases h5 : mHere ch len (cRead ch len (σ 0 26 3) σ p).2.1 = 59
          · rw [if_pos h5]
            have hlt : (cRead ch len (σ 0 26 3) σ p).2.1 < len := by
              unfold mHere at h5
              split at h5 <;> omega
            exact cAll_p hst ⟨by omega, by have := hP.2.2.1; omega⟩ (by rw [st3_self]; omega) (by rw [st3_self]; omega)
          · rw [if_neg h5]
            exact ⟨hr.1, hr.2.1, Or.inl rfl, by dsimp only; omega, by dsimp only; omega⟩
set_option maxHeartbeats 4000000 in
set_option maxRecDepth 100000 in
theorem c_app {l : Launch} {D : va_G} {K : Nat → ClassId} {ad : Adr} (hl0 : l.stackTraces = false) (σ : Mem) (hR : Rng σ) (c : Int) (hc : 0 ≤ c ∧ c < 65536) (hl : 0 ≤ σ 0 26 1 ∧ σ 0 26 1 ≤ 60) (hk : 32 ≤ c ∧ c ≤ 126) (h6 : σ 0 26 1 < 60) : Cb l D K ad yX8_appendInput (.code yX8_appendInput cX8_appendInput 2 (some .int)) 9 1 6 σ [.ref (ad 0 23), .int (iN c)] (.inl (some (.int (iN (cappM σ c 0 26 1))))) (cappM σ c) := by
  refine Cb.of (own := RX8) (ls0 := [some (.ref (ad 0 23)), some (.int (iN c))]) hl0 (by decide) rfl (Nat.le_of_ble_eq_true rfl) rfl ?_
  intro X hX1 hX2 hX3 hf he hh
  subst hX1 hX2 hX3
  refine V_iload_n hf dX8_appendInput_0 rfl rfl ?_
  refine V_bipush hf dX8_appendInput_1 (by decide +kernel) ?_
  refine V_bipush hf dX8_appendInput_3 (by decide +kernel) ?_
  refine B_callSi hf (As := [_, _, _]) (c_within hl0 σ c 32 126 ⟨by omega, by omega⟩ ⟨by decide, by decide⟩ ⟨by decide, by decide⟩) cvs_X8_255 rfl (Nat.le_of_ble_eq_true rfl) ⟨by decide, by decide, by decide, by decide⟩ dX8_appendInput_5 ?_
  refine V_if_ne (tgt := 22) hf (by split <;> exact ⟨by decide, by decide⟩) dX8_appendInput_8 (by decide) (fun h8 => ?_) (fun h8 => ?_)
  · refine V_aload_n hf dX8_appendInput_22 rfl rfl ?_
    refine B_get hf l01 rfl fl_X8_36_11 rfl dX8_appendInput_23 ?_
    refine B_get hf l01 rfl fl_X8_264_9 rfl dX8_appendInput_26 ?_
    refine V_bipush hf dX8_appendInput_29 (by decide +kernel) ?_
    refine V_icmp_lt (tgt := 45) hf (by first | exact hR _ _ _ (by decide) | exact ⟨by omega, by omega⟩) (by first | exact hR _ _ _ (by decide) | exact ⟨by omega, by omega⟩) dX8_appendInput_31 (by decide) (fun h31 => ?_) (fun h31 => ?_)
    · refine V_aload_n hf dX8_appendInput_45 rfl rfl ?_
      refine B_get hf l01 rfl fl_X8_36_11 rfl dX8_appendInput_46 ?_
      refine B_get hf l01 rfl fl_X8_271_9 rfl dX8_appendInput_49 ?_
      refine V_aload_n hf dX8_appendInput_52 rfl rfl ?_
      refine B_get hf l01 rfl fl_X8_36_11 rfl dX8_appendInput_53 ?_
      refine B_get hf l01 rfl fl_X8_264_9 rfl dX8_appendInput_56 ?_
      refine V_iload_n hf dX8_appendInput_59 rfl rfl ?_
      refine B_cast hf l01 (by decide) (fun _ => rfl) (by first | exact hR _ _ _ (by decide) | exact ⟨by omega, by omega⟩) (by omega) (by omega) (by omega) (by omega) dX8_appendInput_60 ?_
      refine V_aload_n hf dX8_appendInput_61 rfl rfl ?_
      refine B_get hf l01 rfl fl_X8_36_11 rfl dX8_appendInput_62 ?_
      refine V_dup hf dX8_appendInput_65 rfl ?_
      refine B_get hf l01 rfl fl_X8_264_9 rfl dX8_appendInput_66 ?_
      refine V_iconst hf dX8_appendInput_69 ?_
      refine V_iadd hf dX8_appendInput_70 ?_
      refine B_putI (kI := 1) hf rfl l01 rfl fp_X8_264_9 rfl rfl (Nat.le_of_ble_eq_true rfl) (by decide) (cs_26_1 _ _ _ _ _) dX8_appendInput_71 ?_
      refine V_aload_n hf dX8_appendInput_74 rfl rfl ?_
      refine B_get hf l01 rfl fl_X8_36_11 rfl dX8_appendInput_75 ?_
      refine B_get hf l01 rfl fl_X8_264_9 rfl dX8_appendInput_78 ?_
      exact B_iret hf he rfl dX8_appendInput_81 (by decide) (by decide) rfl rfl
    · exact absurd h31 (by first | omega | (split at h31 <;> omega))
  · exact absurd h8 (by first | omega | (split at h8 <;> omega))

set_option maxHeartbeats 4000000 in
set_option maxRecDepth 100000 in
theorem cx_app1 {l : Launch} {D : va_G} {K : Nat → ClassId} {ad : Adr} (hl0 : l.stackTraces = false) (σ : Mem) (hR : Rng σ) (c : Int) (hc : 0 ≤ c ∧ c < 65536) (hl : 0 ≤ σ 0 26 1 ∧ σ 0 26 1 ≤ 60) (hk : ¬ (32 ≤ c ∧ c ≤ 126)) : Cb l D K ad yX8_appendInput (.code yX8_appendInput cX8_appendInput 2 (some .int)) 9 1 6 σ [.ref (ad 0 23), .int (iN c)] (.inr "java/lang/IllegalArgumentException") σ := by
  refine Cb.of (own := RX8) (ls0 := [some (.ref (ad 0 23)), some (.int (iN c))]) hl0 (by decide) rfl (Nat.le_of_ble_eq_true rfl) rfl ?_
  intro X hX1 hX2 hX3 hf he hh
  subst hX1 hX2 hX3
  refine V_iload_n hf dX8_appendInput_0 rfl rfl ?_
  refine V_bipush hf dX8_appendInput_1 (by decide +kernel) ?_
  refine V_bipush hf dX8_appendInput_3 (by decide +kernel) ?_
  refine B_callSi hf (As := [_, _, _]) (c_within hl0 σ c 32 126 ⟨by omega, by omega⟩ ⟨by decide, by decide⟩ ⟨by decide, by decide⟩) cvs_X8_255 rfl (Nat.le_of_ble_eq_true rfl) ⟨by decide, by decide, by decide, by decide⟩ dX8_appendInput_5 ?_
  refine V_if_ne (tgt := 22) hf (by split <;> exact ⟨by decide, by decide⟩) dX8_appendInput_8 (by decide) (fun h8 => ?_) (fun h8 => ?_)
  · exact absurd h8 (by first | omega | (split at h8 <;> omega))
  · exact V_thrW hf he hh (text := "the code of the character is out of range") (names := ["java/lang/RuntimeException", "java/lang/Exception"]) (by decide) (by decide) wk_X8_259 wx_IllegalArgumentException (by decide) (at_X8_263) dX8_appendInput_11 dX8_appendInput_14 dX8_appendInput_15 dX8_appendInput_18 dX8_appendInput_21 ⟨by decide, (Nat.le_of_ble_eq_true rfl), by decide, by decide⟩ (by decide) (by decide) ⟨rfl, rfl, rfl⟩

set_option maxHeartbeats 4000000 in
set_option maxRecDepth 100000 in
theorem cx_app2 {l : Launch} {D : va_G} {K : Nat → ClassId} {ad : Adr} (hl0 : l.stackTraces = false) (σ : Mem) (hR : Rng σ) (c : Int) (hc : 0 ≤ c ∧ c < 65536) (hl : 0 ≤ σ 0 26 1 ∧ σ 0 26 1 ≤ 60) (hk : 32 ≤ c ∧ c ≤ 126) (h6 : σ 0 26 1 = 60) : Cb l D K ad yX8_appendInput (.code yX8_appendInput cX8_appendInput 2 (some .int)) 9 1 6 σ [.ref (ad 0 23), .int (iN c)] (.inr "java/lang/IllegalStateException") σ := by
  refine Cb.of (own := RX8) (ls0 := [some (.ref (ad 0 23)), some (.int (iN c))]) hl0 (by decide) rfl (Nat.le_of_ble_eq_true rfl) rfl ?_
  intro X hX1 hX2 hX3 hf he hh
  subst hX1 hX2 hX3
  refine V_iload_n hf dX8_appendInput_0 rfl rfl ?_
  refine V_bipush hf dX8_appendInput_1 (by decide +kernel) ?_
  refine V_bipush hf dX8_appendInput_3 (by decide +kernel) ?_
  refine B_callSi hf (As := [_, _, _]) (c_within hl0 σ c 32 126 ⟨by omega, by omega⟩ ⟨by decide, by decide⟩ ⟨by decide, by decide⟩) cvs_X8_255 rfl (Nat.le_of_ble_eq_true rfl) ⟨by decide, by decide, by decide, by decide⟩ dX8_appendInput_5 ?_
  refine V_if_ne (tgt := 22) hf (by split <;> exact ⟨by decide, by decide⟩) dX8_appendInput_8 (by decide) (fun h8 => ?_) (fun h8 => ?_)
  · refine V_aload_n hf dX8_appendInput_22 rfl rfl ?_
    refine B_get hf l01 rfl fl_X8_36_11 rfl dX8_appendInput_23 ?_
    refine B_get hf l01 rfl fl_X8_264_9 rfl dX8_appendInput_26 ?_
    refine V_bipush hf dX8_appendInput_29 (by decide +kernel) ?_
    refine V_icmp_lt (tgt := 45) hf (by first | exact hR _ _ _ (by decide) | exact ⟨by omega, by omega⟩) (by first | exact hR _ _ _ (by decide) | exact ⟨by omega, by omega⟩) dX8_appendInput_31 (by decide) (fun h31 => ?_) (fun h31 => ?_)
    · exact absurd h31 (by first | omega | (split at h31 <;> omega))
    · exact V_thrW hf he hh (text := "the input is full") (names := ["java/lang/RuntimeException", "java/lang/Exception"]) (by decide) (by decide) wk_X8_266 wx_IllegalStateException (by decide) (at_X8_270) dX8_appendInput_34 dX8_appendInput_37 dX8_appendInput_38 dX8_appendInput_41 dX8_appendInput_44 ⟨by decide, (Nat.le_of_ble_eq_true rfl), by decide, by decide⟩ (by decide) (by decide) ⟨rfl, rfl, rfl⟩
  · exact absurd h8 (by first | omega | (split at h8 <;> omega))

set_option maxHeartbeats 4000000 in
set_option maxRecDepth 100000 in
theorem cx_rc {l : Launch} {D : va_G} {K : Nat → ClassId} {ad : Adr} (hl0 : l.stackTraces = false) (σ : Mem) (hR : Rng σ) (n v : Int) (hv : v = -1 ∨ v = -2 ∨ v = -3) : Cb l D K ad yX8_refuseCommand (.code yX8_refuseCommand cX8_refuseCommand 3 none) 7 1 6 σ [.ref (ad 0 23), .int (iN n), .int (iN v)] (.inr "java/lang/IllegalStateException") σ := by
  refine Cb.of (own := RX8) (ls0 := [some (.ref (ad 0 23)), some (.int (iN n)), some (.int (iN v))]) hl0 (by decide) rfl (Nat.le_of_ble_eq_true rfl) rfl ?_
  intro X hX1 hX2 hX3 hf he hh
  subst hX1 hX2 hX3
  refine V_iload_n hf dX8_refuseCommand_0 rfl rfl ?_
  refine V_iconst hf dX8_refuseCommand_1 ?_
  refine V_icmp_eq (tgt := 17) hf ⟨by omega, by omega⟩ (by first | exact hR _ _ _ (by decide) | exact ⟨by omega, by omega⟩) dX8_refuseCommand_2 (by decide) (fun h2 => ?_) (fun h2 => ?_)
  · exact V_thrW hf he hh (text := "a command fails") (names := ["java/lang/RuntimeException", "java/lang/Exception"]) (by decide) (by decide) wk_X8_266 wx_IllegalStateException (by decide) (at_X8_270) dX8_refuseCommand_17 dX8_refuseCommand_20 dX8_refuseCommand_21 dX8_refuseCommand_24 dX8_refuseCommand_27 ⟨by decide, (Nat.le_of_ble_eq_true rfl), by decide, by decide⟩ (by decide) (by decide) ⟨rfl, rfl, rfl⟩
  · refine V_iload_n hf dX8_refuseCommand_5 rfl rfl ?_
    refine V_bipush hf dX8_refuseCommand_6 (by decide +kernel) ?_
    refine V_icmp_eq (tgt := 17) hf ⟨by omega, by omega⟩ (by first | exact hR _ _ _ (by decide) | exact ⟨by omega, by omega⟩) dX8_refuseCommand_8 (by decide) (fun h8 => ?_) (fun h8 => ?_)
    · exact V_thrW hf he hh (text := "a command fails") (names := ["java/lang/RuntimeException", "java/lang/Exception"]) (by decide) (by decide) wk_X8_266 wx_IllegalStateException (by decide) (at_X8_270) dX8_refuseCommand_17 dX8_refuseCommand_20 dX8_refuseCommand_21 dX8_refuseCommand_24 dX8_refuseCommand_27 ⟨by decide, (Nat.le_of_ble_eq_true rfl), by decide, by decide⟩ (by decide) (by decide) ⟨rfl, rfl, rfl⟩
    · refine V_iload_n hf dX8_refuseCommand_11 rfl rfl ?_
      refine V_bipush hf dX8_refuseCommand_12 (by decide +kernel) ?_
      refine V_icmp_ne (tgt := 28) hf ⟨by omega, by omega⟩ (by first | exact hR _ _ _ (by decide) | exact ⟨by omega, by omega⟩) dX8_refuseCommand_14 (by decide) (fun h14 => ?_) (fun h14 => ?_)
      · exact absurd h14 (by omega)
      · exact V_thrW hf he hh (text := "a command fails") (names := ["java/lang/RuntimeException", "java/lang/Exception"]) (by decide) (by decide) wk_X8_266 wx_IllegalStateException (by decide) (at_X8_270) dX8_refuseCommand_17 dX8_refuseCommand_20 dX8_refuseCommand_21 dX8_refuseCommand_24 dX8_refuseCommand_27 ⟨by decide, (Nat.le_of_ble_eq_true rfl), by decide, by decide⟩ (by decide) (by decide) ⟨rfl, rfl, rfl⟩

set_option maxHeartbeats 4000000 in
set_option maxRecDepth 100000 in
theorem cr_rc {l : Launch} {D : va_G} {K : Nat → ClassId} {ad : Adr} (hl0 : l.stackTraces = false) (σ : Mem) (hR : Rng σ) (n v : Int) (hv : 1 ≤ v ∧ v ≤ 6) : Cb l D K ad yX8_refuseCommand (.code yX8_refuseCommand cX8_refuseCommand 3 none) 7 1 6 σ [.ref (ad 0 23), .int (iN n), .int (iN v)] (.inr "java/lang/UnsupportedOperationException") (noteR σ 7 n v) := by
  refine Cb.of (own := RX8) (ls0 := [some (.ref (ad 0 23)), some (.int (iN n)), some (.int (iN v))]) hl0 (by decide) rfl (Nat.le_of_ble_eq_true rfl) rfl ?_
  intro X hX1 hX2 hX3 hf he hh
  subst hX1 hX2 hX3
  refine V_iload_n hf dX8_refuseCommand_0 rfl rfl ?_
  refine V_iconst hf dX8_refuseCommand_1 ?_
  refine V_icmp_eq (tgt := 17) hf (by first | exact hR _ _ _ (by decide) | exact ⟨by omega, by omega⟩) (by first | exact hR _ _ _ (by decide) | exact ⟨by omega, by omega⟩) dX8_refuseCommand_2 (by decide) (fun h2 => ?_) (fun h2 => ?_)
  · exact absurd h2 (by omega)
  · refine V_iload_n hf dX8_refuseCommand_5 rfl rfl ?_
    refine V_bipush hf dX8_refuseCommand_6 (by decide +kernel) ?_
    refine V_icmp_eq (tgt := 17) hf (by first | exact hR _ _ _ (by decide) | exact ⟨by omega, by omega⟩) (by first | exact hR _ _ _ (by decide) | exact ⟨by omega, by omega⟩) dX8_refuseCommand_8 (by decide) (fun h8 => ?_) (fun h8 => ?_)
    · exact absurd h8 (by omega)
    · refine V_iload_n hf dX8_refuseCommand_11 rfl rfl ?_
      refine V_bipush hf dX8_refuseCommand_12 (by decide +kernel) ?_
      refine V_icmp_ne (tgt := 28) hf (by first | exact hR _ _ _ (by decide) | exact ⟨by omega, by omega⟩) (by first | exact hR _ _ _ (by decide) | exact ⟨by omega, by omega⟩) dX8_refuseCommand_14 (by decide) (fun h14 => ?_) (fun h14 => ?_)
      · refine V_aload_n hf dX8_refuseCommand_28 rfl rfl ?_
        refine V_bipush hf dX8_refuseCommand_29 (by decide +kernel) ?_
        refine V_iload_n hf dX8_refuseCommand_31 rfl rfl ?_
        refine V_iload_n hf dX8_refuseCommand_32 rfl rfl ?_
        refine B_callVv hf (As := [_, _, _]) (c_noteR hl0 σ hR 7 n v) cv_X8_326 l01 rfl rfl rfl (Nat.le_of_ble_eq_true rfl) ⟨by decide, by decide, by decide, by decide⟩ dX8_refuseCommand_33 ?_
        exact V_thrW hf he hh (text := "a command is rejected") (names := ["java/lang/RuntimeException", "java/lang/Exception"]) (by decide) (by decide) wk_X8_330 wx_UnsupportedOperationException (by decide) (at_X8_334) dX8_refuseCommand_36 dX8_refuseCommand_39 dX8_refuseCommand_40 dX8_refuseCommand_43 dX8_refuseCommand_46 ⟨by decide, (Nat.le_of_ble_eq_true rfl), by decide, by decide⟩ (by decide) (by decide) ⟨rfl, rfl, rfl⟩
      · exact absurd h14 (by omega)

set_option maxHeartbeats 4000000 in
set_option maxRecDepth 100000 in
theorem c_perf {l : Launch} {D : va_G} {K : Nat → ClassId} {ad : Adr} (hl0 : l.stackTraces = false) (σ : Mem) (hR : Rng σ) (n : Int) (hn : 0 ≤ n ∧ n < 30) (r : Int) (σ1 : Mem) (hJ : Cb l D K ad yX3_judge (.code yX3_judge cX3_judge 5 (some .int)) 4 0 0 σ [.ref (ad 0 0), .int (iN (σ 0 28 n)), .int (iN (σ n 30 0)), .int (iN (σ n 30 1)), .int (iN (σ n 30 2))] (.inl (some (.int (iN 0)))) σ) (hC : Cb l D K ad yX3_carryOut (.code yX3_carryOut cX3_carryOut 5 (some .int)) 5 0 0 σ [.ref (ad 0 0), .int (iN (σ 0 28 n)), .int (iN (σ n 30 0)), .int (iN (σ n 30 1)), .int (iN (σ n 30 2))] (.inl (some (.int (iN r)))) σ1) : Cb l D K ad yX8_perform (.code yX8_perform cX8_perform 7 (some .int)) 6 0 0 σ [.ref (ad 0 23), .int (iN n)] (.inl (some (.int (iN (0))))) σ1 := by
  refine Cb.of (own := RX8) (ls0 := [some (.ref (ad 0 23)), some (.int (iN n)), none, none, none, none, none]) hl0 (by decide) rfl (Nat.le_of_ble_eq_true rfl) rfl ?_
  intro X hX1 hX2 hX3 hf he hh
  subst hX1 hX2 hX3
  refine V_aload_n hf dX8_perform_0 rfl rfl ?_
  refine B_get hf l01 rfl fl_X8_36_11 rfl dX8_perform_1 ?_
  refine B_get hf l01 rfl fl_X8_335_9 rfl dX8_perform_4 ?_
  refine V_iload_n hf dX8_perform_7 rfl rfl ?_
  refine B_cald hf l01 (fun _ => rfl) ⟨by omega, by omega⟩ (by omega) (by omega) dX8_perform_8 ?_
  refine V_istore_n (ls2 := [_, _, _, _, _, _, _]) hf dX8_perform_9 rfl (by decide) rfl rfl ?_
  refine V_aload_n hf dX8_perform_10 rfl rfl ?_
  refine B_get hf l01 rfl fl_X8_36_11 rfl dX8_perform_11 ?_
  refine B_get hf l01 rfl fl_X8_338_9 rfl dX8_perform_14 ?_
  refine V_iload_n hf dX8_perform_17 rfl rfl ?_
  refine B_row hf ⟨by omega, by omega⟩ (by omega) (by omega) dX8_perform_18 ?_
  refine V_iconst hf dX8_perform_19 ?_
  refine B_iald hf (show 0 ≤ n ∧ n < (30 : Int) from hn) (fun _ => rfl) ⟨by decide, by decide⟩ (by decide) (by decide) dX8_perform_20 ?_
  refine V_istore_n (ls2 := [_, _, _, _, _, _, _]) hf dX8_perform_21 rfl (by decide) rfl rfl ?_
  refine V_aload_n hf dX8_perform_22 rfl rfl ?_
  refine B_get hf l01 rfl fl_X8_36_11 rfl dX8_perform_23 ?_
  refine B_get hf l01 rfl fl_X8_338_9 rfl dX8_perform_26 ?_
  refine V_iload_n hf dX8_perform_29 rfl rfl ?_
  refine B_row hf ⟨by omega, by omega⟩ (by omega) (by omega) dX8_perform_30 ?_
  refine V_iconst hf dX8_perform_31 ?_
  refine B_iald hf (show 0 ≤ n ∧ n < (30 : Int) from hn) (fun _ => rfl) ⟨by decide, by decide⟩ (by decide) (by decide) dX8_perform_32 ?_
  refine V_istore (ls2 := [_, _, _, _, _, _, _]) hf dX8_perform_33 (by decide) rfl rfl ?_
  refine V_aload_n hf dX8_perform_35 rfl rfl ?_
  refine B_get hf l01 rfl fl_X8_36_11 rfl dX8_perform_36 ?_
  refine B_get hf l01 rfl fl_X8_338_9 rfl dX8_perform_39 ?_
  refine V_iload_n hf dX8_perform_42 rfl rfl ?_
  refine B_row hf ⟨by omega, by omega⟩ (by omega) (by omega) dX8_perform_43 ?_
  refine V_iconst hf dX8_perform_44 ?_
  refine B_iald hf (show 0 ≤ n ∧ n < (30 : Int) from hn) (fun _ => rfl) ⟨by decide, by decide⟩ (by decide) (by decide) dX8_perform_45 ?_
  refine V_istore (ls2 := [_, _, _, _, _, _, _]) hf dX8_perform_46 (by decide) rfl rfl ?_
  refine V_aload_n hf dX8_perform_48 rfl rfl ?_
  refine B_get hf l01 rfl fl_X8_10_11 rfl dX8_perform_49 ?_
  refine V_iload_n hf dX8_perform_52 rfl rfl ?_
  refine V_iload_n hf dX8_perform_53 rfl rfl ?_
  refine V_iload hf dX8_perform_54 rfl ?_
  refine V_iload hf dX8_perform_56 rfl ?_
  refine B_callVi hf (As := [_, _, _, _]) (hJ) cv_X8_308 lm0 rfl rfl rfl (Nat.le_of_ble_eq_true rfl) ⟨by decide, by decide, by decide, by decide⟩ dX8_perform_58 ?_
  refine V_istore (ls2 := [_, _, _, _, _, _, _]) hf dX8_perform_61 (by decide) rfl rfl ?_
  refine V_iload hf dX8_perform_63 rfl ?_
  refine V_if_ne (tgt := 82) hf ⟨by decide, by decide⟩ dX8_perform_65 (by decide) (fun h65 => ?_) (fun h65 => ?_)
  · exact absurd rfl h65
  · refine V_aload_n hf dX8_perform_68 rfl rfl ?_
    refine B_get hf l01 rfl fl_X8_10_11 rfl dX8_perform_69 ?_
    refine V_iload_n hf dX8_perform_72 rfl rfl ?_
    refine V_iload_n hf dX8_perform_73 rfl rfl ?_
    refine V_iload hf dX8_perform_74 rfl ?_
    refine V_iload hf dX8_perform_76 rfl ?_
    refine B_callVi hf (As := [_, _, _, _]) (hC) cv_X8_314 lm0 rfl rfl rfl (Nat.le_of_ble_eq_true rfl) ⟨by decide, by decide, by decide, by decide⟩ dX8_perform_78 ?_
    refine V_pop hf dX8_perform_81 rfl ?_
    refine V_iload hf dX8_perform_82 rfl ?_
    exact B_iret hf he rfl dX8_perform_84 (by decide) (by decide) rfl rfl

set_option maxHeartbeats 4000000 in
set_option maxRecDepth 100000 in
theorem c_perfn {l : Launch} {D : va_G} {K : Nat → ClassId} {ad : Adr} (hl0 : l.stackTraces = false) (σ : Mem) (hR : Rng σ) (n : Int) (hn : 0 ≤ n ∧ n < 30) (v : Int) (hv : -3 ≤ v ∧ v ≤ 6 ∧ v ≠ 0) (hJ : Cb l D K ad yX3_judge (.code yX3_judge cX3_judge 5 (some .int)) 4 0 0 σ [.ref (ad 0 0), .int (iN (σ 0 28 n)), .int (iN (σ n 30 0)), .int (iN (σ n 30 1)), .int (iN (σ n 30 2))] (.inl (some (.int (iN v)))) σ) : Cb l D K ad yX8_perform (.code yX8_perform cX8_perform 7 (some .int)) 6 0 0 σ [.ref (ad 0 23), .int (iN n)] (.inl (some (.int (iN (v))))) σ := by
  refine Cb.of (own := RX8) (ls0 := [some (.ref (ad 0 23)), some (.int (iN n)), none, none, none, none, none]) hl0 (by decide) rfl (Nat.le_of_ble_eq_true rfl) rfl ?_
  intro X hX1 hX2 hX3 hf he hh
  subst hX1 hX2 hX3
  refine V_aload_n hf dX8_perform_0 rfl rfl ?_
  refine B_get hf l01 rfl fl_X8_36_11 rfl dX8_perform_1 ?_
  refine B_get hf l01 rfl fl_X8_335_9 rfl dX8_perform_4 ?_
  refine V_iload_n hf dX8_perform_7 rfl rfl ?_
  refine B_cald hf l01 (fun _ => rfl) ⟨by omega, by omega⟩ (by omega) (by omega) dX8_perform_8 ?_
  refine V_istore_n (ls2 := [_, _, _, _, _, _, _]) hf dX8_perform_9 rfl (by decide) rfl rfl ?_
  refine V_aload_n hf dX8_perform_10 rfl rfl ?_
  refine B_get hf l01 rfl fl_X8_36_11 rfl dX8_perform_11 ?_
  refine B_get hf l01 rfl fl_X8_338_9 rfl dX8_perform_14 ?_
  refine V_iload_n hf dX8_perform_17 rfl rfl ?_
  refine B_row hf ⟨by omega, by omega⟩ (by omega) (by omega) dX8_perform_18 ?_
  refine V_iconst hf dX8_perform_19 ?_
  refine B_iald hf (show 0 ≤ n ∧ n < (30 : Int) from hn) (fun _ => rfl) ⟨by decide, by decide⟩ (by decide) (by decide) dX8_perform_20 ?_
  refine V_istore_n (ls2 := [_, _, _, _, _, _, _]) hf dX8_perform_21 rfl (by decide) rfl rfl ?_
  refine V_aload_n hf dX8_perform_22 rfl rfl ?_
  refine B_get hf l01 rfl fl_X8_36_11 rfl dX8_perform_23 ?_
  refine B_get hf l01 rfl fl_X8_338_9 rfl dX8_perform_26 ?_
  refine V_iload_n hf dX8_perform_29 rfl rfl ?_
  refine B_row hf ⟨by omega, by omega⟩ (by omega) (by omega) dX8_perform_30 ?_
  refine V_iconst hf dX8_perform_31 ?_
  refine B_iald hf (show 0 ≤ n ∧ n < (30 : Int) from hn) (fun _ => rfl) ⟨by decide, by decide⟩ (by decide) (by decide) dX8_perform_32 ?_
  refine V_istore (ls2 := [_, _, _, _, _, _, _]) hf dX8_perform_33 (by decide) rfl rfl ?_
  refine V_aload_n hf dX8_perform_35 rfl rfl ?_
  refine B_get hf l01 rfl fl_X8_36_11 rfl dX8_perform_36 ?_
  refine B_get hf l01 rfl fl_X8_338_9 rfl dX8_perform_39 ?_
  refine V_iload_n hf dX8_perform_42 rfl rfl ?_
  refine B_row hf ⟨by omega, by omega⟩ (by omega) (by omega) dX8_perform_43 ?_
  refine V_iconst hf dX8_perform_44 ?_
  refine B_iald hf (show 0 ≤ n ∧ n < (30 : Int) from hn) (fun _ => rfl) ⟨by decide, by decide⟩ (by decide) (by decide) dX8_perform_45 ?_
  refine V_istore (ls2 := [_, _, _, _, _, _, _]) hf dX8_perform_46 (by decide) rfl rfl ?_
  refine V_aload_n hf dX8_perform_48 rfl rfl ?_
  refine B_get hf l01 rfl fl_X8_10_11 rfl dX8_perform_49 ?_
  refine V_iload_n hf dX8_perform_52 rfl rfl ?_
  refine V_iload_n hf dX8_perform_53 rfl rfl ?_
  refine V_iload hf dX8_perform_54 rfl ?_
  refine V_iload hf dX8_perform_56 rfl ?_
  refine B_callVi hf (As := [_, _, _, _]) (hJ) cv_X8_308 lm0 rfl rfl rfl (Nat.le_of_ble_eq_true rfl) ⟨by decide, by decide, by decide, by decide⟩ dX8_perform_58 ?_
  refine V_istore (ls2 := [_, _, _, _, _, _, _]) hf dX8_perform_61 (by decide) rfl rfl ?_
  refine V_iload hf dX8_perform_63 rfl ?_
  refine V_if_ne (tgt := 82) hf ⟨by omega, by omega⟩ dX8_perform_65 (by decide) (fun h65 => ?_) (fun h65 => ?_)
  · refine V_iload hf dX8_perform_82 rfl ?_
    exact B_iret hf he rfl dX8_perform_84 (by decide) (by decide) rfl rfl
  · exact absurd h65 (by omega)

set_option maxHeartbeats 4000000 in
set_option maxRecDepth 100000 in
theorem cx_exec_s {l : Launch} {D : va_G} {K : Nat → ClassId} {ad : Adr} (hl0 : l.stackTraces = false) (σ : Mem) (hR : Rng σ) (ch : Int → Int) (len : Int) (hP : C6 σ ch len) (hw : (cAll ch len 31 (st3 σ 0 26 3 0) 0).2.2 = 0) : Cb l D K ad yX8_execute (.code yX8_execute cX8_execute 4 (some .int)) 9 1 6 σ [.ref (ad 0 23)] (.inr "java/lang/IllegalArgumentException") (st3 (cx0 ch len σ) 0 23 10 (cAll ch len 31 (st3 σ 0 26 3 0) 0).2.1) := by
  refine Cb.of (own := RX8) (ls0 := [some (.ref (ad 0 23)), none, none, none]) hl0 (by decide) rfl (Nat.le_of_ble_eq_true rfl) rfl ?_
  intro X hX1 hX2 hX3 hf he hh
  subst hX1 hX2 hX3
  have hA := cAll_p (f := 31) (σ := st3 σ 0 26 3 0) (p := 0) (hP.st ⟨by decide, by decide⟩ (by decide) (by decide)) ⟨by decide, by decide⟩ (by rw [st3_self]; decide) (by rw [st3_self]; decide)
  have hRc : Rng (cx0 ch len σ) := (aM_R hA.1.2.2.2.2 ⟨hA.2.1.1, by omega⟩).st ⟨by decide, by decide⟩
  refine V_aload_n hf dX8_execute_0 rfl rfl ?_
  refine B_get hf l01 rfl fl_X8_36_11 rfl dX8_execute_1 ?_
  refine B_callVi hf (As := []) (y_reads hl0 σ ch len hP) cv_X8_275 l01 rfl rfl rfl (Nat.le_of_ble_eq_true rfl) ⟨by decide, by decide, by decide, by decide⟩ dX8_execute_4 ?_
  rw [if_neg (by omega)]
  refine V_istore_n (ls2 := [_, _, _, _]) hf dX8_execute_7 rfl (by decide) rfl rfl ?_
  refine V_aload_n hf dX8_execute_8 rfl rfl ?_
  refine B_get hf l01 rfl fl_X8_36_11 rfl dX8_execute_9 ?_
  refine V_iconst hf dX8_execute_12 ?_
  refine B_putI (kI := 1) hf rfl l01 rfl fp_X8_264_9 rfl rfl (Nat.le_of_ble_eq_true rfl) (by decide) (cs_26_1 _ _ _ _ _) dX8_execute_13 ?_
  refine V_iload_n hf dX8_execute_16 rfl rfl ?_
  refine V_iconst hf dX8_execute_17 ?_
  refine V_icmp_eq (tgt := 37) hf ⟨by omega, by omega⟩ ⟨by decide, by decide⟩ dX8_execute_18 (by decide) (fun h18 => ?_) (fun h18 => ?_)
  · exact absurd h18 (by omega)
  · refine V_aload_n hf dX8_execute_21 rfl rfl ?_
    refine V_iload_n hf dX8_execute_22 rfl rfl ?_
    refine B_putI (kI := 10) hf rfl l01 rfl fp_X8_57_11 rfl rfl (Nat.le_of_ble_eq_true rfl) (by decide) (cs_23_10 _ _ _ _ _) dX8_execute_23 ?_
    exact V_thrW hf he hh (text := "the input has a syntax error") (names := ["java/lang/RuntimeException", "java/lang/Exception"]) (by decide) (by decide) wk_X8_259 wx_IllegalArgumentException (by decide) (at_X8_263) dX8_execute_26 dX8_execute_29 dX8_execute_30 dX8_execute_33 dX8_execute_36 ⟨by decide, (Nat.le_of_ble_eq_true rfl), by decide, by decide⟩ (by decide) (by decide) ⟨rfl, rfl, rfl⟩

set_option maxHeartbeats 4000000 in
set_option maxRecDepth 100000 in
theorem c_exec {l : Launch} {D : va_G} {K : Nat → ClassId} {ad : Adr} (hl0 : l.stackTraces = false) (σ : Mem) (hR : Rng σ) (ch : Int → Int) (len : Int) (hP : C6 σ ch len) (hw : (cAll ch len 31 (st3 σ 0 26 3 0) 0).2.2 = 1) (hS : SZ (cx0 ch len σ)) (n : Nat) (hn : n ≤ 30) (τ : Nat → Mem) (ht : τ 0 = cpMarket (cx0 ch len σ) 1 0) (hc : ∀ k : Nat, k ≤ n → τ k 0 26 3 = (n : Int) ∧ Rng (τ k)) (hs : ∀ k : Nat, k < n → Cb l D K ad yX8_perform (.code yX8_perform cX8_perform 7 (some .int)) 6 0 0 (τ k) [.ref (ad 0 23), .int (iN (k : Int))] (.inl (some (.int (iN 0)))) (τ (k + 1))) (hH : HI (τ n)) (hSn : SZ (τ n)) (hfin : remM (τ n) 1 0 26 3 = (n : Int)) : Cb l D K ad yX8_execute (.code yX8_execute cX8_execute 4 (some .int)) 9 1 6 σ [.ref (ad 0 23)] (.inl (some (.int (iN ((n : Int)))))) (remM (τ n) 1) := by
  refine Cb.of (own := RX8) (ls0 := [some (.ref (ad 0 23)), none, none, none]) hl0 (by decide) rfl (Nat.le_of_ble_eq_true rfl) rfl ?_
  intro X hX1 hX2 hX3 hf he hh
  subst hX1 hX2 hX3
  have hA := cAll_p (f := 31) (σ := st3 σ 0 26 3 0) (p := 0) (hP.st ⟨by decide, by decide⟩ (by decide) (by decide)) ⟨by decide, by decide⟩ (by rw [st3_self]; decide) (by rw [st3_self]; decide)
  have hRc : Rng (cx0 ch len σ) := (aM_R hA.1.2.2.2.2 ⟨hA.2.1.1, by omega⟩).st ⟨by decide, by decide⟩
  have loop : ∀ (m k : Nat), k ≤ n → n - k < m → B X ad (τ k) 50 [some (.ref (ad 0 23)), none, some (.int (iN (k : Int))), none] [] 0 0 := by
    intro m
    induction m with
    | zero => intros; omega
    | succ m ih =>
      intro k hk1 hk2
      refine V_iload_n hf dX8_execute_50 rfl rfl ?_
      refine V_aload_n hf dX8_execute_51 rfl rfl ?_
      refine B_get hf l01 rfl fl_X8_36_11 rfl dX8_execute_52 ?_
      refine B_get hf l01 rfl fl_X8_280_9 rfl dX8_execute_55 ?_
      refine V_icmp_ge (tgt := 94) hf ⟨by omega, by omega⟩ (by rw [(hc k (by omega)).1]; exact ⟨by omega, by omega⟩) dX8_execute_58 (by decide) (fun h58 => ?_) (fun h58 => ?_)
      · have ek : k = n := by have e := (hc k (by omega)).1; omega
        subst ek
        refine V_aload_n hf dX8_execute_94 rfl rfl ?_
        refine B_get hf l01 rfl fl_X8_29_11 rfl dX8_execute_95 ?_
        refine V_aload_n hf dX8_execute_98 rfl rfl ?_
        refine B_get hf l01 rfl fl_X8_16_11 rfl dX8_execute_99 ?_
        refine B_callVv hf (As := [_]) (c_remember hl0 (τ k) (hc k (by omega)).2 1 ⟨by decide, by decide⟩ hH hSn) cv_X8_288 l01 rfl rfl rfl (Nat.le_of_ble_eq_true rfl) ⟨by decide, by decide, by decide, by decide⟩ dX8_execute_102 ?_
        refine V_aload_n hf dX8_execute_105 rfl rfl ?_
        refine B_get hf l01 rfl fl_X8_36_11 rfl dX8_execute_106 ?_
        refine B_get hf l01 rfl fl_X8_280_9 rfl dX8_execute_109 ?_
        exact B_iret hf he rfl dX8_execute_112 (by decide) (by decide) hfin rfl
      · have e9 := (hc k (by omega)).1
        refine V_aload_n hf dX8_execute_61 rfl rfl ?_
        refine V_iload_n hf dX8_execute_62 rfl rfl ?_
        refine B_callVi hf (As := [_]) (hs k (by have e := (hc k (by omega)).1; omega)) cv_X8_281 l01 rfl rfl rfl (Nat.le_of_ble_eq_true rfl) ⟨by decide, by decide, by decide, by decide⟩ dX8_execute_63 ?_
        refine V_istore_n (ls2 := [_, _, _, _]) hf dX8_execute_66 rfl (by decide) rfl rfl ?_
        refine V_iload_n hf dX8_execute_67 rfl rfl ?_
        refine V_if_eq (tgt := 88) hf ⟨by decide, by decide⟩ dX8_execute_68 (by decide) (fun h68 => ?_) (fun h68 => ?_)
        · refine V_iinc (ls2 := [_, _, _, _]) hf dX8_execute_88 (by decide) rfl rfl rfl ?_
          refine V_goto (tgt := 50) hf dX8_execute_91 (by decide) ?_
          refine V_fg (ls2 := [some _, none, some _, none]) ⟨rfl, rfl, trivial⟩ ?_
          have bk := ih (k + 1) (by omega) (by omega)
          rw [show ((k + 1 : Nat) : Int) = (k : Int) + 1 by omega] at bk
          exact bk
        · exact absurd rfl h68
  refine V_aload_n hf dX8_execute_0 rfl rfl ?_
  refine B_get hf l01 rfl fl_X8_36_11 rfl dX8_execute_1 ?_
  refine B_callVi hf (As := []) (y_reads hl0 σ ch len hP) cv_X8_275 l01 rfl rfl rfl (Nat.le_of_ble_eq_true rfl) ⟨by decide, by decide, by decide, by decide⟩ dX8_execute_4 ?_
  rw [if_pos hw]
  refine V_istore_n (ls2 := [_, _, _, _]) hf dX8_execute_7 rfl (by decide) rfl rfl ?_
  refine V_aload_n hf dX8_execute_8 rfl rfl ?_
  refine B_get hf l01 rfl fl_X8_36_11 rfl dX8_execute_9 ?_
  refine V_iconst hf dX8_execute_12 ?_
  refine B_putI (kI := 1) hf rfl l01 rfl fp_X8_264_9 rfl rfl (Nat.le_of_ble_eq_true rfl) (by decide) (cs_26_1 _ _ _ _ _) dX8_execute_13 ?_
  refine V_iload_n hf dX8_execute_16 rfl rfl ?_
  refine V_iconst hf dX8_execute_17 ?_
  refine V_icmp_eq (tgt := 37) hf ⟨by decide, by decide⟩ ⟨by decide, by decide⟩ dX8_execute_18 (by decide) (fun h18 => ?_) (fun h18 => ?_)
  · change B X ad (cx0 ch len σ) 37 _ [] 0 0
    refine V_aload_n hf dX8_execute_37 rfl rfl ?_
    refine B_get hf l01 rfl fl_X8_16_11 rfl dX8_execute_38 ?_
    refine V_aload_n hf dX8_execute_41 rfl rfl ?_
    refine B_get hf l01 rfl fl_X8_10_11 rfl dX8_execute_42 ?_
    refine B_callVv hf (As := [_]) (c_copyM hl0 1 lm1 (cx0 ch len σ) hRc 0 lm0 (by decide) (hS 0 (by decide) (by decide)).1 (hS 0 (by decide) (by decide)).2) cv_X8_160 lm1 rfl rfl rfl (Nat.le_of_ble_eq_true rfl) ⟨by decide, by decide, by decide, by decide⟩ dX8_execute_45 ?_
    refine V_iconst hf dX8_execute_48 ?_
    refine V_istore_n (ls2 := [_, _, _, _]) hf dX8_execute_49 rfl (by decide) rfl rfl ?_
    refine V_fg (ls2 := [some _, none, some _, none]) ⟨rfl, rfl, trivial⟩ ?_
    rw [← ht]
    exact loop (n + 1) 0 (by omega) (by omega)
  · exact absurd rfl h18

set_option maxHeartbeats 4000000 in
set_option maxRecDepth 100000 in
theorem cx_exec_n {l : Launch} {D : va_G} {K : Nat → ClassId} {ad : Adr} (hl0 : l.stackTraces = false) (σ : Mem) (hR : Rng σ) (ch : Int → Int) (len : Int) (hP : C6 σ ch len) (hw : (cAll ch len 31 (st3 σ 0 26 3 0) 0).2.2 = 1) (hS : SZ (cx0 ch len σ)) (n : Nat) (hn : n ≤ 30) (τ : Nat → Mem) (ht : τ 0 = cpMarket (cx0 ch len σ) 1 0) (hc : ∀ k : Nat, k ≤ n → τ k 0 26 3 = (n : Int) ∧ Rng (τ k)) (f : Nat) (hf9 : f < n) (hs : ∀ k : Nat, k < f → Cb l D K ad yX8_perform (.code yX8_perform cX8_perform 7 (some .int)) 6 0 0 (τ k) [.ref (ad 0 23), .int (iN (k : Int))] (.inl (some (.int (iN 0)))) (τ (k + 1))) (v : Int) (hsf : Cb l D K ad yX8_perform (.code yX8_perform cX8_perform 7 (some .int)) 6 0 0 (τ f) [.ref (ad 0 23), .int (iN (f : Int))] (.inl (some (.int (iN v)))) (τ f)) (hSf : SZ (τ f)) (hv : v = -1 ∨ v = -2 ∨ v = -3) : Cb l D K ad yX8_execute (.code yX8_execute cX8_execute 4 (some .int)) 9 1 6 σ [.ref (ad 0 23)] (.inr "java/lang/IllegalStateException") (cpMarket (τ f) 0 1) := by
  refine Cb.of (own := RX8) (ls0 := [some (.ref (ad 0 23)), none, none, none]) hl0 (by decide) rfl (Nat.le_of_ble_eq_true rfl) rfl ?_
  intro X hX1 hX2 hX3 hf he hh
  subst hX1 hX2 hX3
  have hA := cAll_p (f := 31) (σ := st3 σ 0 26 3 0) (p := 0) (hP.st ⟨by decide, by decide⟩ (by decide) (by decide)) ⟨by decide, by decide⟩ (by rw [st3_self]; decide) (by rw [st3_self]; decide)
  have hRc : Rng (cx0 ch len σ) := (aM_R hA.1.2.2.2.2 ⟨hA.2.1.1, by omega⟩).st ⟨by decide, by decide⟩
  have loop : ∀ (m k : Nat), k ≤ f → f - k < m → B X ad (τ k) 50 [some (.ref (ad 0 23)), none, some (.int (iN (k : Int))), none] [] 0 0 := by
    intro m
    induction m with
    | zero => intros; omega
    | succ m ih =>
      intro k hk1 hk2
      refine V_iload_n hf dX8_execute_50 rfl rfl ?_
      refine V_aload_n hf dX8_execute_51 rfl rfl ?_
      refine B_get hf l01 rfl fl_X8_36_11 rfl dX8_execute_52 ?_
      refine B_get hf l01 rfl fl_X8_280_9 rfl dX8_execute_55 ?_
      refine V_icmp_ge (tgt := 94) hf ⟨by omega, by omega⟩ (by rw [(hc k (by omega)).1]; exact ⟨by omega, by omega⟩) dX8_execute_58 (by decide) (fun h58 => ?_) (fun h58 => ?_)
      · exact absurd h58 (by rw [(hc k (by omega)).1]; omega)
      · by_cases hkf : k < f
        · refine V_aload_n hf dX8_execute_61 rfl rfl ?_
          refine V_iload_n hf dX8_execute_62 rfl rfl ?_
          refine B_callVi hf (As := [_]) (hs k hkf) cv_X8_281 l01 rfl rfl rfl (Nat.le_of_ble_eq_true rfl) ⟨by decide, by decide, by decide, by decide⟩ dX8_execute_63 ?_
          refine V_istore_n (ls2 := [_, _, _, _]) hf dX8_execute_66 rfl (by decide) rfl rfl ?_
          refine V_iload_n hf dX8_execute_67 rfl rfl ?_
          refine V_if_eq (tgt := 88) hf ⟨by decide, by decide⟩ dX8_execute_68 (by decide) (fun h68 => ?_) (fun h68 => ?_)
          · refine V_iinc (ls2 := [_, _, _, _]) hf dX8_execute_88 (by decide) rfl rfl rfl ?_
            refine V_goto (tgt := 50) hf dX8_execute_91 (by decide) ?_
            refine V_fg (ls2 := [some _, none, some _, none]) ⟨rfl, rfl, trivial⟩ ?_
            have bk := ih (k + 1) (by omega) (by omega)
            rw [show ((k + 1 : Nat) : Int) = (k : Int) + 1 by omega] at bk
            exact bk
          · exact absurd rfl h68
        · have ek : k = f := by omega
          subst ek
          refine V_aload_n hf dX8_execute_61 rfl rfl ?_
          refine V_iload_n hf dX8_execute_62 rfl rfl ?_
          refine B_callVi hf (As := [_]) (hsf) cv_X8_281 l01 rfl rfl rfl (Nat.le_of_ble_eq_true rfl) ⟨by decide, by decide, by decide, by decide⟩ dX8_execute_63 ?_
          refine V_istore_n (ls2 := [_, _, _, _]) hf dX8_execute_66 rfl (by decide) rfl rfl ?_
          refine V_iload_n hf dX8_execute_67 rfl rfl ?_
          refine V_if_eq (tgt := 88) hf ⟨by omega, by omega⟩ dX8_execute_68 (by decide) (fun h68 => ?_) (fun h68 => ?_)
          · exact absurd h68 (by omega)
          · refine V_aload_n hf dX8_execute_71 rfl rfl ?_
            refine B_get hf l01 rfl fl_X8_10_11 rfl dX8_execute_72 ?_
            refine V_aload_n hf dX8_execute_75 rfl rfl ?_
            refine B_get hf l01 rfl fl_X8_16_11 rfl dX8_execute_76 ?_
            refine B_callVv hf (As := [_]) (c_copyM hl0 0 lm0 (τ k) (hc k (by omega)).2 1 lm1 (by decide) (hSf 1 (by decide) (by decide)).1 (hSf 1 (by decide) (by decide)).2) cv_X8_160 lm0 rfl rfl rfl (Nat.le_of_ble_eq_true rfl) ⟨by decide, by decide, by decide, by decide⟩ dX8_execute_79 ?_
            refine V_aload_n hf dX8_execute_82 rfl rfl ?_
            refine V_iload_n hf dX8_execute_83 rfl rfl ?_
            refine V_iload_n hf dX8_execute_84 rfl rfl ?_
            refine B_callVX hf (As := [_, _]) (cx_rc hl0 (cpMarket (τ k) 0 1) (cpMarket_R (hc k (by omega)).2) (k : Int) v hv) cv_X8_284 l01 rfl rfl rfl (Nat.le_of_ble_eq_true rfl) ⟨by decide, by decide, by decide, by decide⟩ dX8_execute_85 ?_
            exact VX_out hf he hh (by decide) (by decide) ⟨rfl, rfl, rfl⟩
  refine V_aload_n hf dX8_execute_0 rfl rfl ?_
  refine B_get hf l01 rfl fl_X8_36_11 rfl dX8_execute_1 ?_
  refine B_callVi hf (As := []) (y_reads hl0 σ ch len hP) cv_X8_275 l01 rfl rfl rfl (Nat.le_of_ble_eq_true rfl) ⟨by decide, by decide, by decide, by decide⟩ dX8_execute_4 ?_
  rw [if_pos hw]
  refine V_istore_n (ls2 := [_, _, _, _]) hf dX8_execute_7 rfl (by decide) rfl rfl ?_
  refine V_aload_n hf dX8_execute_8 rfl rfl ?_
  refine B_get hf l01 rfl fl_X8_36_11 rfl dX8_execute_9 ?_
  refine V_iconst hf dX8_execute_12 ?_
  refine B_putI (kI := 1) hf rfl l01 rfl fp_X8_264_9 rfl rfl (Nat.le_of_ble_eq_true rfl) (by decide) (cs_26_1 _ _ _ _ _) dX8_execute_13 ?_
  refine V_iload_n hf dX8_execute_16 rfl rfl ?_
  refine V_iconst hf dX8_execute_17 ?_
  refine V_icmp_eq (tgt := 37) hf ⟨by decide, by decide⟩ ⟨by decide, by decide⟩ dX8_execute_18 (by decide) (fun h18 => ?_) (fun h18 => ?_)
  · change B X ad (cx0 ch len σ) 37 _ [] 0 0
    refine V_aload_n hf dX8_execute_37 rfl rfl ?_
    refine B_get hf l01 rfl fl_X8_16_11 rfl dX8_execute_38 ?_
    refine V_aload_n hf dX8_execute_41 rfl rfl ?_
    refine B_get hf l01 rfl fl_X8_10_11 rfl dX8_execute_42 ?_
    refine B_callVv hf (As := [_]) (c_copyM hl0 1 lm1 (cx0 ch len σ) hRc 0 lm0 (by decide) (hS 0 (by decide) (by decide)).1 (hS 0 (by decide) (by decide)).2) cv_X8_160 lm1 rfl rfl rfl (Nat.le_of_ble_eq_true rfl) ⟨by decide, by decide, by decide, by decide⟩ dX8_execute_45 ?_
    refine V_iconst hf dX8_execute_48 ?_
    refine V_istore_n (ls2 := [_, _, _, _]) hf dX8_execute_49 rfl (by decide) rfl rfl ?_
    refine V_fg (ls2 := [some _, none, some _, none]) ⟨rfl, rfl, trivial⟩ ?_
    rw [← ht]
    exact loop (f + 1) 0 (by omega) (by omega)
  · exact absurd rfl h18

set_option maxHeartbeats 4000000 in
set_option maxRecDepth 100000 in
theorem cx_exec_r {l : Launch} {D : va_G} {K : Nat → ClassId} {ad : Adr} (hl0 : l.stackTraces = false) (σ : Mem) (hR : Rng σ) (ch : Int → Int) (len : Int) (hP : C6 σ ch len) (hw : (cAll ch len 31 (st3 σ 0 26 3 0) 0).2.2 = 1) (hS : SZ (cx0 ch len σ)) (n : Nat) (hn : n ≤ 30) (τ : Nat → Mem) (ht : τ 0 = cpMarket (cx0 ch len σ) 1 0) (hc : ∀ k : Nat, k ≤ n → τ k 0 26 3 = (n : Int) ∧ Rng (τ k)) (f : Nat) (hf9 : f < n) (hs : ∀ k : Nat, k < f → Cb l D K ad yX8_perform (.code yX8_perform cX8_perform 7 (some .int)) 6 0 0 (τ k) [.ref (ad 0 23), .int (iN (k : Int))] (.inl (some (.int (iN 0)))) (τ (k + 1))) (v : Int) (hsf : Cb l D K ad yX8_perform (.code yX8_perform cX8_perform 7 (some .int)) 6 0 0 (τ f) [.ref (ad 0 23), .int (iN (f : Int))] (.inl (some (.int (iN v)))) (τ f)) (hSf : SZ (τ f)) (hv : 1 ≤ v ∧ v ≤ 6) : Cb l D K ad yX8_execute (.code yX8_execute cX8_execute 4 (some .int)) 9 1 6 σ [.ref (ad 0 23)] (.inr "java/lang/UnsupportedOperationException") (noteR (cpMarket (τ f) 0 1) 7 (f : Int) v) := by
  refine Cb.of (own := RX8) (ls0 := [some (.ref (ad 0 23)), none, none, none]) hl0 (by decide) rfl (Nat.le_of_ble_eq_true rfl) rfl ?_
  intro X hX1 hX2 hX3 hf he hh
  subst hX1 hX2 hX3
  have hA := cAll_p (f := 31) (σ := st3 σ 0 26 3 0) (p := 0) (hP.st ⟨by decide, by decide⟩ (by decide) (by decide)) ⟨by decide, by decide⟩ (by rw [st3_self]; decide) (by rw [st3_self]; decide)
  have hRc : Rng (cx0 ch len σ) := (aM_R hA.1.2.2.2.2 ⟨hA.2.1.1, by omega⟩).st ⟨by decide, by decide⟩
  have loop : ∀ (m k : Nat), k ≤ f → f - k < m → B X ad (τ k) 50 [some (.ref (ad 0 23)), none, some (.int (iN (k : Int))), none] [] 0 0 := by
    intro m
    induction m with
    | zero => intros; omega
    | succ m ih =>
      intro k hk1 hk2
      refine V_iload_n hf dX8_execute_50 rfl rfl ?_
      refine V_aload_n hf dX8_execute_51 rfl rfl ?_
      refine B_get hf l01 rfl fl_X8_36_11 rfl dX8_execute_52 ?_
      refine B_get hf l01 rfl fl_X8_280_9 rfl dX8_execute_55 ?_
      refine V_icmp_ge (tgt := 94) hf ⟨by omega, by omega⟩ (by rw [(hc k (by omega)).1]; exact ⟨by omega, by omega⟩) dX8_execute_58 (by decide) (fun h58 => ?_) (fun h58 => ?_)
      · exact absurd h58 (by rw [(hc k (by omega)).1]; omega)
      · by_cases hkf : k < f
        · refine V_aload_n hf dX8_execute_61 rfl rfl ?_
          refine V_iload_n hf dX8_execute_62 rfl rfl ?_
          refine B_callVi hf (As := [_]) (hs k hkf) cv_X8_281 l01 rfl rfl rfl (Nat.le_of_ble_eq_true rfl) ⟨by decide, by decide, by decide, by decide⟩ dX8_execute_63 ?_
          refine V_istore_n (ls2 := [_, _, _, _]) hf dX8_execute_66 rfl (by decide) rfl rfl ?_
          refine V_iload_n hf dX8_execute_67 rfl rfl ?_
          refine V_if_eq (tgt := 88) hf ⟨by decide, by decide⟩ dX8_execute_68 (by decide) (fun h68 => ?_) (fun h68 => ?_)
          · refine V_iinc (ls2 := [_, _, _, _]) hf dX8_execute_88 (by decide) rfl rfl rfl ?_
            refine V_goto (tgt := 50) hf dX8_execute_91 (by decide) ?_
            refine V_fg (ls2 := [some _, none, some _, none]) ⟨rfl, rfl, trivial⟩ ?_
            have bk := ih (k + 1) (by omega) (by omega)
            rw [show ((k + 1 : Nat) : Int) = (k : Int) + 1 by omega] at bk
            exact bk
          · exact absurd rfl h68
        · have ek : k = f := by omega
          subst ek
          refine V_aload_n hf dX8_execute_61 rfl rfl ?_
          refine V_iload_n hf dX8_execute_62 rfl rfl ?_
          refine B_callVi hf (As := [_]) (hsf) cv_X8_281 l01 rfl rfl rfl (Nat.le_of_ble_eq_true rfl) ⟨by decide, by decide, by decide, by decide⟩ dX8_execute_63 ?_
          refine V_istore_n (ls2 := [_, _, _, _]) hf dX8_execute_66 rfl (by decide) rfl rfl ?_
          refine V_iload_n hf dX8_execute_67 rfl rfl ?_
          refine V_if_eq (tgt := 88) hf ⟨by omega, by omega⟩ dX8_execute_68 (by decide) (fun h68 => ?_) (fun h68 => ?_)
          · exact absurd h68 (by omega)
          · refine V_aload_n hf dX8_execute_71 rfl rfl ?_
            refine B_get hf l01 rfl fl_X8_10_11 rfl dX8_execute_72 ?_
            refine V_aload_n hf dX8_execute_75 rfl rfl ?_
            refine B_get hf l01 rfl fl_X8_16_11 rfl dX8_execute_76 ?_
            refine B_callVv hf (As := [_]) (c_copyM hl0 0 lm0 (τ k) (hc k (by omega)).2 1 lm1 (by decide) (hSf 1 (by decide) (by decide)).1 (hSf 1 (by decide) (by decide)).2) cv_X8_160 lm0 rfl rfl rfl (Nat.le_of_ble_eq_true rfl) ⟨by decide, by decide, by decide, by decide⟩ dX8_execute_79 ?_
            refine V_aload_n hf dX8_execute_82 rfl rfl ?_
            refine V_iload_n hf dX8_execute_83 rfl rfl ?_
            refine V_iload_n hf dX8_execute_84 rfl rfl ?_
            refine B_callVX hf (As := [_, _]) (cr_rc hl0 (cpMarket (τ k) 0 1) (cpMarket_R (hc k (by omega)).2) (k : Int) v hv) cv_X8_284 l01 rfl rfl rfl (Nat.le_of_ble_eq_true rfl) ⟨by decide, by decide, by decide, by decide⟩ dX8_execute_85 ?_
            exact VX_out hf he hh (by decide) (by decide) ⟨rfl, rfl, rfl⟩
  refine V_aload_n hf dX8_execute_0 rfl rfl ?_
  refine B_get hf l01 rfl fl_X8_36_11 rfl dX8_execute_1 ?_
  refine B_callVi hf (As := []) (y_reads hl0 σ ch len hP) cv_X8_275 l01 rfl rfl rfl (Nat.le_of_ble_eq_true rfl) ⟨by decide, by decide, by decide, by decide⟩ dX8_execute_4 ?_
  rw [if_pos hw]
  refine V_istore_n (ls2 := [_, _, _, _]) hf dX8_execute_7 rfl (by decide) rfl rfl ?_
  refine V_aload_n hf dX8_execute_8 rfl rfl ?_
  refine B_get hf l01 rfl fl_X8_36_11 rfl dX8_execute_9 ?_
  refine V_iconst hf dX8_execute_12 ?_
  refine B_putI (kI := 1) hf rfl l01 rfl fp_X8_264_9 rfl rfl (Nat.le_of_ble_eq_true rfl) (by decide) (cs_26_1 _ _ _ _ _) dX8_execute_13 ?_
  refine V_iload_n hf dX8_execute_16 rfl rfl ?_
  refine V_iconst hf dX8_execute_17 ?_
  refine V_icmp_eq (tgt := 37) hf ⟨by decide, by decide⟩ ⟨by decide, by decide⟩ dX8_execute_18 (by decide) (fun h18 => ?_) (fun h18 => ?_)
  · change B X ad (cx0 ch len σ) 37 _ [] 0 0
    refine V_aload_n hf dX8_execute_37 rfl rfl ?_
    refine B_get hf l01 rfl fl_X8_16_11 rfl dX8_execute_38 ?_
    refine V_aload_n hf dX8_execute_41 rfl rfl ?_
    refine B_get hf l01 rfl fl_X8_10_11 rfl dX8_execute_42 ?_
    refine B_callVv hf (As := [_]) (c_copyM hl0 1 lm1 (cx0 ch len σ) hRc 0 lm0 (by decide) (hS 0 (by decide) (by decide)).1 (hS 0 (by decide) (by decide)).2) cv_X8_160 lm1 rfl rfl rfl (Nat.le_of_ble_eq_true rfl) ⟨by decide, by decide, by decide, by decide⟩ dX8_execute_45 ?_
    refine V_iconst hf dX8_execute_48 ?_
    refine V_istore_n (ls2 := [_, _, _, _]) hf dX8_execute_49 rfl (by decide) rfl rfl ?_
    refine V_fg (ls2 := [some _, none, some _, none]) ⟨rfl, rfl, trivial⟩ ?_
    rw [← ht]
    exact loop (f + 1) 0 (by omega) (by omega)
  · exact absurd rfl h18
