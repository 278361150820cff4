/-! strings; the script reads -/
/-- the class's input: its characters and how many -/
def C6 (σ : Mem) (ch : Int → Int) (len : Int) : Prop := (∀ k : Int, 0 ≤ k → k < len → σ 0 27 k = ch k) ∧ σ 0 26 1 = len ∧ (0 ≤ len ∧ len ≤ 60) ∧ (∀ k : Int, 0 ≤ k → k < len → 0 ≤ ch k ∧ ch k < 128) ∧ Rng σ
/-- the place of the reading -/
def aM (σ : Mem) (p : Int) : Mem := st3 σ 0 26 2 p
theorem aM_2 {σ : Mem} {p : Int} : aM σ p 0 26 2 = p := st3_self
theorem aM_k {σ : Mem} {p k : Int} (h : k ≠ 2) : aM σ p 0 26 k = σ 0 26 k := st3_k h
theorem aM_j {σ : Mem} {p g k : Int} {j : Nat} (h : ¬ j = 26) : aM σ p g j k = σ g j k := st3_j h
theorem aM_a {σ : Mem} {p q : Int} : st3 (aM σ p) 0 26 2 q = aM σ q := st3_twice
theorem aM_c {σ : Mem} {p g k v : Int} {j : Nat} (h : ¬ (j = 26 ∧ k = 2)) : st3 (aM σ p) g j k v = aM (st3 σ g j k v) p := by
  funext a b c
  unfold aM st3
  by_cases h1 : b = j ∧ c = k
  · obtain ⟨rfl, rfl⟩ := h1
    have h2 : ¬ (a = 0 ∧ b = 26 ∧ c = 2) := fun z => h ⟨z.2.1, z.2.2⟩
    simp [h2]
  · have h2 : ¬ (a = g ∧ b = j ∧ c = k) := fun z => h1 ⟨z.2.1, z.2.2⟩
    simp [h2]
theorem aM_R {σ : Mem} (h : Rng σ) {p : Int} (hp : 0 ≤ p ∧ p ≤ 1000) : Rng (aM σ p) := h.st ⟨by omega, by omega⟩
theorem C6.st {σ : Mem} {ch : Int → Int} {len g i v : Int} {j : Nat} (h : C6 σ ch len) (hv : inR v) (h1 : ¬ j = 27) (h2 : ¬ (j = 26 ∧ i = 1)) : C6 (st3 σ g j i v) ch len := by
  refine ⟨fun k k0 k1 => ?_, ?_, h.2.2.1, h.2.2.2.1, h.2.2.2.2.st hv⟩
  · rw [st3_j (fun q => h1 q.symm)]
    exact h.1 k k0 k1
  · rw [← h.2.1]
    exact if_neg (fun q => h2 ⟨q.2.1.symm, q.2.2.symm⟩)
set_option maxHeartbeats 4000000 in
set_option maxRecDepth 100000 in
theorem z_coder {l : Launch} {D : va_G} {K : Nat → ClassId} {ad : Adr} (hl0 : l.stackTraces = false) {i : Nat} (hi : i < 10) (σ : Mem) : Cb l D K ad yJ0_coder_7d493 (.code yJ0_coder_7d493 cJ0_coder_7d493 1 (some .byte)) 1 0 0 σ [.ref (K (100 + i))] (.inl (some (.int (iN (0))))) σ := by
  refine Cb.of (own := RJ0) (ls0 := [some (.ref (K (100 + i)))]) hl0 (by decide) rfl (Nat.le_of_ble_eq_true rfl) rfl ?_
  intro X hX1 hX2 hX3 hf he hh
  subst hX1 hX2 hX3
  refine V_gcs hf wf_J0_38 dJ0_coder_7d493_0 ?_
  refine V_if_eq (tgt := 13) hf ⟨by decide, by decide⟩ dJ0_coder_7d493_3 (by decide) (fun h3 => ?_) (fun h3 => ?_)
  · exact absurd h3 (by decide)
  · refine V_aload_n hf dJ0_coder_7d493_6 rfl rfl ?_
    refine V_ocod hf hi wf_J0_15 dJ0_coder_7d493_7 ?_
    refine V_goto (tgt := 14) hf dJ0_coder_7d493_10 (by decide) ?_
    exact B_iret hf he (by decide +kernel) dJ0_coder_7d493_14 (by decide) (by decide) rfl rfl

set_option maxHeartbeats 4000000 in
set_option maxRecDepth 100000 in
theorem z_latin1 {l : Launch} {D : va_G} {K : Nat → ClassId} {ad : Adr} (hl0 : l.stackTraces = false) {i : Nat} (hi : i < 10) (σ : Mem) : Cb l D K ad yJ0_isLatin1_aae02 (.code yJ0_isLatin1_aae02 cJ0_isLatin1_aae02 1 (some .boolean)) 1 0 0 σ [.ref (K (100 + i))] (.inl (some (.int (iN (1))))) σ := by
  refine Cb.of (own := RJ0) (ls0 := [some (.ref (K (100 + i)))]) hl0 (by decide) rfl (Nat.le_of_ble_eq_true rfl) rfl ?_
  intro X hX1 hX2 hX3 hf he hh
  subst hX1 hX2 hX3
  refine V_gcs hf wf_J0_38 dJ0_isLatin1_aae02_0 ?_
  refine V_if_eq (tgt := 17) hf ⟨by decide, by decide⟩ dJ0_isLatin1_aae02_3 (by decide) (fun h3 => ?_) (fun h3 => ?_)
  · exact absurd h3 (by decide)
  · refine V_aload_n hf dJ0_isLatin1_aae02_6 rfl rfl ?_
    refine V_ocod hf hi wf_J0_15 dJ0_isLatin1_aae02_7 ?_
    refine V_if_ne (tgt := 17) hf ⟨by decide, by decide⟩ dJ0_isLatin1_aae02_10 (by decide) (fun h10 => ?_) (fun h10 => ?_)
    · exact absurd rfl h10
    · refine V_iconst hf dJ0_isLatin1_aae02_13 ?_
      refine V_goto (tgt := 18) hf dJ0_isLatin1_aae02_14 (by decide) ?_
      exact B_iret hf he (by decide +kernel) dJ0_isLatin1_aae02_18 (by decide) (by decide) rfl rfl

set_option maxHeartbeats 4000000 in
set_option maxRecDepth 100000 in
theorem z_length {l : Launch} {D : va_G} {K : Nat → ClassId} {ad : Adr} (hl0 : l.stackTraces = false) {i : Nat} (hi : i < 10) (σ : Mem) : Cb l D K ad yJ0_length_8abf5 (.code yJ0_length_8abf5 cJ0_length_8abf5 1 (some .int)) 2 0 0 σ [.ref (K (100 + i))] (.inl (some (.int (iN (fmL i))))) σ := by
  refine Cb.of (own := RJ0) (ls0 := [some (.ref (K (100 + i)))]) hl0 (by decide) rfl (Nat.le_of_ble_eq_true rfl) rfl ?_
  intro X hX1 hX2 hX3 hf he hh
  subst hX1 hX2 hX3
  refine V_aload_n hf dJ0_length_8abf5_0 rfl rfl ?_
  refine V_oval hf hi wf_J0_9 dJ0_length_8abf5_1 ?_
  refine V_olen hf hi dJ0_length_8abf5_4 ?_
  refine V_aload_n hf dJ0_length_8abf5_5 rfl rfl ?_
  refine B_callVoi hf (As := []) (z_coder hl0 hi σ) cv_J0_335 hi rfl (Nat.le_of_ble_eq_true rfl) ⟨by decide, by decide, by decide, by decide⟩ dJ0_length_8abf5_6 ?_
  refine V_ishr0 hf dJ0_length_8abf5_9 ?_
  exact B_iret hf he rfl dJ0_length_8abf5_10 (by decide) (by decide) rfl rfl

set_option maxHeartbeats 4000000 in
set_option maxRecDepth 100000 in
theorem z_empty {l : Launch} {D : va_G} {K : Nat → ClassId} {ad : Adr} (hl0 : l.stackTraces = false) {i : Nat} (hi : i < 10) (σ : Mem) : Cb l D K ad yJ0_isEmpty_aae02 (.code yJ0_isEmpty_aae02 cJ0_isEmpty_aae02 1 (some .boolean)) 1 0 0 σ [.ref (K (100 + i))] (.inl (some (.int (iN (if fmL i = 0 then 1 else 0))))) σ := by
  refine Cb.of (own := RJ0) (ls0 := [some (.ref (K (100 + i)))]) hl0 (by decide) rfl (Nat.le_of_ble_eq_true rfl) rfl ?_
  intro X hX1 hX2 hX3 hf he hh
  subst hX1 hX2 hX3
  refine V_aload_n hf dJ0_isEmpty_aae02_0 rfl rfl ?_
  refine V_oval hf hi wf_J0_9 dJ0_isEmpty_aae02_1 ?_
  refine V_olen hf hi dJ0_isEmpty_aae02_4 ?_
  refine V_if_ne (tgt := 12) hf (by have := fmL_r i hi; exact ⟨by omega, by omega⟩) dJ0_isEmpty_aae02_5 (by decide) (fun h5 => ?_) (fun h5 => ?_)
  · refine V_iconst hf dJ0_isEmpty_aae02_12 ?_
    exact B_iret hf he (nar_b _) dJ0_isEmpty_aae02_13 (by decide) (by decide) (by first | rw [if_pos (by omega)] | rw [if_neg (by omega)]) rfl
  · refine V_iconst hf dJ0_isEmpty_aae02_8 ?_
    refine V_goto (tgt := 13) hf dJ0_isEmpty_aae02_9 (by decide) ?_
    exact B_iret hf he (nar_b _) dJ0_isEmpty_aae02_13 (by decide) (by decide) (by first | rw [if_pos (by omega)] | rw [if_neg (by omega)]) rfl

set_option maxHeartbeats 4000000 in
set_option maxRecDepth 100000 in
theorem z_preN {l : Launch} {D : va_G} {K : Nat → ClassId} {ad : Adr} (hl0 : l.stackTraces = false) (k n : Int) (h0 : 0 ≤ k) (h1 : k < n) (hn : n ≤ 1000) (σ : Mem) : Cb l D K ad yJ3_checkIndex_8e157 (.code yJ3_checkIndex_8e157 cJ3_checkIndex_8e157 3 (some .int)) 1 0 0 σ [.int (iN k), .int (iN n), .null] (.inl (some (.int (iN (k))))) σ := by
  refine Cb.of (own := RJ3) (ls0 := [some (.int (iN k)), some (.int (iN n)), some (.null)]) hl0 (by decide) rfl (Nat.le_of_ble_eq_true rfl) rfl ?_
  intro X hX1 hX2 hX3 hf he hh
  subst hX1 hX2 hX3
  refine V_iload_n hf dJ3_checkIndex_8e157_0 rfl rfl ?_
  refine V_if_lt (tgt := 9) hf ⟨by omega, by omega⟩ dJ3_checkIndex_8e157_1 (by decide) (fun q1 => ?_) (fun q1 => ?_)
  · exact absurd q1 (by omega)
  · refine V_iload_n hf dJ3_checkIndex_8e157_4 rfl rfl ?_
    refine V_iload_n hf dJ3_checkIndex_8e157_5 rfl rfl ?_
    refine V_icmp_lt (tgt := 16) hf ⟨by omega, by omega⟩ ⟨by omega, by omega⟩ dJ3_checkIndex_8e157_6 (by decide) (fun h6 => ?_) (fun h6 => ?_)
    · refine V_iload_n hf dJ3_checkIndex_8e157_16 rfl rfl ?_
      exact B_iret hf he rfl dJ3_checkIndex_8e157_17 (by decide) (by decide) rfl rfl
    · exact absurd h6 (by omega)

set_option maxHeartbeats 4000000 in
set_option maxRecDepth 100000 in
theorem z_preR {l : Launch} {D : va_G} {K : Nat → ClassId} {ad : Adr} (hl0 : l.stackTraces = false) (k n : Int) (h0 : 0 ≤ k) (h1 : k < n) (hn : n ≤ 1000) (σ : Mem) (t : Nat) : Cb l D K ad yJ3_checkIndex_8e157 (.code yJ3_checkIndex_8e157 cJ3_checkIndex_8e157 3 (some .int)) 1 0 0 σ [.int (iN k), .int (iN n), .ref t] (.inl (some (.int (iN (k))))) σ := by
  refine Cb.of (own := RJ3) (ls0 := [some (.int (iN k)), some (.int (iN n)), some (.ref t)]) hl0 (by decide) rfl (Nat.le_of_ble_eq_true rfl) rfl ?_
  intro X hX1 hX2 hX3 hf he hh
  subst hX1 hX2 hX3
  refine V_iload_n hf dJ3_checkIndex_8e157_0 rfl rfl ?_
  refine V_if_lt (tgt := 9) hf ⟨by omega, by omega⟩ dJ3_checkIndex_8e157_1 (by decide) (fun q1 => ?_) (fun q1 => ?_)
  · exact absurd q1 (by omega)
  · refine V_iload_n hf dJ3_checkIndex_8e157_4 rfl rfl ?_
    refine V_iload_n hf dJ3_checkIndex_8e157_5 rfl rfl ?_
    refine V_icmp_lt (tgt := 16) hf ⟨by omega, by omega⟩ ⟨by omega, by omega⟩ dJ3_checkIndex_8e157_6 (by decide) (fun h6 => ?_) (fun h6 => ?_)
    · refine V_iload_n hf dJ3_checkIndex_8e157_16 rfl rfl ?_
      exact B_iret hf he rfl dJ3_checkIndex_8e157_17 (by decide) (by decide) rfl rfl
    · exact absurd h6 (by omega)

set_option maxHeartbeats 4000000 in
set_option maxRecDepth 100000 in
theorem z_check {l : Launch} {D : va_G} {K : Nat → ClassId} {ad : Adr} (hl0 : l.stackTraces = false) (k n : Int) (h0 : 0 ≤ k) (h1 : k < n) (hn : n ≤ 1000) (σ : Mem) : Cb l D K ad yJ0_checkIndex_df160 (.code yJ0_checkIndex_df160 cJ0_checkIndex_df160 2 none) 2 0 0 σ [.int (iN k), .int (iN n)] (.inl none) σ := by
  refine Cb.of (own := RJ0) (ls0 := [some (.int (iN k)), some (.int (iN n))]) hl0 (by decide) rfl (Nat.le_of_ble_eq_true rfl) rfl ?_
  intro X hX1 hX2 hX3 hf he hh
  subst hX1 hX2 hX3
  refine V_iload_n hf dJ0_checkIndex_df160_0 rfl rfl ?_
  refine V_iload_n hf dJ0_checkIndex_df160_1 rfl rfl ?_
  refine V_gsio hf wf_J0_1053 dJ0_checkIndex_df160_2 ?_ (fun t => ?_)
  · refine B_callSi hf (As := [_, _, _]) (z_preN hl0 k n h0 h1 hn σ) cvs_J0_1059 rfl (Nat.le_of_ble_eq_true rfl) ⟨by decide, by decide, by decide, by decide⟩ dJ0_checkIndex_df160_5 ?_
    refine V_pop hf dJ0_checkIndex_df160_8 rfl ?_
    exact B_vret hf he dJ0_checkIndex_df160_9 (by decide) (by decide) rfl
  · refine B_callSi hf (As := [_, _, _]) (z_preR hl0 k n h0 h1 hn σ t) cvs_J0_1059 rfl (Nat.le_of_ble_eq_true rfl) ⟨by decide, by decide, by decide, by decide⟩ dJ0_checkIndex_df160_5 ?_
    refine V_pop hf dJ0_checkIndex_df160_8 rfl ?_
    exact B_vret hf he dJ0_checkIndex_df160_9 (by decide) (by decide) rfl

set_option maxHeartbeats 4000000 in
set_option maxRecDepth 100000 in
theorem z_lch {l : Launch} {D : va_G} {K : Nat → ClassId} {ad : Adr} (hl0 : l.stackTraces = false) {i : Nat} (hi : i < 10) (σ : Mem) (k : Int) (h0 : 0 ≤ k) (h1 : k < fmL i) : Cb l D K ad yJ1_charAt_3b067 (.code yJ1_charAt_3b067 cJ1_charAt_3b067 2 (some .char)) 3 0 0 σ [.ref (K (200 + i)), .int (iN k)] (.inl (some (.int (iN (fmB i k))))) σ := by
  refine Cb.of (own := RJ1) (ls0 := [some (.ref (K (200 + i))), some (.int (iN k))]) hl0 (by decide) rfl (Nat.le_of_ble_eq_true rfl) rfl ?_
  intro X hX1 hX2 hX3 hf he hh
  subst hX1 hX2 hX3
  have hL := fmL_r i hi
  have hB : 0 ≤ fmB i k ∧ fmB i k < 128 := by
    have := (fmB_ok i hi k.toNat (by omega)).2
    rw [Int.toNat_of_nonneg h0] at this
    exact this
  refine V_iload_n hf dJ1_charAt_3b067_0 rfl rfl ?_
  refine V_aload_n hf dJ1_charAt_3b067_1 rfl rfl ?_
  refine V_olen hf hi dJ1_charAt_3b067_2 ?_
  refine B_callSv hf (As := [_, _]) (z_check hl0 k (fmL i) h0 h1 (by omega) σ) cvs_J1_9 rfl (Nat.le_of_ble_eq_true rfl) ⟨by decide, by decide, by decide, by decide⟩ dJ1_charAt_3b067_3 ?_
  refine V_aload_n hf dJ1_charAt_3b067_6 rfl rfl ?_
  refine V_iload_n hf dJ1_charAt_3b067_7 rfl rfl ?_
  refine V_oald hf hi (by omega) (by omega) dJ1_charAt_3b067_8 ?_
  refine V_sipush hf dJ1_charAt_3b067_9 (by decide +kernel) ?_
  refine V_iand (c1 := fmB i k) hf (and255I (by omega) (by omega)) dJ1_charAt_3b067_12 ?_
  refine V_i2c (b := fmB i k) hf (i2c_s (by omega) (by omega)) dJ1_charAt_3b067_13 ?_
  exact B_iret hf he (pk_charI (by omega) (by omega)) dJ1_charAt_3b067_14 (by decide) (by decide) rfl rfl

set_option maxHeartbeats 4000000 in
set_option maxRecDepth 100000 in
theorem z_charAt {l : Launch} {D : va_G} {K : Nat → ClassId} {ad : Adr} (hl0 : l.stackTraces = false) {i : Nat} (hi : i < 10) (σ : Mem) (k : Int) (h0 : 0 ≤ k) (h1 : k < fmL i) : Cb l D K ad yJ0_charAt_5068e (.code yJ0_charAt_5068e cJ0_charAt_5068e 2 (some .char)) 4 0 0 σ [.ref (K (100 + i)), .int (iN k)] (.inl (some (.int (iN (fmB i k))))) σ := by
  refine Cb.of (own := RJ0) (ls0 := [some (.ref (K (100 + i))), some (.int (iN k))]) hl0 (by decide) rfl (Nat.le_of_ble_eq_true rfl) rfl ?_
  intro X hX1 hX2 hX3 hf he hh
  subst hX1 hX2 hX3
  have hL := fmL_r i hi
  have hB : 0 ≤ fmB i k ∧ fmB i k < 128 := by
    have := (fmB_ok i hi k.toNat (by omega)).2
    rw [Int.toNat_of_nonneg h0] at this
    exact this
  refine V_aload_n hf dJ0_charAt_5068e_0 rfl rfl ?_
  refine B_callVoi hf (As := []) (z_latin1 hl0 hi σ) cv_J0_492 hi rfl (Nat.le_of_ble_eq_true rfl) ⟨by decide, by decide, by decide, by decide⟩ dJ0_charAt_5068e_1 ?_
  refine V_if_eq (tgt := 16) hf ⟨by decide, by decide⟩ dJ0_charAt_5068e_4 (by decide) (fun h4 => ?_) (fun h4 => ?_)
  · exact absurd h4 (by decide)
  · refine V_aload_n hf dJ0_charAt_5068e_7 rfl rfl ?_
    refine V_oval hf hi wf_J0_9 dJ0_charAt_5068e_8 ?_
    refine V_iload_n hf dJ0_charAt_5068e_11 rfl rfl ?_
    refine B_callSi hf (As := [_, _]) (z_lch hl0 hi σ k h0 h1) cvs_J0_495 rfl (Nat.le_of_ble_eq_true rfl) ⟨by decide, by decide, by decide, by decide⟩ dJ0_charAt_5068e_12 ?_
    exact B_iret hf he (pk_charI (by omega) (by omega)) dJ0_charAt_5068e_15 (by decide) (by decide) rfl rfl

set_option maxHeartbeats 4000000 in
set_option maxRecDepth 100000 in
theorem y_take {l : Launch} {D : va_G} {K : Nat → ClassId} {ad : Adr} (hl0 : l.stackTraces = false) (σ : Mem) (ch : Int → Int) (len : Int) (hP : C6 σ ch len) (p : Int) (hp : 0 ≤ p ∧ p ≤ 60) (hk : p < len) : Cb l D K ad yX6_takeDigit (.code yX6_takeDigit cX6_takeDigit 2 (some .int)) 1 0 0 (aM σ p) [.ref (ad 0 26)] (.inl (some (.int (iN (ch p - 48))))) (aM σ (p + 1)) := by
  refine Cb.of (own := RX6) (ls0 := [some (.ref (ad 0 26)), none]) hl0 (by decide) rfl (Nat.le_of_ble_eq_true rfl) rfl ?_
  intro X hX1 hX2 hX3 hf he hh
  subst hX1 hX2 hX3
  have hl := hP.2.2.1
  have hRp := aM_R hP.2.2.2.2 (p := p) ⟨hp.1, by omega⟩
  have e2 : aM σ p 0 26 2 = p := aM_2
  have e1 : aM σ p 0 26 1 = len := (aM_k (by decide)).trans hP.2.1
  have ec : ∀ k : Int, 0 ≤ k → k < len → aM σ p 0 27 k = ch k := fun k h0 h1 => (aM_j (by decide)).trans (hP.1 k h0 h1)
  have eh : p < len → mHere ch len p = ch p := fun h => if_pos h
  have eh2 : ¬ p < len → mHere ch len p = -1 := fun h => if_neg h
  refine V_aload_n hf dX6_takeDigit_0 rfl rfl ?_
  refine B_get hf l01 rfl fl_X6_11_9 rfl dX6_takeDigit_1 ?_
  refine V_aload_n hf dX6_takeDigit_4 rfl rfl ?_
  refine B_get hf l01 rfl fl_X6_19_9 rfl dX6_takeDigit_5 ?_
  refine B_cald hf l01 (fun _ => rfl) (by first | exact hRp _ _ _ (by decide) | exact ⟨by omega, by omega⟩) (by omega) (by omega) dX6_takeDigit_8 ?_
  refine V_bipush hf dX6_takeDigit_9 (by decide +kernel) ?_
  refine V_isub hf dX6_takeDigit_11 ?_
  refine V_istore_n (ls2 := [_, _]) hf dX6_takeDigit_12 rfl (by decide) rfl rfl ?_
  refine V_aload_n hf dX6_takeDigit_13 rfl rfl ?_
  refine V_dup hf dX6_takeDigit_14 rfl ?_
  refine B_get hf l01 rfl fl_X6_19_9 rfl dX6_takeDigit_15 ?_
  refine V_iconst hf dX6_takeDigit_18 ?_
  refine V_iadd hf dX6_takeDigit_19 ?_
  refine B_putI (kI := 2) hf rfl l01 rfl fp_X6_19_9 rfl rfl (Nat.le_of_ble_eq_true rfl) (by decide) (cs_26_2 _ _ _ _ _) dX6_takeDigit_20 ?_
  refine V_iload_n hf dX6_takeDigit_23 rfl rfl ?_
  rw [aM_a, e2]
  exact B_iret hf he rfl dX6_takeDigit_24 (by decide) (by decide) (by rw [ec p hp.1 hk]) rfl

set_option maxHeartbeats 4000000 in
set_option maxRecDepth 100000 in
theorem y_isDig {l : Launch} {D : va_G} {K : Nat → ClassId} {ad : Adr} (hl0 : l.stackTraces = false) (σ : Mem) (ch : Int → Int) (len : Int) (hP : C6 σ ch len) (p : Int) (hp : 0 ≤ p ∧ p ≤ 60) : Cb l D K ad yX6_isAtDigit (.code yX6_isAtDigit cX6_isAtDigit 1 (some .boolean)) 1 0 0 (aM σ p) [.ref (ad 0 26)] (.inl (some (.int (iN (if 48 ≤ mHere ch len p ∧ mHere ch len p ≤ 57 then 1 else 0))))) (aM σ p) := by
  refine Cb.of (own := RX6) (ls0 := [some (.ref (ad 0 26))]) hl0 (by decide) rfl (Nat.le_of_ble_eq_true rfl) rfl ?_
  intro X hX1 hX2 hX3 hf he hh
  subst hX1 hX2 hX3
  have hl := hP.2.2.1
  have hRp := aM_R hP.2.2.2.2 (p := p) ⟨hp.1, by omega⟩
  have e2 : aM σ p 0 26 2 = p := aM_2
  have e1 : aM σ p 0 26 1 = len := (aM_k (by decide)).trans hP.2.1
  have ec : ∀ k : Int, 0 ≤ k → k < len → aM σ p 0 27 k = ch k := fun k h0 h1 => (aM_j (by decide)).trans (hP.1 k h0 h1)
  have eh : p < len → mHere ch len p = ch p := fun h => if_pos h
  have eh2 : ¬ p < len → mHere ch len p = -1 := fun h => if_neg h
  refine V_aload_n hf dX6_isAtDigit_0 rfl rfl ?_
  refine B_get hf l01 rfl fl_X6_19_9 rfl dX6_isAtDigit_1 ?_
  refine V_aload_n hf dX6_isAtDigit_4 rfl rfl ?_
  refine B_get hf l01 rfl fl_X6_15_9 rfl dX6_isAtDigit_5 ?_
  refine V_icmp_ge (tgt := 43) hf (by first | exact hRp _ _ _ (by decide) | exact ⟨by omega, by omega⟩) (by first | exact hRp _ _ _ (by decide) | exact ⟨by omega, by omega⟩) dX6_isAtDigit_8 (by decide) (fun h8 => ?_) (fun h8 => ?_)
  · refine V_iconst hf dX6_isAtDigit_43 ?_
    have b1 := eh
    have b2 := eh2
    have b3 := ec p hp.1
    rw [e2] at *
    exact B_iret hf he (nar_b _) dX6_isAtDigit_44 (by decide) (by decide) (by first | rw [if_pos (by omega)] | rw [if_neg (by omega)]) rfl
  · refine V_aload_n hf dX6_isAtDigit_11 rfl rfl ?_
    refine B_get hf l01 rfl fl_X6_11_9 rfl dX6_isAtDigit_12 ?_
    refine V_aload_n hf dX6_isAtDigit_15 rfl rfl ?_
    refine B_get hf l01 rfl fl_X6_19_9 rfl dX6_isAtDigit_16 ?_
    refine B_cald hf l01 (fun _ => rfl) (by first | exact hRp _ _ _ (by decide) | exact ⟨by omega, by omega⟩) (by omega) (by omega) dX6_isAtDigit_19 ?_
    refine V_bipush hf dX6_isAtDigit_20 (by decide +kernel) ?_
    refine V_icmp_lt (tgt := 43) hf (by first | exact hRp _ _ _ (by decide) | exact ⟨by omega, by omega⟩) (by first | exact hRp _ _ _ (by decide) | exact ⟨by omega, by omega⟩) dX6_isAtDigit_22 (by decide) (fun h22 => ?_) (fun h22 => ?_)
    · refine V_iconst hf dX6_isAtDigit_43 ?_
      have b1 := eh
      have b2 := eh2
      have b3 := ec p hp.1
      rw [e2] at *
      exact B_iret hf he (nar_b _) dX6_isAtDigit_44 (by decide) (by decide) (by first | rw [if_pos (by omega)] | rw [if_neg (by omega)]) rfl
    · refine V_aload_n hf dX6_isAtDigit_25 rfl rfl ?_
      refine B_get hf l01 rfl fl_X6_11_9 rfl dX6_isAtDigit_26 ?_
      refine V_aload_n hf dX6_isAtDigit_29 rfl rfl ?_
      refine B_get hf l01 rfl fl_X6_19_9 rfl dX6_isAtDigit_30 ?_
      refine B_cald hf l01 (fun _ => rfl) (by first | exact hRp _ _ _ (by decide) | exact ⟨by omega, by omega⟩) (by omega) (by omega) dX6_isAtDigit_33 ?_
      refine V_bipush hf dX6_isAtDigit_34 (by decide +kernel) ?_
      refine V_icmp_gt (tgt := 43) hf (by first | exact hRp _ _ _ (by decide) | exact ⟨by omega, by omega⟩) (by first | exact hRp _ _ _ (by decide) | exact ⟨by omega, by omega⟩) dX6_isAtDigit_36 (by decide) (fun h36 => ?_) (fun h36 => ?_)
      · refine V_iconst hf dX6_isAtDigit_43 ?_
        have b1 := eh
        have b2 := eh2
        have b3 := ec p hp.1
        rw [e2] at *
        exact B_iret hf he (nar_b _) dX6_isAtDigit_44 (by decide) (by decide) (by first | rw [if_pos (by omega)] | rw [if_neg (by omega)]) rfl
      · refine V_iconst hf dX6_isAtDigit_39 ?_
        refine V_goto (tgt := 44) hf dX6_isAtDigit_40 (by decide) ?_
        have b1 := eh
        have b2 := eh2
        have b3 := ec p hp.1
        rw [e2] at *
        exact B_iret hf he (nar_b _) dX6_isAtDigit_44 (by decide) (by decide) (by first | rw [if_pos (by omega)] | rw [if_neg (by omega)]) rfl

set_option maxHeartbeats 4000000 in
set_option maxRecDepth 100000 in
theorem y_sign_o {l : Launch} {D : va_G} {K : Nat → ClassId} {ad : Adr} (hl0 : l.stackTraces = false) (σ : Mem) (ch : Int → Int) (len : Int) (hP : C6 σ ch len) (p : Int) (hp : 0 ≤ p ∧ p ≤ 60) (c : Int) (hc : 0 ≤ c ∧ c < 128) (hz : mHere ch len p = c) : Cb l D K ad yX6_readSign (.code yX6_readSign cX6_readSign 2 (some .boolean)) 1 0 0 (aM σ p) [.ref (ad 0 26), .int (iN c)] (.inl (some (.int (iN (1))))) (aM σ (p + 1)) := by
  refine Cb.of (own := RX6) (ls0 := [some (.ref (ad 0 26)), some (.int (iN c))]) hl0 (by decide) rfl (Nat.le_of_ble_eq_true rfl) rfl ?_
  intro X hX1 hX2 hX3 hf he hh
  subst hX1 hX2 hX3
  have hl := hP.2.2.1
  have hRp := aM_R hP.2.2.2.2 (p := p) ⟨hp.1, by omega⟩
  have e2 : aM σ p 0 26 2 = p := aM_2
  have e1 : aM σ p 0 26 1 = len := (aM_k (by decide)).trans hP.2.1
  have ec : ∀ k : Int, 0 ≤ k → k < len → aM σ p 0 27 k = ch k := fun k h0 h1 => (aM_j (by decide)).trans (hP.1 k h0 h1)
  have eh : p < len → mHere ch len p = ch p := fun h => if_pos h
  have eh2 : ¬ p < len → mHere ch len p = -1 := fun h => if_neg h
  refine V_aload_n hf dX6_readSign_0 rfl rfl ?_
  refine B_get hf l01 rfl fl_X6_19_9 rfl dX6_readSign_1 ?_
  refine V_aload_n hf dX6_readSign_4 rfl rfl ?_
  refine B_get hf l01 rfl fl_X6_15_9 rfl dX6_readSign_5 ?_
  refine V_icmp_ge (tgt := 24) hf (by first | exact hRp _ _ _ (by decide) | exact ⟨by omega, by omega⟩) (by first | exact hRp _ _ _ (by decide) | exact ⟨by omega, by omega⟩) dX6_readSign_8 (by decide) (fun h8 => ?_) (fun h8 => ?_)
  · exact absurd h8 (by have := eh2; omega)
  · refine V_aload_n hf dX6_readSign_11 rfl rfl ?_
    refine B_get hf l01 rfl fl_X6_11_9 rfl dX6_readSign_12 ?_
    refine V_aload_n hf dX6_readSign_15 rfl rfl ?_
    refine B_get hf l01 rfl fl_X6_19_9 rfl dX6_readSign_16 ?_
    refine B_cald hf l01 (fun _ => rfl) (by first | exact hRp _ _ _ (by decide) | exact ⟨by omega, by omega⟩) (by omega) (by omega) dX6_readSign_19 ?_
    refine V_iload_n hf dX6_readSign_20 rfl rfl ?_
    refine V_icmp_eq (tgt := 26) hf (by first | exact hRp _ _ _ (by decide) | exact ⟨by omega, by omega⟩) ⟨by omega, by omega⟩ dX6_readSign_21 (by decide) (fun h21 => ?_) (fun h21 => ?_)
    · refine V_aload_n hf dX6_readSign_26 rfl rfl ?_
      refine V_dup hf dX6_readSign_27 rfl ?_
      refine B_get hf l01 rfl fl_X6_19_9 rfl dX6_readSign_28 ?_
      refine V_iconst hf dX6_readSign_31 ?_
      refine V_iadd hf dX6_readSign_32 ?_
      refine B_putI (kI := 2) hf rfl l01 rfl fp_X6_19_9 rfl rfl (Nat.le_of_ble_eq_true rfl) (by decide) (cs_26_2 _ _ _ _ _) dX6_readSign_33 ?_
      refine V_iconst hf dX6_readSign_36 ?_
      rw [aM_a, e2]
      exact B_iret hf he (by decide +kernel) dX6_readSign_37 (by decide) (by decide) rfl rfl
    · exact absurd h21 (by rw [e2, ec p hp.1 (by omega), ← eh (by omega)]; omega)

set_option maxHeartbeats 4000000 in
set_option maxRecDepth 100000 in
theorem y_sign_n {l : Launch} {D : va_G} {K : Nat → ClassId} {ad : Adr} (hl0 : l.stackTraces = false) (σ : Mem) (ch : Int → Int) (len : Int) (hP : C6 σ ch len) (p : Int) (hp : 0 ≤ p ∧ p ≤ 60) (c : Int) (hc : 0 ≤ c ∧ c < 128) (hz : ¬ mHere ch len p = c) : Cb l D K ad yX6_readSign (.code yX6_readSign cX6_readSign 2 (some .boolean)) 1 0 0 (aM σ p) [.ref (ad 0 26), .int (iN c)] (.inl (some (.int (iN (0))))) (aM σ p) := by
  refine Cb.of (own := RX6) (ls0 := [some (.ref (ad 0 26)), some (.int (iN c))]) hl0 (by decide) rfl (Nat.le_of_ble_eq_true rfl) rfl ?_
  intro X hX1 hX2 hX3 hf he hh
  subst hX1 hX2 hX3
  have hl := hP.2.2.1
  have hRp := aM_R hP.2.2.2.2 (p := p) ⟨hp.1, by omega⟩
  have e2 : aM σ p 0 26 2 = p := aM_2
  have e1 : aM σ p 0 26 1 = len := (aM_k (by decide)).trans hP.2.1
  have ec : ∀ k : Int, 0 ≤ k → k < len → aM σ p 0 27 k = ch k := fun k h0 h1 => (aM_j (by decide)).trans (hP.1 k h0 h1)
  have eh : p < len → mHere ch len p = ch p := fun h => if_pos h
  have eh2 : ¬ p < len → mHere ch len p = -1 := fun h => if_neg h
  refine V_aload_n hf dX6_readSign_0 rfl rfl ?_
  refine B_get hf l01 rfl fl_X6_19_9 rfl dX6_readSign_1 ?_
  refine V_aload_n hf dX6_readSign_4 rfl rfl ?_
  refine B_get hf l01 rfl fl_X6_15_9 rfl dX6_readSign_5 ?_
  refine V_icmp_ge (tgt := 24) hf (by first | exact hRp _ _ _ (by decide) | exact ⟨by omega, by omega⟩) (by first | exact hRp _ _ _ (by decide) | exact ⟨by omega, by omega⟩) dX6_readSign_8 (by decide) (fun h8 => ?_) (fun h8 => ?_)
  · refine V_iconst hf dX6_readSign_24 ?_
    exact B_iret hf he (by decide +kernel) dX6_readSign_25 (by decide) (by decide) rfl rfl
  · refine V_aload_n hf dX6_readSign_11 rfl rfl ?_
    refine B_get hf l01 rfl fl_X6_11_9 rfl dX6_readSign_12 ?_
    refine V_aload_n hf dX6_readSign_15 rfl rfl ?_
    refine B_get hf l01 rfl fl_X6_19_9 rfl dX6_readSign_16 ?_
    refine B_cald hf l01 (fun _ => rfl) (by first | exact hRp _ _ _ (by decide) | exact ⟨by omega, by omega⟩) (by omega) (by omega) dX6_readSign_19 ?_
    refine V_iload_n hf dX6_readSign_20 rfl rfl ?_
    refine V_icmp_eq (tgt := 26) hf (by first | exact hRp _ _ _ (by decide) | exact ⟨by omega, by omega⟩) ⟨by omega, by omega⟩ dX6_readSign_21 (by decide) (fun h21 => ?_) (fun h21 => ?_)
    · exact absurd h21 (by rw [e2, ec p hp.1 (by omega), ← eh (by omega)]; omega)
    · refine V_iconst hf dX6_readSign_24 ?_
      exact B_iret hf he (by decide +kernel) dX6_readSign_25 (by decide) (by decide) rfl rfl
