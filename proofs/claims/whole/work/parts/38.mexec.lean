/-! the reference: the commands -/
theorem startM_R {σ : Mem} (h : Rng σ) : Rng (startM σ) := ((h.st ⟨by decide, by decide⟩).st ⟨by decide, by decide⟩).cpy (by decide)
theorem startM_k {σ : Mem} {k : Int} (h : k ≠ 8) (h2 : k ≠ 14) : startM σ 0 40 k = σ 0 40 k := by
  unfold startM
  rw [cpy_k (by decide), st3_k h2, st3_k h]
theorem exec0_P {σ : Mem} (hR : Rng σ) (hl : σ 0 40 10 ≤ 60) : P46 (exec0 σ) (σ 0 46) (σ 0 40 10) := by
  refine ⟨?_, ?_, hl, ?_⟩
  · funext k
    unfold exec0 startM
    rw [st3_j (by decide), st3_j (by decide), st3_j (by decide), st3_j (by decide), st3_j (by decide), cpy_k (by decide), st3_j (by decide), st3_j (by decide)]
  · unfold exec0
    rw [st3_k (by decide), st3_k (by decide), st3_k (by decide), st3_k (by decide), st3_self, startM_k (by decide) (by decide)]
  · exact (((((startM_R hR).st (by rw [startM_k (by decide) (by decide)]; exact hR _ _ _ (by decide))).st ⟨by decide, by decide⟩).st ⟨by decide, by decide⟩).st ⟨by decide, by decide⟩).st ⟨by decide, by decide⟩
theorem exec0_q {σ : Mem} : qM (exec0 σ) (0, 0) = exec0 σ := by
  refine qM_self ?_ ?_
  · unfold exec0
    rw [st3_k (by decide), st3_k (by decide), st3_self]
  · unfold exec0
    rw [st3_self]
theorem exec0_19 {σ : Mem} : exec0 σ 0 40 19 = 0 := by
  unfold exec0
  rw [st3_k (by decide), st3_self]
theorem exec0_8 {σ : Mem} : exec0 σ 0 40 8 = 0 := by
  unfold exec0
  rw [st3_k (by decide), st3_k (by decide), st3_k (by decide), st3_k (by decide), st3_k (by decide)]
  unfold startM
  rw [cpy_k (by decide), st3_k (by decide), st3_self]
theorem mParse_q {ch : Int → Int} {len : Int} : ∀ (f : Nat) (σ : Mem) (n p : Int), P46 σ ch len → 0 ≤ n → 2 * n ≤ p → p ≤ 60 → P46 (mParse ch len f σ n p).1 ch len ∧ Qk (mParse ch len f σ n p).2
  | 0, σ, n, p, hP, h0, h1, h2 => ⟨hP, ⟨by dsimp only [mParse]; omega, by dsimp only [mParse]; omega⟩, by dsimp only [mParse]; decide, by dsimp only [mParse]; decide⟩
  | f + 1, σ, n, p, hP, h0, h1, h2 => by
    have hc := mCmd_q (n := n) (p := p) hP ⟨by omega, h2⟩ ⟨h0, by omega⟩
    unfold mParse
    split
    · rename_i h3
      have hl := hP.2.2.1
      have he := mExp_q (ch := ch) (len := len) (c := 59) hc.2.1 hl (by decide)
      have hm := mExp_m (ch := ch) (len := len) (c := 59) (q := (mCmd ch len σ n p).2)
      split
      · rename_i h4
        have h5 := hc.2.2 h3.1
        have h6 := he.2.2 h4
        have h7 : (mCmd ch len σ n p).2.1 + 1 = (mExp ch len 59 (mCmd ch len σ n p).2).1 := by
          unfold mExp at h4 ⊢
          split at h4
          · rw [if_pos (by assumption)]
          · exact absurd h4 (by dsimp only; decide)
        exact mParse_q f _ (n + 1) _ hc.1 (by omega) (by omega) h6
      · exact ⟨hc.1, he.1⟩
    · exact ⟨hc.1, hc.2.1⟩
set_option maxHeartbeats 4000000 in
set_option maxRecDepth 100000 in
theorem g_does_s {l : Launch} {D : va_G} {K : Nat → ClassId} {ad : Adr} (hl0 : l.stackTraces = false) (σ : Mem) (hR : Rng σ) (t : Int) (ht : 0 ≤ t ∧ t < 240) (hz : σ 0 48 t = 115) (r : Int) (σ1 : Mem) (hS : Cb l D K ad yX9_shipIt (.code yX9_shipIt cX9_shipIt 3 (some .int)) 5 0 0 σ [.ref (ad 0 40), .int (iN (σ 0 48 (t + 1))), .int (iN (σ 0 48 (t + 2)))] (.inl (some (.int (iN r)))) σ1) : Cb l D K ad yX9_does (.code yX9_does cX9_does 4 none) 7 0 0 σ [.ref (ad 0 40), .int (iN t)] (.inl none) σ1 := by
  refine Cb.of (own := RX9) (ls0 := [some (.ref (ad 0 40)), some (.int (iN t)), none, none]) hl0 (by decide) rfl (Nat.le_of_ble_eq_true rfl) rfl ?_
  intro X hX1 hX2 hX3 hf he hh
  subst hX1 hX2 hX3
  refine V_aload_n hf dX9_does_0 rfl rfl ?_
  refine B_get hf l01 rfl fl_X9_35_12 rfl dX9_does_1 ?_
  refine V_iload_n hf dX9_does_4 rfl rfl ?_
  refine V_iconst hf dX9_does_5 ?_
  refine V_iadd hf dX9_does_6 ?_
  refine B_iald hf l01 (fun _ => rfl) ⟨by omega, by omega⟩ (by omega) (by omega) dX9_does_7 ?_
  refine V_istore_n (ls2 := [_, _, _, _]) hf dX9_does_8 rfl (by decide) rfl rfl ?_
  refine V_aload_n hf dX9_does_9 rfl rfl ?_
  refine B_get hf l01 rfl fl_X9_35_12 rfl dX9_does_10 ?_
  refine V_iload_n hf dX9_does_13 rfl rfl ?_
  refine V_iconst hf dX9_does_14 ?_
  refine V_iadd hf dX9_does_15 ?_
  refine B_iald hf l01 (fun _ => rfl) ⟨by omega, by omega⟩ (by omega) (by omega) dX9_does_16 ?_
  refine V_istore_n (ls2 := [_, _, _, _]) hf dX9_does_17 rfl (by decide) rfl rfl ?_
  refine V_aload_n hf dX9_does_18 rfl rfl ?_
  refine B_get hf l01 rfl fl_X9_35_12 rfl dX9_does_19 ?_
  refine V_iload_n hf dX9_does_22 rfl rfl ?_
  refine B_iald hf l01 (fun _ => rfl) ⟨by omega, by omega⟩ (by omega) (by omega) dX9_does_23 ?_
  rw [hz]
  refine V_tswIn (tgt := 140) hf ⟨by decide, by decide⟩ dX9_does_24 (by decide) (by decide) rfl (by decide) ?_
  refine V_aload_n hf dX9_does_140 rfl rfl ?_
  refine V_iload_n hf dX9_does_141 rfl rfl ?_
  refine V_iload_n hf dX9_does_142 rfl rfl ?_
  refine B_callVi hf (As := [_, _]) (hS) cv_X9_113 l01 rfl rfl rfl (Nat.le_of_ble_eq_true rfl) ⟨by decide, by decide, by decide, by decide⟩ dX9_does_143 ?_
  refine V_pop hf dX9_does_146 rfl ?_
  refine V_goto (tgt := 230) hf dX9_does_147 (by decide) ?_
  exact B_vret hf he dX9_does_230 (by decide) (by decide) rfl

set_option maxHeartbeats 4000000 in
set_option maxRecDepth 100000 in
theorem g_does_a {l : Launch} {D : va_G} {K : Nat → ClassId} {ad : Adr} (hl0 : l.stackTraces = false) (σ : Mem) (hR : Rng σ) (t : Int) (ht : 0 ≤ t ∧ t < 240) (hz : σ 0 48 t = 97) (r : Int) (σ1 : Mem) (hS : Cb l D K ad yX9_barnacleIt (.code yX9_barnacleIt cX9_barnacleIt 3 (some .int)) 5 0 0 σ [.ref (ad 0 40), .int (iN (σ 0 48 (t + 1))), .int (iN (σ 0 48 (t + 2)))] (.inl (some (.int (iN r)))) σ1) : Cb l D K ad yX9_does (.code yX9_does cX9_does 4 none) 7 0 0 σ [.ref (ad 0 40), .int (iN t)] (.inl none) σ1 := by
  refine Cb.of (own := RX9) (ls0 := [some (.ref (ad 0 40)), some (.int (iN t)), none, none]) hl0 (by decide) rfl (Nat.le_of_ble_eq_true rfl) rfl ?_
  intro X hX1 hX2 hX3 hf he hh
  subst hX1 hX2 hX3
  refine V_aload_n hf dX9_does_0 rfl rfl ?_
  refine B_get hf l01 rfl fl_X9_35_12 rfl dX9_does_1 ?_
  refine V_iload_n hf dX9_does_4 rfl rfl ?_
  refine V_iconst hf dX9_does_5 ?_
  refine V_iadd hf dX9_does_6 ?_
  refine B_iald hf l01 (fun _ => rfl) ⟨by omega, by omega⟩ (by omega) (by omega) dX9_does_7 ?_
  refine V_istore_n (ls2 := [_, _, _, _]) hf dX9_does_8 rfl (by decide) rfl rfl ?_
  refine V_aload_n hf dX9_does_9 rfl rfl ?_
  refine B_get hf l01 rfl fl_X9_35_12 rfl dX9_does_10 ?_
  refine V_iload_n hf dX9_does_13 rfl rfl ?_
  refine V_iconst hf dX9_does_14 ?_
  refine V_iadd hf dX9_does_15 ?_
  refine B_iald hf l01 (fun _ => rfl) ⟨by omega, by omega⟩ (by omega) (by omega) dX9_does_16 ?_
  refine V_istore_n (ls2 := [_, _, _, _]) hf dX9_does_17 rfl (by decide) rfl rfl ?_
  refine V_aload_n hf dX9_does_18 rfl rfl ?_
  refine B_get hf l01 rfl fl_X9_35_12 rfl dX9_does_19 ?_
  refine V_iload_n hf dX9_does_22 rfl rfl ?_
  refine B_iald hf l01 (fun _ => rfl) ⟨by omega, by omega⟩ (by omega) (by omega) dX9_does_23 ?_
  rw [hz]
  refine V_tswIn (tgt := 150) hf ⟨by decide, by decide⟩ dX9_does_24 (by decide) (by decide) rfl (by decide) ?_
  refine V_aload_n hf dX9_does_150 rfl rfl ?_
  refine V_iload_n hf dX9_does_151 rfl rfl ?_
  refine V_iload_n hf dX9_does_152 rfl rfl ?_
  refine B_callVi hf (As := [_, _]) (hS) cv_X9_129 l01 rfl rfl rfl (Nat.le_of_ble_eq_true rfl) ⟨by decide, by decide, by decide, by decide⟩ dX9_does_153 ?_
  refine V_pop hf dX9_does_156 rfl ?_
  refine V_goto (tgt := 230) hf dX9_does_157 (by decide) ?_
  exact B_vret hf he dX9_does_230 (by decide) (by decide) rfl

set_option maxHeartbeats 4000000 in
set_option maxRecDepth 100000 in
theorem g_does_c {l : Launch} {D : va_G} {K : Nat → ClassId} {ad : Adr} (hl0 : l.stackTraces = false) (σ : Mem) (hR : Rng σ) (t : Int) (ht : 0 ≤ t ∧ t < 240) (hz : σ 0 48 t = 99) (r : Int) (σ1 : Mem) (hS : Cb l D K ad yX9_giveIt (.code yX9_giveIt cX9_giveIt 3 (some .int)) 5 0 0 σ [.ref (ad 0 40), .int (iN (σ 0 48 (t + 1))), .int (iN (σ 0 48 (t + 2)))] (.inl (some (.int (iN r)))) σ1) : Cb l D K ad yX9_does (.code yX9_does cX9_does 4 none) 7 0 0 σ [.ref (ad 0 40), .int (iN t)] (.inl none) σ1 := by
  refine Cb.of (own := RX9) (ls0 := [some (.ref (ad 0 40)), some (.int (iN t)), none, none]) hl0 (by decide) rfl (Nat.le_of_ble_eq_true rfl) rfl ?_
  intro X hX1 hX2 hX3 hf he hh
  subst hX1 hX2 hX3
  refine V_aload_n hf dX9_does_0 rfl rfl ?_
  refine B_get hf l01 rfl fl_X9_35_12 rfl dX9_does_1 ?_
  refine V_iload_n hf dX9_does_4 rfl rfl ?_
  refine V_iconst hf dX9_does_5 ?_
  refine V_iadd hf dX9_does_6 ?_
  refine B_iald hf l01 (fun _ => rfl) ⟨by omega, by omega⟩ (by omega) (by omega) dX9_does_7 ?_
  refine V_istore_n (ls2 := [_, _, _, _]) hf dX9_does_8 rfl (by decide) rfl rfl ?_
  refine V_aload_n hf dX9_does_9 rfl rfl ?_
  refine B_get hf l01 rfl fl_X9_35_12 rfl dX9_does_10 ?_
  refine V_iload_n hf dX9_does_13 rfl rfl ?_
  refine V_iconst hf dX9_does_14 ?_
  refine V_iadd hf dX9_does_15 ?_
  refine B_iald hf l01 (fun _ => rfl) ⟨by omega, by omega⟩ (by omega) (by omega) dX9_does_16 ?_
  refine V_istore_n (ls2 := [_, _, _, _]) hf dX9_does_17 rfl (by decide) rfl rfl ?_
  refine V_aload_n hf dX9_does_18 rfl rfl ?_
  refine B_get hf l01 rfl fl_X9_35_12 rfl dX9_does_19 ?_
  refine V_iload_n hf dX9_does_22 rfl rfl ?_
  refine B_iald hf l01 (fun _ => rfl) ⟨by omega, by omega⟩ (by omega) (by omega) dX9_does_23 ?_
  rw [hz]
  refine V_tswIn (tgt := 160) hf ⟨by decide, by decide⟩ dX9_does_24 (by decide) (by decide) rfl (by decide) ?_
  refine V_aload_n hf dX9_does_160 rfl rfl ?_
  refine V_iload_n hf dX9_does_161 rfl rfl ?_
  refine V_iload_n hf dX9_does_162 rfl rfl ?_
  refine B_callVi hf (As := [_, _]) (hS) cv_X9_132 l01 rfl rfl rfl (Nat.le_of_ble_eq_true rfl) ⟨by decide, by decide, by decide, by decide⟩ dX9_does_163 ?_
  refine V_pop hf dX9_does_166 rfl ?_
  refine V_goto (tgt := 230) hf dX9_does_167 (by decide) ?_
  exact B_vret hf he dX9_does_230 (by decide) (by decide) rfl

set_option maxHeartbeats 4000000 in
set_option maxRecDepth 100000 in
theorem g_does_b {l : Launch} {D : va_G} {K : Nat → ClassId} {ad : Adr} (hl0 : l.stackTraces = false) (σ : Mem) (hR : Rng σ) (t : Int) (ht : 0 ≤ t ∧ t < 240) (hz : σ 0 48 t = 98) (r : Int) (σ1 : Mem) (hS : Cb l D K ad yX9_bidIt (.code yX9_bidIt cX9_bidIt 6 (some .int)) 5 0 0 σ [.ref (ad 0 40), .int (iN (σ 0 48 (t + 1))), .int (iN (σ 0 48 (t + 2))), .int (iN (σ 0 48 (t + 3)))] (.inl (some (.int (iN r)))) σ1) : Cb l D K ad yX9_does (.code yX9_does cX9_does 4 none) 7 0 0 σ [.ref (ad 0 40), .int (iN t)] (.inl none) σ1 := by
  refine Cb.of (own := RX9) (ls0 := [some (.ref (ad 0 40)), some (.int (iN t)), none, none]) hl0 (by decide) rfl (Nat.le_of_ble_eq_true rfl) rfl ?_
  intro X hX1 hX2 hX3 hf he hh
  subst hX1 hX2 hX3
  refine V_aload_n hf dX9_does_0 rfl rfl ?_
  refine B_get hf l01 rfl fl_X9_35_12 rfl dX9_does_1 ?_
  refine V_iload_n hf dX9_does_4 rfl rfl ?_
  refine V_iconst hf dX9_does_5 ?_
  refine V_iadd hf dX9_does_6 ?_
  refine B_iald hf l01 (fun _ => rfl) ⟨by omega, by omega⟩ (by omega) (by omega) dX9_does_7 ?_
  refine V_istore_n (ls2 := [_, _, _, _]) hf dX9_does_8 rfl (by decide) rfl rfl ?_
  refine V_aload_n hf dX9_does_9 rfl rfl ?_
  refine B_get hf l01 rfl fl_X9_35_12 rfl dX9_does_10 ?_
  refine V_iload_n hf dX9_does_13 rfl rfl ?_
  refine V_iconst hf dX9_does_14 ?_
  refine V_iadd hf dX9_does_15 ?_
  refine B_iald hf l01 (fun _ => rfl) ⟨by omega, by omega⟩ (by omega) (by omega) dX9_does_16 ?_
  refine V_istore_n (ls2 := [_, _, _, _]) hf dX9_does_17 rfl (by decide) rfl rfl ?_
  refine V_aload_n hf dX9_does_18 rfl rfl ?_
  refine B_get hf l01 rfl fl_X9_35_12 rfl dX9_does_19 ?_
  refine V_iload_n hf dX9_does_22 rfl rfl ?_
  refine B_iald hf l01 (fun _ => rfl) ⟨by omega, by omega⟩ (by omega) (by omega) dX9_does_23 ?_
  rw [hz]
  refine V_tswIn (tgt := 170) hf ⟨by decide, by decide⟩ dX9_does_24 (by decide) (by decide) rfl (by decide) ?_
  refine V_aload_n hf dX9_does_170 rfl rfl ?_
  refine V_iload_n hf dX9_does_171 rfl rfl ?_
  refine V_iload_n hf dX9_does_172 rfl rfl ?_
  refine V_aload_n hf dX9_does_173 rfl rfl ?_
  refine B_get hf l01 rfl fl_X9_35_12 rfl dX9_does_174 ?_
  refine V_iload_n hf dX9_does_177 rfl rfl ?_
  refine V_iconst hf dX9_does_178 ?_
  refine V_iadd hf dX9_does_179 ?_
  refine B_iald hf l01 (fun _ => rfl) ⟨by omega, by omega⟩ (by omega) (by omega) dX9_does_180 ?_
  refine B_callVi hf (As := [_, _, _]) (hS) cv_X9_141 l01 rfl rfl rfl (Nat.le_of_ble_eq_true rfl) ⟨by decide, by decide, by decide, by decide⟩ dX9_does_181 ?_
  refine V_pop hf dX9_does_184 rfl ?_
  refine V_goto (tgt := 230) hf dX9_does_185 (by decide) ?_
  exact B_vret hf he dX9_does_230 (by decide) (by decide) rfl

set_option maxHeartbeats 4000000 in
set_option maxRecDepth 100000 in
theorem g_does_o {l : Launch} {D : va_G} {K : Nat → ClassId} {ad : Adr} (hl0 : l.stackTraces = false) (σ : Mem) (hR : Rng σ) (t : Int) (ht : 0 ≤ t ∧ t < 240) (hz : σ 0 48 t = 111) (r : Int) (σ1 : Mem) (hS : Cb l D K ad yX9_offerIt (.code yX9_offerIt cX9_offerIt 4 (some .int)) 5 0 0 σ [.ref (ad 0 40), .int (iN (σ 0 48 (t + 1))), .int (iN (σ 0 48 (t + 2)))] (.inl (some (.int (iN r)))) σ1) : Cb l D K ad yX9_does (.code yX9_does cX9_does 4 none) 7 0 0 σ [.ref (ad 0 40), .int (iN t)] (.inl none) σ1 := by
  refine Cb.of (own := RX9) (ls0 := [some (.ref (ad 0 40)), some (.int (iN t)), none, none]) hl0 (by decide) rfl (Nat.le_of_ble_eq_true rfl) rfl ?_
  intro X hX1 hX2 hX3 hf he hh
  subst hX1 hX2 hX3
  refine V_aload_n hf dX9_does_0 rfl rfl ?_
  refine B_get hf l01 rfl fl_X9_35_12 rfl dX9_does_1 ?_
  refine V_iload_n hf dX9_does_4 rfl rfl ?_
  refine V_iconst hf dX9_does_5 ?_
  refine V_iadd hf dX9_does_6 ?_
  refine B_iald hf l01 (fun _ => rfl) ⟨by omega, by omega⟩ (by omega) (by omega) dX9_does_7 ?_
  refine V_istore_n (ls2 := [_, _, _, _]) hf dX9_does_8 rfl (by decide) rfl rfl ?_
  refine V_aload_n hf dX9_does_9 rfl rfl ?_
  refine B_get hf l01 rfl fl_X9_35_12 rfl dX9_does_10 ?_
  refine V_iload_n hf dX9_does_13 rfl rfl ?_
  refine V_iconst hf dX9_does_14 ?_
  refine V_iadd hf dX9_does_15 ?_
  refine B_iald hf l01 (fun _ => rfl) ⟨by omega, by omega⟩ (by omega) (by omega) dX9_does_16 ?_
  refine V_istore_n (ls2 := [_, _, _, _]) hf dX9_does_17 rfl (by decide) rfl rfl ?_
  refine V_aload_n hf dX9_does_18 rfl rfl ?_
  refine B_get hf l01 rfl fl_X9_35_12 rfl dX9_does_19 ?_
  refine V_iload_n hf dX9_does_22 rfl rfl ?_
  refine B_iald hf l01 (fun _ => rfl) ⟨by omega, by omega⟩ (by omega) (by omega) dX9_does_23 ?_
  rw [hz]
  refine V_tswIn (tgt := 188) hf ⟨by decide, by decide⟩ dX9_does_24 (by decide) (by decide) rfl (by decide) ?_
  refine V_aload_n hf dX9_does_188 rfl rfl ?_
  refine V_iload_n hf dX9_does_189 rfl rfl ?_
  refine V_iload_n hf dX9_does_190 rfl rfl ?_
  refine B_callVi hf (As := [_, _]) (hS) cv_X9_150 l01 rfl rfl rfl (Nat.le_of_ble_eq_true rfl) ⟨by decide, by decide, by decide, by decide⟩ dX9_does_191 ?_
  refine V_pop hf dX9_does_194 rfl ?_
  refine V_goto (tgt := 230) hf dX9_does_195 (by decide) ?_
  exact B_vret hf he dX9_does_230 (by decide) (by decide) rfl

set_option maxHeartbeats 4000000 in
set_option maxRecDepth 100000 in
theorem g_does_x {l : Launch} {D : va_G} {K : Nat → ClassId} {ad : Adr} (hl0 : l.stackTraces = false) (σ : Mem) (hR : Rng σ) (t : Int) (ht : 0 ≤ t ∧ t < 240) (hz : σ 0 48 t = 120) (r : Int) (σ1 : Mem) (hS : Cb l D K ad yX9_cancelBidIt (.code yX9_cancelBidIt cX9_cancelBidIt 2 (some .int)) 5 0 0 σ [.ref (ad 0 40), .int (iN (σ 0 48 (t + 1)))] (.inl (some (.int (iN r)))) σ1) : Cb l D K ad yX9_does (.code yX9_does cX9_does 4 none) 7 0 0 σ [.ref (ad 0 40), .int (iN t)] (.inl none) σ1 := by
  refine Cb.of (own := RX9) (ls0 := [some (.ref (ad 0 40)), some (.int (iN t)), none, none]) hl0 (by decide) rfl (Nat.le_of_ble_eq_true rfl) rfl ?_
  intro X hX1 hX2 hX3 hf he hh
  subst hX1 hX2 hX3
  refine V_aload_n hf dX9_does_0 rfl rfl ?_
  refine B_get hf l01 rfl fl_X9_35_12 rfl dX9_does_1 ?_
  refine V_iload_n hf dX9_does_4 rfl rfl ?_
  refine V_iconst hf dX9_does_5 ?_
  refine V_iadd hf dX9_does_6 ?_
  refine B_iald hf l01 (fun _ => rfl) ⟨by omega, by omega⟩ (by omega) (by omega) dX9_does_7 ?_
  refine V_istore_n (ls2 := [_, _, _, _]) hf dX9_does_8 rfl (by decide) rfl rfl ?_
  refine V_aload_n hf dX9_does_9 rfl rfl ?_
  refine B_get hf l01 rfl fl_X9_35_12 rfl dX9_does_10 ?_
  refine V_iload_n hf dX9_does_13 rfl rfl ?_
  refine V_iconst hf dX9_does_14 ?_
  refine V_iadd hf dX9_does_15 ?_
  refine B_iald hf l01 (fun _ => rfl) ⟨by omega, by omega⟩ (by omega) (by omega) dX9_does_16 ?_
  refine V_istore_n (ls2 := [_, _, _, _]) hf dX9_does_17 rfl (by decide) rfl rfl ?_
  refine V_aload_n hf dX9_does_18 rfl rfl ?_
  refine B_get hf l01 rfl fl_X9_35_12 rfl dX9_does_19 ?_
  refine V_iload_n hf dX9_does_22 rfl rfl ?_
  refine B_iald hf l01 (fun _ => rfl) ⟨by omega, by omega⟩ (by omega) (by omega) dX9_does_23 ?_
  rw [hz]
  refine V_tswIn (tgt := 198) hf ⟨by decide, by decide⟩ dX9_does_24 (by decide) (by decide) rfl (by decide) ?_
  refine V_aload_n hf dX9_does_198 rfl rfl ?_
  refine V_iload_n hf dX9_does_199 rfl rfl ?_
  refine B_callVi hf (As := [_]) (hS) cv_X9_160 l01 rfl rfl rfl (Nat.le_of_ble_eq_true rfl) ⟨by decide, by decide, by decide, by decide⟩ dX9_does_200 ?_
  refine V_pop hf dX9_does_203 rfl ?_
  refine V_goto (tgt := 230) hf dX9_does_204 (by decide) ?_
  exact B_vret hf he dX9_does_230 (by decide) (by decide) rfl

set_option maxHeartbeats 4000000 in
set_option maxRecDepth 100000 in
theorem g_does_y {l : Launch} {D : va_G} {K : Nat → ClassId} {ad : Adr} (hl0 : l.stackTraces = false) (σ : Mem) (hR : Rng σ) (t : Int) (ht : 0 ≤ t ∧ t < 240) (hz : σ 0 48 t = 121) (r : Int) (σ1 : Mem) (hS : Cb l D K ad yX9_cancelOfferIt (.code yX9_cancelOfferIt cX9_cancelOfferIt 2 (some .int)) 5 0 0 σ [.ref (ad 0 40), .int (iN (σ 0 48 (t + 1)))] (.inl (some (.int (iN r)))) σ1) : Cb l D K ad yX9_does (.code yX9_does cX9_does 4 none) 7 0 0 σ [.ref (ad 0 40), .int (iN t)] (.inl none) σ1 := by
  refine Cb.of (own := RX9) (ls0 := [some (.ref (ad 0 40)), some (.int (iN t)), none, none]) hl0 (by decide) rfl (Nat.le_of_ble_eq_true rfl) rfl ?_
  intro X hX1 hX2 hX3 hf he hh
  subst hX1 hX2 hX3
  refine V_aload_n hf dX9_does_0 rfl rfl ?_
  refine B_get hf l01 rfl fl_X9_35_12 rfl dX9_does_1 ?_
  refine V_iload_n hf dX9_does_4 rfl rfl ?_
  refine V_iconst hf dX9_does_5 ?_
  refine V_iadd hf dX9_does_6 ?_
  refine B_iald hf l01 (fun _ => rfl) ⟨by omega, by omega⟩ (by omega) (by omega) dX9_does_7 ?_
  refine V_istore_n (ls2 := [_, _, _, _]) hf dX9_does_8 rfl (by decide) rfl rfl ?_
  refine V_aload_n hf dX9_does_9 rfl rfl ?_
  refine B_get hf l01 rfl fl_X9_35_12 rfl dX9_does_10 ?_
  refine V_iload_n hf dX9_does_13 rfl rfl ?_
  refine V_iconst hf dX9_does_14 ?_
  refine V_iadd hf dX9_does_15 ?_
  refine B_iald hf l01 (fun _ => rfl) ⟨by omega, by omega⟩ (by omega) (by omega) dX9_does_16 ?_
  refine V_istore_n (ls2 := [_, _, _, _]) hf dX9_does_17 rfl (by decide) rfl rfl ?_
  refine V_aload_n hf dX9_does_18 rfl rfl ?_
  refine B_get hf l01 rfl fl_X9_35_12 rfl dX9_does_19 ?_
  refine V_iload_n hf dX9_does_22 rfl rfl ?_
  refine B_iald hf l01 (fun _ => rfl) ⟨by omega, by omega⟩ (by omega) (by omega) dX9_does_23 ?_
  rw [hz]
  refine V_tswIn (tgt := 207) hf ⟨by decide, by decide⟩ dX9_does_24 (by decide) (by decide) rfl (by decide) ?_
  refine V_aload_n hf dX9_does_207 rfl rfl ?_
  refine V_iload_n hf dX9_does_208 rfl rfl ?_
  refine B_callVi hf (As := [_]) (hS) cv_X9_169 l01 rfl rfl rfl (Nat.le_of_ble_eq_true rfl) ⟨by decide, by decide, by decide, by decide⟩ dX9_does_209 ?_
  refine V_pop hf dX9_does_212 rfl ?_
  refine V_goto (tgt := 230) hf dX9_does_213 (by decide) ?_
  exact B_vret hf he dX9_does_230 (by decide) (by decide) rfl

set_option maxHeartbeats 4000000 in
set_option maxRecDepth 100000 in
theorem g_does_f {l : Launch} {D : va_G} {K : Nat → ClassId} {ad : Adr} (hl0 : l.stackTraces = false) (σ : Mem) (hR : Rng σ) (t : Int) (ht : 0 ≤ t ∧ t < 240) (hz : σ 0 48 t = 102) (r : Int) (σ1 : Mem) (hS : Cb l D K ad yX9_feeIt (.code yX9_feeIt cX9_feeIt 3 (some .int)) 5 0 0 σ [.ref (ad 0 40), .int (iN (σ 0 48 (t + 1)))] (.inl (some (.int (iN r)))) σ1) : Cb l D K ad yX9_does (.code yX9_does cX9_does 4 none) 7 0 0 σ [.ref (ad 0 40), .int (iN t)] (.inl none) σ1 := by
  refine Cb.of (own := RX9) (ls0 := [some (.ref (ad 0 40)), some (.int (iN t)), none, none]) hl0 (by decide) rfl (Nat.le_of_ble_eq_true rfl) rfl ?_
  intro X hX1 hX2 hX3 hf he hh
  subst hX1 hX2 hX3
  refine V_aload_n hf dX9_does_0 rfl rfl ?_
  refine B_get hf l01 rfl fl_X9_35_12 rfl dX9_does_1 ?_
  refine V_iload_n hf dX9_does_4 rfl rfl ?_
  refine V_iconst hf dX9_does_5 ?_
  refine V_iadd hf dX9_does_6 ?_
  refine B_iald hf l01 (fun _ => rfl) ⟨by omega, by omega⟩ (by omega) (by omega) dX9_does_7 ?_
  refine V_istore_n (ls2 := [_, _, _, _]) hf dX9_does_8 rfl (by decide) rfl rfl ?_
  refine V_aload_n hf dX9_does_9 rfl rfl ?_
  refine B_get hf l01 rfl fl_X9_35_12 rfl dX9_does_10 ?_
  refine V_iload_n hf dX9_does_13 rfl rfl ?_
  refine V_iconst hf dX9_does_14 ?_
  refine V_iadd hf dX9_does_15 ?_
  refine B_iald hf l01 (fun _ => rfl) ⟨by omega, by omega⟩ (by omega) (by omega) dX9_does_16 ?_
  refine V_istore_n (ls2 := [_, _, _, _]) hf dX9_does_17 rfl (by decide) rfl rfl ?_
  refine V_aload_n hf dX9_does_18 rfl rfl ?_
  refine B_get hf l01 rfl fl_X9_35_12 rfl dX9_does_19 ?_
  refine V_iload_n hf dX9_does_22 rfl rfl ?_
  refine B_iald hf l01 (fun _ => rfl) ⟨by omega, by omega⟩ (by omega) (by omega) dX9_does_23 ?_
  rw [hz]
  refine V_tswIn (tgt := 216) hf ⟨by decide, by decide⟩ dX9_does_24 (by decide) (by decide) rfl (by decide) ?_
  refine V_aload_n hf dX9_does_216 rfl rfl ?_
  refine V_iload_n hf dX9_does_217 rfl rfl ?_
  refine B_callVi hf (As := [_]) (hS) cv_X9_197 l01 rfl rfl rfl (Nat.le_of_ble_eq_true rfl) ⟨by decide, by decide, by decide, by decide⟩ dX9_does_218 ?_
  refine V_pop hf dX9_does_221 rfl ?_
  refine V_goto (tgt := 230) hf dX9_does_222 (by decide) ?_
  exact B_vret hf he dX9_does_230 (by decide) (by decide) rfl

set_option maxHeartbeats 4000000 in
set_option maxRecDepth 100000 in
theorem g_does_t {l : Launch} {D : va_G} {K : Nat → ClassId} {ad : Adr} (hl0 : l.stackTraces = false) (σ : Mem) (hR : Rng σ) (t : Int) (ht : 0 ≤ t ∧ t < 240) (hz : σ 0 48 t = 116) (r : Int) (σ1 : Mem) (hS : Cb l D K ad yX9_tideIt (.code yX9_tideIt cX9_tideIt 2 (some .int)) 6 0 0 σ [.ref (ad 0 40)] (.inl (some (.int (iN r)))) σ1) : Cb l D K ad yX9_does (.code yX9_does cX9_does 4 none) 7 0 0 σ [.ref (ad 0 40), .int (iN t)] (.inl none) σ1 := by
  refine Cb.of (own := RX9) (ls0 := [some (.ref (ad 0 40)), some (.int (iN t)), none, none]) hl0 (by decide) rfl (Nat.le_of_ble_eq_true rfl) rfl ?_
  intro X hX1 hX2 hX3 hf he hh
  subst hX1 hX2 hX3
  refine V_aload_n hf dX9_does_0 rfl rfl ?_
  refine B_get hf l01 rfl fl_X9_35_12 rfl dX9_does_1 ?_
  refine V_iload_n hf dX9_does_4 rfl rfl ?_
  refine V_iconst hf dX9_does_5 ?_
  refine V_iadd hf dX9_does_6 ?_
  refine B_iald hf l01 (fun _ => rfl) ⟨by omega, by omega⟩ (by omega) (by omega) dX9_does_7 ?_
  refine V_istore_n (ls2 := [_, _, _, _]) hf dX9_does_8 rfl (by decide) rfl rfl ?_
  refine V_aload_n hf dX9_does_9 rfl rfl ?_
  refine B_get hf l01 rfl fl_X9_35_12 rfl dX9_does_10 ?_
  refine V_iload_n hf dX9_does_13 rfl rfl ?_
  refine V_iconst hf dX9_does_14 ?_
  refine V_iadd hf dX9_does_15 ?_
  refine B_iald hf l01 (fun _ => rfl) ⟨by omega, by omega⟩ (by omega) (by omega) dX9_does_16 ?_
  refine V_istore_n (ls2 := [_, _, _, _]) hf dX9_does_17 rfl (by decide) rfl rfl ?_
  refine V_aload_n hf dX9_does_18 rfl rfl ?_
  refine B_get hf l01 rfl fl_X9_35_12 rfl dX9_does_19 ?_
  refine V_iload_n hf dX9_does_22 rfl rfl ?_
  refine B_iald hf l01 (fun _ => rfl) ⟨by omega, by omega⟩ (by omega) (by omega) dX9_does_23 ?_
  rw [hz]
  refine V_tswIn (tgt := 225) hf ⟨by decide, by decide⟩ dX9_does_24 (by decide) (by decide) rfl (by decide) ?_
  refine V_aload_n hf dX9_does_225 rfl rfl ?_
  refine B_callVi hf (As := []) (hS) cv_X9_194 l01 rfl rfl rfl (Nat.le_of_ble_eq_true rfl) ⟨by decide, by decide, by decide, by decide⟩ dX9_does_226 ?_
  refine V_pop hf dX9_does_229 rfl ?_
  exact B_vret hf he dX9_does_230 (by decide) (by decide) rfl

set_option maxHeartbeats 4000000 in
set_option maxRecDepth 100000 in
theorem g_exec_w {l : Launch} {D : va_G} {K : Nat → ClassId} {ad : Adr} (hl0 : l.stackTraces = false) (σ : Mem) (hR : Rng σ) (hl : 0 ≤ σ 0 40 10 ∧ σ 0 40 10 ≤ 60) (hw : (mParse (σ 0 46) (σ 0 40 10) 61 (exec0 σ) 0 0).2.2 = 1) : Cb l D K ad yX9_execute (.code yX9_execute cX9_execute 3 (some .int)) 8 0 0 σ [.ref (ad 0 40)] (.inl (some (.int (iN (-1))))) (thrM (st3 (qM (mParse (σ 0 46) (σ 0 40 10) 61 (exec0 σ) 0 0).1 (mParse (σ 0 46) (σ 0 40 10) 61 (exec0 σ) 0 0).2) 0 40 7 (mParse (σ 0 46) (σ 0 40 10) 61 (exec0 σ) 0 0).2.1) 1) := by
  refine Cb.of (own := RX9) (ls0 := [some (.ref (ad 0 40)), none, none]) hl0 (by decide) rfl (Nat.le_of_ble_eq_true rfl) rfl ?_
  intro X hX1 hX2 hX3 hf he hh
  subst hX1 hX2 hX3
  have hE := exec0_P hR hl.2
  have hF := mParse_q 61 (exec0 σ) 0 0 hE (by decide) (by decide) (by decide)
  have hRF := qM_R hF.1.2.2.2 hF.2
  have y20 : qM (mParse (σ 0 46) (σ 0 40 10) 61 (exec0 σ) 0 0).1 (mParse (σ 0 46) (σ 0 40 10) 61 (exec0 σ) 0 0).2 0 40 20 = (mParse (σ 0 46) (σ 0 40 10) 61 (exec0 σ) 0 0).2.1 := qM_20
  have y22 : qM (mParse (σ 0 46) (σ 0 40 10) 61 (exec0 σ) 0 0).1 (mParse (σ 0 46) (σ 0 40 10) 61 (exec0 σ) 0 0).2 0 40 22 = (mParse (σ 0 46) (σ 0 40 10) 61 (exec0 σ) 0 0).2.2 := qM_22
  have zero : ∀ τ : Mem, B X ad τ 92 [some (.ref (ad 0 40)), none, none] [] 0 0 → B X ad τ 34 [some (.ref (ad 0 40)), some (.int (iN (0))), none] [] 0 0 := by
    intro τ kont
    refine V_iload_n hf dX9_execute_34 rfl rfl ?_
    refine V_if_eq (tgt := 92) hf ⟨by decide, by decide⟩ dX9_execute_35 (by decide) (fun h35 => ?_) (fun h35 => ?_)
    · refine V_fg (ls2 := [some _, none, none]) ⟨rfl, trivial⟩ ?_
      exact kont
    · exact absurd rfl h35
  have loop : ∀ (f : Nat) (τ : Mem) (n p : Int), P46 τ (σ 0 46) (σ 0 40 10) → 0 ≤ n → 2 * n ≤ p → p ≤ 60 → 61 ≤ p + f → τ 0 40 19 = n → B X ad (qM (mParse (σ 0 46) (σ 0 40 10) f τ n p).1 (mParse (σ 0 46) (σ 0 40 10) f τ n p).2) 92 [some (.ref (ad 0 40)), none, none] [] 0 0 → B X ad (qM τ (p, 0)) 34 [some (.ref (ad 0 40)), some (.int (iN (1))), none] [] 0 0 := by
    intro f
    induction f with
    | zero => intros; omega
    | succ f ih =>
      intro τ n p hP hn hnp hp hpf hn2 kont
      have next : (mCmd (σ 0 46) (σ 0 40 10) τ n p).2.2 = 0 → (mCmd (σ 0 46) (σ 0 40 10) τ n p).2.1 < σ 0 40 10 → (mExp (σ 0 46) (σ 0 40 10) 59 (mCmd (σ 0 46) (σ 0 40 10) τ n p).2).2 = 0 → B X ad (qM (mCmd (σ 0 46) (σ 0 40 10) τ n p).1 (mExp (σ 0 46) (σ 0 40 10) 59 (mCmd (σ 0 46) (σ 0 40 10) τ n p).2)) 34 [some (.ref (ad 0 40)), some (.int (iN (1))), none] [] 0 0 := by
        intro q1 q2 q3
        have hc := mCmd_q (n := n) (p := p) hP ⟨by omega, hp⟩ ⟨hn, by omega⟩
        have hx := mExp_q (ch := σ 0 46) (len := σ 0 40 10) (c := 59) hc.2.1 hP.2.2.1 (by decide)
        have h5 := hc.2.2 q1
        have h6 := hx.2.2 q3
        have h7 : (mCmd (σ 0 46) (σ 0 40 10) τ n p).2.1 + 1 = (mExp (σ 0 46) (σ 0 40 10) 59 (mCmd (σ 0 46) (σ 0 40 10) τ n p).2).1 := by
          unfold mExp at q3 ⊢
          split at q3
          · rw [if_pos (by assumption)]
          · exact absurd q3 (by dsimp only; decide)
        rw [show mParse (σ 0 46) (σ 0 40 10) (f + 1) τ n p = mParse (σ 0 46) (σ 0 40 10) f (mCmd (σ 0 46) (σ 0 40 10) τ n p).1 (n + 1) (mExp (σ 0 46) (σ 0 40 10) 59 (mCmd (σ 0 46) (σ 0 40 10) τ n p).2).1 from (if_pos ⟨q1, q2⟩).trans (if_pos q3)] at kont
        have bk := ih (mCmd (σ 0 46) (σ 0 40 10) τ n p).1 (n + 1) (mExp (σ 0 46) (σ 0 40 10) 59 (mCmd (σ 0 46) (σ 0 40 10) τ n p).2).1 hc.1 (by omega) (by omega) h6 (by omega) h5.2.2 kont
        rw [show ((mExp (σ 0 46) (σ 0 40 10) 59 (mCmd (σ 0 46) (σ 0 40 10) τ n p).2).1, (0 : Int)) = (mExp (σ 0 46) (σ 0 40 10) 59 (mCmd (σ 0 46) (σ 0 40 10) τ n p).2) from Prod.ext rfl q3.symm] at bk
        exact bk
      refine V_iload_n hf dX9_execute_34 rfl rfl ?_
      refine V_if_eq (tgt := 92) hf ⟨by decide, by decide⟩ dX9_execute_35 (by decide) (fun h35 => ?_) (fun h35 => ?_)
      · exact absurd h35 (by decide)
      · refine V_aload_n hf dX9_execute_38 rfl rfl ?_
        refine B_callVv hf (As := []) (g_cmd hl0 τ (σ 0 46) (σ 0 40 10) hP n p ⟨hn, by omega⟩ hn2 ⟨by omega, hp⟩) cv_X9_275 l01 rfl rfl rfl (Nat.le_of_ble_eq_true rfl) ⟨by decide, by decide, by decide, by decide⟩ dX9_execute_39 ?_
        have hc := mCmd_q (n := n) (p := p) hP ⟨by omega, hp⟩ ⟨hn, by omega⟩
        have hRc := qM_R hc.1.2.2.2 hc.2.1
        have c22 : qM (mCmd (σ 0 46) (σ 0 40 10) τ n p).1 (mCmd (σ 0 46) (σ 0 40 10) τ n p).2 0 40 22 = (mCmd (σ 0 46) (σ 0 40 10) τ n p).2.2 := qM_22
        have c20 : qM (mCmd (σ 0 46) (σ 0 40 10) τ n p).1 (mCmd (σ 0 46) (σ 0 40 10) τ n p).2 0 40 20 = (mCmd (σ 0 46) (σ 0 40 10) τ n p).2.1 := qM_20
        have c21 := qM_21 hc.1 (q := (mCmd (σ 0 46) (σ 0 40 10) τ n p).2)
        refine V_aload_n hf dX9_execute_42 rfl rfl ?_
        refine B_get hf l01 rfl fl_X9_246_12 rfl dX9_execute_43 ?_
        refine V_if_ne (tgt := 64) hf (hRc _ _ _ (by decide)) dX9_execute_46 (by decide) (fun h46 => ?_) (fun h46 => ?_)
        · refine V_iconst hf dX9_execute_64 ?_
          refine V_istore_n (ls2 := [_, _, _]) hf dX9_execute_65 rfl (by decide) rfl rfl ?_
          refine V_iload_n hf dX9_execute_66 rfl rfl ?_
          refine V_if_eq (tgt := 34) hf ⟨by decide, by decide⟩ dX9_execute_67 (by decide) (fun h67 => ?_) (fun h67 => ?_)
          · first | exact zero _ (by rw [show mParse (σ 0 46) (σ 0 40 10) (f + 1) τ n p = (mCmd (σ 0 46) (σ 0 40 10) τ n p) from if_neg (by omega)] at kont; exact kont) | exact zero _ (by rw [show mParse (σ 0 46) (σ 0 40 10) (f + 1) τ n p = ((mCmd (σ 0 46) (σ 0 40 10) τ n p).1, (mExp (σ 0 46) (σ 0 40 10) 59 (mCmd (σ 0 46) (σ 0 40 10) τ n p).2)) from (if_pos (by omega)).trans (if_neg (by omega))] at kont; exact kont) | exact next (by omega) (by omega) (by omega) | exact absurd h67 (by decide)
          · refine V_aload_n hf dX9_execute_70 rfl rfl ?_
            refine V_bipush hf dX9_execute_71 (by decide +kernel) ?_
            refine B_callVv hf (As := [_]) (g_exp hl0 (mCmd (σ 0 46) (σ 0 40 10) τ n p).1 (σ 0 46) (σ 0 40 10) hc.1 (mCmd (σ 0 46) (σ 0 40 10) τ n p).2 hc.2.1 59 ⟨by decide, by decide⟩) cv_X9_260 l01 rfl rfl rfl (Nat.le_of_ble_eq_true rfl) ⟨by decide, by decide, by decide, by decide⟩ dX9_execute_73 ?_
            have hx := mExp_q (ch := σ 0 46) (len := σ 0 40 10) (c := 59) hc.2.1 hP.2.2.1 (by decide)
            have hRx := qM_R hc.1.2.2.2 hx.1
            have x22 : qM (mCmd (σ 0 46) (σ 0 40 10) τ n p).1 (mExp (σ 0 46) (σ 0 40 10) 59 (mCmd (σ 0 46) (σ 0 40 10) τ n p).2) 0 40 22 = (mExp (σ 0 46) (σ 0 40 10) 59 (mCmd (σ 0 46) (σ 0 40 10) τ n p).2).2 := qM_22
            refine V_aload_n hf dX9_execute_76 rfl rfl ?_
            refine B_get hf l01 rfl fl_X9_246_12 rfl dX9_execute_77 ?_
            refine V_if_ne (tgt := 87) hf (hRx _ _ _ (by decide)) dX9_execute_80 (by decide) (fun h80 => ?_) (fun h80 => ?_)
            · refine V_iconst hf dX9_execute_87 ?_
              refine V_istore_n (ls2 := [_, _, _]) hf dX9_execute_88 rfl (by decide) rfl rfl ?_
              refine V_goto (tgt := 34) hf dX9_execute_89 (by decide) ?_
              first | exact zero _ (by rw [show mParse (σ 0 46) (σ 0 40 10) (f + 1) τ n p = (mCmd (σ 0 46) (σ 0 40 10) τ n p) from if_neg (by omega)] at kont; exact kont) | exact zero _ (by rw [show mParse (σ 0 46) (σ 0 40 10) (f + 1) τ n p = ((mCmd (σ 0 46) (σ 0 40 10) τ n p).1, (mExp (σ 0 46) (σ 0 40 10) 59 (mCmd (σ 0 46) (σ 0 40 10) τ n p).2)) from (if_pos (by omega)).trans (if_neg (by omega))] at kont; exact kont) | exact next (by omega) (by omega) (by omega) | exact absurd h67 (by decide)
            · refine V_iconst hf dX9_execute_83 ?_
              refine V_goto (tgt := 88) hf dX9_execute_84 (by decide) ?_
              refine V_istore_n (ls2 := [_, _, _]) hf dX9_execute_88 rfl (by decide) rfl rfl ?_
              refine V_goto (tgt := 34) hf dX9_execute_89 (by decide) ?_
              first | exact zero _ (by rw [show mParse (σ 0 46) (σ 0 40 10) (f + 1) τ n p = (mCmd (σ 0 46) (σ 0 40 10) τ n p) from if_neg (by omega)] at kont; exact kont) | exact zero _ (by rw [show mParse (σ 0 46) (σ 0 40 10) (f + 1) τ n p = ((mCmd (σ 0 46) (σ 0 40 10) τ n p).1, (mExp (σ 0 46) (σ 0 40 10) 59 (mCmd (σ 0 46) (σ 0 40 10) τ n p).2)) from (if_pos (by omega)).trans (if_neg (by omega))] at kont; exact kont) | exact next (by omega) (by omega) (by omega) | exact absurd h67 (by decide)
        · refine V_aload_n hf dX9_execute_49 rfl rfl ?_
          refine B_get hf l01 rfl fl_X9_240_12 rfl dX9_execute_50 ?_
          refine V_aload_n hf dX9_execute_53 rfl rfl ?_
          refine B_get hf l01 rfl fl_X9_243_12 rfl dX9_execute_54 ?_
          refine V_icmp_ge (tgt := 64) hf (hRc _ _ _ (by decide)) (hRc _ _ _ (by decide)) dX9_execute_57 (by decide) (fun h57 => ?_) (fun h57 => ?_)
          · refine V_iconst hf dX9_execute_64 ?_
            refine V_istore_n (ls2 := [_, _, _]) hf dX9_execute_65 rfl (by decide) rfl rfl ?_
            refine V_iload_n hf dX9_execute_66 rfl rfl ?_
            refine V_if_eq (tgt := 34) hf ⟨by decide, by decide⟩ dX9_execute_67 (by decide) (fun h67 => ?_) (fun h67 => ?_)
            · first | exact zero _ (by rw [show mParse (σ 0 46) (σ 0 40 10) (f + 1) τ n p = (mCmd (σ 0 46) (σ 0 40 10) τ n p) from if_neg (by omega)] at kont; exact kont) | exact zero _ (by rw [show mParse (σ 0 46) (σ 0 40 10) (f + 1) τ n p = ((mCmd (σ 0 46) (σ 0 40 10) τ n p).1, (mExp (σ 0 46) (σ 0 40 10) 59 (mCmd (σ 0 46) (σ 0 40 10) τ n p).2)) from (if_pos (by omega)).trans (if_neg (by omega))] at kont; exact kont) | exact next (by omega) (by omega) (by omega) | exact absurd h67 (by decide)
            · refine V_aload_n hf dX9_execute_70 rfl rfl ?_
              refine V_bipush hf dX9_execute_71 (by decide +kernel) ?_
              refine B_callVv hf (As := [_]) (g_exp hl0 (mCmd (σ 0 46) (σ 0 40 10) τ n p).1 (σ 0 46) (σ 0 40 10) hc.1 (mCmd (σ 0 46) (σ 0 40 10) τ n p).2 hc.2.1 59 ⟨by decide, by decide⟩) cv_X9_260 l01 rfl rfl rfl (Nat.le_of_ble_eq_true rfl) ⟨by decide, by decide, by decide, by decide⟩ dX9_execute_73 ?_
              have hx := mExp_q (ch := σ 0 46) (len := σ 0 40 10) (c := 59) hc.2.1 hP.2.2.1 (by decide)
              have hRx := qM_R hc.1.2.2.2 hx.1
              have x22 : qM (mCmd (σ 0 46) (σ 0 40 10) τ n p).1 (mExp (σ 0 46) (σ 0 40 10) 59 (mCmd (σ 0 46) (σ 0 40 10) τ n p).2) 0 40 22 = (mExp (σ 0 46) (σ 0 40 10) 59 (mCmd (σ 0 46) (σ 0 40 10) τ n p).2).2 := qM_22
              refine V_aload_n hf dX9_execute_76 rfl rfl ?_
              refine B_get hf l01 rfl fl_X9_246_12 rfl dX9_execute_77 ?_
              refine V_if_ne (tgt := 87) hf (hRx _ _ _ (by decide)) dX9_execute_80 (by decide) (fun h80 => ?_) (fun h80 => ?_)
              · refine V_iconst hf dX9_execute_87 ?_
                refine V_istore_n (ls2 := [_, _, _]) hf dX9_execute_88 rfl (by decide) rfl rfl ?_
                refine V_goto (tgt := 34) hf dX9_execute_89 (by decide) ?_
                first | exact zero _ (by rw [show mParse (σ 0 46) (σ 0 40 10) (f + 1) τ n p = (mCmd (σ 0 46) (σ 0 40 10) τ n p) from if_neg (by omega)] at kont; exact kont) | exact zero _ (by rw [show mParse (σ 0 46) (σ 0 40 10) (f + 1) τ n p = ((mCmd (σ 0 46) (σ 0 40 10) τ n p).1, (mExp (σ 0 46) (σ 0 40 10) 59 (mCmd (σ 0 46) (σ 0 40 10) τ n p).2)) from (if_pos (by omega)).trans (if_neg (by omega))] at kont; exact kont) | exact next (by omega) (by omega) (by omega) | exact absurd h67 (by decide)
              · refine V_iconst hf dX9_execute_83 ?_
                refine V_goto (tgt := 88) hf dX9_execute_84 (by decide) ?_
                refine V_istore_n (ls2 := [_, _, _]) hf dX9_execute_88 rfl (by decide) rfl rfl ?_
                refine V_goto (tgt := 34) hf dX9_execute_89 (by decide) ?_
                first | exact zero _ (by rw [show mParse (σ 0 46) (σ 0 40 10) (f + 1) τ n p = (mCmd (σ 0 46) (σ 0 40 10) τ n p) from if_neg (by omega)] at kont; exact kont) | exact zero _ (by rw [show mParse (σ 0 46) (σ 0 40 10) (f + 1) τ n p = ((mCmd (σ 0 46) (σ 0 40 10) τ n p).1, (mExp (σ 0 46) (σ 0 40 10) 59 (mCmd (σ 0 46) (σ 0 40 10) τ n p).2)) from (if_pos (by omega)).trans (if_neg (by omega))] at kont; exact kont) | exact next (by omega) (by omega) (by omega) | exact absurd h67 (by decide)
          · refine V_iconst hf dX9_execute_60 ?_
            refine V_goto (tgt := 65) hf dX9_execute_61 (by decide) ?_
            refine V_istore_n (ls2 := [_, _, _]) hf dX9_execute_65 rfl (by decide) rfl rfl ?_
            refine V_iload_n hf dX9_execute_66 rfl rfl ?_
            refine V_if_eq (tgt := 34) hf ⟨by decide, by decide⟩ dX9_execute_67 (by decide) (fun h67 => ?_) (fun h67 => ?_)
            · first | exact zero _ (by rw [show mParse (σ 0 46) (σ 0 40 10) (f + 1) τ n p = (mCmd (σ 0 46) (σ 0 40 10) τ n p) from if_neg (by omega)] at kont; exact kont) | exact zero _ (by rw [show mParse (σ 0 46) (σ 0 40 10) (f + 1) τ n p = ((mCmd (σ 0 46) (σ 0 40 10) τ n p).1, (mExp (σ 0 46) (σ 0 40 10) 59 (mCmd (σ 0 46) (σ 0 40 10) τ n p).2)) from (if_pos (by omega)).trans (if_neg (by omega))] at kont; exact kont) | exact next (by omega) (by omega) (by omega) | exact absurd h67 (by decide)
            · refine V_aload_n hf dX9_execute_70 rfl rfl ?_
              refine V_bipush hf dX9_execute_71 (by decide +kernel) ?_
              refine B_callVv hf (As := [_]) (g_exp hl0 (mCmd (σ 0 46) (σ 0 40 10) τ n p).1 (σ 0 46) (σ 0 40 10) hc.1 (mCmd (σ 0 46) (σ 0 40 10) τ n p).2 hc.2.1 59 ⟨by decide, by decide⟩) cv_X9_260 l01 rfl rfl rfl (Nat.le_of_ble_eq_true rfl) ⟨by decide, by decide, by decide, by decide⟩ dX9_execute_73 ?_
              have hx := mExp_q (ch := σ 0 46) (len := σ 0 40 10) (c := 59) hc.2.1 hP.2.2.1 (by decide)
              have hRx := qM_R hc.1.2.2.2 hx.1
              have x22 : qM (mCmd (σ 0 46) (σ 0 40 10) τ n p).1 (mExp (σ 0 46) (σ 0 40 10) 59 (mCmd (σ 0 46) (σ 0 40 10) τ n p).2) 0 40 22 = (mExp (σ 0 46) (σ 0 40 10) 59 (mCmd (σ 0 46) (σ 0 40 10) τ n p).2).2 := qM_22
              refine V_aload_n hf dX9_execute_76 rfl rfl ?_
              refine B_get hf l01 rfl fl_X9_246_12 rfl dX9_execute_77 ?_
              refine V_if_ne (tgt := 87) hf (hRx _ _ _ (by decide)) dX9_execute_80 (by decide) (fun h80 => ?_) (fun h80 => ?_)
              · refine V_iconst hf dX9_execute_87 ?_
                refine V_istore_n (ls2 := [_, _, _]) hf dX9_execute_88 rfl (by decide) rfl rfl ?_
                refine V_goto (tgt := 34) hf dX9_execute_89 (by decide) ?_
                first | exact zero _ (by rw [show mParse (σ 0 46) (σ 0 40 10) (f + 1) τ n p = (mCmd (σ 0 46) (σ 0 40 10) τ n p) from if_neg (by omega)] at kont; exact kont) | exact zero _ (by rw [show mParse (σ 0 46) (σ 0 40 10) (f + 1) τ n p = ((mCmd (σ 0 46) (σ 0 40 10) τ n p).1, (mExp (σ 0 46) (σ 0 40 10) 59 (mCmd (σ 0 46) (σ 0 40 10) τ n p).2)) from (if_pos (by omega)).trans (if_neg (by omega))] at kont; exact kont) | exact next (by omega) (by omega) (by omega) | exact absurd h67 (by decide)
              · refine V_iconst hf dX9_execute_83 ?_
                refine V_goto (tgt := 88) hf dX9_execute_84 (by decide) ?_
                refine V_istore_n (ls2 := [_, _, _]) hf dX9_execute_88 rfl (by decide) rfl rfl ?_
                refine V_goto (tgt := 34) hf dX9_execute_89 (by decide) ?_
                first | exact zero _ (by rw [show mParse (σ 0 46) (σ 0 40 10) (f + 1) τ n p = (mCmd (σ 0 46) (σ 0 40 10) τ n p) from if_neg (by omega)] at kont; exact kont) | exact zero _ (by rw [show mParse (σ 0 46) (σ 0 40 10) (f + 1) τ n p = ((mCmd (σ 0 46) (σ 0 40 10) τ n p).1, (mExp (σ 0 46) (σ 0 40 10) 59 (mCmd (σ 0 46) (σ 0 40 10) τ n p).2)) from (if_pos (by omega)).trans (if_neg (by omega))] at kont; exact kont) | exact next (by omega) (by omega) (by omega) | exact absurd h67 (by decide)
  refine V_aload_n hf dX9_execute_0 rfl rfl ?_
  refine B_callVv hf (As := []) (e_starts hl0 σ hR) cv_X9_110 l01 rfl rfl rfl (Nat.le_of_ble_eq_true rfl) ⟨by decide, by decide, by decide, by decide⟩ dX9_execute_1 ?_
  refine V_aload_n hf dX9_execute_4 rfl rfl ?_
  refine V_aload_n hf dX9_execute_5 rfl rfl ?_
  refine B_get hf l01 rfl fl_X9_237_12 rfl dX9_execute_6 ?_
  refine B_putI (kI := 21) hf rfl l01 rfl fp_X9_243_12 rfl rfl (Nat.le_of_ble_eq_true rfl) (by decide) (cs_40_21 _ _ _ _ _) dX9_execute_9 ?_
  refine V_aload_n hf dX9_execute_12 rfl rfl ?_
  refine V_iconst hf dX9_execute_13 ?_
  refine B_putI (kI := 10) hf rfl l01 rfl fp_X9_237_12 rfl rfl (Nat.le_of_ble_eq_true rfl) (by decide) (cs_40_10 _ _ _ _ _) dX9_execute_14 ?_
  refine V_aload_n hf dX9_execute_17 rfl rfl ?_
  refine V_iconst hf dX9_execute_18 ?_
  refine B_putI (kI := 20) hf rfl l01 rfl fp_X9_240_12 rfl rfl (Nat.le_of_ble_eq_true rfl) (by decide) (cs_40_20 _ _ _ _ _) dX9_execute_19 ?_
  refine V_aload_n hf dX9_execute_22 rfl rfl ?_
  refine V_iconst hf dX9_execute_23 ?_
  refine B_putI (kI := 19) hf rfl l01 rfl fp_X9_269_12 rfl rfl (Nat.le_of_ble_eq_true rfl) (by decide) (cs_40_19 _ _ _ _ _) dX9_execute_24 ?_
  refine V_aload_n hf dX9_execute_27 rfl rfl ?_
  refine V_iconst hf dX9_execute_28 ?_
  refine B_putI (kI := 22) hf rfl l01 rfl fp_X9_246_12 (by decide +kernel) rfl (Nat.le_of_ble_eq_true rfl) (by decide) (cs_40_22 _ _ _ _ _) dX9_execute_29 ?_
  refine V_iconst hf dX9_execute_32 ?_
  refine V_istore_n (ls2 := [_, _, _]) hf dX9_execute_33 rfl (by decide) rfl rfl ?_
  change B X ad (exec0 σ) 34 _ [] 0 0
  rw [← exec0_q]
  refine loop 61 (exec0 σ) 0 0 hE (by decide) (by decide) (by decide) (by decide) exec0_19 ?_
  refine V_aload_n hf dX9_execute_92 rfl rfl ?_
  refine B_get hf l01 rfl fl_X9_246_12 rfl dX9_execute_93 ?_
  refine V_if_eq (tgt := 113) hf (hRF _ _ _ (by decide)) dX9_execute_96 (by decide) (fun h96 => ?_) (fun h96 => ?_)
  · exact absurd h96 (by omega)
  · refine V_aload_n hf dX9_execute_99 rfl rfl ?_
    refine V_aload_n hf dX9_execute_100 rfl rfl ?_
    refine B_get hf l01 rfl fl_X9_240_12 rfl dX9_execute_101 ?_
    rw [y20]
    refine B_putI (kI := 7) hf rfl l01 rfl fp_X9_25_12 rfl rfl (Nat.le_of_ble_eq_true rfl) (by decide) (cs_40_7 _ _ _ _ _) dX9_execute_104 ?_
    refine V_aload_n hf dX9_execute_107 rfl rfl ?_
    refine V_iconst hf dX9_execute_108 ?_
    refine B_callVi hf (As := [_]) (d_throwing hl0 _ (hRF.st (by have := hF.2.1; exact ⟨by omega, by omega⟩)) 1) cv_X9_47 l01 rfl rfl rfl (Nat.le_of_ble_eq_true rfl) ⟨by decide, by decide, by decide, by decide⟩ dX9_execute_109 ?_
    exact B_iret hf he rfl dX9_execute_112 (by decide) (by decide) (by first | rfl | omega) rfl

set_option maxHeartbeats 4000000 in
set_option maxRecDepth 100000 in
theorem g_exec_o {l : Launch} {D : va_G} {K : Nat → ClassId} {ad : Adr} (hl0 : l.stackTraces = false) (σ : Mem) (hR : Rng σ) (hl : 0 ≤ σ 0 40 10 ∧ σ 0 40 10 ≤ 60) (hw : (mParse (σ 0 46) (σ 0 40 10) 61 (exec0 σ) 0 0).2.2 = 0) (n : Nat) (hn : n ≤ 59) (τ : Nat → Mem) (ht : τ 0 = qM (mParse (σ 0 46) (σ 0 40 10) 61 (exec0 σ) 0 0).1 (mParse (σ 0 46) (σ 0 40 10) 61 (exec0 σ) 0 0).2) (hc : ∀ k : Nat, k ≤ n → τ k 0 40 19 = (n : Int) ∧ Rng (τ k)) (hs : ∀ k : Nat, k < n → Cb l D K ad yX9_does (.code yX9_does cX9_does 4 none) 7 0 0 (τ k) [.ref (ad 0 40), .int (iN (4 * (k : Int)))] (.inl none) (τ (k + 1)) ∧ τ (k + 1) 0 40 8 ≤ 0) (σ2 : Mem) (hC : Cb l D K ad yX9_changed (.code yX9_changed cX9_changed 3 (some .int)) 2 0 0 (τ n) [.ref (ad 0 40), .int (iN (n : Int))] (.inl (some (.int (iN (n : Int))))) σ2) : Cb l D K ad yX9_execute (.code yX9_execute cX9_execute 3 (some .int)) 8 0 0 σ [.ref (ad 0 40)] (.inl (some (.int (iN ((n : Int)))))) σ2 := by
  refine Cb.of (own := RX9) (ls0 := [some (.ref (ad 0 40)), none, none]) hl0 (by decide) rfl (Nat.le_of_ble_eq_true rfl) rfl ?_
  intro X hX1 hX2 hX3 hf he hh
  subst hX1 hX2 hX3
  have hE := exec0_P hR hl.2
  have hF := mParse_q 61 (exec0 σ) 0 0 hE (by decide) (by decide) (by decide)
  have hRF := qM_R hF.1.2.2.2 hF.2
  have y20 : qM (mParse (σ 0 46) (σ 0 40 10) 61 (exec0 σ) 0 0).1 (mParse (σ 0 46) (σ 0 40 10) 61 (exec0 σ) 0 0).2 0 40 20 = (mParse (σ 0 46) (σ 0 40 10) 61 (exec0 σ) 0 0).2.1 := qM_20
  have y22 : qM (mParse (σ 0 46) (σ 0 40 10) 61 (exec0 σ) 0 0).1 (mParse (σ 0 46) (σ 0 40 10) 61 (exec0 σ) 0 0).2 0 40 22 = (mParse (σ 0 46) (σ 0 40 10) 61 (exec0 σ) 0 0).2.2 := qM_22
  have zero : ∀ τ : Mem, B X ad τ 92 [some (.ref (ad 0 40)), none, none] [] 0 0 → B X ad τ 34 [some (.ref (ad 0 40)), some (.int (iN (0))), none] [] 0 0 := by
    intro τ kont
    refine V_iload_n hf dX9_execute_34 rfl rfl ?_
    refine V_if_eq (tgt := 92) hf ⟨by decide, by decide⟩ dX9_execute_35 (by decide) (fun h35 => ?_) (fun h35 => ?_)
    · refine V_fg (ls2 := [some _, none, none]) ⟨rfl, trivial⟩ ?_
      exact kont
    · exact absurd rfl h35
  have loop : ∀ (f : Nat) (τ : Mem) (n p : Int), P46 τ (σ 0 46) (σ 0 40 10) → 0 ≤ n → 2 * n ≤ p → p ≤ 60 → 61 ≤ p + f → τ 0 40 19 = n → B X ad (qM (mParse (σ 0 46) (σ 0 40 10) f τ n p).1 (mParse (σ 0 46) (σ 0 40 10) f τ n p).2) 92 [some (.ref (ad 0 40)), none, none] [] 0 0 → B X ad (qM τ (p, 0)) 34 [some (.ref (ad 0 40)), some (.int (iN (1))), none] [] 0 0 := by
    intro f
    induction f with
    | zero => intros; omega
    | succ f ih =>
      intro τ n p hP hn hnp hp hpf hn2 kont
      have next : (mCmd (σ 0 46) (σ 0 40 10) τ n p).2.2 = 0 → (mCmd (σ 0 46) (σ 0 40 10) τ n p).2.1 < σ 0 40 10 → (mExp (σ 0 46) (σ 0 40 10) 59 (mCmd (σ 0 46) (σ 0 40 10) τ n p).2).2 = 0 → B X ad (qM (mCmd (σ 0 46) (σ 0 40 10) τ n p).1 (mExp (σ 0 46) (σ 0 40 10) 59 (mCmd (σ 0 46) (σ 0 40 10) τ n p).2)) 34 [some (.ref (ad 0 40)), some (.int (iN (1))), none] [] 0 0 := by
        intro q1 q2 q3
        have hc := mCmd_q (n := n) (p := p) hP ⟨by omega, hp⟩ ⟨hn, by omega⟩
        have hx := mExp_q (ch := σ 0 46) (len := σ 0 40 10) (c := 59) hc.2.1 hP.2.2.1 (by decide)
        have h5 := hc.2.2 q1
        have h6 := hx.2.2 q3
        have h7 : (mCmd (σ 0 46) (σ 0 40 10) τ n p).2.1 + 1 = (mExp (σ 0 46) (σ 0 40 10) 59 (mCmd (σ 0 46) (σ 0 40 10) τ n p).2).1 := by
          unfold mExp at q3 ⊢
          split at q3
          · rw [if_pos (by assumption)]
          · exact absurd q3 (by dsimp only; decide)
        rw [show mParse (σ 0 46) (σ 0 40 10) (f + 1) τ n p = mParse (σ 0 46) (σ 0 40 10) f (mCmd (σ 0 46) (σ 0 40 10) τ n p).1 (n + 1) (mExp (σ 0 46) (σ 0 40 10) 59 (mCmd (σ 0 46) (σ 0 40 10) τ n p).2).1 from (if_pos ⟨q1, q2⟩).trans (if_pos q3)] at kont
        have bk := ih (mCmd (σ 0 46) (σ 0 40 10) τ n p).1 (n + 1) (mExp (σ 0 46) (σ 0 40 10) 59 (mCmd (σ 0 46) (σ 0 40 10) τ n p).2).1 hc.1 (by omega) (by omega) h6 (by omega) h5.2.2 kont
        rw [show ((mExp (σ 0 46) (σ 0 40 10) 59 (mCmd (σ 0 46) (σ 0 40 10) τ n p).2).1, (0 : Int)) = (mExp (σ 0 46) (σ 0 40 10) 59 (mCmd (σ 0 46) (σ 0 40 10) τ n p).2) from Prod.ext rfl q3.symm] at bk
        exact bk
      refine V_iload_n hf dX9_execute_34 rfl rfl ?_
      refine V_if_eq (tgt := 92) hf ⟨by decide, by decide⟩ dX9_execute_35 (by decide) (fun h35 => ?_) (fun h35 => ?_)
      · exact absurd h35 (by decide)
      · refine V_aload_n hf dX9_execute_38 rfl rfl ?_
        refine B_callVv hf (As := []) (g_cmd hl0 τ (σ 0 46) (σ 0 40 10) hP n p ⟨hn, by omega⟩ hn2 ⟨by omega, hp⟩) cv_X9_275 l01 rfl rfl rfl (Nat.le_of_ble_eq_true rfl) ⟨by decide, by decide, by decide, by decide⟩ dX9_execute_39 ?_
        have hc := mCmd_q (n := n) (p := p) hP ⟨by omega, hp⟩ ⟨hn, by omega⟩
        have hRc := qM_R hc.1.2.2.2 hc.2.1
        have c22 : qM (mCmd (σ 0 46) (σ 0 40 10) τ n p).1 (mCmd (σ 0 46) (σ 0 40 10) τ n p).2 0 40 22 = (mCmd (σ 0 46) (σ 0 40 10) τ n p).2.2 := qM_22
        have c20 : qM (mCmd (σ 0 46) (σ 0 40 10) τ n p).1 (mCmd (σ 0 46) (σ 0 40 10) τ n p).2 0 40 20 = (mCmd (σ 0 46) (σ 0 40 10) τ n p).2.1 := qM_20
        have c21 := qM_21 hc.1 (q := (mCmd (σ 0 46) (σ 0 40 10) τ n p).2)
        refine V_aload_n hf dX9_execute_42 rfl rfl ?_
        refine B_get hf l01 rfl fl_X9_246_12 rfl dX9_execute_43 ?_
        refine V_if_ne (tgt := 64) hf (hRc _ _ _ (by decide)) dX9_execute_46 (by decide) (fun h46 => ?_) (fun h46 => ?_)
        · refine V_iconst hf dX9_execute_64 ?_
          refine V_istore_n (ls2 := [_, _, _]) hf dX9_execute_65 rfl (by decide) rfl rfl ?_
          refine V_iload_n hf dX9_execute_66 rfl rfl ?_
          refine V_if_eq (tgt := 34) hf ⟨by decide, by decide⟩ dX9_execute_67 (by decide) (fun h67 => ?_) (fun h67 => ?_)
          · first | exact zero _ (by rw [show mParse (σ 0 46) (σ 0 40 10) (f + 1) τ n p = (mCmd (σ 0 46) (σ 0 40 10) τ n p) from if_neg (by omega)] at kont; exact kont) | exact zero _ (by rw [show mParse (σ 0 46) (σ 0 40 10) (f + 1) τ n p = ((mCmd (σ 0 46) (σ 0 40 10) τ n p).1, (mExp (σ 0 46) (σ 0 40 10) 59 (mCmd (σ 0 46) (σ 0 40 10) τ n p).2)) from (if_pos (by omega)).trans (if_neg (by omega))] at kont; exact kont) | exact next (by omega) (by omega) (by omega) | exact absurd h67 (by decide)
          · refine V_aload_n hf dX9_execute_70 rfl rfl ?_
            refine V_bipush hf dX9_execute_71 (by decide +kernel) ?_
            refine B_callVv hf (As := [_]) (g_exp hl0 (mCmd (σ 0 46) (σ 0 40 10) τ n p).1 (σ 0 46) (σ 0 40 10) hc.1 (mCmd (σ 0 46) (σ 0 40 10) τ n p).2 hc.2.1 59 ⟨by decide, by decide⟩) cv_X9_260 l01 rfl rfl rfl (Nat.le_of_ble_eq_true rfl) ⟨by decide, by decide, by decide, by decide⟩ dX9_execute_73 ?_
            have hx := mExp_q (ch := σ 0 46) (len := σ 0 40 10) (c := 59) hc.2.1 hP.2.2.1 (by decide)
            have hRx := qM_R hc.1.2.2.2 hx.1
            have x22 : qM (mCmd (σ 0 46) (σ 0 40 10) τ n p).1 (mExp (σ 0 46) (σ 0 40 10) 59 (mCmd (σ 0 46) (σ 0 40 10) τ n p).2) 0 40 22 = (mExp (σ 0 46) (σ 0 40 10) 59 (mCmd (σ 0 46) (σ 0 40 10) τ n p).2).2 := qM_22
            refine V_aload_n hf dX9_execute_76 rfl rfl ?_
            refine B_get hf l01 rfl fl_X9_246_12 rfl dX9_execute_77 ?_
            refine V_if_ne (tgt := 87) hf (hRx _ _ _ (by decide)) dX9_execute_80 (by decide) (fun h80 => ?_) (fun h80 => ?_)
            · refine V_iconst hf dX9_execute_87 ?_
              refine V_istore_n (ls2 := [_, _, _]) hf dX9_execute_88 rfl (by decide) rfl rfl ?_
              refine V_goto (tgt := 34) hf dX9_execute_89 (by decide) ?_
              first | exact zero _ (by rw [show mParse (σ 0 46) (σ 0 40 10) (f + 1) τ n p = (mCmd (σ 0 46) (σ 0 40 10) τ n p) from if_neg (by omega)] at kont; exact kont) | exact zero _ (by rw [show mParse (σ 0 46) (σ 0 40 10) (f + 1) τ n p = ((mCmd (σ 0 46) (σ 0 40 10) τ n p).1, (mExp (σ 0 46) (σ 0 40 10) 59 (mCmd (σ 0 46) (σ 0 40 10) τ n p).2)) from (if_pos (by omega)).trans (if_neg (by omega))] at kont; exact kont) | exact next (by omega) (by omega) (by omega) | exact absurd h67 (by decide)
            · refine V_iconst hf dX9_execute_83 ?_
              refine V_goto (tgt := 88) hf dX9_execute_84 (by decide) ?_
              refine V_istore_n (ls2 := [_, _, _]) hf dX9_execute_88 rfl (by decide) rfl rfl ?_
              refine V_goto (tgt := 34) hf dX9_execute_89 (by decide) ?_
              first | exact zero _ (by rw [show mParse (σ 0 46) (σ 0 40 10) (f + 1) τ n p = (mCmd (σ 0 46) (σ 0 40 10) τ n p) from if_neg (by omega)] at kont; exact kont) | exact zero _ (by rw [show mParse (σ 0 46) (σ 0 40 10) (f + 1) τ n p = ((mCmd (σ 0 46) (σ 0 40 10) τ n p).1, (mExp (σ 0 46) (σ 0 40 10) 59 (mCmd (σ 0 46) (σ 0 40 10) τ n p).2)) from (if_pos (by omega)).trans (if_neg (by omega))] at kont; exact kont) | exact next (by omega) (by omega) (by omega) | exact absurd h67 (by decide)
        · refine V_aload_n hf dX9_execute_49 rfl rfl ?_
          refine B_get hf l01 rfl fl_X9_240_12 rfl dX9_execute_50 ?_
          refine V_aload_n hf dX9_execute_53 rfl rfl ?_
          refine B_get hf l01 rfl fl_X9_243_12 rfl dX9_execute_54 ?_
          refine V_icmp_ge (tgt := 64) hf (hRc _ _ _ (by decide)) (hRc _ _ _ (by decide)) dX9_execute_57 (by decide) (fun h57 => ?_) (fun h57 => ?_)
          · refine V_iconst hf dX9_execute_64 ?_
            refine V_istore_n (ls2 := [_, _, _]) hf dX9_execute_65 rfl (by decide) rfl rfl ?_
            refine V_iload_n hf dX9_execute_66 rfl rfl ?_
            refine V_if_eq (tgt := 34) hf ⟨by decide, by decide⟩ dX9_execute_67 (by decide) (fun h67 => ?_) (fun h67 => ?_)
            · first | exact zero _ (by rw [show mParse (σ 0 46) (σ 0 40 10) (f + 1) τ n p = (mCmd (σ 0 46) (σ 0 40 10) τ n p) from if_neg (by omega)] at kont; exact kont) | exact zero _ (by rw [show mParse (σ 0 46) (σ 0 40 10) (f + 1) τ n p = ((mCmd (σ 0 46) (σ 0 40 10) τ n p).1, (mExp (σ 0 46) (σ 0 40 10) 59 (mCmd (σ 0 46) (σ 0 40 10) τ n p).2)) from (if_pos (by omega)).trans (if_neg (by omega))] at kont; exact kont) | exact next (by omega) (by omega) (by omega) | exact absurd h67 (by decide)
            · refine V_aload_n hf dX9_execute_70 rfl rfl ?_
              refine V_bipush hf dX9_execute_71 (by decide +kernel) ?_
              refine B_callVv hf (As := [_]) (g_exp hl0 (mCmd (σ 0 46) (σ 0 40 10) τ n p).1 (σ 0 46) (σ 0 40 10) hc.1 (mCmd (σ 0 46) (σ 0 40 10) τ n p).2 hc.2.1 59 ⟨by decide, by decide⟩) cv_X9_260 l01 rfl rfl rfl (Nat.le_of_ble_eq_true rfl) ⟨by decide, by decide, by decide, by decide⟩ dX9_execute_73 ?_
              have hx := mExp_q (ch := σ 0 46) (len := σ 0 40 10) (c := 59) hc.2.1 hP.2.2.1 (by decide)
              have hRx := qM_R hc.1.2.2.2 hx.1
              have x22 : qM (mCmd (σ 0 46) (σ 0 40 10) τ n p).1 (mExp (σ 0 46) (σ 0 40 10) 59 (mCmd (σ 0 46) (σ 0 40 10) τ n p).2) 0 40 22 = (mExp (σ 0 46) (σ 0 40 10) 59 (mCmd (σ 0 46) (σ 0 40 10) τ n p).2).2 := qM_22
              refine V_aload_n hf dX9_execute_76 rfl rfl ?_
              refine B_get hf l01 rfl fl_X9_246_12 rfl dX9_execute_77 ?_
              refine V_if_ne (tgt := 87) hf (hRx _ _ _ (by decide)) dX9_execute_80 (by decide) (fun h80 => ?_) (fun h80 => ?_)
              · refine V_iconst hf dX9_execute_87 ?_
                refine V_istore_n (ls2 := [_, _, _]) hf dX9_execute_88 rfl (by decide) rfl rfl ?_
                refine V_goto (tgt := 34) hf dX9_execute_89 (by decide) ?_
                first | exact zero _ (by rw [show mParse (σ 0 46) (σ 0 40 10) (f + 1) τ n p = (mCmd (σ 0 46) (σ 0 40 10) τ n p) from if_neg (by omega)] at kont; exact kont) | exact zero _ (by rw [show mParse (σ 0 46) (σ 0 40 10) (f + 1) τ n p = ((mCmd (σ 0 46) (σ 0 40 10) τ n p).1, (mExp (σ 0 46) (σ 0 40 10) 59 (mCmd (σ 0 46) (σ 0 40 10) τ n p).2)) from (if_pos (by omega)).trans (if_neg (by omega))] at kont; exact kont) | exact next (by omega) (by omega) (by omega) | exact absurd h67 (by decide)
              · refine V_iconst hf dX9_execute_83 ?_
                refine V_goto (tgt := 88) hf dX9_execute_84 (by decide) ?_
                refine V_istore_n (ls2 := [_, _, _]) hf dX9_execute_88 rfl (by decide) rfl rfl ?_
                refine V_goto (tgt := 34) hf dX9_execute_89 (by decide) ?_
                first | exact zero _ (by rw [show mParse (σ 0 46) (σ 0 40 10) (f + 1) τ n p = (mCmd (σ 0 46) (σ 0 40 10) τ n p) from if_neg (by omega)] at kont; exact kont) | exact zero _ (by rw [show mParse (σ 0 46) (σ 0 40 10) (f + 1) τ n p = ((mCmd (σ 0 46) (σ 0 40 10) τ n p).1, (mExp (σ 0 46) (σ 0 40 10) 59 (mCmd (σ 0 46) (σ 0 40 10) τ n p).2)) from (if_pos (by omega)).trans (if_neg (by omega))] at kont; exact kont) | exact next (by omega) (by omega) (by omega) | exact absurd h67 (by decide)
          · refine V_iconst hf dX9_execute_60 ?_
            refine V_goto (tgt := 65) hf dX9_execute_61 (by decide) ?_
            refine V_istore_n (ls2 := [_, _, _]) hf dX9_execute_65 rfl (by decide) rfl rfl ?_
            refine V_iload_n hf dX9_execute_66 rfl rfl ?_
            refine V_if_eq (tgt := 34) hf ⟨by decide, by decide⟩ dX9_execute_67 (by decide) (fun h67 => ?_) (fun h67 => ?_)
            · first | exact zero _ (by rw [show mParse (σ 0 46) (σ 0 40 10) (f + 1) τ n p = (mCmd (σ 0 46) (σ 0 40 10) τ n p) from if_neg (by omega)] at kont; exact kont) | exact zero _ (by rw [show mParse (σ 0 46) (σ 0 40 10) (f + 1) τ n p = ((mCmd (σ 0 46) (σ 0 40 10) τ n p).1, (mExp (σ 0 46) (σ 0 40 10) 59 (mCmd (σ 0 46) (σ 0 40 10) τ n p).2)) from (if_pos (by omega)).trans (if_neg (by omega))] at kont; exact kont) | exact next (by omega) (by omega) (by omega) | exact absurd h67 (by decide)
            · refine V_aload_n hf dX9_execute_70 rfl rfl ?_
              refine V_bipush hf dX9_execute_71 (by decide +kernel) ?_
              refine B_callVv hf (As := [_]) (g_exp hl0 (mCmd (σ 0 46) (σ 0 40 10) τ n p).1 (σ 0 46) (σ 0 40 10) hc.1 (mCmd (σ 0 46) (σ 0 40 10) τ n p).2 hc.2.1 59 ⟨by decide, by decide⟩) cv_X9_260 l01 rfl rfl rfl (Nat.le_of_ble_eq_true rfl) ⟨by decide, by decide, by decide, by decide⟩ dX9_execute_73 ?_
              have hx := mExp_q (ch := σ 0 46) (len := σ 0 40 10) (c := 59) hc.2.1 hP.2.2.1 (by decide)
              have hRx := qM_R hc.1.2.2.2 hx.1
              have x22 : qM (mCmd (σ 0 46) (σ 0 40 10) τ n p).1 (mExp (σ 0 46) (σ 0 40 10) 59 (mCmd (σ 0 46) (σ 0 40 10) τ n p).2) 0 40 22 = (mExp (σ 0 46) (σ 0 40 10) 59 (mCmd (σ 0 46) (σ 0 40 10) τ n p).2).2 := qM_22
              refine V_aload_n hf dX9_execute_76 rfl rfl ?_
              refine B_get hf l01 rfl fl_X9_246_12 rfl dX9_execute_77 ?_
              refine V_if_ne (tgt := 87) hf (hRx _ _ _ (by decide)) dX9_execute_80 (by decide) (fun h80 => ?_) (fun h80 => ?_)
              · refine V_iconst hf dX9_execute_87 ?_
                refine V_istore_n (ls2 := [_, _, _]) hf dX9_execute_88 rfl (by decide) rfl rfl ?_
                refine V_goto (tgt := 34) hf dX9_execute_89 (by decide) ?_
                first | exact zero _ (by rw [show mParse (σ 0 46) (σ 0 40 10) (f + 1) τ n p = (mCmd (σ 0 46) (σ 0 40 10) τ n p) from if_neg (by omega)] at kont; exact kont) | exact zero _ (by rw [show mParse (σ 0 46) (σ 0 40 10) (f + 1) τ n p = ((mCmd (σ 0 46) (σ 0 40 10) τ n p).1, (mExp (σ 0 46) (σ 0 40 10) 59 (mCmd (σ 0 46) (σ 0 40 10) τ n p).2)) from (if_pos (by omega)).trans (if_neg (by omega))] at kont; exact kont) | exact next (by omega) (by omega) (by omega) | exact absurd h67 (by decide)
              · refine V_iconst hf dX9_execute_83 ?_
                refine V_goto (tgt := 88) hf dX9_execute_84 (by decide) ?_
                refine V_istore_n (ls2 := [_, _, _]) hf dX9_execute_88 rfl (by decide) rfl rfl ?_
                refine V_goto (tgt := 34) hf dX9_execute_89 (by decide) ?_
                first | exact zero _ (by rw [show mParse (σ 0 46) (σ 0 40 10) (f + 1) τ n p = (mCmd (σ 0 46) (σ 0 40 10) τ n p) from if_neg (by omega)] at kont; exact kont) | exact zero _ (by rw [show mParse (σ 0 46) (σ 0 40 10) (f + 1) τ n p = ((mCmd (σ 0 46) (σ 0 40 10) τ n p).1, (mExp (σ 0 46) (σ 0 40 10) 59 (mCmd (σ 0 46) (σ 0 40 10) τ n p).2)) from (if_pos (by omega)).trans (if_neg (by omega))] at kont; exact kont) | exact next (by omega) (by omega) (by omega) | exact absurd h67 (by decide)
  refine V_aload_n hf dX9_execute_0 rfl rfl ?_
  refine B_callVv hf (As := []) (e_starts hl0 σ hR) cv_X9_110 l01 rfl rfl rfl (Nat.le_of_ble_eq_true rfl) ⟨by decide, by decide, by decide, by decide⟩ dX9_execute_1 ?_
  refine V_aload_n hf dX9_execute_4 rfl rfl ?_
  refine V_aload_n hf dX9_execute_5 rfl rfl ?_
  refine B_get hf l01 rfl fl_X9_237_12 rfl dX9_execute_6 ?_
  refine B_putI (kI := 21) hf rfl l01 rfl fp_X9_243_12 rfl rfl (Nat.le_of_ble_eq_true rfl) (by decide) (cs_40_21 _ _ _ _ _) dX9_execute_9 ?_
  refine V_aload_n hf dX9_execute_12 rfl rfl ?_
  refine V_iconst hf dX9_execute_13 ?_
  refine B_putI (kI := 10) hf rfl l01 rfl fp_X9_237_12 rfl rfl (Nat.le_of_ble_eq_true rfl) (by decide) (cs_40_10 _ _ _ _ _) dX9_execute_14 ?_
  refine V_aload_n hf dX9_execute_17 rfl rfl ?_
  refine V_iconst hf dX9_execute_18 ?_
  refine B_putI (kI := 20) hf rfl l01 rfl fp_X9_240_12 rfl rfl (Nat.le_of_ble_eq_true rfl) (by decide) (cs_40_20 _ _ _ _ _) dX9_execute_19 ?_
  refine V_aload_n hf dX9_execute_22 rfl rfl ?_
  refine V_iconst hf dX9_execute_23 ?_
  refine B_putI (kI := 19) hf rfl l01 rfl fp_X9_269_12 rfl rfl (Nat.le_of_ble_eq_true rfl) (by decide) (cs_40_19 _ _ _ _ _) dX9_execute_24 ?_
  refine V_aload_n hf dX9_execute_27 rfl rfl ?_
  refine V_iconst hf dX9_execute_28 ?_
  refine B_putI (kI := 22) hf rfl l01 rfl fp_X9_246_12 (by decide +kernel) rfl (Nat.le_of_ble_eq_true rfl) (by decide) (cs_40_22 _ _ _ _ _) dX9_execute_29 ?_
  refine V_iconst hf dX9_execute_32 ?_
  refine V_istore_n (ls2 := [_, _, _]) hf dX9_execute_33 rfl (by decide) rfl rfl ?_
  change B X ad (exec0 σ) 34 _ [] 0 0
  rw [← exec0_q]
  refine loop 61 (exec0 σ) 0 0 hE (by decide) (by decide) (by decide) (by decide) exec0_19 ?_
  have loop2 : ∀ (m k : Nat), k ≤ n → n - k < m → B X ad (τ k) 115 [some (.ref (ad 0 40)), none, some (.int (iN ((k : Int))))] [] 0 0 := by
    intro m
    induction m with
    | zero => intros; omega
    | succ m ih =>
      intro k hk1 hk2
      refine V_iload_n hf dX9_execute_115 rfl rfl ?_
      refine V_aload_n hf dX9_execute_116 rfl rfl ?_
      refine B_get hf l01 rfl fl_X9_269_12 rfl dX9_execute_117 ?_
      refine V_icmp_ge (tgt := 149) hf ⟨by omega, by omega⟩ (by rw [(hc k (by omega)).1]; exact ⟨by omega, by omega⟩) dX9_execute_120 (by decide) (fun h120 => ?_) (fun h120 => ?_)
      · have e9 := (hc k (by omega)).1
        have ek : k = n := by omega
        subst ek
        refine V_aload_n hf dX9_execute_149 rfl rfl ?_
        refine V_aload_n hf dX9_execute_150 rfl rfl ?_
        refine B_get hf l01 rfl fl_X9_269_12 rfl dX9_execute_151 ?_
        rw [e9]
        refine B_callVi hf (As := [_]) (hC) cv_X9_117 l01 rfl rfl rfl (Nat.le_of_ble_eq_true rfl) ⟨by decide, by decide, by decide, by decide⟩ dX9_execute_154 ?_
        exact B_iret hf he rfl dX9_execute_157 (by decide) (by decide) (by first | rfl | omega) rfl
      · have e9 := (hc k (by omega)).1
        refine V_aload_n hf dX9_execute_123 rfl rfl ?_
        refine V_iconst hf dX9_execute_124 ?_
        refine V_iload_n hf dX9_execute_125 rfl rfl ?_
        refine V_imul hf dX9_execute_126 ?_
        refine B_callVv hf (As := [_]) ((hs k (by rw [(hc k (by omega)).1] at h120; omega)).1) cv_X9_278 l01 rfl rfl rfl (Nat.le_of_ble_eq_true rfl) ⟨by decide, by decide, by decide, by decide⟩ dX9_execute_127 ?_
        refine V_aload_n hf dX9_execute_130 rfl rfl ?_
        refine B_get hf l01 rfl fl_X9_38_12 rfl dX9_execute_131 ?_
        refine V_if_le (tgt := 143) hf ((hc (k + 1) (by omega)).2 _ _ _ (by decide)) dX9_execute_134 (by decide) (fun h134 => ?_) (fun h134 => ?_)
        · refine V_iinc (ls2 := [_, _, _]) hf dX9_execute_143 (by decide) rfl rfl rfl ?_
          refine V_goto (tgt := 115) hf dX9_execute_146 (by decide) ?_
          have bk := ih (k + 1) (by omega) (by omega)
          rw [show ((k + 1 : Nat) : Int) = (k : Int) + 1 by omega] at bk
          exact bk
        · exact absurd h134 (by have := (hs k (by omega)).2; omega)
  refine V_aload_n hf dX9_execute_92 rfl rfl ?_
  refine B_get hf l01 rfl fl_X9_246_12 rfl dX9_execute_93 ?_
  refine V_if_eq (tgt := 113) hf (hRF _ _ _ (by decide)) dX9_execute_96 (by decide) (fun h96 => ?_) (fun h96 => ?_)
  · refine V_iconst hf dX9_execute_113 ?_
    refine V_istore_n (ls2 := [_, _, _]) hf dX9_execute_114 rfl (by decide) rfl rfl ?_
    refine V_fg (ls2 := [some _, none, some _]) ⟨rfl, rfl, trivial⟩ ?_
    rw [← ht]
    exact loop2 (n + 1) 0 (by omega) (by omega)
  · exact absurd h96 (by omega)

set_option maxHeartbeats 4000000 in
set_option maxRecDepth 100000 in
theorem g_exec_f {l : Launch} {D : va_G} {K : Nat → ClassId} {ad : Adr} (hl0 : l.stackTraces = false) (σ : Mem) (hR : Rng σ) (hl : 0 ≤ σ 0 40 10 ∧ σ 0 40 10 ≤ 60) (hw : (mParse (σ 0 46) (σ 0 40 10) 61 (exec0 σ) 0 0).2.2 = 0) (n : Nat) (hn : n ≤ 59) (τ : Nat → Mem) (ht : τ 0 = qM (mParse (σ 0 46) (σ 0 40 10) 61 (exec0 σ) 0 0).1 (mParse (σ 0 46) (σ 0 40 10) 61 (exec0 σ) 0 0).2) (hc : ∀ k : Nat, k ≤ n → τ k 0 40 19 = (n : Int) ∧ Rng (τ k)) (f : Nat) (hfn : f < n) (hs : ∀ k : Nat, k ≤ f → Cb l D K ad yX9_does (.code yX9_does cX9_does 4 none) 7 0 0 (τ k) [.ref (ad 0 40), .int (iN (4 * (k : Int)))] (.inl none) (τ (k + 1)) ∧ True) (hs2 : ∀ k : Nat, k < f → τ (k + 1) 0 40 8 ≤ 0) (hs3 : 0 < τ (f + 1) 0 40 8) (σ2 : Mem) (hF2 : Cb l D K ad yX9_fails (.code yX9_fails cX9_fails 3 (some .int)) 3 0 0 (τ (f + 1)) [.ref (ad 0 40), .int (iN (f : Int))] (.inl (some (.int (iN (-1))))) σ2) : Cb l D K ad yX9_execute (.code yX9_execute cX9_execute 3 (some .int)) 8 0 0 σ [.ref (ad 0 40)] (.inl (some (.int (iN (-1))))) σ2 := by
  refine Cb.of (own := RX9) (ls0 := [some (.ref (ad 0 40)), none, none]) hl0 (by decide) rfl (Nat.le_of_ble_eq_true rfl) rfl ?_
  intro X hX1 hX2 hX3 hf he hh
  subst hX1 hX2 hX3
  have hE := exec0_P hR hl.2
  have hF := mParse_q 61 (exec0 σ) 0 0 hE (by decide) (by decide) (by decide)
  have hRF := qM_R hF.1.2.2.2 hF.2
  have y20 : qM (mParse (σ 0 46) (σ 0 40 10) 61 (exec0 σ) 0 0).1 (mParse (σ 0 46) (σ 0 40 10) 61 (exec0 σ) 0 0).2 0 40 20 = (mParse (σ 0 46) (σ 0 40 10) 61 (exec0 σ) 0 0).2.1 := qM_20
  have y22 : qM (mParse (σ 0 46) (σ 0 40 10) 61 (exec0 σ) 0 0).1 (mParse (σ 0 46) (σ 0 40 10) 61 (exec0 σ) 0 0).2 0 40 22 = (mParse (σ 0 46) (σ 0 40 10) 61 (exec0 σ) 0 0).2.2 := qM_22
  have zero : ∀ τ : Mem, B X ad τ 92 [some (.ref (ad 0 40)), none, none] [] 0 0 → B X ad τ 34 [some (.ref (ad 0 40)), some (.int (iN (0))), none] [] 0 0 := by
    intro τ kont
    refine V_iload_n hf dX9_execute_34 rfl rfl ?_
    refine V_if_eq (tgt := 92) hf ⟨by decide, by decide⟩ dX9_execute_35 (by decide) (fun h35 => ?_) (fun h35 => ?_)
    · refine V_fg (ls2 := [some _, none, none]) ⟨rfl, trivial⟩ ?_
      exact kont
    · exact absurd rfl h35
  have loop : ∀ (f : Nat) (τ : Mem) (n p : Int), P46 τ (σ 0 46) (σ 0 40 10) → 0 ≤ n → 2 * n ≤ p → p ≤ 60 → 61 ≤ p + f → τ 0 40 19 = n → B X ad (qM (mParse (σ 0 46) (σ 0 40 10) f τ n p).1 (mParse (σ 0 46) (σ 0 40 10) f τ n p).2) 92 [some (.ref (ad 0 40)), none, none] [] 0 0 → B X ad (qM τ (p, 0)) 34 [some (.ref (ad 0 40)), some (.int (iN (1))), none] [] 0 0 := by
    intro f
    induction f with
    | zero => intros; omega
    | succ f ih =>
      intro τ n p hP hn hnp hp hpf hn2 kont
      have next : (mCmd (σ 0 46) (σ 0 40 10) τ n p).2.2 = 0 → (mCmd (σ 0 46) (σ 0 40 10) τ n p).2.1 < σ 0 40 10 → (mExp (σ 0 46) (σ 0 40 10) 59 (mCmd (σ 0 46) (σ 0 40 10) τ n p).2).2 = 0 → B X ad (qM (mCmd (σ 0 46) (σ 0 40 10) τ n p).1 (mExp (σ 0 46) (σ 0 40 10) 59 (mCmd (σ 0 46) (σ 0 40 10) τ n p).2)) 34 [some (.ref (ad 0 40)), some (.int (iN (1))), none] [] 0 0 := by
        intro q1 q2 q3
        have hc := mCmd_q (n := n) (p := p) hP ⟨by omega, hp⟩ ⟨hn, by omega⟩
        have hx := mExp_q (ch := σ 0 46) (len := σ 0 40 10) (c := 59) hc.2.1 hP.2.2.1 (by decide)
        have h5 := hc.2.2 q1
        have h6 := hx.2.2 q3
        have h7 : (mCmd (σ 0 46) (σ 0 40 10) τ n p).2.1 + 1 = (mExp (σ 0 46) (σ 0 40 10) 59 (mCmd (σ 0 46) (σ 0 40 10) τ n p).2).1 := by
          unfold mExp at q3 ⊢
          split at q3
          · rw [if_pos (by assumption)]
          · exact absurd q3 (by dsimp only; decide)
        rw [show mParse (σ 0 46) (σ 0 40 10) (f + 1) τ n p = mParse (σ 0 46) (σ 0 40 10) f (mCmd (σ 0 46) (σ 0 40 10) τ n p).1 (n + 1) (mExp (σ 0 46) (σ 0 40 10) 59 (mCmd (σ 0 46) (σ 0 40 10) τ n p).2).1 from (if_pos ⟨q1, q2⟩).trans (if_pos q3)] at kont
        have bk := ih (mCmd (σ 0 46) (σ 0 40 10) τ n p).1 (n + 1) (mExp (σ 0 46) (σ 0 40 10) 59 (mCmd (σ 0 46) (σ 0 40 10) τ n p).2).1 hc.1 (by omega) (by omega) h6 (by omega) h5.2.2 kont
        rw [show ((mExp (σ 0 46) (σ 0 40 10) 59 (mCmd (σ 0 46) (σ 0 40 10) τ n p).2).1, (0 : Int)) = (mExp (σ 0 46) (σ 0 40 10) 59 (mCmd (σ 0 46) (σ 0 40 10) τ n p).2) from Prod.ext rfl q3.symm] at bk
        exact bk
      refine V_iload_n hf dX9_execute_34 rfl rfl ?_
      refine V_if_eq (tgt := 92) hf ⟨by decide, by decide⟩ dX9_execute_35 (by decide) (fun h35 => ?_) (fun h35 => ?_)
      · exact absurd h35 (by decide)
      · refine V_aload_n hf dX9_execute_38 rfl rfl ?_
        refine B_callVv hf (As := []) (g_cmd hl0 τ (σ 0 46) (σ 0 40 10) hP n p ⟨hn, by omega⟩ hn2 ⟨by omega, hp⟩) cv_X9_275 l01 rfl rfl rfl (Nat.le_of_ble_eq_true rfl) ⟨by decide, by decide, by decide, by decide⟩ dX9_execute_39 ?_
        have hc := mCmd_q (n := n) (p := p) hP ⟨by omega, hp⟩ ⟨hn, by omega⟩
        have hRc := qM_R hc.1.2.2.2 hc.2.1
        have c22 : qM (mCmd (σ 0 46) (σ 0 40 10) τ n p).1 (mCmd (σ 0 46) (σ 0 40 10) τ n p).2 0 40 22 = (mCmd (σ 0 46) (σ 0 40 10) τ n p).2.2 := qM_22
        have c20 : qM (mCmd (σ 0 46) (σ 0 40 10) τ n p).1 (mCmd (σ 0 46) (σ 0 40 10) τ n p).2 0 40 20 = (mCmd (σ 0 46) (σ 0 40 10) τ n p).2.1 := qM_20
        have c21 := qM_21 hc.1 (q := (mCmd (σ 0 46) (σ 0 40 10) τ n p).2)
        refine V_aload_n hf dX9_execute_42 rfl rfl ?_
        refine B_get hf l01 rfl fl_X9_246_12 rfl dX9_execute_43 ?_
        refine V_if_ne (tgt := 64) hf (hRc _ _ _ (by decide)) dX9_execute_46 (by decide) (fun h46 => ?_) (fun h46 => ?_)
        · refine V_iconst hf dX9_execute_64 ?_
          refine V_istore_n (ls2 := [_, _, _]) hf dX9_execute_65 rfl (by decide) rfl rfl ?_
          refine V_iload_n hf dX9_execute_66 rfl rfl ?_
          refine V_if_eq (tgt := 34) hf ⟨by decide, by decide⟩ dX9_execute_67 (by decide) (fun h67 => ?_) (fun h67 => ?_)
          · first | exact zero _ (by rw [show mParse (σ 0 46) (σ 0 40 10) (f + 1) τ n p = (mCmd (σ 0 46) (σ 0 40 10) τ n p) from if_neg (by omega)] at kont; exact kont) | exact zero _ (by rw [show mParse (σ 0 46) (σ 0 40 10) (f + 1) τ n p = ((mCmd (σ 0 46) (σ 0 40 10) τ n p).1, (mExp (σ 0 46) (σ 0 40 10) 59 (mCmd (σ 0 46) (σ 0 40 10) τ n p).2)) from (if_pos (by omega)).trans (if_neg (by omega))] at kont; exact kont) | exact next (by omega) (by omega) (by omega) | exact absurd h67 (by decide)
          · refine V_aload_n hf dX9_execute_70 rfl rfl ?_
            refine V_bipush hf dX9_execute_71 (by decide +kernel) ?_
            refine B_callVv hf (As := [_]) (g_exp hl0 (mCmd (σ 0 46) (σ 0 40 10) τ n p).1 (σ 0 46) (σ 0 40 10) hc.1 (mCmd (σ 0 46) (σ 0 40 10) τ n p).2 hc.2.1 59 ⟨by decide, by decide⟩) cv_X9_260 l01 rfl rfl rfl (Nat.le_of_ble_eq_true rfl) ⟨by decide, by decide, by decide, by decide⟩ dX9_execute_73 ?_
            have hx := mExp_q (ch := σ 0 46) (len := σ 0 40 10) (c := 59) hc.2.1 hP.2.2.1 (by decide)
            have hRx := qM_R hc.1.2.2.2 hx.1
            have x22 : qM (mCmd (σ 0 46) (σ 0 40 10) τ n p).1 (mExp (σ 0 46) (σ 0 40 10) 59 (mCmd (σ 0 46) (σ 0 40 10) τ n p).2) 0 40 22 = (mExp (σ 0 46) (σ 0 40 10) 59 (mCmd (σ 0 46) (σ 0 40 10) τ n p).2).2 := qM_22
            refine V_aload_n hf dX9_execute_76 rfl rfl ?_
            refine B_get hf l01 rfl fl_X9_246_12 rfl dX9_execute_77 ?_
            refine V_if_ne (tgt := 87) hf (hRx _ _ _ (by decide)) dX9_execute_80 (by decide) (fun h80 => ?_) (fun h80 => ?_)
            · refine V_iconst hf dX9_execute_87 ?_
              refine V_istore_n (ls2 := [_, _, _]) hf dX9_execute_88 rfl (by decide) rfl rfl ?_
              refine V_goto (tgt := 34) hf dX9_execute_89 (by decide) ?_
              first | exact zero _ (by rw [show mParse (σ 0 46) (σ 0 40 10) (f + 1) τ n p = (mCmd (σ 0 46) (σ 0 40 10) τ n p) from if_neg (by omega)] at kont; exact kont) | exact zero _ (by rw [show mParse (σ 0 46) (σ 0 40 10) (f + 1) τ n p = ((mCmd (σ 0 46) (σ 0 40 10) τ n p).1, (mExp (σ 0 46) (σ 0 40 10) 59 (mCmd (σ 0 46) (σ 0 40 10) τ n p).2)) from (if_pos (by omega)).trans (if_neg (by omega))] at kont; exact kont) | exact next (by omega) (by omega) (by omega) | exact absurd h67 (by decide)
            · refine V_iconst hf dX9_execute_83 ?_
              refine V_goto (tgt := 88) hf dX9_execute_84 (by decide) ?_
              refine V_istore_n (ls2 := [_, _, _]) hf dX9_execute_88 rfl (by decide) rfl rfl ?_
              refine V_goto (tgt := 34) hf dX9_execute_89 (by decide) ?_
              first | exact zero _ (by rw [show mParse (σ 0 46) (σ 0 40 10) (f + 1) τ n p = (mCmd (σ 0 46) (σ 0 40 10) τ n p) from if_neg (by omega)] at kont; exact kont) | exact zero _ (by rw [show mParse (σ 0 46) (σ 0 40 10) (f + 1) τ n p = ((mCmd (σ 0 46) (σ 0 40 10) τ n p).1, (mExp (σ 0 46) (σ 0 40 10) 59 (mCmd (σ 0 46) (σ 0 40 10) τ n p).2)) from (if_pos (by omega)).trans (if_neg (by omega))] at kont; exact kont) | exact next (by omega) (by omega) (by omega) | exact absurd h67 (by decide)
        · refine V_aload_n hf dX9_execute_49 rfl rfl ?_
          refine B_get hf l01 rfl fl_X9_240_12 rfl dX9_execute_50 ?_
          refine V_aload_n hf dX9_execute_53 rfl rfl ?_
          refine B_get hf l01 rfl fl_X9_243_12 rfl dX9_execute_54 ?_
          refine V_icmp_ge (tgt := 64) hf (hRc _ _ _ (by decide)) (hRc _ _ _ (by decide)) dX9_execute_57 (by decide) (fun h57 => ?_) (fun h57 => ?_)
          · refine V_iconst hf dX9_execute_64 ?_
            refine V_istore_n (ls2 := [_, _, _]) hf dX9_execute_65 rfl (by decide) rfl rfl ?_
            refine V_iload_n hf dX9_execute_66 rfl rfl ?_
            refine V_if_eq (tgt := 34) hf ⟨by decide, by decide⟩ dX9_execute_67 (by decide) (fun h67 => ?_) (fun h67 => ?_)
            · first | exact zero _ (by rw [show mParse (σ 0 46) (σ 0 40 10) (f + 1) τ n p = (mCmd (σ 0 46) (σ 0 40 10) τ n p) from if_neg (by omega)] at kont; exact kont) | exact zero _ (by rw [show mParse (σ 0 46) (σ 0 40 10) (f + 1) τ n p = ((mCmd (σ 0 46) (σ 0 40 10) τ n p).1, (mExp (σ 0 46) (σ 0 40 10) 59 (mCmd (σ 0 46) (σ 0 40 10) τ n p).2)) from (if_pos (by omega)).trans (if_neg (by omega))] at kont; exact kont) | exact next (by omega) (by omega) (by omega) | exact absurd h67 (by decide)
            · refine V_aload_n hf dX9_execute_70 rfl rfl ?_
              refine V_bipush hf dX9_execute_71 (by decide +kernel) ?_
              refine B_callVv hf (As := [_]) (g_exp hl0 (mCmd (σ 0 46) (σ 0 40 10) τ n p).1 (σ 0 46) (σ 0 40 10) hc.1 (mCmd (σ 0 46) (σ 0 40 10) τ n p).2 hc.2.1 59 ⟨by decide, by decide⟩) cv_X9_260 l01 rfl rfl rfl (Nat.le_of_ble_eq_true rfl) ⟨by decide, by decide, by decide, by decide⟩ dX9_execute_73 ?_
              have hx := mExp_q (ch := σ 0 46) (len := σ 0 40 10) (c := 59) hc.2.1 hP.2.2.1 (by decide)
              have hRx := qM_R hc.1.2.2.2 hx.1
              have x22 : qM (mCmd (σ 0 46) (σ 0 40 10) τ n p).1 (mExp (σ 0 46) (σ 0 40 10) 59 (mCmd (σ 0 46) (σ 0 40 10) τ n p).2) 0 40 22 = (mExp (σ 0 46) (σ 0 40 10) 59 (mCmd (σ 0 46) (σ 0 40 10) τ n p).2).2 := qM_22
              refine V_aload_n hf dX9_execute_76 rfl rfl ?_
              refine B_get hf l01 rfl fl_X9_246_12 rfl dX9_execute_77 ?_
              refine V_if_ne (tgt := 87) hf (hRx _ _ _ (by decide)) dX9_execute_80 (by decide) (fun h80 => ?_) (fun h80 => ?_)
              · refine V_iconst hf dX9_execute_87 ?_
                refine V_istore_n (ls2 := [_, _, _]) hf dX9_execute_88 rfl (by decide) rfl rfl ?_
                refine V_goto (tgt := 34) hf dX9_execute_89 (by decide) ?_
                first | exact zero _ (by rw [show mParse (σ 0 46) (σ 0 40 10) (f + 1) τ n p = (mCmd (σ 0 46) (σ 0 40 10) τ n p) from if_neg (by omega)] at kont; exact kont) | exact zero _ (by rw [show mParse (σ 0 46) (σ 0 40 10) (f + 1) τ n p = ((mCmd (σ 0 46) (σ 0 40 10) τ n p).1, (mExp (σ 0 46) (σ 0 40 10) 59 (mCmd (σ 0 46) (σ 0 40 10) τ n p).2)) from (if_pos (by omega)).trans (if_neg (by omega))] at kont; exact kont) | exact next (by omega) (by omega) (by omega) | exact absurd h67 (by decide)
              · refine V_iconst hf dX9_execute_83 ?_
                refine V_goto (tgt := 88) hf dX9_execute_84 (by decide) ?_
                refine V_istore_n (ls2 := [_, _, _]) hf dX9_execute_88 rfl (by decide) rfl rfl ?_
                refine V_goto (tgt := 34) hf dX9_execute_89 (by decide) ?_
                first | exact zero _ (by rw [show mParse (σ 0 46) (σ 0 40 10) (f + 1) τ n p = (mCmd (σ 0 46) (σ 0 40 10) τ n p) from if_neg (by omega)] at kont; exact kont) | exact zero _ (by rw [show mParse (σ 0 46) (σ 0 40 10) (f + 1) τ n p = ((mCmd (σ 0 46) (σ 0 40 10) τ n p).1, (mExp (σ 0 46) (σ 0 40 10) 59 (mCmd (σ 0 46) (σ 0 40 10) τ n p).2)) from (if_pos (by omega)).trans (if_neg (by omega))] at kont; exact kont) | exact next (by omega) (by omega) (by omega) | exact absurd h67 (by decide)
          · refine V_iconst hf dX9_execute_60 ?_
            refine V_goto (tgt := 65) hf dX9_execute_61 (by decide) ?_
            refine V_istore_n (ls2 := [_, _, _]) hf dX9_execute_65 rfl (by decide) rfl rfl ?_
            refine V_iload_n hf dX9_execute_66 rfl rfl ?_
            refine V_if_eq (tgt := 34) hf ⟨by decide, by decide⟩ dX9_execute_67 (by decide) (fun h67 => ?_) (fun h67 => ?_)
            · first | exact zero _ (by rw [show mParse (σ 0 46) (σ 0 40 10) (f + 1) τ n p = (mCmd (σ 0 46) (σ 0 40 10) τ n p) from if_neg (by omega)] at kont; exact kont) | exact zero _ (by rw [show mParse (σ 0 46) (σ 0 40 10) (f + 1) τ n p = ((mCmd (σ 0 46) (σ 0 40 10) τ n p).1, (mExp (σ 0 46) (σ 0 40 10) 59 (mCmd (σ 0 46) (σ 0 40 10) τ n p).2)) from (if_pos (by omega)).trans (if_neg (by omega))] at kont; exact kont) | exact next (by omega) (by omega) (by omega) | exact absurd h67 (by decide)
            · refine V_aload_n hf dX9_execute_70 rfl rfl ?_
              refine V_bipush hf dX9_execute_71 (by decide +kernel) ?_
              refine B_callVv hf (As := [_]) (g_exp hl0 (mCmd (σ 0 46) (σ 0 40 10) τ n p).1 (σ 0 46) (σ 0 40 10) hc.1 (mCmd (σ 0 46) (σ 0 40 10) τ n p).2 hc.2.1 59 ⟨by decide, by decide⟩) cv_X9_260 l01 rfl rfl rfl (Nat.le_of_ble_eq_true rfl) ⟨by decide, by decide, by decide, by decide⟩ dX9_execute_73 ?_
              have hx := mExp_q (ch := σ 0 46) (len := σ 0 40 10) (c := 59) hc.2.1 hP.2.2.1 (by decide)
              have hRx := qM_R hc.1.2.2.2 hx.1
              have x22 : qM (mCmd (σ 0 46) (σ 0 40 10) τ n p).1 (mExp (σ 0 46) (σ 0 40 10) 59 (mCmd (σ 0 46) (σ 0 40 10) τ n p).2) 0 40 22 = (mExp (σ 0 46) (σ 0 40 10) 59 (mCmd (σ 0 46) (σ 0 40 10) τ n p).2).2 := qM_22
              refine V_aload_n hf dX9_execute_76 rfl rfl ?_
              refine B_get hf l01 rfl fl_X9_246_12 rfl dX9_execute_77 ?_
              refine V_if_ne (tgt := 87) hf (hRx _ _ _ (by decide)) dX9_execute_80 (by decide) (fun h80 => ?_) (fun h80 => ?_)
              · refine V_iconst hf dX9_execute_87 ?_
                refine V_istore_n (ls2 := [_, _, _]) hf dX9_execute_88 rfl (by decide) rfl rfl ?_
                refine V_goto (tgt := 34) hf dX9_execute_89 (by decide) ?_
                first | exact zero _ (by rw [show mParse (σ 0 46) (σ 0 40 10) (f + 1) τ n p = (mCmd (σ 0 46) (σ 0 40 10) τ n p) from if_neg (by omega)] at kont; exact kont) | exact zero _ (by rw [show mParse (σ 0 46) (σ 0 40 10) (f + 1) τ n p = ((mCmd (σ 0 46) (σ 0 40 10) τ n p).1, (mExp (σ 0 46) (σ 0 40 10) 59 (mCmd (σ 0 46) (σ 0 40 10) τ n p).2)) from (if_pos (by omega)).trans (if_neg (by omega))] at kont; exact kont) | exact next (by omega) (by omega) (by omega) | exact absurd h67 (by decide)
              · refine V_iconst hf dX9_execute_83 ?_
                refine V_goto (tgt := 88) hf dX9_execute_84 (by decide) ?_
                refine V_istore_n (ls2 := [_, _, _]) hf dX9_execute_88 rfl (by decide) rfl rfl ?_
                refine V_goto (tgt := 34) hf dX9_execute_89 (by decide) ?_
                first | exact zero _ (by rw [show mParse (σ 0 46) (σ 0 40 10) (f + 1) τ n p = (mCmd (σ 0 46) (σ 0 40 10) τ n p) from if_neg (by omega)] at kont; exact kont) | exact zero _ (by rw [show mParse (σ 0 46) (σ 0 40 10) (f + 1) τ n p = ((mCmd (σ 0 46) (σ 0 40 10) τ n p).1, (mExp (σ 0 46) (σ 0 40 10) 59 (mCmd (σ 0 46) (σ 0 40 10) τ n p).2)) from (if_pos (by omega)).trans (if_neg (by omega))] at kont; exact kont) | exact next (by omega) (by omega) (by omega) | exact absurd h67 (by decide)
  refine V_aload_n hf dX9_execute_0 rfl rfl ?_
  refine B_callVv hf (As := []) (e_starts hl0 σ hR) cv_X9_110 l01 rfl rfl rfl (Nat.le_of_ble_eq_true rfl) ⟨by decide, by decide, by decide, by decide⟩ dX9_execute_1 ?_
  refine V_aload_n hf dX9_execute_4 rfl rfl ?_
  refine V_aload_n hf dX9_execute_5 rfl rfl ?_
  refine B_get hf l01 rfl fl_X9_237_12 rfl dX9_execute_6 ?_
  refine B_putI (kI := 21) hf rfl l01 rfl fp_X9_243_12 rfl rfl (Nat.le_of_ble_eq_true rfl) (by decide) (cs_40_21 _ _ _ _ _) dX9_execute_9 ?_
  refine V_aload_n hf dX9_execute_12 rfl rfl ?_
  refine V_iconst hf dX9_execute_13 ?_
  refine B_putI (kI := 10) hf rfl l01 rfl fp_X9_237_12 rfl rfl (Nat.le_of_ble_eq_true rfl) (by decide) (cs_40_10 _ _ _ _ _) dX9_execute_14 ?_
  refine V_aload_n hf dX9_execute_17 rfl rfl ?_
  refine V_iconst hf dX9_execute_18 ?_
  refine B_putI (kI := 20) hf rfl l01 rfl fp_X9_240_12 rfl rfl (Nat.le_of_ble_eq_true rfl) (by decide) (cs_40_20 _ _ _ _ _) dX9_execute_19 ?_
  refine V_aload_n hf dX9_execute_22 rfl rfl ?_
  refine V_iconst hf dX9_execute_23 ?_
  refine B_putI (kI := 19) hf rfl l01 rfl fp_X9_269_12 rfl rfl (Nat.le_of_ble_eq_true rfl) (by decide) (cs_40_19 _ _ _ _ _) dX9_execute_24 ?_
  refine V_aload_n hf dX9_execute_27 rfl rfl ?_
  refine V_iconst hf dX9_execute_28 ?_
  refine B_putI (kI := 22) hf rfl l01 rfl fp_X9_246_12 (by decide +kernel) rfl (Nat.le_of_ble_eq_true rfl) (by decide) (cs_40_22 _ _ _ _ _) dX9_execute_29 ?_
  refine V_iconst hf dX9_execute_32 ?_
  refine V_istore_n (ls2 := [_, _, _]) hf dX9_execute_33 rfl (by decide) rfl rfl ?_
  change B X ad (exec0 σ) 34 _ [] 0 0
  rw [← exec0_q]
  refine loop 61 (exec0 σ) 0 0 hE (by decide) (by decide) (by decide) (by decide) exec0_19 ?_
  have loop2 : ∀ (m k : Nat), k ≤ f → f - k < m → B X ad (τ k) 115 [some (.ref (ad 0 40)), none, some (.int (iN ((k : Int))))] [] 0 0 := by
    intro m
    induction m with
    | zero => intros; omega
    | succ m ih =>
      intro k hk1 hk2
      refine V_iload_n hf dX9_execute_115 rfl rfl ?_
      refine V_aload_n hf dX9_execute_116 rfl rfl ?_
      refine B_get hf l01 rfl fl_X9_269_12 rfl dX9_execute_117 ?_
      refine V_icmp_ge (tgt := 149) hf ⟨by omega, by omega⟩ (by rw [(hc k (by omega)).1]; exact ⟨by omega, by omega⟩) dX9_execute_120 (by decide) (fun h120 => ?_) (fun h120 => ?_)
      · exact absurd h120 (by rw [(hc k (by omega)).1]; omega)
      · refine V_aload_n hf dX9_execute_123 rfl rfl ?_
        refine V_iconst hf dX9_execute_124 ?_
        refine V_iload_n hf dX9_execute_125 rfl rfl ?_
        refine V_imul hf dX9_execute_126 ?_
        refine B_callVv hf (As := [_]) ((hs k (by omega)).1) cv_X9_278 l01 rfl rfl rfl (Nat.le_of_ble_eq_true rfl) ⟨by decide, by decide, by decide, by decide⟩ dX9_execute_127 ?_
        refine V_aload_n hf dX9_execute_130 rfl rfl ?_
        refine B_get hf l01 rfl fl_X9_38_12 rfl dX9_execute_131 ?_
        refine V_if_le (tgt := 143) hf ((hc (k + 1) (by omega)).2 _ _ _ (by decide)) dX9_execute_134 (by decide) (fun h134 => ?_) (fun h134 => ?_)
        · have ek : k ≠ f := fun q => by subst q; omega
          refine V_iinc (ls2 := [_, _, _]) hf dX9_execute_143 (by decide) rfl rfl rfl ?_
          refine V_goto (tgt := 115) hf dX9_execute_146 (by decide) ?_
          have bk := ih (k + 1) (by omega) (by omega)
          rw [show ((k + 1 : Nat) : Int) = (k : Int) + 1 by omega] at bk
          exact bk
        · have ek : k = f := Classical.byContradiction fun q => absurd h134 (by have := hs2 k (by omega); omega)
          subst ek
          refine V_aload_n hf dX9_execute_137 rfl rfl ?_
          refine V_iload_n hf dX9_execute_138 rfl rfl ?_
          refine B_callVi hf (As := [_]) (hF2) cv_X9_281 l01 rfl rfl rfl (Nat.le_of_ble_eq_true rfl) ⟨by decide, by decide, by decide, by decide⟩ dX9_execute_139 ?_
          exact B_iret hf he rfl dX9_execute_142 (by decide) (by decide) (by first | rfl | omega) rfl
  refine V_aload_n hf dX9_execute_92 rfl rfl ?_
  refine B_get hf l01 rfl fl_X9_246_12 rfl dX9_execute_93 ?_
  refine V_if_eq (tgt := 113) hf (hRF _ _ _ (by decide)) dX9_execute_96 (by decide) (fun h96 => ?_) (fun h96 => ?_)
  · refine V_iconst hf dX9_execute_113 ?_
    refine V_istore_n (ls2 := [_, _, _]) hf dX9_execute_114 rfl (by decide) rfl rfl ?_
    refine V_fg (ls2 := [some _, none, some _]) ⟨rfl, rfl, trivial⟩ ?_
    rw [← ht]
    exact loop2 (f + 1) 0 (by omega) (by omega)
  · exact absurd h96 (by omega)
