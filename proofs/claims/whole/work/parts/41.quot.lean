/-! quotients, lines -/
theorem pk_charI {v : Int} (h0 : 0 ≤ v) (h1 : v < 65536) : narrow .char (.int (iN v)) = .int (iN v) := by
  have h := (pk_charN (q := v.toNat) (by omega)).1
  rw [← iN_nI h0] at h
  exact h
/-- the line that the reference writes of a ship -/
def lineH (ν : Int → Int) (s : Int) : List Int := dl s ++ [36] ++ dl (ν (14 + 2 * s)) ++ [40] ++ dl (mload ν s) ++ [47] ++ dl (mcap ν s) ++ [41]
noncomputable def lineB (ν : Int → Int) (s p : Int) : List Int := [32] ++ dl (mbarn ν s p) ++ [103] ++ dl (mgr ν (mbarn ν s p)) ++ (if mofferFor ν (mbarn ν s p) = -1 then [] else [33])
noncomputable def lineN (ν : Int → Int) (s : Int) : Nat → List Int
  | 0 => lineH ν s
  | n + 1 => lineN ν s n ++ lineB ν s (n : Int)
noncomputable def mlineM (σ : Mem) (s : Int) : Mem := putL (st3 (st3 σ 0 40 8 0) 0 40 17 0) (lineN (σ 0 41) s (mload (σ 0 41) s).toNat)
theorem lineH_r {ν : Int → Int} (hN : NI ν) {s : Int} (h0 : 0 ≤ s) (h1 : s < ν 0) : (lineH ν s).length ≤ 17 ∧ ∀ c ∈ lineH ν s, inR c := by
  have a1 := hN.sh s h0 h1
  have a2 := mload_r hN.n1 s
  have a3 := hN.n0
  have d1 := dl_len (v := s)
  have d2 := dl_len (v := ν (14 + 2 * s))
  have d3 := dl_len (v := mload ν s)
  have d4 := dl_len (v := mcap ν s)
  have a4 : mcap ν s ≤ 5 := a1.2.2
  constructor
  · unfold lineH
    simp only [List.length_append, List.length_cons, List.length_nil]
    omega
  · have k : ∀ z : Int, 0 ≤ z ∧ z ≤ 200 → ∀ c ∈ [z], inR c := fun z hz c hc => by
      rw [List.mem_singleton.mp hc]
      exact ⟨by omega, by omega⟩
    have j : ∀ L M : List Int, (∀ c ∈ L, inR c) → (∀ c ∈ M, inR c) → ∀ c ∈ L ++ M, inR c := fun L M hL hM c hc => (List.mem_append.mp hc).elim (hL c) (hM c)
    unfold lineH
    exact j _ _ (j _ _ (j _ _ (j _ _ (j _ _ (j _ _ (j _ _ (dl_R h0) (k 36 (by decide))) (dl_R (by omega))) (k 40 (by decide))) (dl_R (by omega))) (k 47 (by decide))) (dl_R (by show 0 ≤ ν (14 + 2 * s + 1); omega))) (k 41 (by decide))
theorem lineB_r {ν : Int → Int} (hN : NI ν) {s p : Int} (hp : mbarn ν s p ≠ -1) : (lineB ν s p).length ≤ 6 ∧ ∀ c ∈ lineB ν s p, inR c := by
  have r9 : -1 ≤ mbarn ν s p ∧ (mbarn ν s p < ν 1 ∨ mbarn ν s p = -1) := fst_r (P := fun b => ν (26 + 2 * b) = s ∧ sumI (mbaF ν s b) (ν 1) = p)
  have a1 := hN.ba (mbarn ν s p) (by omega) (by omega)
  have a3 := hN.n1
  have g1 : 1 ≤ mgr ν (mbarn ν s p) ∧ mgr ν (mbarn ν s p) ≤ 9 := a1.2
  have d1 := dl_len (v := mbarn ν s p)
  have d2 := dl_len (v := mgr ν (mbarn ν s p))
  constructor
  · unfold lineB
    simp only [List.length_append, List.length_cons, List.length_nil]
    split <;> simp only [List.length_cons, List.length_nil] <;> omega
  · have k : ∀ z : Int, 0 ≤ z ∧ z ≤ 200 → ∀ c ∈ [z], inR c := fun z hz c hc => by
      rw [List.mem_singleton.mp hc]
      exact ⟨by omega, by omega⟩
    have j : ∀ L M : List Int, (∀ c ∈ L, inR c) → (∀ c ∈ M, inR c) → ∀ c ∈ L ++ M, inR c := fun L M hL hM c hc => (List.mem_append.mp hc).elim (hL c) (hM c)
    unfold lineB
    exact j _ _ (j _ _ (j _ _ (j _ _ (k 32 (by decide)) (dl_R (by omega))) (k 103 (by decide))) (dl_R (by omega))) (by split <;> first | exact k 33 (by decide) | exact fun c hc => absurd hc List.not_mem_nil)
theorem lineN_r {ν : Int → Int} (hN : NI ν) {s : Int} (h0 : 0 ≤ s) (h1 : s < ν 0) : ∀ n : Nat, (∀ p : Int, 0 ≤ p → p < n → mbarn ν s p ≠ -1) → (lineN ν s n).length ≤ 17 + 6 * n ∧ ∀ c ∈ lineN ν s n, inR c
  | 0, _ => lineH_r hN h0 h1
  | n + 1, h => by
    have a := lineN_r hN h0 h1 n (fun p q1 q2 => h p q1 (by omega))
    have b := lineB_r hN (h n (by omega) (by omega))
    constructor
    · rw [lineN, List.length_append]
      omega
    · rw [lineN]
      exact fun c hc => (List.mem_append.mp hc).elim (a.2 c) (b.2 c)
set_option maxHeartbeats 4000000 in
set_option maxRecDepth 100000 in
theorem g_mean {l : Launch} {D : va_G} {K : Nat → ClassId} {ad : Adr} (hl0 : l.stackTraces = false) (σ : Mem) (hR : Rng σ) (hk : σ 0 41 8 ≠ 0) : Cb l D K ad yX9_meanPrice (.code yX9_meanPrice cX9_meanPrice 1 (some .double)) 6 0 0 σ [.ref (ad 0 40)] (.inl (some (.double (FP.ddiv (FP.i2d (iN (σ 0 41 9))) (FP.i2d (iN (σ 0 41 8))))))) (st3 σ 0 40 8 0) := by
  refine Cb.of (own := RX9) (ls0 := [some (.ref (ad 0 40))]) hl0 (by decide) rfl (Nat.le_of_ble_eq_true rfl) rfl ?_
  intro X hX1 hX2 hX3 hf he hh
  subst hX1 hX2 hX3
  have e41 : st3 σ 0 40 8 0 0 41 = σ 0 41 := by
    funext k
    exact st3_j (by decide)
  have hR1 : Rng (st3 σ 0 40 8 0) := hR.st ⟨by decide, by decide⟩
  have z8 := congrFun e41 8
  have z1 := congrFun e41 1
  have z3 := congrFun e41 3
  refine V_aload_n hf dX9_meanPrice_0 rfl rfl ?_
  refine V_iconst hf dX9_meanPrice_1 ?_
  refine B_putI (kI := 8) hf rfl l01 rfl fp_X9_38_12 rfl rfl (Nat.le_of_ble_eq_true rfl) (by decide) (cs_40_8 _ _ _ _ _) dX9_meanPrice_2 ?_
  refine V_aload_n hf dX9_meanPrice_5 rfl rfl ?_
  refine B_get hf l01 rfl fl_X9_9_12 rfl dX9_meanPrice_6 ?_
  refine V_bipush hf dX9_meanPrice_9 (by decide +kernel) ?_
  refine B_iald hf l01 (fun _ => rfl) (by first | exact hR _ _ _ (by decide) | exact ⟨by omega, by omega⟩ | exact Rng.st (Rng.st hR ⟨by decide, by decide⟩) ⟨by decide, by decide⟩ _ _ _ (by decide) | exact Rng.st hR ⟨by decide, by decide⟩ _ _ _ (by decide)) (by omega) (by omega) dX9_meanPrice_11 ?_
  refine V_if_ne (tgt := 23) hf (hR1 _ _ _ (by decide)) dX9_meanPrice_12 (by decide) (fun h12 => ?_) (fun h12 => ?_)
  · refine V_aload_n hf dX9_meanPrice_23 rfl rfl ?_
    refine B_get hf l01 rfl fl_X9_9_12 rfl dX9_meanPrice_24 ?_
    refine V_bipush hf dX9_meanPrice_27 (by decide +kernel) ?_
    refine B_iald hf l01 (fun _ => rfl) (by first | exact hR _ _ _ (by decide) | exact ⟨by omega, by omega⟩ | exact Rng.st (Rng.st hR ⟨by decide, by decide⟩) ⟨by decide, by decide⟩ _ _ _ (by decide) | exact Rng.st hR ⟨by decide, by decide⟩ _ _ _ (by decide)) (by omega) (by omega) dX9_meanPrice_29 ?_
    refine V_i2d hf dX9_meanPrice_30 ?_
    refine V_aload_n hf dX9_meanPrice_31 rfl rfl ?_
    refine B_get hf l01 rfl fl_X9_9_12 rfl dX9_meanPrice_32 ?_
    refine V_bipush hf dX9_meanPrice_35 (by decide +kernel) ?_
    refine B_iald hf l01 (fun _ => rfl) (by first | exact hR _ _ _ (by decide) | exact ⟨by omega, by omega⟩ | exact Rng.st (Rng.st hR ⟨by decide, by decide⟩) ⟨by decide, by decide⟩ _ _ _ (by decide) | exact Rng.st hR ⟨by decide, by decide⟩ _ _ _ (by decide)) (by omega) (by omega) dX9_meanPrice_37 ?_
    refine V_i2d hf dX9_meanPrice_38 ?_
    refine V_ddiv hf (div_n64 (by rw [iN_toInt (by first | exact hR _ _ _ (by decide) | exact hR1 _ _ _ (by decide))]; omega)) dX9_meanPrice_39 ?_
    exact B_dret hf he dX9_meanPrice_40 (by decide) (by decide) (by rw [e41]) rfl
  · exact absurd h12 (by first | omega | (split at h12 <;> omega))

set_option maxHeartbeats 4000000 in
set_option maxRecDepth 100000 in
theorem gx_mean {l : Launch} {D : va_G} {K : Nat → ClassId} {ad : Adr} (hl0 : l.stackTraces = false) (σ : Mem) (hR : Rng σ) (hk : σ 0 41 8 = 0) : Cb l D K ad yX9_meanPrice (.code yX9_meanPrice cX9_meanPrice 1 (some .double)) 6 0 0 σ [.ref (ad 0 40)] (.inl (some (.double FP.dconst0))) (thrM (st3 σ 0 40 8 0) 1) := by
  refine Cb.of (own := RX9) (ls0 := [some (.ref (ad 0 40))]) hl0 (by decide) rfl (Nat.le_of_ble_eq_true rfl) rfl ?_
  intro X hX1 hX2 hX3 hf he hh
  subst hX1 hX2 hX3
  have e41 : st3 σ 0 40 8 0 0 41 = σ 0 41 := by
    funext k
    exact st3_j (by decide)
  have hR1 : Rng (st3 σ 0 40 8 0) := hR.st ⟨by decide, by decide⟩
  have z8 := congrFun e41 8
  have z1 := congrFun e41 1
  have z3 := congrFun e41 3
  refine V_aload_n hf dX9_meanPrice_0 rfl rfl ?_
  refine V_iconst hf dX9_meanPrice_1 ?_
  refine B_putI (kI := 8) hf rfl l01 rfl fp_X9_38_12 rfl rfl (Nat.le_of_ble_eq_true rfl) (by decide) (cs_40_8 _ _ _ _ _) dX9_meanPrice_2 ?_
  refine V_aload_n hf dX9_meanPrice_5 rfl rfl ?_
  refine B_get hf l01 rfl fl_X9_9_12 rfl dX9_meanPrice_6 ?_
  refine V_bipush hf dX9_meanPrice_9 (by decide +kernel) ?_
  refine B_iald hf l01 (fun _ => rfl) (by first | exact hR _ _ _ (by decide) | exact ⟨by omega, by omega⟩ | exact Rng.st (Rng.st hR ⟨by decide, by decide⟩) ⟨by decide, by decide⟩ _ _ _ (by decide) | exact Rng.st hR ⟨by decide, by decide⟩ _ _ _ (by decide)) (by omega) (by omega) dX9_meanPrice_11 ?_
  refine V_if_ne (tgt := 23) hf (hR1 _ _ _ (by decide)) dX9_meanPrice_12 (by decide) (fun h12 => ?_) (fun h12 => ?_)
  · exact absurd h12 (by first | omega | (split at h12 <;> omega))
  · refine V_aload_n hf dX9_meanPrice_15 rfl rfl ?_
    refine V_iconst hf dX9_meanPrice_16 ?_
    refine B_callVi hf (As := [_]) (d_throwing hl0 (st3 σ 0 40 8 0) hR1 1) cv_X9_47 l01 rfl rfl rfl (Nat.le_of_ble_eq_true rfl) ⟨by decide, by decide, by decide, by decide⟩ dX9_meanPrice_17 ?_
    refine V_pop hf dX9_meanPrice_20 rfl ?_
    refine V_dconst0 hf dX9_meanPrice_21 ?_
    exact B_dret hf he dX9_meanPrice_22 (by decide) (by decide) rfl rfl

set_option maxHeartbeats 4000000 in
set_option maxRecDepth 100000 in
theorem g_share {l : Launch} {D : va_G} {K : Nat → ClassId} {ad : Adr} (hl0 : l.stackTraces = false) (σ : Mem) (hR : Rng σ) (hN : NI (σ 0 41)) (hk : σ 0 41 1 ≠ 0) : Cb l D K ad yX9_offeredShare (.code yX9_offeredShare cX9_offeredShare 1 (some .float)) 6 0 0 σ [.ref (ad 0 40)] (.inl (some (.float (FP.fdiv (FP.i2f (iN (σ 0 41 3))) (FP.i2f (iN (σ 0 41 1))))))) (st3 σ 0 40 8 0) := by
  refine Cb.of (own := RX9) (ls0 := [some (.ref (ad 0 40))]) hl0 (by decide) rfl (Nat.le_of_ble_eq_true rfl) rfl ?_
  intro X hX1 hX2 hX3 hf he hh
  subst hX1 hX2 hX3
  have e41 : st3 σ 0 40 8 0 0 41 = σ 0 41 := by
    funext k
    exact st3_j (by decide)
  have hR1 : Rng (st3 σ 0 40 8 0) := hR.st ⟨by decide, by decide⟩
  have z8 := congrFun e41 8
  have z1 := congrFun e41 1
  have z3 := congrFun e41 3
  have n1 := hN.n1
  have n3 := hN.n3
  refine V_aload_n hf dX9_offeredShare_0 rfl rfl ?_
  refine V_iconst hf dX9_offeredShare_1 ?_
  refine B_putI (kI := 8) hf rfl l01 rfl fp_X9_38_12 rfl rfl (Nat.le_of_ble_eq_true rfl) (by decide) (cs_40_8 _ _ _ _ _) dX9_offeredShare_2 ?_
  refine V_aload_n hf dX9_offeredShare_5 rfl rfl ?_
  refine B_get hf l01 rfl fl_X9_9_12 rfl dX9_offeredShare_6 ?_
  refine V_iconst hf dX9_offeredShare_9 ?_
  refine B_iald hf l01 (fun _ => rfl) (by first | exact hR _ _ _ (by decide) | exact ⟨by omega, by omega⟩ | exact Rng.st (Rng.st hR ⟨by decide, by decide⟩) ⟨by decide, by decide⟩ _ _ _ (by decide) | exact Rng.st hR ⟨by decide, by decide⟩ _ _ _ (by decide)) (by omega) (by omega) dX9_offeredShare_10 ?_
  refine V_if_ne (tgt := 22) hf (hR1 _ _ _ (by decide)) dX9_offeredShare_11 (by decide) (fun h11 => ?_) (fun h11 => ?_)
  · refine V_aload_n hf dX9_offeredShare_22 rfl rfl ?_
    refine B_get hf l01 rfl fl_X9_9_12 rfl dX9_offeredShare_23 ?_
    refine V_iconst hf dX9_offeredShare_26 ?_
    refine B_iald hf l01 (fun _ => rfl) (by first | exact hR _ _ _ (by decide) | exact ⟨by omega, by omega⟩ | exact Rng.st (Rng.st hR ⟨by decide, by decide⟩) ⟨by decide, by decide⟩ _ _ _ (by decide) | exact Rng.st hR ⟨by decide, by decide⟩ _ _ _ (by decide)) (by omega) (by omega) dX9_offeredShare_27 ?_
    refine V_i2f hf dX9_offeredShare_28 ?_
    refine V_aload_n hf dX9_offeredShare_29 rfl rfl ?_
    refine B_get hf l01 rfl fl_X9_9_12 rfl dX9_offeredShare_30 ?_
    refine V_iconst hf dX9_offeredShare_33 ?_
    refine B_iald hf l01 (fun _ => rfl) (by first | exact hR _ _ _ (by decide) | exact ⟨by omega, by omega⟩ | exact Rng.st (Rng.st hR ⟨by decide, by decide⟩) ⟨by decide, by decide⟩ _ _ _ (by decide) | exact Rng.st hR ⟨by decide, by decide⟩ _ _ _ (by decide)) (by omega) (by omega) dX9_offeredShare_34 ?_
    refine V_i2f hf dX9_offeredShare_35 ?_
    refine V_fdiv hf (n32_of (div_n32 (by rw [iN_toInt (hR1 _ _ _ (by decide))]; omega) (by rw [iN_toInt (hR1 _ _ _ (by decide))]; omega) (by rw [iN_toInt (hR1 _ _ _ (by decide))]; omega))) dX9_offeredShare_36 ?_
    exact B_fret hf he dX9_offeredShare_37 (by decide) (by decide) (by rw [e41]) rfl
  · exact absurd h11 (by first | omega | (split at h11 <;> omega))

set_option maxHeartbeats 4000000 in
set_option maxRecDepth 100000 in
theorem gx_share {l : Launch} {D : va_G} {K : Nat → ClassId} {ad : Adr} (hl0 : l.stackTraces = false) (σ : Mem) (hR : Rng σ) (hk : σ 0 41 1 = 0) : Cb l D K ad yX9_offeredShare (.code yX9_offeredShare cX9_offeredShare 1 (some .float)) 6 0 0 σ [.ref (ad 0 40)] (.inl (some (.float FP.fconst0))) (thrM (st3 σ 0 40 8 0) 1) := by
  refine Cb.of (own := RX9) (ls0 := [some (.ref (ad 0 40))]) hl0 (by decide) rfl (Nat.le_of_ble_eq_true rfl) rfl ?_
  intro X hX1 hX2 hX3 hf he hh
  subst hX1 hX2 hX3
  have e41 : st3 σ 0 40 8 0 0 41 = σ 0 41 := by
    funext k
    exact st3_j (by decide)
  have hR1 : Rng (st3 σ 0 40 8 0) := hR.st ⟨by decide, by decide⟩
  have z8 := congrFun e41 8
  have z1 := congrFun e41 1
  have z3 := congrFun e41 3
  refine V_aload_n hf dX9_offeredShare_0 rfl rfl ?_
  refine V_iconst hf dX9_offeredShare_1 ?_
  refine B_putI (kI := 8) hf rfl l01 rfl fp_X9_38_12 rfl rfl (Nat.le_of_ble_eq_true rfl) (by decide) (cs_40_8 _ _ _ _ _) dX9_offeredShare_2 ?_
  refine V_aload_n hf dX9_offeredShare_5 rfl rfl ?_
  refine B_get hf l01 rfl fl_X9_9_12 rfl dX9_offeredShare_6 ?_
  refine V_iconst hf dX9_offeredShare_9 ?_
  refine B_iald hf l01 (fun _ => rfl) (by first | exact hR _ _ _ (by decide) | exact ⟨by omega, by omega⟩ | exact Rng.st (Rng.st hR ⟨by decide, by decide⟩) ⟨by decide, by decide⟩ _ _ _ (by decide) | exact Rng.st hR ⟨by decide, by decide⟩ _ _ _ (by decide)) (by omega) (by omega) dX9_offeredShare_10 ?_
  refine V_if_ne (tgt := 22) hf (hR1 _ _ _ (by decide)) dX9_offeredShare_11 (by decide) (fun h11 => ?_) (fun h11 => ?_)
  · exact absurd h11 (by first | omega | (split at h11 <;> omega))
  · refine V_aload_n hf dX9_offeredShare_14 rfl rfl ?_
    refine V_iconst hf dX9_offeredShare_15 ?_
    refine B_callVi hf (As := [_]) (d_throwing hl0 (st3 σ 0 40 8 0) hR1 1) cv_X9_47 l01 rfl rfl rfl (Nat.le_of_ble_eq_true rfl) ⟨by decide, by decide, by decide, by decide⟩ dX9_offeredShare_16 ?_
    refine V_pop hf dX9_offeredShare_19 rfl ?_
    refine V_fconst0 hf dX9_offeredShare_20 ?_
    exact B_fret hf he dX9_offeredShare_21 (by decide) (by decide) rfl rfl

set_option maxHeartbeats 4000000 in
set_option maxRecDepth 100000 in
theorem c_mean {l : Launch} {D : va_G} {K : Nat → ClassId} {ad : Adr} (hl0 : l.stackTraces = false) (σ : Mem) (hR : Rng σ) (hk : σ 0 18 0 ≠ 0) : Cb l D K ad yX8_meanPrice (.code yX8_meanPrice cX8_meanPrice 2 (some .double)) 9 1 6 σ [.ref (ad 0 23)] (.inl (some (.double (FP.ddiv (FP.i2d (iN (σ 0 18 1))) (FP.i2d (iN (σ 0 18 0))))))) σ := by
  refine Cb.of (own := RX8) (ls0 := [some (.ref (ad 0 23)), none]) hl0 (by decide) rfl (Nat.le_of_ble_eq_true rfl) rfl ?_
  intro X hX1 hX2 hX3 hf he hh
  subst hX1 hX2 hX3
  refine V_aload_n hf dX8_meanPrice_0 rfl rfl ?_
  refine B_get hf l01 rfl fl_X8_10_11 rfl dX8_meanPrice_1 ?_
  refine B_get hf lm0 rfl fl_X8_177_7 rfl dX8_meanPrice_4 ?_
  refine B_get hf lm0 rfl fl_X8_193_10 rfl dX8_meanPrice_7 ?_
  refine V_istore_n (ls2 := [_, _]) hf dX8_meanPrice_10 rfl (by decide) rfl rfl ?_
  refine V_iload_n hf dX8_meanPrice_11 rfl rfl ?_
  refine V_if_ne (tgt := 25) hf (by first | exact hR _ _ _ (by decide) | exact ⟨by omega, by omega⟩ | exact Rng.st (Rng.st hR ⟨by decide, by decide⟩) ⟨by decide, by decide⟩ _ _ _ (by decide) | exact Rng.st hR ⟨by decide, by decide⟩ _ _ _ (by decide)) dX8_meanPrice_12 (by decide) (fun h12 => ?_) (fun h12 => ?_)
  · refine V_aload_n hf dX8_meanPrice_25 rfl rfl ?_
    refine B_get hf l01 rfl fl_X8_10_11 rfl dX8_meanPrice_26 ?_
    refine B_get hf lm0 rfl fl_X8_177_7 rfl dX8_meanPrice_29 ?_
    refine B_get hf lm0 rfl fl_X8_196_10 rfl dX8_meanPrice_32 ?_
    refine V_i2d hf dX8_meanPrice_35 ?_
    refine V_iload_n hf dX8_meanPrice_36 rfl rfl ?_
    refine V_i2d hf dX8_meanPrice_37 ?_
    refine V_ddiv hf (div_n64 (by rw [iN_toInt (hR _ _ _ (by decide))]; omega)) dX8_meanPrice_38 ?_
    exact B_dret hf he dX8_meanPrice_39 (by decide) (by decide) rfl rfl
  · exact absurd h12 (by first | omega | (split at h12 <;> omega))

set_option maxHeartbeats 4000000 in
set_option maxRecDepth 100000 in
theorem cx_mean {l : Launch} {D : va_G} {K : Nat → ClassId} {ad : Adr} (hl0 : l.stackTraces = false) (σ : Mem) (hR : Rng σ) (hk : σ 0 18 0 = 0) : Cb l D K ad yX8_meanPrice (.code yX8_meanPrice cX8_meanPrice 2 (some .double)) 9 1 6 σ [.ref (ad 0 23)] (.inr "java/lang/ArithmeticException") σ := by
  refine Cb.of (own := RX8) (ls0 := [some (.ref (ad 0 23)), none]) hl0 (by decide) rfl (Nat.le_of_ble_eq_true rfl) rfl ?_
  intro X hX1 hX2 hX3 hf he hh
  subst hX1 hX2 hX3
  refine V_aload_n hf dX8_meanPrice_0 rfl rfl ?_
  refine B_get hf l01 rfl fl_X8_10_11 rfl dX8_meanPrice_1 ?_
  refine B_get hf lm0 rfl fl_X8_177_7 rfl dX8_meanPrice_4 ?_
  refine B_get hf lm0 rfl fl_X8_193_10 rfl dX8_meanPrice_7 ?_
  refine V_istore_n (ls2 := [_, _]) hf dX8_meanPrice_10 rfl (by decide) rfl rfl ?_
  refine V_iload_n hf dX8_meanPrice_11 rfl rfl ?_
  refine V_if_ne (tgt := 25) hf (by first | exact hR _ _ _ (by decide) | exact ⟨by omega, by omega⟩ | exact Rng.st (Rng.st hR ⟨by decide, by decide⟩) ⟨by decide, by decide⟩ _ _ _ (by decide) | exact Rng.st hR ⟨by decide, by decide⟩ _ _ _ (by decide)) dX8_meanPrice_12 (by decide) (fun h12 => ?_) (fun h12 => ?_)
  · exact absurd h12 (by first | omega | (split at h12 <;> omega))
  · exact V_thr hf he hh (text := "there were no trades") (names := ["java/lang/RuntimeException", "java/lang/Exception"]) (by decide) (by decide) wk_X8_216 wx_ArithmeticException (by decide) (at_X8_220) dX8_meanPrice_15 dX8_meanPrice_18 dX8_meanPrice_19 dX8_meanPrice_21 dX8_meanPrice_24 ⟨by decide, (Nat.le_of_ble_eq_true rfl), by decide, by decide⟩ (by decide) (by decide) ⟨rfl, rfl, rfl⟩

set_option maxHeartbeats 4000000 in
set_option maxRecDepth 100000 in
theorem c_share {l : Launch} {D : va_G} {K : Nat → ClassId} {ad : Adr} (hl0 : l.stackTraces = false) (σ : Mem) (hR : Rng σ) (hM : MI (σ 0)) (hk : σ 0 1 3 ≠ 0) : Cb l D K ad yX8_offeredShare (.code yX8_offeredShare cX8_offeredShare 2 (some .float)) 9 1 6 σ [.ref (ad 0 23)] (.inl (some (.float (FP.fdiv (FP.i2f (iN (σ 0 12 0))) (FP.i2f (iN (σ 0 1 3))))))) σ := by
  refine Cb.of (own := RX8) (ls0 := [some (.ref (ad 0 23)), none]) hl0 (by decide) rfl (Nat.le_of_ble_eq_true rfl) rfl ?_
  intro X hX1 hX2 hX3 hf he hh
  subst hX1 hX2 hX3
  have h1 := hM.fl.2.1
  have h2 := hM.no
  refine V_aload_n hf dX8_offeredShare_0 rfl rfl ?_
  refine B_get hf l01 rfl fl_X8_10_11 rfl dX8_offeredShare_1 ?_
  refine B_get hf lm0 rfl fl_X8_64_7 rfl dX8_offeredShare_4 ?_
  refine B_get hf lm0 rfl fl_X8_111_5 rfl dX8_offeredShare_7 ?_
  refine V_istore_n (ls2 := [_, _]) hf dX8_offeredShare_10 rfl (by decide) rfl rfl ?_
  refine V_iload_n hf dX8_offeredShare_11 rfl rfl ?_
  refine V_if_ne (tgt := 25) hf (by first | exact hR _ _ _ (by decide) | exact ⟨by omega, by omega⟩ | exact Rng.st (Rng.st hR ⟨by decide, by decide⟩) ⟨by decide, by decide⟩ _ _ _ (by decide) | exact Rng.st hR ⟨by decide, by decide⟩ _ _ _ (by decide)) dX8_offeredShare_12 (by decide) (fun h12 => ?_) (fun h12 => ?_)
  · refine V_aload_n hf dX8_offeredShare_25 rfl rfl ?_
    refine B_get hf l01 rfl fl_X8_10_11 rfl dX8_offeredShare_26 ?_
    refine B_get hf lm0 rfl fl_X8_123_7 rfl dX8_offeredShare_29 ?_
    refine B_get hf lm0 rfl fl_X8_129_8 rfl dX8_offeredShare_32 ?_
    refine V_i2f hf dX8_offeredShare_35 ?_
    refine V_iload_n hf dX8_offeredShare_36 rfl rfl ?_
    refine V_i2f hf dX8_offeredShare_37 ?_
    refine V_fdiv hf (n32_of (div_n32 (by rw [iN_toInt (hR _ _ _ (by decide))]; omega) (by rw [iN_toInt (hR _ _ _ (by decide))]; omega) (by rw [iN_toInt (hR _ _ _ (by decide))]; omega))) dX8_offeredShare_38 ?_
    exact B_fret hf he dX8_offeredShare_39 (by decide) (by decide) rfl rfl
  · exact absurd h12 (by first | omega | (split at h12 <;> omega))

set_option maxHeartbeats 4000000 in
set_option maxRecDepth 100000 in
theorem cx_share {l : Launch} {D : va_G} {K : Nat → ClassId} {ad : Adr} (hl0 : l.stackTraces = false) (σ : Mem) (hR : Rng σ) (hk : σ 0 1 3 = 0) : Cb l D K ad yX8_offeredShare (.code yX8_offeredShare cX8_offeredShare 2 (some .float)) 9 1 6 σ [.ref (ad 0 23)] (.inr "java/lang/ArithmeticException") σ := by
  refine Cb.of (own := RX8) (ls0 := [some (.ref (ad 0 23)), none]) hl0 (by decide) rfl (Nat.le_of_ble_eq_true rfl) rfl ?_
  intro X hX1 hX2 hX3 hf he hh
  subst hX1 hX2 hX3
  refine V_aload_n hf dX8_offeredShare_0 rfl rfl ?_
  refine B_get hf l01 rfl fl_X8_10_11 rfl dX8_offeredShare_1 ?_
  refine B_get hf lm0 rfl fl_X8_64_7 rfl dX8_offeredShare_4 ?_
  refine B_get hf lm0 rfl fl_X8_111_5 rfl dX8_offeredShare_7 ?_
  refine V_istore_n (ls2 := [_, _]) hf dX8_offeredShare_10 rfl (by decide) rfl rfl ?_
  refine V_iload_n hf dX8_offeredShare_11 rfl rfl ?_
  refine V_if_ne (tgt := 25) hf (by first | exact hR _ _ _ (by decide) | exact ⟨by omega, by omega⟩ | exact Rng.st (Rng.st hR ⟨by decide, by decide⟩) ⟨by decide, by decide⟩ _ _ _ (by decide) | exact Rng.st hR ⟨by decide, by decide⟩ _ _ _ (by decide)) dX8_offeredShare_12 (by decide) (fun h12 => ?_) (fun h12 => ?_)
  · exact absurd h12 (by first | omega | (split at h12 <;> omega))
  · exact V_thr hf he hh (text := "there are no barnacles") (names := ["java/lang/RuntimeException", "java/lang/Exception"]) (by decide) (by decide) wk_X8_216 wx_ArithmeticException (by decide) (at_X8_220) dX8_offeredShare_15 dX8_offeredShare_18 dX8_offeredShare_19 dX8_offeredShare_21 dX8_offeredShare_24 ⟨by decide, (Nat.le_of_ble_eq_true rfl), by decide, by decide⟩ (by decide) (by decide) ⟨rfl, rfl, rfl⟩

set_option maxHeartbeats 4000000 in
set_option maxRecDepth 100000 in
theorem g_out {l : Launch} {D : va_G} {K : Nat → ClassId} {ad : Adr} (hl0 : l.stackTraces = false) (σ : Mem) (hR : Rng σ) (i : Int) (hi : inR i) (hl : 0 ≤ σ 0 40 17 ∧ σ 0 40 17 ≤ 160) (hk : 0 ≤ i ∧ i < σ 0 40 17) (hc : 0 ≤ σ 0 47 i ∧ σ 0 47 i < 65536) : Cb l D K ad yX9_outputAt (.code yX9_outputAt cX9_outputAt 2 (some .char)) 6 0 0 σ [.ref (ad 0 40), .int (iN i)] (.inl (some (.int (iN (σ 0 47 i))))) (st3 σ 0 40 8 0) := by
  refine Cb.of (own := RX9) (ls0 := [some (.ref (ad 0 40)), some (.int (iN i))]) hl0 (by decide) rfl (Nat.le_of_ble_eq_true rfl) rfl ?_
  intro X hX1 hX2 hX3 hf he hh
  subst hX1 hX2 hX3
  have y17 : st3 σ 0 40 8 0 0 40 17 = σ 0 40 17 := st3_k (by decide)
  have hR1 : Rng (st3 σ 0 40 8 0) := hR.st ⟨by decide, by decide⟩
  have e47 : st3 σ 0 40 8 0 0 47 i = σ 0 47 i := st3_j (by decide)
  refine V_aload_n hf dX9_outputAt_0 rfl rfl ?_
  refine V_iconst hf dX9_outputAt_1 ?_
  refine B_putI (kI := 8) hf rfl l01 rfl fp_X9_38_12 rfl rfl (Nat.le_of_ble_eq_true rfl) (by decide) (cs_40_8 _ _ _ _ _) dX9_outputAt_2 ?_
  refine V_iload_n hf dX9_outputAt_5 rfl rfl ?_
  refine V_i2l hf (by first | exact hR _ _ _ (by decide) | exact ⟨by omega, by omega⟩ | exact Rng.st (Rng.st hR ⟨by decide, by decide⟩) ⟨by decide, by decide⟩ _ _ _ (by decide) | exact Rng.st hR ⟨by decide, by decide⟩ _ _ _ (by decide)) dX9_outputAt_6 ?_
  refine V_lconst (a := 0) hf (by decide +kernel) dX9_outputAt_7 ?_
  refine V_aload_n hf dX9_outputAt_8 rfl rfl ?_
  refine B_get hf l01 rfl fl_X9_224_12 rfl dX9_outputAt_9 ?_
  refine V_iconst hf dX9_outputAt_12 ?_
  refine V_isub hf dX9_outputAt_13 ?_
  refine V_i2l hf ⟨by omega, by omega⟩ dX9_outputAt_14 ?_
  refine B_callSi hf (As := [_, _, _]) (d_in hl0 (st3 σ 0 40 8 0) i 0 (st3 σ 0 40 8 0 0 40 17 - 1) hi ⟨by decide, by decide⟩ ⟨by omega, by omega⟩) cvs_X9_63 rfl (Nat.le_of_ble_eq_true rfl) ⟨by decide, by decide, by decide, by decide⟩ dX9_outputAt_15 ?_
  refine V_if_eq (tgt := 31) hf (by split <;> exact ⟨by decide, by decide⟩) dX9_outputAt_18 (by decide) (fun h18 => ?_) (fun h18 => ?_)
  · exact absurd h18 (by first | omega | (split at h18 <;> omega))
  · refine V_aload_n hf dX9_outputAt_21 rfl rfl ?_
    refine B_get hf l01 rfl fl_X9_32_12 rfl dX9_outputAt_22 ?_
    refine V_iload_n hf dX9_outputAt_25 rfl rfl ?_
    refine B_iald hf l01 (fun _ => rfl) ⟨by omega, by omega⟩ (by omega) (by omega) dX9_outputAt_26 ?_
    refine V_i2c (b := st3 σ 0 40 8 0 0 47 i) hf (i2c_s (by omega) (by omega)) dX9_outputAt_27 ?_
    refine V_goto (tgt := 37) hf dX9_outputAt_28 (by decide) ?_
    exact B_iret hf he (pk_charI (by omega) (by omega)) dX9_outputAt_37 (by decide) (by decide) e47 rfl

set_option maxHeartbeats 4000000 in
set_option maxRecDepth 100000 in
theorem gx_out {l : Launch} {D : va_G} {K : Nat → ClassId} {ad : Adr} (hl0 : l.stackTraces = false) (σ : Mem) (hR : Rng σ) (i : Int) (hi : inR i) (hl : 0 ≤ σ 0 40 17 ∧ σ 0 40 17 ≤ 160) (hk : ¬ (0 ≤ i ∧ i < σ 0 40 17)) : Cb l D K ad yX9_outputAt (.code yX9_outputAt cX9_outputAt 2 (some .char)) 6 0 0 σ [.ref (ad 0 40), .int (iN i)] (.inl (some (.int (iN (65535))))) (thrM (st3 σ 0 40 8 0) 1) := by
  refine Cb.of (own := RX9) (ls0 := [some (.ref (ad 0 40)), some (.int (iN i))]) hl0 (by decide) rfl (Nat.le_of_ble_eq_true rfl) rfl ?_
  intro X hX1 hX2 hX3 hf he hh
  subst hX1 hX2 hX3
  have y17 : st3 σ 0 40 8 0 0 40 17 = σ 0 40 17 := st3_k (by decide)
  have hR1 : Rng (st3 σ 0 40 8 0) := hR.st ⟨by decide, by decide⟩
  have e47 : st3 σ 0 40 8 0 0 47 i = σ 0 47 i := st3_j (by decide)
  refine V_aload_n hf dX9_outputAt_0 rfl rfl ?_
  refine V_iconst hf dX9_outputAt_1 ?_
  refine B_putI (kI := 8) hf rfl l01 rfl fp_X9_38_12 rfl rfl (Nat.le_of_ble_eq_true rfl) (by decide) (cs_40_8 _ _ _ _ _) dX9_outputAt_2 ?_
  refine V_iload_n hf dX9_outputAt_5 rfl rfl ?_
  refine V_i2l hf (by first | exact hR _ _ _ (by decide) | exact ⟨by omega, by omega⟩ | exact Rng.st (Rng.st hR ⟨by decide, by decide⟩) ⟨by decide, by decide⟩ _ _ _ (by decide) | exact Rng.st hR ⟨by decide, by decide⟩ _ _ _ (by decide)) dX9_outputAt_6 ?_
  refine V_lconst (a := 0) hf (by decide +kernel) dX9_outputAt_7 ?_
  refine V_aload_n hf dX9_outputAt_8 rfl rfl ?_
  refine B_get hf l01 rfl fl_X9_224_12 rfl dX9_outputAt_9 ?_
  refine V_iconst hf dX9_outputAt_12 ?_
  refine V_isub hf dX9_outputAt_13 ?_
  refine V_i2l hf ⟨by omega, by omega⟩ dX9_outputAt_14 ?_
  refine B_callSi hf (As := [_, _, _]) (d_in hl0 (st3 σ 0 40 8 0) i 0 (st3 σ 0 40 8 0 0 40 17 - 1) hi ⟨by decide, by decide⟩ ⟨by omega, by omega⟩) cvs_X9_63 rfl (Nat.le_of_ble_eq_true rfl) ⟨by decide, by decide, by decide, by decide⟩ dX9_outputAt_15 ?_
  refine V_if_eq (tgt := 31) hf (by split <;> exact ⟨by decide, by decide⟩) dX9_outputAt_18 (by decide) (fun h18 => ?_) (fun h18 => ?_)
  · refine V_aload_n hf dX9_outputAt_31 rfl rfl ?_
    refine V_iconst hf dX9_outputAt_32 ?_
    refine B_callVi hf (As := [_]) (d_throwing hl0 (st3 σ 0 40 8 0) hR1 1) cv_X9_47 l01 rfl rfl rfl (Nat.le_of_ble_eq_true rfl) ⟨by decide, by decide, by decide, by decide⟩ dX9_outputAt_33 ?_
    refine V_i2c (b := 65535) hf (by decide +kernel) dX9_outputAt_36 ?_
    exact B_iret hf he (by decide +kernel) dX9_outputAt_37 (by decide) (by decide) rfl rfl
  · exact absurd h18 (by first | omega | (split at h18 <;> omega))
