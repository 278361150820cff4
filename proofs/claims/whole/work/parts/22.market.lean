/-! the market: what it reads, the auction -/
def MI (μ : MM) : Prop := FI μ ∧ (0 ≤ μ 6 0 ∧ μ 6 0 ≤ 10) ∧ (0 ≤ μ 12 0 ∧ μ 12 0 ≤ 16) ∧ (∀ k : Int, 0 ≤ k → k < μ 6 0 → (0 ≤ μ 8 k ∧ μ 8 k < μ 1 0) ∧ (1 ≤ μ 9 k ∧ μ 9 k ≤ 9) ∧ (1 ≤ μ 10 k ∧ μ 10 k ≤ 99) ∧ 0 ≤ μ 11 k ∧ μ 11 k ≤ 2) ∧ (∀ k : Int, 0 ≤ k → k < μ 12 0 → (0 ≤ μ 14 k ∧ μ 14 k < μ 1 3) ∧ (1 ≤ μ 15 k ∧ μ 15 k ≤ 9) ∧ (1 ≤ μ 16 k ∧ μ 16 k ≤ 99) ∧ 0 ≤ μ 17 k ∧ μ 17 k ≤ 2) ∧ ∀ k : Int, 0 ≤ k ∧ k < 10 → 0 ≤ μ 0 k ∧ μ 0 k ≤ 100000000
theorem MI.fl {μ : MM} (h : MI μ) : FI μ := h.1
theorem MI.nb {μ : MM} (h : MI μ) : 0 ≤ μ 6 0 ∧ μ 6 0 ≤ 10 := h.2.1
theorem MI.no {μ : MM} (h : MI μ) : 0 ≤ μ 12 0 ∧ μ 12 0 ≤ 16 := h.2.2.1
theorem MI.bo {μ : MM} (h : MI μ) : ∀ k : Int, 0 ≤ k → k < μ 6 0 → (0 ≤ μ 8 k ∧ μ 8 k < μ 1 0) ∧ (1 ≤ μ 9 k ∧ μ 9 k ≤ 9) ∧ (1 ≤ μ 10 k ∧ μ 10 k ≤ 99) ∧ 0 ≤ μ 11 k ∧ μ 11 k ≤ 2 := h.2.2.2.1
theorem MI.oo {μ : MM} (h : MI μ) : ∀ k : Int, 0 ≤ k → k < μ 12 0 → (0 ≤ μ 14 k ∧ μ 14 k < μ 1 3) ∧ (1 ≤ μ 15 k ∧ μ 15 k ≤ 9) ∧ (1 ≤ μ 16 k ∧ μ 16 k ≤ 99) ∧ 0 ≤ μ 17 k ∧ μ 17 k ≤ 2 := h.2.2.2.2.1
theorem MI.cr {μ : MM} (h : MI μ) : ∀ k : Int, 0 ≤ k ∧ k < 10 → 0 ≤ μ 0 k ∧ μ 0 k ≤ 100000000 := h.2.2.2.2.2
noncomputable def allI (P : Int → Prop) (n : Int) : Int := by
  classical exact if (∀ j : Int, 0 ≤ j → j < n → P j) then 1 else 0
theorem allI_yes {P : Int → Prop} {n : Int} (h : ∀ j : Int, 0 ≤ j → j < n → P j) : 1 = allI P n := by
  unfold allI
  rw [if_pos h]
theorem allI_no {P : Int → Prop} {n : Int} (h : ¬ ∀ j : Int, 0 ≤ j → j < n → P j) : 0 = allI P n := by
  unfold allI
  rw [if_neg h]
theorem allI_b (P : Int → Prop) (n : Int) : narrow .boolean (.int (iN (allI P n))) = .int (iN (allI P n)) := by
  unfold allI
  split <;> decide +kernel
def placesL (μ : MM) (s : Int) : Int := μ 3 s - loadOn μ s - countB μ 6 s
def coinsL (μ : MM) (s : Int) : Int := μ 2 s - psumB μ 6 s
abbrev fitP (μ : MM) (o b : Int) : Prop := μ 5 (μ 14 o) ≠ μ 8 b ∧ μ 9 b ≤ μ 15 o ∧ μ 16 o ≤ μ 10 b
noncomputable def matchO (μ : MM) (b : Int) : Int := fst (fun o => fitP μ o b) (μ 12 0)
abbrev oAhead (μ : MM) (r t : Int) : Prop := μ 16 r < μ 16 t ∨ (μ 16 r = μ 16 t ∧ (μ 15 r > μ 15 t ∨ (μ 15 r = μ 15 t ∧ μ 13 r < μ 13 t)))
noncomputable def bestStep (μ : MM) (b : Int) (r best : Int) : Int := if r ≠ -1 ∧ fitP μ r b ∧ (best = -1 ∨ oAhead μ r best) then r else best
noncomputable def bestN (μ : MM) (b : Int) : Nat → Int
  | 0 => -1
  | n + 1 => bestStep μ b (rowOwn μ 12 (n : Int)) (bestN μ b n)
noncomputable def bestAB (μ : MM) (b : Int) : Int := bestN μ b (μ 1 3).toNat
theorem bestN_s (μ : MM) (b : Int) {k : Int} (h : 0 ≤ k) : bestN μ b (k + 1).toNat = bestStep μ b (rowOwn μ 12 k) (bestN μ b k.toNat) := by
  rw [show (k + 1).toNat = k.toNat + 1 by omega, bestN, Int.toNat_of_nonneg h]
theorem matchO_r (μ : MM) (b : Int) : -1 ≤ matchO μ b ∧ (matchO μ b < μ 12 0 ∨ matchO μ b = -1) := by
  have h := fst_cases (fun o => fitP μ o b) (μ 12 0)
  change (matchO μ b = -1 ∧ _) ∨ (0 ≤ matchO μ b ∧ matchO μ b < μ 12 0 ∧ _) at h
  omega
theorem bestN_r (μ : MM) (b : Int) : ∀ n : Nat, -1 ≤ bestN μ b n ∧ (bestN μ b n < μ 12 0 ∨ bestN μ b n = -1)
  | 0 => by simp [bestN]
  | n + 1 => by
    have h1 := bestN_r μ b n
    have h2 := rowOwn_r μ 12 (n : Int)
    rw [bestN, bestStep]
    split
    · exact h2
    · exact h1
theorem countB_r {μ : MM} {p : Nat} (h : 0 ≤ μ p 0) (s : Int) : 0 ≤ countB μ p s ∧ countB μ p s ≤ μ p 0 := by
  have := sumI_le (f := ownF μ p s) (c := 1) h (fun k _ _ => by unfold ownF; split <;> omega)
  unfold countB
  omega
theorem psumB_r {μ : MM} (h : MI μ) (s : Int) : 0 ≤ psumB μ 6 s ∧ psumB μ 6 s ≤ 990 := by
  have := sumI_le (f := psF μ 6 s) (c := 99) h.nb.1 (fun k a b => by have h2 : 1 ≤ μ (6+4) k ∧ μ (6+4) k ≤ 99 := (h.bo k a b).2.2.1; unfold psF; split <;> omega)
  have h2 := h.nb
  unfold psumB
  omega
theorem shipCoins_r {μ : MM} (h : FI μ) : 0 ≤ shipCoins μ ∧ shipCoins μ ≤ 600000000 := by
  have := sumI_le (f := coinF μ) (c := 100000000) h.1.1 (fun k a b => by have h2 := h.2.2.1 k a b; unfold coinF; omega)
  have h2 := h.1
  unfold shipCoins
  omega
def cpLog (σ0 : Mem) (g h : Int) : Mem :=
  let σ1 := st3 σ0 g 18 0 (σ0 h 18 0)
  let σ2 := st3 σ1 g 18 1 (σ1 h 18 1)
  cpy (cpy (cpy (cpy σ2 h 19 0 g 19 0 10) h 20 0 g 20 0 10) h 21 0 g 21 0 10) h 22 0 g 22 0 10
def noteM (σ0 : Mem) (g y s k p : Int) : Mem :=
  let σ1 := cpy (cpy (cpy (cpy σ0 g 19 0 g 19 1 9) g 20 0 g 20 1 9) g 21 0 g 21 1 9) g 22 0 g 22 1 9
  let σ2 := st3 (st3 (st3 (st3 σ1 g 19 0 y) g 20 0 s) g 21 0 k) g 22 0 p
  let σ3 := st3 σ2 g 18 0 (σ2 g 18 0 + 1)
  st3 σ3 g 18 1 (σ3 g 18 1 + p)
def cpMarket (σ0 : Mem) (g h : Int) : Mem :=
  let σ1 := cpFleet σ0 g h
  let σ2 := cpBook σ1 g h 6
  let σ3 := cpBook σ2 g h 12
  let σ4 := cpLog σ3 g h
  let σ5 := st3 σ4 g 0 4 (σ4 h 0 4)
  let σ6 := st3 σ5 g 0 5 (σ5 h 0 5)
  let σ7 := st3 σ6 g 0 6 (σ6 h 0 6)
  let σ8 := st3 σ7 g 0 7 (σ7 h 0 7)
  st3 σ8 g 0 8 (σ8 h 0 8)
def tradeM4 (σ0 : Mem) (g b o : Int) : Mem :=
  let y := σ0 g 8 b
  let k := σ0 g 14 o
  let s := σ0 g 5 k
  let p := (σ0 g 10 b + σ0 g 16 o) / 2
  let x := if p < σ0 g 0 4 then p else σ0 g 0 4
  let σ1 := st3 σ0 g 2 y (σ0 g 2 y - p)
  let σ2 := st3 σ1 g 2 s (σ1 g 2 s + (p - x))
  let σ3 := st3 σ2 g 0 7 (σ2 g 0 7 + x)
  st3 σ3 g 5 k y
def tradeM (σ0 : Mem) (g b o : Int) : Mem :=
  let y := σ0 g 8 b
  let k := σ0 g 14 o
  let s := σ0 g 5 k
  let p := (σ0 g 10 b + σ0 g 16 o) / 2
  let x := if p < σ0 g 0 4 then p else σ0 g 0 4
  let σ1 := st3 σ0 g 2 y (σ0 g 2 y - p)
  let σ2 := st3 σ1 g 2 s (σ1 g 2 s + (p - x))
  let σ3 := st3 σ2 g 0 7 (σ2 g 0 7 + x)
  let σ4 := st3 σ3 g 5 k y
  noteM σ4 g y s k p
/-- a bid that finds an offer -/
noncomputable def aucStep (g : Int) (σ : Mem) (b : Int) : Mem := removeM (removeM (tradeM σ g b (matchO (σ g) b)) g 6 b) g 12 (matchO (σ g) b)
noncomputable def aucR (g : Int) : Nat → Mem → Int → Mem
  | 0, σ, _ => σ
  | n + 1, σ, b => if matchO (σ g) b = -1 then aucR g n σ (b + 1) else aucR g n (aucStep g σ b) b
/-- what the auction's steps want of the memories on the way -/
def aucOk (g : Int) : Nat → Mem → Int → Prop
  | 0, _, _ => True
  | n + 1, σ, b => (Rng σ ∧ MI (σ g) ∧ 0 ≤ b ∧ b < σ g 6 0) ∧ (if matchO (σ g) b = -1 then aucOk g n σ (b + 1) else Rng (tradeM4 σ g b (matchO (σ g) b)) ∧ Rng (tradeM σ g b (matchO (σ g) b)) ∧ aucOk g n (aucStep g σ b) b)
theorem noteM_0 {σ : Mem} {g y s k p : Int} {j : Nat} {i : Int} (h : j < 18) : noteM σ g y s k p g j i = σ g j i := by
  simp only [noteM, cpy, st3]
  repeat rw [if_neg (by omega)]
theorem tradeM_0 {σ : Mem} {g b o : Int} {j : Nat} {i : Int} (h : j < 18) (h2 : ¬ j = 2) (h5 : ¬ j = 5) (h0 : ¬ j = 0) : tradeM σ g b o g j i = σ g j i := by
  rw [tradeM]
  rw [noteM_0 h, st3_j h5, st3_j h0, st3_j h2, st3_j h2]
/-- growing older: a market's tide -/
noncomputable def tide1 (g : Int) (σ : Mem) : Mem := aucR g (σ g 6 0).toNat σ 0
noncomputable def tide2 (g : Int) (σ : Mem) : Mem := let σ1 := tide1 g σ; let q := growR g 6 (σ1 g 6 0).toNat σ1 0; st3 q.1 g 0 6 (σ1 g 0 6 + q.2)
noncomputable def tide3 (g : Int) (σ : Mem) : Mem := let σ1 := tide2 g σ; let q := growR g 12 (σ1 g 12 0).toNat σ1 0; st3 q.1 g 0 6 (σ1 g 0 6 + q.2)
noncomputable def tideM (g : Int) (σ : Mem) : Mem := let σ1 := tide3 g σ; st3 σ1 g 0 5 (σ1 g 0 5 + 1)
def vShip (μ : MM) (c k : Int) : Int := if (0 ≤ c ∧ c ≤ 99) ∧ 1 ≤ k ∧ k ≤ 5 then (if μ 1 0 ≥ 6 then 1 else 0) else -2
def vBarn (μ : MM) (s a : Int) : Int := if 0 ≤ s ∧ s < μ 1 0 then (if 1 ≤ a ∧ a ≤ 9 then (if μ 1 3 ≥ 16 then 2 else if placesL μ s < 1 then 3 else 0) else -2) else -1
def vGift (μ : MM) (s c : Int) : Int := if 0 ≤ s ∧ s < μ 1 0 then (if 1 ≤ c ∧ c ≤ 99 then 0 else -2) else -1
def vBid (μ : MM) (s a p : Int) : Int := if 0 ≤ s ∧ s < μ 1 0 then (if (1 ≤ a ∧ a ≤ 9) ∧ 1 ≤ p ∧ p ≤ 99 then (if μ 6 0 ≥ 10 then 4 else if placesL μ s < 1 then 3 else if coinsL μ s < p then 5 else 0) else -2) else -1
noncomputable def vOffer (μ : MM) (b p : Int) : Int := if 0 ≤ b ∧ b < μ 1 3 then (if 1 ≤ p ∧ p ≤ 99 then (if rowOwn μ 12 b = -1 then 0 else 6) else -2) else -1
set_option maxHeartbeats 4000000 in
set_option maxRecDepth 100000 in
theorem c_within {l : Launch} {D : va_G} {K : Nat → ClassId} {ad : Adr} (hl0 : l.stackTraces = false) (σ : Mem) (v a b : Int) (hv : inR v) (ha : inR a) (hb : inR b) : Cb l D K ad yX8_isWithin (.code yX8_isWithin cX8_isWithin 3 (some .boolean)) 1 0 0 σ [.int (iN v), .int (iN a), .int (iN b)] (.inl (some (.int (iN (if a ≤ v ∧ v ≤ b then 1 else 0))))) σ := by
  refine Cb.of (own := RX8) (ls0 := [some (.int (iN v)), some (.int (iN a)), some (.int (iN b))]) hl0 (by decide) rfl (Nat.le_of_ble_eq_true rfl) rfl ?_
  intro X hX1 hX2 hX3 hf he hh
  subst hX1 hX2 hX3
  refine V_iload_n hf dX8_isWithin_0 rfl rfl ?_
  refine V_iload_n hf dX8_isWithin_1 rfl rfl ?_
  refine V_icmp_lt (tgt := 14) hf (by first | exact hR _ _ _ (by decide) | exact ⟨by omega, by omega⟩) (by first | exact hR _ _ _ (by decide) | exact ⟨by omega, by omega⟩) dX8_isWithin_2 (by decide) (fun h2 => ?_) (fun h2 => ?_)
  · refine V_iconst hf dX8_isWithin_14 ?_
    exact B_iret hf he (nar_b _) dX8_isWithin_15 (by decide) (by decide) (by first | rfl | omega | (rw [if_pos (by omega)]) | (rw [if_neg (by omega)])) rfl
  · refine V_iload_n hf dX8_isWithin_5 rfl rfl ?_
    refine V_iload_n hf dX8_isWithin_6 rfl rfl ?_
    refine V_icmp_gt (tgt := 14) hf (by first | exact hR _ _ _ (by decide) | exact ⟨by omega, by omega⟩) (by first | exact hR _ _ _ (by decide) | exact ⟨by omega, by omega⟩) dX8_isWithin_7 (by decide) (fun h7 => ?_) (fun h7 => ?_)
    · refine V_iconst hf dX8_isWithin_14 ?_
      exact B_iret hf he (nar_b _) dX8_isWithin_15 (by decide) (by decide) (by first | rfl | omega | (rw [if_pos (by omega)]) | (rw [if_neg (by omega)])) rfl
    · refine V_iconst hf dX8_isWithin_10 ?_
      refine V_goto (tgt := 15) hf dX8_isWithin_11 (by decide) ?_
      exact B_iret hf he (nar_b _) dX8_isWithin_15 (by decide) (by decide) (by first | rfl | omega | (rw [if_pos (by omega)]) | (rw [if_neg (by omega)])) rfl

set_option maxHeartbeats 4000000 in
set_option maxRecDepth 100000 in
theorem c_copyLog {l : Launch} {D : va_G} {K : Nat → ClassId} {ad : Adr} (hl0 : l.stackTraces = false) (g : Int) (hg : 0 ≤ g ∧ g < 11) (σ : Mem) (hR : Rng σ) (h : Int) (hh9 : 0 ≤ h ∧ h < 11) : Cb l D K ad yX7_copyFrom (.code yX7_copyFrom cX7_copyFrom 2 none) 1 0 0 σ [.ref (ad g 18), .ref (ad h 18)] (.inl none) (cpLog σ g h) := by
  refine Cb.of (own := RX7) (ls0 := [some (.ref (ad g 18)), some (.ref (ad h 18))]) hl0 (by decide) rfl (Nat.le_of_ble_eq_true rfl) rfl ?_
  intro X hX1 hX2 hX3 hf he hh
  subst hX1 hX2 hX3
  refine V_aload_n hf dX7_copyFrom_0 rfl rfl ?_
  refine V_aload_n hf dX7_copyFrom_1 rfl rfl ?_
  refine B_get hf hh9 rfl fl_X7_7_10 rfl dX7_copyFrom_2 ?_
  refine B_putI (kI := 0) hf rfl hg rfl fp_X7_7_10 rfl rfl (Nat.le_of_ble_eq_true rfl) (by decide) (cs_18_0 _ _ _ _ _) dX7_copyFrom_5 ?_
  refine V_aload_n hf dX7_copyFrom_8 rfl rfl ?_
  refine V_aload_n hf dX7_copyFrom_9 rfl rfl ?_
  refine B_get hf hh9 rfl fl_X7_13_10 rfl dX7_copyFrom_10 ?_
  refine B_putI (kI := 1) hf rfl hg rfl fp_X7_13_10 rfl rfl (Nat.le_of_ble_eq_true rfl) (by decide) (cs_18_1 _ _ _ _ _) dX7_copyFrom_13 ?_
  refine V_aload_n hf dX7_copyFrom_16 rfl rfl ?_
  refine B_get hf hh9 rfl fl_X7_16_10 rfl dX7_copyFrom_17 ?_
  refine V_iconst hf dX7_copyFrom_20 ?_
  refine V_aload_n hf dX7_copyFrom_21 rfl rfl ?_
  refine B_get hf hg rfl fl_X7_16_10 rfl dX7_copyFrom_22 ?_
  refine V_iconst hf dX7_copyFrom_25 ?_
  refine V_bipush hf dX7_copyFrom_26 (by decide +kernel) ?_
  refine B_copyi hf hh9 hg (by decide) (fun _ => rfl) (fun _ => rfl) ⟨⟨by omega, by omega⟩, by omega⟩ ⟨⟨by omega, by omega⟩, by omega⟩ ⟨⟨by omega, by omega⟩, by omega⟩ (by omega) (by omega) wl_X7_29 ⟨by decide, (Nat.le_of_ble_eq_true rfl)⟩ dX7_copyFrom_28 ?_
  refine V_aload_n hf dX7_copyFrom_31 rfl rfl ?_
  refine B_get hf hh9 rfl fl_X7_20_10 rfl dX7_copyFrom_32 ?_
  refine V_iconst hf dX7_copyFrom_35 ?_
  refine V_aload_n hf dX7_copyFrom_36 rfl rfl ?_
  refine B_get hf hg rfl fl_X7_20_10 rfl dX7_copyFrom_37 ?_
  refine V_iconst hf dX7_copyFrom_40 ?_
  refine V_bipush hf dX7_copyFrom_41 (by decide +kernel) ?_
  refine B_copyi hf hh9 hg (by decide) (fun _ => rfl) (fun _ => rfl) ⟨⟨by omega, by omega⟩, by omega⟩ ⟨⟨by omega, by omega⟩, by omega⟩ ⟨⟨by omega, by omega⟩, by omega⟩ (by omega) (by omega) wl_X7_29 ⟨by decide, (Nat.le_of_ble_eq_true rfl)⟩ dX7_copyFrom_43 ?_
  refine V_aload_n hf dX7_copyFrom_46 rfl rfl ?_
  refine B_get hf hh9 rfl fl_X7_23_10 rfl dX7_copyFrom_47 ?_
  refine V_iconst hf dX7_copyFrom_50 ?_
  refine V_aload_n hf dX7_copyFrom_51 rfl rfl ?_
  refine B_get hf hg rfl fl_X7_23_10 rfl dX7_copyFrom_52 ?_
  refine V_iconst hf dX7_copyFrom_55 ?_
  refine V_bipush hf dX7_copyFrom_56 (by decide +kernel) ?_
  refine B_copyi hf hh9 hg (by decide) (fun _ => rfl) (fun _ => rfl) ⟨⟨by omega, by omega⟩, by omega⟩ ⟨⟨by omega, by omega⟩, by omega⟩ ⟨⟨by omega, by omega⟩, by omega⟩ (by omega) (by omega) wl_X7_29 ⟨by decide, (Nat.le_of_ble_eq_true rfl)⟩ dX7_copyFrom_58 ?_
  refine V_aload_n hf dX7_copyFrom_61 rfl rfl ?_
  refine B_get hf hh9 rfl fl_X7_26_10 rfl dX7_copyFrom_62 ?_
  refine V_iconst hf dX7_copyFrom_65 ?_
  refine V_aload_n hf dX7_copyFrom_66 rfl rfl ?_
  refine B_get hf hg rfl fl_X7_26_10 rfl dX7_copyFrom_67 ?_
  refine V_iconst hf dX7_copyFrom_70 ?_
  refine V_bipush hf dX7_copyFrom_71 (by decide +kernel) ?_
  refine B_copyi hf hh9 hg (by decide) (fun _ => rfl) (fun _ => rfl) ⟨⟨by omega, by omega⟩, by omega⟩ ⟨⟨by omega, by omega⟩, by omega⟩ ⟨⟨by omega, by omega⟩, by omega⟩ (by omega) (by omega) wl_X7_29 ⟨by decide, (Nat.le_of_ble_eq_true rfl)⟩ dX7_copyFrom_73 ?_
  exact B_vret hf he dX7_copyFrom_76 (by decide) (by decide) rfl

set_option maxHeartbeats 4000000 in
set_option maxRecDepth 100000 in
theorem c_holds {l : Launch} {D : va_G} {K : Nat → ClassId} {ad : Adr} (hl0 : l.stackTraces = false) (g : Int) (hg : 0 ≤ g ∧ g < 11) (σ : Mem) (hR : Rng σ) (i : Int) (hi : inR i) : Cb l D K ad yX7_holds (.code yX7_holds cX7_holds 2 (some .boolean)) 1 0 0 σ [.ref (ad g 18), .int (iN i)] (.inl (some (.int (iN (if 0 ≤ i ∧ i < 10 ∧ i < σ g 18 0 then 1 else 0))))) σ := by
  refine Cb.of (own := RX7) (ls0 := [some (.ref (ad g 18)), some (.int (iN i))]) hl0 (by decide) rfl (Nat.le_of_ble_eq_true rfl) rfl ?_
  intro X hX1 hX2 hX3 hf he hh
  subst hX1 hX2 hX3
  refine V_iload_n hf dX7_holds_0 rfl rfl ?_
  refine V_if_lt (tgt := 22) hf (by first | exact hR _ _ _ (by decide) | exact ⟨by omega, by omega⟩) dX7_holds_1 (by decide) (fun h1 => ?_) (fun h1 => ?_)
  · refine V_iconst hf dX7_holds_22 ?_
    exact B_iret hf he (nar_b _) dX7_holds_23 (by decide) (by decide) (by first | rfl | omega | (rw [if_pos (by omega)]) | (rw [if_neg (by omega)])) rfl
  · refine V_iload_n hf dX7_holds_4 rfl rfl ?_
    refine V_bipush hf dX7_holds_5 (by decide +kernel) ?_
    refine V_icmp_ge (tgt := 22) hf (by first | exact hR _ _ _ (by decide) | exact ⟨by omega, by omega⟩) (by first | exact hR _ _ _ (by decide) | exact ⟨by omega, by omega⟩) dX7_holds_7 (by decide) (fun h7 => ?_) (fun h7 => ?_)
    · refine V_iconst hf dX7_holds_22 ?_
      exact B_iret hf he (nar_b _) dX7_holds_23 (by decide) (by decide) (by first | rfl | omega | (rw [if_pos (by omega)]) | (rw [if_neg (by omega)])) rfl
    · refine V_iload_n hf dX7_holds_10 rfl rfl ?_
      refine V_aload_n hf dX7_holds_11 rfl rfl ?_
      refine B_get hf hg rfl fl_X7_7_10 rfl dX7_holds_12 ?_
      refine V_icmp_ge (tgt := 22) hf (by first | exact hR _ _ _ (by decide) | exact ⟨by omega, by omega⟩) (by first | exact hR _ _ _ (by decide) | exact ⟨by omega, by omega⟩) dX7_holds_15 (by decide) (fun h15 => ?_) (fun h15 => ?_)
      · refine V_iconst hf dX7_holds_22 ?_
        exact B_iret hf he (nar_b _) dX7_holds_23 (by decide) (by decide) (by first | rfl | omega | (rw [if_pos (by omega)]) | (rw [if_neg (by omega)])) rfl
      · refine V_iconst hf dX7_holds_18 ?_
        refine V_goto (tgt := 23) hf dX7_holds_19 (by decide) ?_
        exact B_iret hf he (nar_b _) dX7_holds_23 (by decide) (by decide) (by first | rfl | omega | (rw [if_pos (by omega)]) | (rw [if_neg (by omega)])) rfl

set_option maxHeartbeats 4000000 in
set_option maxRecDepth 100000 in
theorem c_note {l : Launch} {D : va_G} {K : Nat → ClassId} {ad : Adr} (hl0 : l.stackTraces = false) (g : Int) (hg : 0 ≤ g ∧ g < 11) (σ : Mem) (hR : Rng σ) (y s k p : Int) : Cb l D K ad yX7_note (.code yX7_note cX7_note 5 none) 1 0 0 σ [.ref (ad g 18), .int (iN y), .int (iN s), .int (iN k), .int (iN p)] (.inl none) (noteM σ g y s k p) := by
  refine Cb.of (own := RX7) (ls0 := [some (.ref (ad g 18)), some (.int (iN y)), some (.int (iN s)), some (.int (iN k)), some (.int (iN p))]) hl0 (by decide) rfl (Nat.le_of_ble_eq_true rfl) rfl ?_
  intro X hX1 hX2 hX3 hf he hh
  subst hX1 hX2 hX3
  refine V_aload_n hf dX7_note_0 rfl rfl ?_
  refine B_get hf hg rfl fl_X7_16_10 rfl dX7_note_1 ?_
  refine V_iconst hf dX7_note_4 ?_
  refine V_aload_n hf dX7_note_5 rfl rfl ?_
  refine B_get hf hg rfl fl_X7_16_10 rfl dX7_note_6 ?_
  refine V_iconst hf dX7_note_9 ?_
  refine V_bipush hf dX7_note_10 (by decide +kernel) ?_
  refine B_copyi hf hg hg (by decide) (fun _ => rfl) (fun _ => rfl) ⟨⟨by omega, by omega⟩, by omega⟩ ⟨⟨by omega, by omega⟩, by omega⟩ ⟨⟨by omega, by omega⟩, by omega⟩ (by omega) (by omega) wl_X7_29 ⟨by decide, (Nat.le_of_ble_eq_true rfl)⟩ dX7_note_12 ?_
  refine V_aload_n hf dX7_note_15 rfl rfl ?_
  refine B_get hf hg rfl fl_X7_20_10 rfl dX7_note_16 ?_
  refine V_iconst hf dX7_note_19 ?_
  refine V_aload_n hf dX7_note_20 rfl rfl ?_
  refine B_get hf hg rfl fl_X7_20_10 rfl dX7_note_21 ?_
  refine V_iconst hf dX7_note_24 ?_
  refine V_bipush hf dX7_note_25 (by decide +kernel) ?_
  refine B_copyi hf hg hg (by decide) (fun _ => rfl) (fun _ => rfl) ⟨⟨by omega, by omega⟩, by omega⟩ ⟨⟨by omega, by omega⟩, by omega⟩ ⟨⟨by omega, by omega⟩, by omega⟩ (by omega) (by omega) wl_X7_29 ⟨by decide, (Nat.le_of_ble_eq_true rfl)⟩ dX7_note_27 ?_
  refine V_aload_n hf dX7_note_30 rfl rfl ?_
  refine B_get hf hg rfl fl_X7_23_10 rfl dX7_note_31 ?_
  refine V_iconst hf dX7_note_34 ?_
  refine V_aload_n hf dX7_note_35 rfl rfl ?_
  refine B_get hf hg rfl fl_X7_23_10 rfl dX7_note_36 ?_
  refine V_iconst hf dX7_note_39 ?_
  refine V_bipush hf dX7_note_40 (by decide +kernel) ?_
  refine B_copyi hf hg hg (by decide) (fun _ => rfl) (fun _ => rfl) ⟨⟨by omega, by omega⟩, by omega⟩ ⟨⟨by omega, by omega⟩, by omega⟩ ⟨⟨by omega, by omega⟩, by omega⟩ (by omega) (by omega) wl_X7_29 ⟨by decide, (Nat.le_of_ble_eq_true rfl)⟩ dX7_note_42 ?_
  refine V_aload_n hf dX7_note_45 rfl rfl ?_
  refine B_get hf hg rfl fl_X7_26_10 rfl dX7_note_46 ?_
  refine V_iconst hf dX7_note_49 ?_
  refine V_aload_n hf dX7_note_50 rfl rfl ?_
  refine B_get hf hg rfl fl_X7_26_10 rfl dX7_note_51 ?_
  refine V_iconst hf dX7_note_54 ?_
  refine V_bipush hf dX7_note_55 (by decide +kernel) ?_
  refine B_copyi hf hg hg (by decide) (fun _ => rfl) (fun _ => rfl) ⟨⟨by omega, by omega⟩, by omega⟩ ⟨⟨by omega, by omega⟩, by omega⟩ ⟨⟨by omega, by omega⟩, by omega⟩ (by omega) (by omega) wl_X7_29 ⟨by decide, (Nat.le_of_ble_eq_true rfl)⟩ dX7_note_57 ?_
  refine V_aload_n hf dX7_note_60 rfl rfl ?_
  refine B_get hf hg rfl fl_X7_16_10 rfl dX7_note_61 ?_
  refine V_iconst hf dX7_note_64 ?_
  refine V_iload_n hf dX7_note_65 rfl rfl ?_
  refine B_iast hf hg (by decide) (fun _ => rfl) (by first | exact hR _ _ _ (by decide) | exact ⟨by omega, by omega⟩) (by omega) (by omega) dX7_note_66 ?_
  refine V_aload_n hf dX7_note_67 rfl rfl ?_
  refine B_get hf hg rfl fl_X7_20_10 rfl dX7_note_68 ?_
  refine V_iconst hf dX7_note_71 ?_
  refine V_iload_n hf dX7_note_72 rfl rfl ?_
  refine B_iast hf hg (by decide) (fun _ => rfl) (by first | exact hR _ _ _ (by decide) | exact ⟨by omega, by omega⟩) (by omega) (by omega) dX7_note_73 ?_
  refine V_aload_n hf dX7_note_74 rfl rfl ?_
  refine B_get hf hg rfl fl_X7_23_10 rfl dX7_note_75 ?_
  refine V_iconst hf dX7_note_78 ?_
  refine V_iload_n hf dX7_note_79 rfl rfl ?_
  refine B_iast hf hg (by decide) (fun _ => rfl) (by first | exact hR _ _ _ (by decide) | exact ⟨by omega, by omega⟩) (by omega) (by omega) dX7_note_80 ?_
  refine V_aload_n hf dX7_note_81 rfl rfl ?_
  refine B_get hf hg rfl fl_X7_26_10 rfl dX7_note_82 ?_
  refine V_iconst hf dX7_note_85 ?_
  refine V_iload hf dX7_note_86 rfl ?_
  refine B_iast hf hg (by decide) (fun _ => rfl) (by first | exact hR _ _ _ (by decide) | exact ⟨by omega, by omega⟩) (by omega) (by omega) dX7_note_88 ?_
  refine V_aload_n hf dX7_note_89 rfl rfl ?_
  refine V_dup hf dX7_note_90 rfl ?_
  refine B_get hf hg rfl fl_X7_7_10 rfl dX7_note_91 ?_
  refine V_iconst hf dX7_note_94 ?_
  refine V_iadd hf dX7_note_95 ?_
  refine B_putI (kI := 0) hf rfl hg rfl fp_X7_7_10 rfl rfl (Nat.le_of_ble_eq_true rfl) (by decide) (cs_18_0 _ _ _ _ _) dX7_note_96 ?_
  refine V_aload_n hf dX7_note_99 rfl rfl ?_
  refine V_dup hf dX7_note_100 rfl ?_
  refine B_get hf hg rfl fl_X7_13_10 rfl dX7_note_101 ?_
  refine V_iload hf dX7_note_104 rfl ?_
  refine V_iadd hf dX7_note_106 ?_
  refine B_putI (kI := 1) hf rfl hg rfl fp_X7_13_10 rfl rfl (Nat.le_of_ble_eq_true rfl) (by decide) (cs_18_1 _ _ _ _ _) dX7_note_107 ?_
  exact B_vret hf he dX7_note_110 (by decide) (by decide) rfl

set_option maxHeartbeats 4000000 in
set_option maxRecDepth 100000 in
theorem c_placesL {l : Launch} {D : va_G} {K : Nat → ClassId} {ad : Adr} (hl0 : l.stackTraces = false) (g : Int) (hg : 0 ≤ g ∧ g < 11) (σ : Mem) (hR : Rng σ) (hM : MI (σ g)) (s : Int) (hs : 0 ≤ s ∧ s < 6) : Cb l D K ad yX3_placesLeft (.code yX3_placesLeft cX3_placesLeft 2 (some .int)) 2 0 0 σ [.ref (ad g 0), .int (iN s)] (.inl (some (.int (iN (placesL (σ g) s))))) σ := by
  refine Cb.of (own := RX3) (ls0 := [some (.ref (ad g 0)), some (.int (iN s))]) hl0 (by decide) rfl (Nat.le_of_ble_eq_true rfl) rfl ?_
  intro X hX1 hX2 hX3 hf he hh
  subst hX1 hX2 hX3
  refine V_aload_n hf dX3_placesLeft_0 rfl rfl ?_
  refine B_get hf hg rfl fl_X3_12_7 rfl dX3_placesLeft_1 ?_
  refine B_get hf hg rfl fl_X3_143_5 rfl dX3_placesLeft_4 ?_
  refine V_iload_n hf dX3_placesLeft_7 rfl rfl ?_
  refine B_iald hf hg (fun _ => rfl) (by first | exact hR _ _ _ (by decide) | exact ⟨by omega, by omega⟩) (by omega) (by omega) dX3_placesLeft_8 ?_
  refine V_aload_n hf dX3_placesLeft_9 rfl rfl ?_
  refine B_get hf hg rfl fl_X3_12_7 rfl dX3_placesLeft_10 ?_
  refine V_iload_n hf dX3_placesLeft_13 rfl rfl ?_
  refine B_callVi hf (As := [_]) (c_loadOn hl0 g hg σ hR hM.fl.2.1 s ⟨by omega, by omega⟩) cv_X3_152 hg rfl rfl rfl (Nat.le_of_ble_eq_true rfl) ⟨by decide, by decide, by decide, by decide⟩ dX3_placesLeft_14 ?_
  refine V_isub hf dX3_placesLeft_17 ?_
  refine V_aload_n hf dX3_placesLeft_18 rfl rfl ?_
  refine B_get hf hg rfl fl_X3_21_7 rfl dX3_placesLeft_19 ?_
  refine V_iload_n hf dX3_placesLeft_22 rfl rfl ?_
  refine B_callUi hf (As := [_]) (c_countB hl0 g hg σ hR hM.nb s ⟨by omega, by omega⟩) cu_X3_155_4 hg rfl rfl rfl (Nat.le_of_ble_eq_true rfl) ⟨by decide, by decide, by decide, by decide⟩ dX3_placesLeft_23 ?_
  refine V_isub hf dX3_placesLeft_26 ?_
  exact B_iret hf he rfl dX3_placesLeft_27 (by decide) (by decide) (by first | rfl | omega | (rw [if_pos (by omega)]) | (rw [if_neg (by omega)])) rfl

set_option maxHeartbeats 4000000 in
set_option maxRecDepth 100000 in
theorem c_coinsL {l : Launch} {D : va_G} {K : Nat → ClassId} {ad : Adr} (hl0 : l.stackTraces = false) (g : Int) (hg : 0 ≤ g ∧ g < 11) (σ : Mem) (hR : Rng σ) (hM : MI (σ g)) (s : Int) (hs : 0 ≤ s ∧ s < 6) : Cb l D K ad yX3_coinsLeft (.code yX3_coinsLeft cX3_coinsLeft 2 (some .int)) 2 0 0 σ [.ref (ad g 0), .int (iN s)] (.inl (some (.int (iN (coinsL (σ g) s))))) σ := by
  refine Cb.of (own := RX3) (ls0 := [some (.ref (ad g 0)), some (.int (iN s))]) hl0 (by decide) rfl (Nat.le_of_ble_eq_true rfl) rfl ?_
  intro X hX1 hX2 hX3 hf he hh
  subst hX1 hX2 hX3
  refine V_aload_n hf dX3_coinsLeft_0 rfl rfl ?_
  refine B_get hf hg rfl fl_X3_12_7 rfl dX3_coinsLeft_1 ?_
  refine B_get hf hg rfl fl_X3_97_5 rfl dX3_coinsLeft_4 ?_
  refine V_iload_n hf dX3_coinsLeft_7 rfl rfl ?_
  refine B_iald hf hg (fun _ => rfl) (by first | exact hR _ _ _ (by decide) | exact ⟨by omega, by omega⟩) (by omega) (by omega) dX3_coinsLeft_8 ?_
  refine V_aload_n hf dX3_coinsLeft_9 rfl rfl ?_
  refine B_get hf hg rfl fl_X3_21_7 rfl dX3_coinsLeft_10 ?_
  refine V_iload_n hf dX3_coinsLeft_13 rfl rfl ?_
  refine B_callUi hf (As := [_]) (c_psumB hl0 g hg σ hR hM.nb s ⟨by omega, by omega⟩) cu_X3_158_4 hg rfl rfl rfl (Nat.le_of_ble_eq_true rfl) ⟨by decide, by decide, by decide, by decide⟩ dX3_coinsLeft_14 ?_
  refine V_isub hf dX3_coinsLeft_17 ?_
  exact B_iret hf he rfl dX3_coinsLeft_18 (by decide) (by decide) (by first | rfl | omega | (rw [if_pos (by omega)]) | (rw [if_neg (by omega)])) rfl

set_option maxHeartbeats 4000000 in
set_option maxRecDepth 100000 in
theorem c_coinSum {l : Launch} {D : va_G} {K : Nat → ClassId} {ad : Adr} (hl0 : l.stackTraces = false) (g : Int) (hg : 0 ≤ g ∧ g < 11) (σ : Mem) (hR : Rng σ) (hM : MI (σ g)) : Cb l D K ad yX3_coinSum (.code yX3_coinSum cX3_coinSum 1 (some .int)) 2 0 0 σ [.ref (ad g 0)] (.inl (some (.int (iN (shipCoins (σ g) + σ g 0 7))))) σ := by
  refine Cb.of (own := RX3) (ls0 := [some (.ref (ad g 0))]) hl0 (by decide) rfl (Nat.le_of_ble_eq_true rfl) rfl ?_
  intro X hX1 hX2 hX3 hf he hh
  subst hX1 hX2 hX3
  refine V_aload_n hf dX3_coinSum_0 rfl rfl ?_
  refine B_get hf hg rfl fl_X3_12_7 rfl dX3_coinSum_1 ?_
  refine B_callVi hf (As := []) (c_coinSumF hl0 g hg σ hR hM.fl) cv_X3_161 hg rfl rfl rfl (Nat.le_of_ble_eq_true rfl) ⟨by decide, by decide, by decide, by decide⟩ dX3_coinSum_4 ?_
  refine V_aload_n hf dX3_coinSum_7 rfl rfl ?_
  refine B_get hf hg rfl fl_X3_48_7 rfl dX3_coinSum_8 ?_
  refine V_iadd hf dX3_coinSum_11 ?_
  exact B_iret hf he rfl dX3_coinSum_12 (by decide) (by decide) (by first | rfl | omega | (rw [if_pos (by omega)]) | (rw [if_neg (by omega)])) rfl

set_option maxHeartbeats 4000000 in
set_option maxRecDepth 100000 in
theorem c_replace {l : Launch} {D : va_G} {K : Nat → ClassId} {ad : Adr} (hl0 : l.stackTraces = false) (g : Int) (hg : 0 ≤ g ∧ g < 11) (σ : Mem) (hR : Rng σ) (c : Int) : Cb l D K ad yX3_replaceCharge (.code yX3_replaceCharge cX3_replaceCharge 3 (some .int)) 1 0 0 σ [.ref (ad g 0), .int (iN c)] (.inl (some (.int (iN (σ g 0 4))))) (st3 σ g 0 4 c) := by
  refine Cb.of (own := RX3) (ls0 := [some (.ref (ad g 0)), some (.int (iN c)), none]) hl0 (by decide) rfl (Nat.le_of_ble_eq_true rfl) rfl ?_
  intro X hX1 hX2 hX3 hf he hh
  subst hX1 hX2 hX3
  refine V_aload_n hf dX3_replaceCharge_0 rfl rfl ?_
  refine B_get hf hg rfl fl_X3_38_7 rfl dX3_replaceCharge_1 ?_
  refine V_istore_n (ls2 := [_, _, _]) hf dX3_replaceCharge_4 rfl (by decide) rfl rfl ?_
  refine V_aload_n hf dX3_replaceCharge_5 rfl rfl ?_
  refine V_iload_n hf dX3_replaceCharge_6 rfl rfl ?_
  refine B_putI (kI := 4) hf rfl hg rfl fp_X3_38_7 rfl rfl (Nat.le_of_ble_eq_true rfl) (by decide) (cs_0_4 _ _ _ _ _) dX3_replaceCharge_7 ?_
  refine V_iload_n hf dX3_replaceCharge_10 rfl rfl ?_
  exact B_iret hf he rfl dX3_replaceCharge_11 (by decide) (by decide) (by first | rfl | omega | (rw [if_pos (by omega)]) | (rw [if_neg (by omega)])) rfl

set_option maxHeartbeats 4000000 in
set_option maxRecDepth 100000 in
theorem c_fits {l : Launch} {D : va_G} {K : Nat → ClassId} {ad : Adr} (hl0 : l.stackTraces = false) (g : Int) (hg : 0 ≤ g ∧ g < 11) (σ : Mem) (hR : Rng σ) (hM : MI (σ g)) (r b : Int) (hr : 0 ≤ r ∧ r < σ g 12 0) (hb : 0 ≤ b ∧ b < σ g 6 0) : Cb l D K ad yX3_fits (.code yX3_fits cX3_fits 4 (some .boolean)) 1 0 0 σ [.ref (ad g 0), .int (iN r), .int (iN b)] (.inl (some (.int (iN (if fitP (σ g) r b then 1 else 0))))) σ := by
  refine Cb.of (own := RX3) (ls0 := [some (.ref (ad g 0)), some (.int (iN r)), some (.int (iN b)), none]) hl0 (by decide) rfl (Nat.le_of_ble_eq_true rfl) rfl ?_
  intro X hX1 hX2 hX3 hf he hh
  subst hX1 hX2 hX3
  have h1 := hM.nb
  have h2 := hM.no
  have h3 := hM.oo r hr.1 hr.2
  have h4 := hM.fl.2.1
  refine V_aload_n hf dX3_fits_0 rfl rfl ?_
  refine B_get hf hg rfl fl_X3_12_7 rfl dX3_fits_1 ?_
  refine B_get hf hg rfl fl_X3_164_5 rfl dX3_fits_4 ?_
  refine V_aload_n hf dX3_fits_7 rfl rfl ?_
  refine B_get hf hg rfl fl_X3_28_7 rfl dX3_fits_8 ?_
  refine B_get hf hg rfl fl_X3_167_8 rfl dX3_fits_11 ?_
  refine V_iload_n hf dX3_fits_14 rfl rfl ?_
  refine B_iald hf hg (fun _ => rfl) (by first | exact hR _ _ _ (by decide) | exact ⟨by omega, by omega⟩) (by omega) (by omega) dX3_fits_15 ?_
  refine B_iald hf hg (fun _ => rfl) (by first | exact hR _ _ _ (by decide) | exact ⟨by omega, by omega⟩) (by omega) (by omega) dX3_fits_16 ?_
  refine V_istore_n (ls2 := [_, _, _, _]) hf dX3_fits_17 rfl (by decide) rfl rfl ?_
  refine V_iload_n hf dX3_fits_18 rfl rfl ?_
  refine V_aload_n hf dX3_fits_19 rfl rfl ?_
  refine B_get hf hg rfl fl_X3_21_7 rfl dX3_fits_20 ?_
  refine B_get hf hg rfl fl_X3_167_4 rfl dX3_fits_23 ?_
  refine V_iload_n hf dX3_fits_26 rfl rfl ?_
  refine B_iald hf hg (fun _ => rfl) (by first | exact hR _ _ _ (by decide) | exact ⟨by omega, by omega⟩) (by omega) (by omega) dX3_fits_27 ?_
  refine V_icmp_eq (tgt := 77) hf (by first | exact hR _ _ _ (by decide) | exact ⟨by omega, by omega⟩) (by first | exact hR _ _ _ (by decide) | exact ⟨by omega, by omega⟩) dX3_fits_28 (by decide) (fun h28 => ?_) (fun h28 => ?_)
  · refine V_iconst hf dX3_fits_77 ?_
    exact B_iret hf he (nar_b _) dX3_fits_78 (by decide) (by decide) (by first | rw [if_pos ⟨by omega, by omega, by omega⟩] | rw [if_neg (fun q => absurd q.1 (by omega))] | rw [if_neg (fun q => absurd q.2.1 (by omega))] | rw [if_neg (fun q => absurd q.2.2 (by omega))]) rfl
  · refine V_aload_n hf dX3_fits_31 rfl rfl ?_
    refine B_get hf hg rfl fl_X3_28_7 rfl dX3_fits_32 ?_
    refine B_get hf hg rfl fl_X3_170_8 rfl dX3_fits_35 ?_
    refine V_iload_n hf dX3_fits_38 rfl rfl ?_
    refine B_iald hf hg (fun _ => rfl) (by first | exact hR _ _ _ (by decide) | exact ⟨by omega, by omega⟩) (by omega) (by omega) dX3_fits_39 ?_
    refine V_aload_n hf dX3_fits_40 rfl rfl ?_
    refine B_get hf hg rfl fl_X3_21_7 rfl dX3_fits_41 ?_
    refine B_get hf hg rfl fl_X3_170_4 rfl dX3_fits_44 ?_
    refine V_iload_n hf dX3_fits_47 rfl rfl ?_
    refine B_iald hf hg (fun _ => rfl) (by first | exact hR _ _ _ (by decide) | exact ⟨by omega, by omega⟩) (by omega) (by omega) dX3_fits_48 ?_
    refine V_icmp_lt (tgt := 77) hf (by first | exact hR _ _ _ (by decide) | exact ⟨by omega, by omega⟩) (by first | exact hR _ _ _ (by decide) | exact ⟨by omega, by omega⟩) dX3_fits_49 (by decide) (fun h49 => ?_) (fun h49 => ?_)
    · refine V_iconst hf dX3_fits_77 ?_
      exact B_iret hf he (nar_b _) dX3_fits_78 (by decide) (by decide) (by first | rw [if_pos ⟨by omega, by omega, by omega⟩] | rw [if_neg (fun q => absurd q.1 (by omega))] | rw [if_neg (fun q => absurd q.2.1 (by omega))] | rw [if_neg (fun q => absurd q.2.2 (by omega))]) rfl
    · refine V_aload_n hf dX3_fits_52 rfl rfl ?_
      refine B_get hf hg rfl fl_X3_28_7 rfl dX3_fits_53 ?_
      refine B_get hf hg rfl fl_X3_171_8 rfl dX3_fits_56 ?_
      refine V_iload_n hf dX3_fits_59 rfl rfl ?_
      refine B_iald hf hg (fun _ => rfl) (by first | exact hR _ _ _ (by decide) | exact ⟨by omega, by omega⟩) (by omega) (by omega) dX3_fits_60 ?_
      refine V_aload_n hf dX3_fits_61 rfl rfl ?_
      refine B_get hf hg rfl fl_X3_21_7 rfl dX3_fits_62 ?_
      refine B_get hf hg rfl fl_X3_171_4 rfl dX3_fits_65 ?_
      refine V_iload_n hf dX3_fits_68 rfl rfl ?_
      refine B_iald hf hg (fun _ => rfl) (by first | exact hR _ _ _ (by decide) | exact ⟨by omega, by omega⟩) (by omega) (by omega) dX3_fits_69 ?_
      refine V_icmp_gt (tgt := 77) hf (by first | exact hR _ _ _ (by decide) | exact ⟨by omega, by omega⟩) (by first | exact hR _ _ _ (by decide) | exact ⟨by omega, by omega⟩) dX3_fits_70 (by decide) (fun h70 => ?_) (fun h70 => ?_)
      · refine V_iconst hf dX3_fits_77 ?_
        exact B_iret hf he (nar_b _) dX3_fits_78 (by decide) (by decide) (by first | rw [if_pos ⟨by omega, by omega, by omega⟩] | rw [if_neg (fun q => absurd q.1 (by omega))] | rw [if_neg (fun q => absurd q.2.1 (by omega))] | rw [if_neg (fun q => absurd q.2.2 (by omega))]) rfl
      · refine V_iconst hf dX3_fits_73 ?_
        refine V_goto (tgt := 78) hf dX3_fits_74 (by decide) ?_
        exact B_iret hf he (nar_b _) dX3_fits_78 (by decide) (by decide) (by first | rw [if_pos ⟨by omega, by omega, by omega⟩] | rw [if_neg (fun q => absurd q.1 (by omega))] | rw [if_neg (fun q => absurd q.2.1 (by omega))] | rw [if_neg (fun q => absurd q.2.2 (by omega))]) rfl

set_option maxHeartbeats 4000000 in
set_option maxRecDepth 100000 in
theorem c_oAhead {l : Launch} {D : va_G} {K : Nat → ClassId} {ad : Adr} (hl0 : l.stackTraces = false) (g : Int) (hg : 0 ≤ g ∧ g < 11) (σ : Mem) (hR : Rng σ) (hM : MI (σ g)) (r t : Int) (hr : 0 ≤ r ∧ r < σ g 12 0) (ht : 0 ≤ t ∧ t < σ g 12 0) : Cb l D K ad yX3_isOfferAhead (.code yX3_isOfferAhead cX3_isOfferAhead 3 (some .boolean)) 1 0 0 σ [.ref (ad g 0), .int (iN r), .int (iN t)] (.inl (some (.int (iN (if oAhead (σ g) r t then 1 else 0))))) σ := by
  refine Cb.of (own := RX3) (ls0 := [some (.ref (ad g 0)), some (.int (iN r)), some (.int (iN t))]) hl0 (by decide) rfl (Nat.le_of_ble_eq_true rfl) rfl ?_
  intro X hX1 hX2 hX3 hf he hh
  subst hX1 hX2 hX3
  have h2 := hM.no
  refine V_aload_n hf dX3_isOfferAhead_0 rfl rfl ?_
  refine B_get hf hg rfl fl_X3_28_7 rfl dX3_isOfferAhead_1 ?_
  refine B_get hf hg rfl fl_X3_171_8 rfl dX3_isOfferAhead_4 ?_
  refine V_iload_n hf dX3_isOfferAhead_7 rfl rfl ?_
  refine B_iald hf hg (fun _ => rfl) (by first | exact hR _ _ _ (by decide) | exact ⟨by omega, by omega⟩) (by omega) (by omega) dX3_isOfferAhead_8 ?_
  refine V_aload_n hf dX3_isOfferAhead_9 rfl rfl ?_
  refine B_get hf hg rfl fl_X3_28_7 rfl dX3_isOfferAhead_10 ?_
  refine B_get hf hg rfl fl_X3_171_8 rfl dX3_isOfferAhead_13 ?_
  refine V_iload_n hf dX3_isOfferAhead_16 rfl rfl ?_
  refine B_iald hf hg (fun _ => rfl) (by first | exact hR _ _ _ (by decide) | exact ⟨by omega, by omega⟩) (by omega) (by omega) dX3_isOfferAhead_17 ?_
  refine V_icmp_eq (tgt := 48) hf (by first | exact hR _ _ _ (by decide) | exact ⟨by omega, by omega⟩) (by first | exact hR _ _ _ (by decide) | exact ⟨by omega, by omega⟩) dX3_isOfferAhead_18 (by decide) (fun h18 => ?_) (fun h18 => ?_)
  · refine V_aload_n hf dX3_isOfferAhead_48 rfl rfl ?_
    refine B_get hf hg rfl fl_X3_28_7 rfl dX3_isOfferAhead_49 ?_
    refine B_get hf hg rfl fl_X3_170_8 rfl dX3_isOfferAhead_52 ?_
    refine V_iload_n hf dX3_isOfferAhead_55 rfl rfl ?_
    refine B_iald hf hg (fun _ => rfl) (by first | exact hR _ _ _ (by decide) | exact ⟨by omega, by omega⟩) (by omega) (by omega) dX3_isOfferAhead_56 ?_
    refine V_aload_n hf dX3_isOfferAhead_57 rfl rfl ?_
    refine B_get hf hg rfl fl_X3_28_7 rfl dX3_isOfferAhead_58 ?_
    refine B_get hf hg rfl fl_X3_170_8 rfl dX3_isOfferAhead_61 ?_
    refine V_iload_n hf dX3_isOfferAhead_64 rfl rfl ?_
    refine B_iald hf hg (fun _ => rfl) (by first | exact hR _ _ _ (by decide) | exact ⟨by omega, by omega⟩) (by omega) (by omega) dX3_isOfferAhead_65 ?_
    refine V_icmp_eq (tgt := 96) hf (by first | exact hR _ _ _ (by decide) | exact ⟨by omega, by omega⟩) (by first | exact hR _ _ _ (by decide) | exact ⟨by omega, by omega⟩) dX3_isOfferAhead_66 (by decide) (fun h66 => ?_) (fun h66 => ?_)
    · refine V_aload_n hf dX3_isOfferAhead_96 rfl rfl ?_
      refine B_get hf hg rfl fl_X3_28_7 rfl dX3_isOfferAhead_97 ?_
      refine B_get hf hg rfl fl_X3_146_8 rfl dX3_isOfferAhead_100 ?_
      refine V_iload_n hf dX3_isOfferAhead_103 rfl rfl ?_
      refine B_iald hf hg (fun _ => rfl) (by first | exact hR _ _ _ (by decide) | exact ⟨by omega, by omega⟩) (by omega) (by omega) dX3_isOfferAhead_104 ?_
      refine V_aload_n hf dX3_isOfferAhead_105 rfl rfl ?_
      refine B_get hf hg rfl fl_X3_28_7 rfl dX3_isOfferAhead_106 ?_
      refine B_get hf hg rfl fl_X3_146_8 rfl dX3_isOfferAhead_109 ?_
      refine V_iload_n hf dX3_isOfferAhead_112 rfl rfl ?_
      refine B_iald hf hg (fun _ => rfl) (by first | exact hR _ _ _ (by decide) | exact ⟨by omega, by omega⟩) (by omega) (by omega) dX3_isOfferAhead_113 ?_
      refine V_icmp_ge (tgt := 121) hf (by first | exact hR _ _ _ (by decide) | exact ⟨by omega, by omega⟩) (by first | exact hR _ _ _ (by decide) | exact ⟨by omega, by omega⟩) dX3_isOfferAhead_114 (by decide) (fun h114 => ?_) (fun h114 => ?_)
      · refine V_iconst hf dX3_isOfferAhead_121 ?_
        exact B_iret hf he (nar_b _) dX3_isOfferAhead_122 (by decide) (by decide) (by first | rw [if_pos (by show _ ∨ _; omega)] | rw [if_neg (by show ¬ (_ ∨ _); omega)]) rfl
      · refine V_iconst hf dX3_isOfferAhead_117 ?_
        refine V_goto (tgt := 122) hf dX3_isOfferAhead_118 (by decide) ?_
        exact B_iret hf he (nar_b _) dX3_isOfferAhead_122 (by decide) (by decide) (by first | rw [if_pos (by show _ ∨ _; omega)] | rw [if_neg (by show ¬ (_ ∨ _); omega)]) rfl
    · refine V_aload_n hf dX3_isOfferAhead_69 rfl rfl ?_
      refine B_get hf hg rfl fl_X3_28_7 rfl dX3_isOfferAhead_70 ?_
      refine B_get hf hg rfl fl_X3_170_8 rfl dX3_isOfferAhead_73 ?_
      refine V_iload_n hf dX3_isOfferAhead_76 rfl rfl ?_
      refine B_iald hf hg (fun _ => rfl) (by first | exact hR _ _ _ (by decide) | exact ⟨by omega, by omega⟩) (by omega) (by omega) dX3_isOfferAhead_77 ?_
      refine V_aload_n hf dX3_isOfferAhead_78 rfl rfl ?_
      refine B_get hf hg rfl fl_X3_28_7 rfl dX3_isOfferAhead_79 ?_
      refine B_get hf hg rfl fl_X3_170_8 rfl dX3_isOfferAhead_82 ?_
      refine V_iload_n hf dX3_isOfferAhead_85 rfl rfl ?_
      refine B_iald hf hg (fun _ => rfl) (by first | exact hR _ _ _ (by decide) | exact ⟨by omega, by omega⟩) (by omega) (by omega) dX3_isOfferAhead_86 ?_
      refine V_icmp_le (tgt := 94) hf (by first | exact hR _ _ _ (by decide) | exact ⟨by omega, by omega⟩) (by first | exact hR _ _ _ (by decide) | exact ⟨by omega, by omega⟩) dX3_isOfferAhead_87 (by decide) (fun h87 => ?_) (fun h87 => ?_)
      · refine V_iconst hf dX3_isOfferAhead_94 ?_
        exact B_iret hf he (nar_b _) dX3_isOfferAhead_95 (by decide) (by decide) (by first | rw [if_pos (by show _ ∨ _; omega)] | rw [if_neg (by show ¬ (_ ∨ _); omega)]) rfl
      · refine V_iconst hf dX3_isOfferAhead_90 ?_
        refine V_goto (tgt := 95) hf dX3_isOfferAhead_91 (by decide) ?_
        exact B_iret hf he (nar_b _) dX3_isOfferAhead_95 (by decide) (by decide) (by first | rw [if_pos (by show _ ∨ _; omega)] | rw [if_neg (by show ¬ (_ ∨ _); omega)]) rfl
  · refine V_aload_n hf dX3_isOfferAhead_21 rfl rfl ?_
    refine B_get hf hg rfl fl_X3_28_7 rfl dX3_isOfferAhead_22 ?_
    refine B_get hf hg rfl fl_X3_171_8 rfl dX3_isOfferAhead_25 ?_
    refine V_iload_n hf dX3_isOfferAhead_28 rfl rfl ?_
    refine B_iald hf hg (fun _ => rfl) (by first | exact hR _ _ _ (by decide) | exact ⟨by omega, by omega⟩) (by omega) (by omega) dX3_isOfferAhead_29 ?_
    refine V_aload_n hf dX3_isOfferAhead_30 rfl rfl ?_
    refine B_get hf hg rfl fl_X3_28_7 rfl dX3_isOfferAhead_31 ?_
    refine B_get hf hg rfl fl_X3_171_8 rfl dX3_isOfferAhead_34 ?_
    refine V_iload_n hf dX3_isOfferAhead_37 rfl rfl ?_
    refine B_iald hf hg (fun _ => rfl) (by first | exact hR _ _ _ (by decide) | exact ⟨by omega, by omega⟩) (by omega) (by omega) dX3_isOfferAhead_38 ?_
    refine V_icmp_ge (tgt := 46) hf (by first | exact hR _ _ _ (by decide) | exact ⟨by omega, by omega⟩) (by first | exact hR _ _ _ (by decide) | exact ⟨by omega, by omega⟩) dX3_isOfferAhead_39 (by decide) (fun h39 => ?_) (fun h39 => ?_)
    · refine V_iconst hf dX3_isOfferAhead_46 ?_
      exact B_iret hf he (nar_b _) dX3_isOfferAhead_47 (by decide) (by decide) (by first | rw [if_pos (by show _ ∨ _; omega)] | rw [if_neg (by show ¬ (_ ∨ _); omega)]) rfl
    · refine V_iconst hf dX3_isOfferAhead_42 ?_
      refine V_goto (tgt := 47) hf dX3_isOfferAhead_43 (by decide) ?_
      exact B_iret hf he (nar_b _) dX3_isOfferAhead_47 (by decide) (by decide) (by first | rw [if_pos (by show _ ∨ _; omega)] | rw [if_neg (by show ¬ (_ ∨ _); omega)]) rfl

set_option maxHeartbeats 4000000 in
set_option maxRecDepth 100000 in
theorem c_matchO {l : Launch} {D : va_G} {K : Nat → ClassId} {ad : Adr} (hl0 : l.stackTraces = false) (g : Int) (hg : 0 ≤ g ∧ g < 11) (σ : Mem) (hR : Rng σ) (hM : MI (σ g)) (b : Int) (hb : 0 ≤ b ∧ b < σ g 6 0) : Cb l D K ad yX3_matchInOrder (.code yX3_matchInOrder cX3_matchInOrder 3 (some .int)) 2 0 0 σ [.ref (ad g 0), .int (iN b)] (.inl (some (.int (iN (matchO (σ g) b))))) σ := by
  refine Cb.of (own := RX3) (ls0 := [some (.ref (ad g 0)), some (.int (iN b)), none]) hl0 (by decide) rfl (Nat.le_of_ble_eq_true rfl) rfl ?_
  intro X hX1 hX2 hX3 hf he hh
  subst hX1 hX2 hX3
  have hno := hM.no
  have loop : ∀ (n : Nat) (k : Int), 0 ≤ k → k ≤ σ g 12 0 → (∀ j : Int, 0 ≤ j → j < k → ¬ (fun r => fitP (σ g) r b) j) → (σ g 12 0 - k).toNat < n → B X ad σ 2 [some (.ref (ad g 0)), some (.int (iN (b))), some (.int (iN (k)))] [] 0 0 := by
    intro n
    induction n with
    | zero => intros; omega
    | succ n ih =>
      intro k hk0 hk1 hno2 hn
      refine V_iload_n hf dX3_matchInOrder_2 rfl rfl ?_
      refine V_aload_n hf dX3_matchInOrder_3 rfl rfl ?_
      refine B_get hf hg rfl fl_X3_28_7 rfl dX3_matchInOrder_4 ?_
      refine B_get hf hg rfl fl_X3_111_8 rfl dX3_matchInOrder_7 ?_
      refine V_icmp_ge (tgt := 30) hf (by first | exact hR _ _ _ (by decide) | exact ⟨by omega, by omega⟩) (by first | exact hR _ _ _ (by decide) | exact ⟨by omega, by omega⟩) dX3_matchInOrder_10 (by decide) (fun h10 => ?_) (fun h10 => ?_)
      · refine V_iconst hf dX3_matchInOrder_30 ?_
        exact B_iret hf he rfl dX3_matchInOrder_31 (by decide) (by decide) (fst_no (fun j h0 h1 => hno2 j h0 (by omega))).symm rfl
      · refine V_aload_n hf dX3_matchInOrder_13 rfl rfl ?_
        refine V_iload_n hf dX3_matchInOrder_14 rfl rfl ?_
        refine V_iload_n hf dX3_matchInOrder_15 rfl rfl ?_
        refine B_callVi hf (As := [_, _]) (c_fits hl0 g hg σ hR hM k b ⟨hk0, by omega⟩ hb) cv_X3_174 hg rfl rfl rfl (Nat.le_of_ble_eq_true rfl) ⟨by decide, by decide, by decide, by decide⟩ dX3_matchInOrder_16 ?_
        refine V_if_eq (tgt := 24) hf (by split <;> exact ⟨by omega, by omega⟩) dX3_matchInOrder_19 (by decide) (fun h19 => ?_) (fun h19 => ?_)
        · have hz : ¬ fitP (σ g) k b := fun q => by rw [if_pos q] at h19; omega
          refine V_iinc (ls2 := [_, _, _]) hf dX3_matchInOrder_24 (by decide) rfl rfl rfl ?_
          refine V_goto (tgt := 2) hf dX3_matchInOrder_27 (by decide) ?_
          refine ih (k + 1) (by omega) (by omega) (fun j h0 h1 => ?_) (by omega)
          by_cases hj : j = k
          · subst hj
            exact hz
          · exact hno2 j h0 (by omega)
        · have hz : fitP (σ g) k b := Classical.byContradiction fun q => h19 (if_neg q)
          refine V_iload_n hf dX3_matchInOrder_22 rfl rfl ?_
          exact B_iret hf he rfl dX3_matchInOrder_23 (by decide) (by decide) (fst_yes hk0 (by omega) hz hno2).symm rfl
  refine V_iconst hf dX3_matchInOrder_0 ?_
  refine V_istore_n (ls2 := [_, _, _]) hf dX3_matchInOrder_1 rfl (by decide) rfl rfl ?_
  exact loop ((σ g 12 0).toNat + 1) 0 (by omega) (by omega) (fun j h0 h1 => by omega) (by omega)

set_option maxHeartbeats 4000000 in
set_option maxRecDepth 100000 in
theorem c_bestAB {l : Launch} {D : va_G} {K : Nat → ClassId} {ad : Adr} (hl0 : l.stackTraces = false) (g : Int) (hg : 0 ≤ g ∧ g < 11) (σ : Mem) (hR : Rng σ) (hM : MI (σ g)) (b : Int) (hb : 0 ≤ b ∧ b < σ g 6 0) : Cb l D K ad yX3_matchAmongBarnacles (.code yX3_matchAmongBarnacles cX3_matchAmongBarnacles 5 (some .int)) 2 0 0 σ [.ref (ad g 0), .int (iN b)] (.inl (some (.int (iN (bestAB (σ g) b))))) σ := by
  refine Cb.of (own := RX3) (ls0 := [some (.ref (ad g 0)), some (.int (iN b)), none, none, none]) hl0 (by decide) rfl (Nat.le_of_ble_eq_true rfl) rfl ?_
  intro X hX1 hX2 hX3 hf he hh
  subst hX1 hX2 hX3
  have hno := hM.no
  have hn13 := hM.fl.2.1
  have loop : ∀ (n : Nat) (k : Int), 0 ≤ k → k ≤ σ g 1 3 → (σ g 1 3 - k).toNat < n → B X ad σ 4 [some (.ref (ad g 0)), some (.int (iN b)), some (.int (iN (bestN (σ g) b k.toNat))), some (.int (iN k)), none] [] 0 0 := by
    intro n
    induction n with
    | zero => intros; omega
    | succ n ih =>
      intro k hk0 hk1 hn
      refine V_iload_n hf dX3_matchAmongBarnacles_4 rfl rfl ?_
      refine V_aload_n hf dX3_matchAmongBarnacles_5 rfl rfl ?_
      refine B_get hf hg rfl fl_X3_12_7 rfl dX3_matchAmongBarnacles_6 ?_
      refine B_get hf hg rfl fl_X3_128_5 rfl dX3_matchAmongBarnacles_9 ?_
      refine V_icmp_ge (tgt := 65) hf (by first | exact hR _ _ _ (by decide) | exact ⟨by omega, by omega⟩) (by first | exact hR _ _ _ (by decide) | exact ⟨by omega, by omega⟩) dX3_matchAmongBarnacles_12 (by decide) (fun h12 => ?_) (fun h12 => ?_)
      · refine V_iload_n hf dX3_matchAmongBarnacles_65 rfl rfl ?_
        exact B_iret hf he rfl dX3_matchAmongBarnacles_66 (by decide) (by decide) (by rw [show k = σ g 1 3 by omega]; rfl) rfl
      · refine V_aload_n hf dX3_matchAmongBarnacles_15 rfl rfl ?_
        refine B_get hf hg rfl fl_X3_28_7 rfl dX3_matchAmongBarnacles_16 ?_
        refine V_iload_n hf dX3_matchAmongBarnacles_19 rfl rfl ?_
        refine B_callUi hf (As := [_]) (c_rowOwnO hl0 g hg σ hR hM.no k ⟨by omega, by omega⟩) cu_X3_140_8 hg rfl rfl rfl (Nat.le_of_ble_eq_true rfl) ⟨by decide, by decide, by decide, by decide⟩ dX3_matchAmongBarnacles_20 ?_
        have r1 := rowOwn_r (σ g) 12 k
        have r2 := bestN_r (σ g) b k.toNat
        refine V_istore (ls2 := [_, _, _, _, _]) hf dX3_matchAmongBarnacles_23 (by decide) rfl rfl ?_
        refine V_iload hf dX3_matchAmongBarnacles_25 rfl ?_
        refine V_iconst hf dX3_matchAmongBarnacles_27 ?_
        refine V_icmp_eq (tgt := 59) hf ⟨by omega, by omega⟩ ⟨by omega, by omega⟩ dX3_matchAmongBarnacles_28 (by decide) (fun h28 => ?_) (fun h28 => ?_)
        · have hz : ¬ (rowOwn (σ g) 12 k ≠ -1 ∧ fitP (σ g) (rowOwn (σ g) 12 k) b ∧ (bestN (σ g) b k.toNat = -1 ∨ oAhead (σ g) (rowOwn (σ g) 12 k) (bestN (σ g) b k.toNat))) := fun q => q.1 h28
          refine V_iinc (ls2 := [_, _, _, _, _]) hf dX3_matchAmongBarnacles_59 (by decide) rfl rfl rfl ?_
          refine V_goto (tgt := 4) hf dX3_matchAmongBarnacles_62 (by decide) ?_
          refine V_fg (ls2 := [some _, some _, some _, some _, none]) ⟨rfl, rfl, rfl, rfl, trivial⟩ ?_
          have bk := ih (k + 1) (by omega) (by omega) (by omega)
          rw [bestN_s (σ g) b hk0] at bk
          first | (rw [show bestStep (σ g) b (rowOwn (σ g) 12 k) (bestN (σ g) b k.toNat) = rowOwn (σ g) 12 k from if_pos hz] at bk; exact bk) | (rw [show bestStep (σ g) b (rowOwn (σ g) 12 k) (bestN (σ g) b k.toNat) = bestN (σ g) b k.toNat from if_neg hz] at bk; exact bk)
        · refine V_aload_n hf dX3_matchAmongBarnacles_31 rfl rfl ?_
          refine V_iload hf dX3_matchAmongBarnacles_32 rfl ?_
          refine V_iload_n hf dX3_matchAmongBarnacles_34 rfl rfl ?_
          refine B_callVi hf (As := [_, _]) (c_fits hl0 g hg σ hR hM (rowOwn (σ g) 12 k) b ⟨by omega, by omega⟩ hb) cv_X3_174 hg rfl rfl rfl (Nat.le_of_ble_eq_true rfl) ⟨by decide, by decide, by decide, by decide⟩ dX3_matchAmongBarnacles_35 ?_
          refine V_if_eq (tgt := 59) hf (by split <;> exact ⟨by omega, by omega⟩) dX3_matchAmongBarnacles_38 (by decide) (fun h38 => ?_) (fun h38 => ?_)
          · have hz : ¬ (rowOwn (σ g) 12 k ≠ -1 ∧ fitP (σ g) (rowOwn (σ g) 12 k) b ∧ (bestN (σ g) b k.toNat = -1 ∨ oAhead (σ g) (rowOwn (σ g) 12 k) (bestN (σ g) b k.toNat))) := fun q => by rw [if_pos q.2.1] at h38; omega
            refine V_iinc (ls2 := [_, _, _, _, _]) hf dX3_matchAmongBarnacles_59 (by decide) rfl rfl rfl ?_
            refine V_goto (tgt := 4) hf dX3_matchAmongBarnacles_62 (by decide) ?_
            refine V_fg (ls2 := [some _, some _, some _, some _, none]) ⟨rfl, rfl, rfl, rfl, trivial⟩ ?_
            have bk := ih (k + 1) (by omega) (by omega) (by omega)
            rw [bestN_s (σ g) b hk0] at bk
            first | (rw [show bestStep (σ g) b (rowOwn (σ g) 12 k) (bestN (σ g) b k.toNat) = rowOwn (σ g) 12 k from if_pos hz] at bk; exact bk) | (rw [show bestStep (σ g) b (rowOwn (σ g) 12 k) (bestN (σ g) b k.toNat) = bestN (σ g) b k.toNat from if_neg hz] at bk; exact bk)
          · have hq : fitP (σ g) (rowOwn (σ g) 12 k) b := Classical.byContradiction fun q => h38 (if_neg q)
            refine V_iload_n hf dX3_matchAmongBarnacles_41 rfl rfl ?_
            refine V_iconst hf dX3_matchAmongBarnacles_42 ?_
            refine V_icmp_eq (tgt := 56) hf ⟨by omega, by omega⟩ ⟨by omega, by omega⟩ dX3_matchAmongBarnacles_43 (by decide) (fun h43 => ?_) (fun h43 => ?_)
            · have hz : rowOwn (σ g) 12 k ≠ -1 ∧ fitP (σ g) (rowOwn (σ g) 12 k) b ∧ (bestN (σ g) b k.toNat = -1 ∨ oAhead (σ g) (rowOwn (σ g) 12 k) (bestN (σ g) b k.toNat)) := ⟨h28, hq, Or.inl h43⟩
              refine V_iload hf dX3_matchAmongBarnacles_56 rfl ?_
              refine V_istore_n (ls2 := [_, _, _, _, _]) hf dX3_matchAmongBarnacles_58 rfl (by decide) rfl rfl ?_
              refine V_iinc (ls2 := [_, _, _, _, _]) hf dX3_matchAmongBarnacles_59 (by decide) rfl rfl rfl ?_
              refine V_goto (tgt := 4) hf dX3_matchAmongBarnacles_62 (by decide) ?_
              refine V_fg (ls2 := [some _, some _, some _, some _, none]) ⟨rfl, rfl, rfl, rfl, trivial⟩ ?_
              have bk := ih (k + 1) (by omega) (by omega) (by omega)
              rw [bestN_s (σ g) b hk0] at bk
              first | (rw [show bestStep (σ g) b (rowOwn (σ g) 12 k) (bestN (σ g) b k.toNat) = rowOwn (σ g) 12 k from if_pos hz] at bk; exact bk) | (rw [show bestStep (σ g) b (rowOwn (σ g) 12 k) (bestN (σ g) b k.toNat) = bestN (σ g) b k.toNat from if_neg hz] at bk; exact bk)
            · refine V_aload_n hf dX3_matchAmongBarnacles_46 rfl rfl ?_
              refine V_iload hf dX3_matchAmongBarnacles_47 rfl ?_
              refine V_iload_n hf dX3_matchAmongBarnacles_49 rfl rfl ?_
              refine B_callVi hf (As := [_, _]) (c_oAhead hl0 g hg σ hR hM (rowOwn (σ g) 12 k) (bestN (σ g) b k.toNat) ⟨by omega, by omega⟩ ⟨by omega, by omega⟩) cv_X3_178 hg rfl rfl rfl (Nat.le_of_ble_eq_true rfl) ⟨by decide, by decide, by decide, by decide⟩ dX3_matchAmongBarnacles_50 ?_
              refine V_if_eq (tgt := 59) hf (by split <;> exact ⟨by omega, by omega⟩) dX3_matchAmongBarnacles_53 (by decide) (fun h53 => ?_) (fun h53 => ?_)
              · have hz : ¬ (rowOwn (σ g) 12 k ≠ -1 ∧ fitP (σ g) (rowOwn (σ g) 12 k) b ∧ (bestN (σ g) b k.toNat = -1 ∨ oAhead (σ g) (rowOwn (σ g) 12 k) (bestN (σ g) b k.toNat))) := fun q => by rw [if_pos (q.2.2.resolve_left h43)] at h53; omega
                refine V_iinc (ls2 := [_, _, _, _, _]) hf dX3_matchAmongBarnacles_59 (by decide) rfl rfl rfl ?_
                refine V_goto (tgt := 4) hf dX3_matchAmongBarnacles_62 (by decide) ?_
                refine V_fg (ls2 := [some _, some _, some _, some _, none]) ⟨rfl, rfl, rfl, rfl, trivial⟩ ?_
                have bk := ih (k + 1) (by omega) (by omega) (by omega)
                rw [bestN_s (σ g) b hk0] at bk
                first | (rw [show bestStep (σ g) b (rowOwn (σ g) 12 k) (bestN (σ g) b k.toNat) = rowOwn (σ g) 12 k from if_pos hz] at bk; exact bk) | (rw [show bestStep (σ g) b (rowOwn (σ g) 12 k) (bestN (σ g) b k.toNat) = bestN (σ g) b k.toNat from if_neg hz] at bk; exact bk)
              · have hz : rowOwn (σ g) 12 k ≠ -1 ∧ fitP (σ g) (rowOwn (σ g) 12 k) b ∧ (bestN (σ g) b k.toNat = -1 ∨ oAhead (σ g) (rowOwn (σ g) 12 k) (bestN (σ g) b k.toNat)) := ⟨h28, hq, Or.inr (Classical.byContradiction fun q => h53 (if_neg q))⟩
                refine V_iload hf dX3_matchAmongBarnacles_56 rfl ?_
                refine V_istore_n (ls2 := [_, _, _, _, _]) hf dX3_matchAmongBarnacles_58 rfl (by decide) rfl rfl ?_
                refine V_iinc (ls2 := [_, _, _, _, _]) hf dX3_matchAmongBarnacles_59 (by decide) rfl rfl rfl ?_
                refine V_goto (tgt := 4) hf dX3_matchAmongBarnacles_62 (by decide) ?_
                refine V_fg (ls2 := [some _, some _, some _, some _, none]) ⟨rfl, rfl, rfl, rfl, trivial⟩ ?_
                have bk := ih (k + 1) (by omega) (by omega) (by omega)
                rw [bestN_s (σ g) b hk0] at bk
                first | (rw [show bestStep (σ g) b (rowOwn (σ g) 12 k) (bestN (σ g) b k.toNat) = rowOwn (σ g) 12 k from if_pos hz] at bk; exact bk) | (rw [show bestStep (σ g) b (rowOwn (σ g) 12 k) (bestN (σ g) b k.toNat) = bestN (σ g) b k.toNat from if_neg hz] at bk; exact bk)
  refine V_iconst hf dX3_matchAmongBarnacles_0 ?_
  refine V_istore_n (ls2 := [_, _, _, _, _]) hf dX3_matchAmongBarnacles_1 rfl (by decide) rfl rfl ?_
  refine V_iconst hf dX3_matchAmongBarnacles_2 ?_
  refine V_istore_n (ls2 := [_, _, _, _, _]) hf dX3_matchAmongBarnacles_3 rfl (by decide) rfl rfl ?_
  exact loop ((σ g 1 3).toNat + 1) 0 (by omega) (by omega) (by omega)

set_option maxHeartbeats 4000000 in
set_option maxRecDepth 100000 in
theorem c_agree {l : Launch} {D : va_G} {K : Nat → ClassId} {ad : Adr} (hl0 : l.stackTraces = false) (g : Int) (hg : 0 ≤ g ∧ g < 11) (σ : Mem) (hR : Rng σ) (hM : MI (σ g)) : Cb l D K ad yX3_matchesAgree (.code yX3_matchesAgree cX3_matchesAgree 2 (some .boolean)) 3 0 0 σ [.ref (ad g 0)] (.inl (some (.int (iN (allI (fun b => matchO (σ g) b = bestAB (σ g) b) (σ g 6 0)))))) σ := by
  refine Cb.of (own := RX3) (ls0 := [some (.ref (ad g 0)), none]) hl0 (by decide) rfl (Nat.le_of_ble_eq_true rfl) rfl ?_
  intro X hX1 hX2 hX3 hf he hh
  subst hX1 hX2 hX3
  have h1 := hM.nb
  have h2 := hM.no
  have loop : ∀ (n : Nat) (k : Int), 0 ≤ k → k ≤ σ g 6 0 → (∀ j : Int, 0 ≤ j → j < k → (fun b => matchO (σ g) b = bestAB (σ g) b) j) → (σ g 6 0 - k).toNat < n → B X ad σ 2 [some (.ref (ad g 0)), some (.int (iN (k)))] [] 0 0 := by
    intro n
    induction n with
    | zero => intros; omega
    | succ n ih =>
      intro k hk0 hk1 hno hn
      refine V_iload_n hf dX3_matchesAgree_2 rfl rfl ?_
      refine V_aload_n hf dX3_matchesAgree_3 rfl rfl ?_
      refine B_get hf hg rfl fl_X3_21_7 rfl dX3_matchesAgree_4 ?_
      refine B_get hf hg rfl fl_X3_111_4 rfl dX3_matchesAgree_7 ?_
      refine V_icmp_ge (tgt := 34) hf (by first | exact hR _ _ _ (by decide) | exact ⟨by omega, by omega⟩) (by first | exact hR _ _ _ (by decide) | exact ⟨by omega, by omega⟩) dX3_matchesAgree_10 (by decide) (fun h10 => ?_) (fun h10 => ?_)
      · refine V_iconst hf dX3_matchesAgree_34 ?_
        exact B_iret hf he (allI_b _ _) dX3_matchesAgree_35 (by decide) (by decide) (allI_yes (fun j h0 h1 => hno j h0 (by omega))) rfl
      · refine V_aload_n hf dX3_matchesAgree_13 rfl rfl ?_
        refine V_iload_n hf dX3_matchesAgree_14 rfl rfl ?_
        refine B_callVi hf (As := [_]) (c_matchO hl0 g hg σ hR hM k ⟨hk0, by omega⟩) cv_X3_181 hg rfl rfl rfl (Nat.le_of_ble_eq_true rfl) ⟨by decide, by decide, by decide, by decide⟩ dX3_matchesAgree_15 ?_
        refine V_aload_n hf dX3_matchesAgree_18 rfl rfl ?_
        refine V_iload_n hf dX3_matchesAgree_19 rfl rfl ?_
        refine B_callVi hf (As := [_]) (c_bestAB hl0 g hg σ hR hM k ⟨hk0, by omega⟩) cv_X3_184 hg rfl rfl rfl (Nat.le_of_ble_eq_true rfl) ⟨by decide, by decide, by decide, by decide⟩ dX3_matchesAgree_20 ?_
        have r1 := matchO_r (σ g) k
        have r2 := bestN_r (σ g) k (σ g 1 3).toNat
        change -1 ≤ bestAB (σ g) k ∧ (bestAB (σ g) k < σ g 12 0 ∨ bestAB (σ g) k = -1) at r2
        refine V_icmp_eq (tgt := 28) hf ⟨by omega, by omega⟩ ⟨by omega, by omega⟩ dX3_matchesAgree_23 (by decide) (fun h23 => ?_) (fun h23 => ?_)
        · refine V_iinc (ls2 := [_, _]) hf dX3_matchesAgree_28 (by decide) rfl rfl rfl ?_
          refine V_goto (tgt := 2) hf dX3_matchesAgree_31 (by decide) ?_
          refine ih (k + 1) (by omega) (by omega) (fun j h0 h1 => ?_) (by omega)
          by_cases hj : j = k
          · subst hj
            exact (by omega)
          · exact hno j h0 (by omega)
        · refine V_iconst hf dX3_matchesAgree_26 ?_
          exact B_iret hf he (allI_b _ _) dX3_matchesAgree_27 (by decide) (by decide) (allI_no (fun q => absurd (q k hk0 (by omega)) (by omega))) rfl
  refine V_iconst hf dX3_matchesAgree_0 ?_
  refine V_istore_n (ls2 := [_, _]) hf dX3_matchesAgree_1 rfl (by decide) rfl rfl ?_
  exact loop ((σ g 6 0).toNat + 1) 0 (by omega) (by omega) (fun j h0 h1 => by omega) (by omega)

set_option maxHeartbeats 4000000 in
set_option maxRecDepth 100000 in
theorem c_keep {l : Launch} {D : va_G} {K : Nat → ClassId} {ad : Adr} (hl0 : l.stackTraces = false) (g : Int) (hg : 0 ≤ g ∧ g < 11) (σ : Mem) (hR : Rng σ) (hM : MI (σ g)) : Cb l D K ad yX3_shipsKeepReserves (.code yX3_shipsKeepReserves cX3_shipsKeepReserves 2 (some .boolean)) 3 0 0 σ [.ref (ad g 0)] (.inl (some (.int (iN (allI (fun s => 0 ≤ coinsL (σ g) s ∧ 0 ≤ placesL (σ g) s) (σ g 1 0)))))) σ := by
  refine Cb.of (own := RX3) (ls0 := [some (.ref (ad g 0)), none]) hl0 (by decide) rfl (Nat.le_of_ble_eq_true rfl) rfl ?_
  intro X hX1 hX2 hX3 hf he hh
  subst hX1 hX2 hX3
  have h1 := hM.fl.1
  have loop : ∀ (n : Nat) (k : Int), 0 ≤ k → k ≤ σ g 1 0 → (∀ j : Int, 0 ≤ j → j < k → (fun s => 0 ≤ coinsL (σ g) s ∧ 0 ≤ placesL (σ g) s) j) → (σ g 1 0 - k).toNat < n → B X ad σ 2 [some (.ref (ad g 0)), some (.int (iN (k)))] [] 0 0 := by
    intro n
    induction n with
    | zero => intros; omega
    | succ n ih =>
      intro k hk0 hk1 hno hn
      refine V_iload_n hf dX3_shipsKeepReserves_2 rfl rfl ?_
      refine V_aload_n hf dX3_shipsKeepReserves_3 rfl rfl ?_
      refine B_get hf hg rfl fl_X3_12_7 rfl dX3_shipsKeepReserves_4 ?_
      refine B_get hf hg rfl fl_X3_121_5 rfl dX3_shipsKeepReserves_7 ?_
      refine V_icmp_ge (tgt := 37) hf (by first | exact hR _ _ _ (by decide) | exact ⟨by omega, by omega⟩) (by first | exact hR _ _ _ (by decide) | exact ⟨by omega, by omega⟩) dX3_shipsKeepReserves_10 (by decide) (fun h10 => ?_) (fun h10 => ?_)
      · refine V_iconst hf dX3_shipsKeepReserves_37 ?_
        exact B_iret hf he (allI_b _ _) dX3_shipsKeepReserves_38 (by decide) (by decide) (allI_yes (fun j h0 h1 => hno j h0 (by omega))) rfl
      · refine V_aload_n hf dX3_shipsKeepReserves_13 rfl rfl ?_
        refine V_iload_n hf dX3_shipsKeepReserves_14 rfl rfl ?_
        refine B_callVi hf (As := [_]) (c_coinsL hl0 g hg σ hR hM k ⟨hk0, by omega⟩) cv_X3_134 hg rfl rfl rfl (Nat.le_of_ble_eq_true rfl) ⟨by decide, by decide, by decide, by decide⟩ dX3_shipsKeepReserves_15 ?_
        refine V_if_lt (tgt := 29) hf (by have := psumB_r hM k; have := hM.fl.2.2.1 k hk0 (by omega); unfold coinsL; exact ⟨by omega, by omega⟩) dX3_shipsKeepReserves_18 (by decide) (fun h18 => ?_) (fun h18 => ?_)
        · refine V_iconst hf dX3_shipsKeepReserves_29 ?_
          exact B_iret hf he (allI_b _ _) dX3_shipsKeepReserves_30 (by decide) (by decide) (allI_no (fun q => absurd (q k hk0 (by omega)) (by omega))) rfl
        · refine V_aload_n hf dX3_shipsKeepReserves_21 rfl rfl ?_
          refine V_iload_n hf dX3_shipsKeepReserves_22 rfl rfl ?_
          refine B_callVi hf (As := [_]) (c_placesL hl0 g hg σ hR hM k ⟨hk0, by omega⟩) cv_X3_131 hg rfl rfl rfl (Nat.le_of_ble_eq_true rfl) ⟨by decide, by decide, by decide, by decide⟩ dX3_shipsKeepReserves_23 ?_
          refine V_if_ge (tgt := 31) hf (by have := countB_r hM.nb.1 k; have := loadOn_r hM.fl.2.1 k; have := hM.fl.2.2.1 k hk0 (by omega); have := hM.nb; unfold placesL; exact ⟨by omega, by omega⟩) dX3_shipsKeepReserves_26 (by decide) (fun h26 => ?_) (fun h26 => ?_)
          · refine V_iinc (ls2 := [_, _]) hf dX3_shipsKeepReserves_31 (by decide) rfl rfl rfl ?_
            refine V_goto (tgt := 2) hf dX3_shipsKeepReserves_34 (by decide) ?_
            refine ih (k + 1) (by omega) (by omega) (fun j h0 h1 => ?_) (by omega)
            by_cases hj : j = k
            · subst hj
              exact ⟨by omega, by omega⟩
            · exact hno j h0 (by omega)
          · refine V_iconst hf dX3_shipsKeepReserves_29 ?_
            exact B_iret hf he (allI_b _ _) dX3_shipsKeepReserves_30 (by decide) (by decide) (allI_no (fun q => absurd (q k hk0 (by omega)) (by omega))) rfl
  refine V_iconst hf dX3_shipsKeepReserves_0 ?_
  refine V_istore_n (ls2 := [_, _]) hf dX3_shipsKeepReserves_1 rfl (by decide) rfl rfl ?_
  exact loop ((σ g 1 0).toNat + 1) 0 (by omega) (by omega) (fun j h0 h1 => by omega) (by omega)

theorem cpFleet_g {σ : Mem} {g h : Int} (hgh : ¬ h = g) : cpFleet σ g h h = σ h := by
  funext j k
  simp [cpFleet, cpy, st3, hgh]
theorem cpBook_g {σ : Mem} {g h : Int} {p : Nat} (hgh : ¬ h = g) : cpBook σ g h p h = σ h := by
  funext j k
  simp [cpBook, cpy, st3, hgh]
theorem cpLog_g {σ : Mem} {g h : Int} (hgh : ¬ h = g) : cpLog σ g h h = σ h := by
  funext j k
  simp [cpLog, cpy, st3, hgh]
theorem cpMarket_g {σ : Mem} {g h : Int} (hgh : ¬ h = g) : cpMarket σ g h h = σ h := by
  funext j k
  simp [cpMarket, st3, hgh, cpLog_g hgh, cpBook_g hgh, cpFleet_g hgh]
theorem cpFleet_o {σ : Mem} {g h i : Int} (hgi : ¬ i = g) : cpFleet σ g h i = σ i := by
  funext j k
  simp [cpFleet, cpy, st3, hgi]
theorem cpBook_o {σ : Mem} {g h i : Int} {p : Nat} (hgi : ¬ i = g) : cpBook σ g h p i = σ i := by
  funext j k
  simp [cpBook, cpy, st3, hgi]
theorem cpLog_o {σ : Mem} {g h i : Int} (hgi : ¬ i = g) : cpLog σ g h i = σ i := by
  funext j k
  simp [cpLog, cpy, st3, hgi]
theorem cpMarket_o {σ : Mem} {g h i : Int} (hgi : ¬ i = g) : cpMarket σ g h i = σ i := by
  funext j k
  simp [cpMarket, st3, hgi, cpLog_o hgi, cpBook_o hgi, cpFleet_o hgi]
theorem cpFleet_R {σ : Mem} (h : Rng σ) {g k : Int} : Rng (cpFleet σ g k) := by
  have h1 := h.st (g := g) (j := 1) (k := 0) (h k 1 0 (by decide))
  have h3 := ((h1.cpy (g1 := k) (j1 := 2) (sp := 0) (g2 := g) (j2 := 2) (dp := 0) (n := 6) (by decide)).cpy (g1 := k) (j1 := 3) (sp := 0) (g2 := g) (j2 := 3) (dp := 0) (n := 6) (by decide))
  exact (((h3.st (g := g) (j := 1) (k := 3) (h3 k 1 3 (by decide))).cpy (by decide)).cpy (by decide))
theorem cpBook_R {p : Nat} (hp : p < 46) {σ : Mem} (h : Rng σ) {g k : Int} : Rng (cpBook σ g k p) := by
  have h1 := h.st (g := g) (j := p) (k := 0) (h k p 0 (by omega))
  have h2 := h1.st (g := g) (j := p) (k := 1) (h1 k p 1 (by omega))
  exact ((((h2.cpy (by omega)).cpy (by omega)).cpy (by omega)).cpy (by omega)).cpy (by omega)
theorem cpLog_R {σ : Mem} (h : Rng σ) {g k : Int} : Rng (cpLog σ g k) := by
  have h1 := h.st (g := g) (j := 18) (k := 0) (h k 18 0 (by omega))
  have h2 := h1.st (g := g) (j := 18) (k := 1) (h1 k 18 1 (by omega))
  exact (((h2.cpy (by omega)).cpy (by omega)).cpy (by omega)).cpy (by omega)
theorem cpMarket_R {σ : Mem} (h : Rng σ) {g k : Int} : Rng (cpMarket σ g k) := by
  have h0 := cpLog_R (cpBook_R (p := 12) (by decide) (cpBook_R (p := 6) (by decide) (cpFleet_R h (g := g) (k := k)) (g := g) (k := k)) (g := g) (k := k)) (g := g) (k := k)
  have h1 := h0.st (g := g) (j := 0) (k := 4) (h0 k 0 4 (by decide))
  have h2 := h1.st (g := g) (j := 0) (k := 5) (h1 k 0 5 (by decide))
  have h3 := h2.st (g := g) (j := 0) (k := 6) (h2 k 0 6 (by decide))
  have h4 := h3.st (g := g) (j := 0) (k := 7) (h3 k 0 7 (by decide))
  exact h4.st (g := g) (j := 0) (k := 8) (h4 k 0 8 (by decide))
set_option maxHeartbeats 4000000 in
set_option maxRecDepth 100000 in
theorem c_copyM {l : Launch} {D : va_G} {K : Nat → ClassId} {ad : Adr} (hl0 : l.stackTraces = false) (g : Int) (hg : 0 ≤ g ∧ g < 11) (σ : Mem) (hR : Rng σ) (h : Int) (hh9 : 0 ≤ h ∧ h < 11) (hgh : ¬ h = g) (hn6 : 0 ≤ σ h 6 0 ∧ σ h 6 0 ≤ 10) (hn12 : 0 ≤ σ h 12 0 ∧ σ h 12 0 ≤ 16) : Cb l D K ad yX3_copyFrom (.code yX3_copyFrom cX3_copyFrom 2 none) 2 0 0 σ [.ref (ad g 0), .ref (ad h 0)] (.inl none) (cpMarket σ g h) := by
  refine Cb.of (own := RX3) (ls0 := [some (.ref (ad g 0)), some (.ref (ad h 0))]) hl0 (by decide) rfl (Nat.le_of_ble_eq_true rfl) rfl ?_
  intro X hX1 hX2 hX3 hf he hh
  subst hX1 hX2 hX3
  refine V_aload_n hf dX3_copyFrom_0 rfl rfl ?_
  refine B_get hf hg rfl fl_X3_12_7 rfl dX3_copyFrom_1 ?_
  refine V_aload_n hf dX3_copyFrom_4 rfl rfl ?_
  refine B_get hf hh9 rfl fl_X3_12_7 rfl dX3_copyFrom_5 ?_
  refine B_callVv hf (As := [_]) (c_copyFleet hl0 g hg σ hR h hh9) cv_X3_54 hg rfl rfl rfl (Nat.le_of_ble_eq_true rfl) ⟨by decide, by decide, by decide, by decide⟩ dX3_copyFrom_8 ?_
  refine V_aload_n hf dX3_copyFrom_11 rfl rfl ?_
  refine B_get hf hg rfl fl_X3_21_7 rfl dX3_copyFrom_12 ?_
  refine V_aload_n hf dX3_copyFrom_15 rfl rfl ?_
  refine B_get hf hh9 rfl fl_X3_21_7 rfl dX3_copyFrom_16 ?_
  refine B_callUv hf (As := [_]) (c_copyB hl0 g hg _ (cpFleet_R hR) h hh9 (by rw [cpFleet_g hgh]; exact hn6)) cu_X3_58_4 hg rfl rfl rfl (Nat.le_of_ble_eq_true rfl) ⟨by decide, by decide, by decide, by decide⟩ dX3_copyFrom_19 ?_
  refine V_aload_n hf dX3_copyFrom_22 rfl rfl ?_
  refine B_get hf hg rfl fl_X3_28_7 rfl dX3_copyFrom_23 ?_
  refine V_aload_n hf dX3_copyFrom_26 rfl rfl ?_
  refine B_get hf hh9 rfl fl_X3_28_7 rfl dX3_copyFrom_27 ?_
  refine B_callUv hf (As := [_]) (c_copyO hl0 g hg _ (cpBook_R (by decide) (cpFleet_R hR)) h hh9 (by rw [cpBook_g hgh, cpFleet_g hgh]; exact hn12)) cu_X3_58_8 hg rfl rfl rfl (Nat.le_of_ble_eq_true rfl) ⟨by decide, by decide, by decide, by decide⟩ dX3_copyFrom_30 ?_
  refine V_aload_n hf dX3_copyFrom_33 rfl rfl ?_
  refine B_get hf hg rfl fl_X3_34_7 rfl dX3_copyFrom_34 ?_
  refine V_aload_n hf dX3_copyFrom_37 rfl rfl ?_
  refine B_get hf hh9 rfl fl_X3_34_7 rfl dX3_copyFrom_38 ?_
  refine B_callVv hf (As := [_]) (c_copyLog hl0 g hg _ (cpBook_R (by decide) (cpBook_R (by decide) (cpFleet_R hR))) h hh9) cv_X3_63 hg rfl rfl rfl (Nat.le_of_ble_eq_true rfl) ⟨by decide, by decide, by decide, by decide⟩ dX3_copyFrom_41 ?_
  refine V_aload_n hf dX3_copyFrom_44 rfl rfl ?_
  refine V_aload_n hf dX3_copyFrom_45 rfl rfl ?_
  refine B_get hf hh9 rfl fl_X3_38_7 rfl dX3_copyFrom_46 ?_
  refine B_putI (kI := 4) hf rfl hg rfl fp_X3_38_7 rfl rfl (Nat.le_of_ble_eq_true rfl) (by decide) (cs_0_4 _ _ _ _ _) dX3_copyFrom_49 ?_
  refine V_aload_n hf dX3_copyFrom_52 rfl rfl ?_
  refine V_aload_n hf dX3_copyFrom_53 rfl rfl ?_
  refine B_get hf hh9 rfl fl_X3_42_7 rfl dX3_copyFrom_54 ?_
  refine B_putI (kI := 5) hf rfl hg rfl fp_X3_42_7 rfl rfl (Nat.le_of_ble_eq_true rfl) (by decide) (cs_0_5 _ _ _ _ _) dX3_copyFrom_57 ?_
  refine V_aload_n hf dX3_copyFrom_60 rfl rfl ?_
  refine V_aload_n hf dX3_copyFrom_61 rfl rfl ?_
  refine B_get hf hh9 rfl fl_X3_45_7 rfl dX3_copyFrom_62 ?_
  refine B_putI (kI := 6) hf rfl hg rfl fp_X3_45_7 rfl rfl (Nat.le_of_ble_eq_true rfl) (by decide) (cs_0_6 _ _ _ _ _) dX3_copyFrom_65 ?_
  refine V_aload_n hf dX3_copyFrom_68 rfl rfl ?_
  refine V_aload_n hf dX3_copyFrom_69 rfl rfl ?_
  refine B_get hf hh9 rfl fl_X3_48_7 rfl dX3_copyFrom_70 ?_
  refine B_putI (kI := 7) hf rfl hg rfl fp_X3_48_7 rfl rfl (Nat.le_of_ble_eq_true rfl) (by decide) (cs_0_7 _ _ _ _ _) dX3_copyFrom_73 ?_
  refine V_aload_n hf dX3_copyFrom_76 rfl rfl ?_
  refine V_aload_n hf dX3_copyFrom_77 rfl rfl ?_
  refine B_get hf hh9 rfl fl_X3_51_7 rfl dX3_copyFrom_78 ?_
  refine B_putI (kI := 8) hf rfl hg rfl fp_X3_51_7 rfl rfl (Nat.le_of_ble_eq_true rfl) (by decide) (cs_0_8 _ _ _ _ _) dX3_copyFrom_81 ?_
  exact B_vret hf he dX3_copyFrom_84 (by decide) (by decide) rfl

set_option maxHeartbeats 4000000 in
set_option maxRecDepth 100000 in
theorem c_trade {l : Launch} {D : va_G} {K : Nat → ClassId} {ad : Adr} (hl0 : l.stackTraces = false) (g : Int) (hg : 0 ≤ g ∧ g < 11) (σ : Mem) (hR : Rng σ) (hM : MI (σ g)) (b o : Int) (hb : 0 ≤ b ∧ b < σ g 6 0) (hr : 0 ≤ o ∧ o < σ g 12 0) (hR2 : Rng (tradeM4 σ g b o)) : Cb l D K ad yX3_trade (.code yX3_trade cX3_trade 8 none) 2 0 0 σ [.ref (ad g 0), .int (iN b), .int (iN o)] (.inl none) (tradeM σ g b o) := by
  refine Cb.of (own := RX3) (ls0 := [some (.ref (ad g 0)), some (.int (iN b)), some (.int (iN o)), none, none, none, none, none]) hl0 (by decide) rfl (Nat.le_of_ble_eq_true rfl) rfl ?_
  intro X hX1 hX2 hX3 hf he hh
  subst hX1 hX2 hX3
  have h1 := hM.nb
  have h2 := hM.no
  have h3 := hM.oo o hr.1 hr.2
  have h4 := hM.fl.2.1
  have h5 := hM.bo b hb.1 hb.2
  have h6 := hM.fl.2.2.2 (σ g 14 o) (by omega) (by omega)
  have h7 := hM.fl.1
  have h8 := hM.cr 4 (by decide)
  refine V_aload_n hf dX3_trade_0 rfl rfl ?_
  refine B_get hf hg rfl fl_X3_21_7 rfl dX3_trade_1 ?_
  refine B_get hf hg rfl fl_X3_167_4 rfl dX3_trade_4 ?_
  refine V_iload_n hf dX3_trade_7 rfl rfl ?_
  refine B_iald hf hg (fun _ => rfl) (by first | exact hR _ _ _ (by decide) | exact ⟨by omega, by omega⟩) (by omega) (by omega) dX3_trade_8 ?_
  refine V_istore_n (ls2 := [_, _, _, _, _, _, _, _]) hf dX3_trade_9 rfl (by decide) rfl rfl ?_
  refine V_aload_n hf dX3_trade_10 rfl rfl ?_
  refine B_get hf hg rfl fl_X3_28_7 rfl dX3_trade_11 ?_
  refine B_get hf hg rfl fl_X3_167_8 rfl dX3_trade_14 ?_
  refine V_iload_n hf dX3_trade_17 rfl rfl ?_
  refine B_iald hf hg (fun _ => rfl) (by first | exact hR _ _ _ (by decide) | exact ⟨by omega, by omega⟩) (by omega) (by omega) dX3_trade_18 ?_
  refine V_istore (ls2 := [_, _, _, _, _, _, _, _]) hf dX3_trade_19 (by decide) rfl rfl ?_
  refine V_aload_n hf dX3_trade_21 rfl rfl ?_
  refine B_get hf hg rfl fl_X3_12_7 rfl dX3_trade_22 ?_
  refine B_get hf hg rfl fl_X3_164_5 rfl dX3_trade_25 ?_
  refine V_iload hf dX3_trade_28 rfl ?_
  refine B_iald hf hg (fun _ => rfl) (by first | exact hR _ _ _ (by decide) | exact ⟨by omega, by omega⟩) (by omega) (by omega) dX3_trade_30 ?_
  refine V_istore (ls2 := [_, _, _, _, _, _, _, _]) hf dX3_trade_31 (by decide) rfl rfl ?_
  refine V_aload_n hf dX3_trade_33 rfl rfl ?_
  refine B_get hf hg rfl fl_X3_21_7 rfl dX3_trade_34 ?_
  refine B_get hf hg rfl fl_X3_171_4 rfl dX3_trade_37 ?_
  refine V_iload_n hf dX3_trade_40 rfl rfl ?_
  refine B_iald hf hg (fun _ => rfl) (by first | exact hR _ _ _ (by decide) | exact ⟨by omega, by omega⟩) (by omega) (by omega) dX3_trade_41 ?_
  refine V_aload_n hf dX3_trade_42 rfl rfl ?_
  refine B_get hf hg rfl fl_X3_28_7 rfl dX3_trade_43 ?_
  refine B_get hf hg rfl fl_X3_171_8 rfl dX3_trade_46 ?_
  refine V_iload_n hf dX3_trade_49 rfl rfl ?_
  refine B_iald hf hg (fun _ => rfl) (by first | exact hR _ _ _ (by decide) | exact ⟨by omega, by omega⟩) (by omega) (by omega) dX3_trade_50 ?_
  refine V_iadd hf dX3_trade_51 ?_
  refine V_iconst hf dX3_trade_52 ?_
  refine V_idiv hf ⟨by omega, by omega⟩ (by omega) (by decide) ⟨by decide, by decide⟩ dX3_trade_53 ?_
  refine V_istore (ls2 := [_, _, _, _, _, _, _, _]) hf dX3_trade_54 (by decide) rfl rfl ?_
  refine V_aload_n hf dX3_trade_56 rfl rfl ?_
  refine B_get hf hg rfl fl_X3_38_7 rfl dX3_trade_57 ?_
  refine V_iload hf dX3_trade_60 rfl ?_
  refine V_min hf ⟨by omega, by omega⟩ ⟨by omega, by omega⟩ wl_X3_200 ⟨by decide, (Nat.le_of_ble_eq_true rfl), by decide, by decide⟩ dX3_trade_62 ?_
  refine V_istore (ls2 := [_, _, _, _, _, _, _, _]) hf dX3_trade_65 (by decide) rfl rfl ?_
  refine V_aload_n hf dX3_trade_67 rfl rfl ?_
  refine B_get hf hg rfl fl_X3_12_7 rfl dX3_trade_68 ?_
  refine B_get hf hg rfl fl_X3_97_5 rfl dX3_trade_71 ?_
  refine V_iload_n hf dX3_trade_74 rfl rfl ?_
  refine V_dup2 hf dX3_trade_75 rfl rfl ?_
  refine B_iald hf hg (fun _ => rfl) (by first | exact hR _ _ _ (by decide) | exact ⟨by omega, by omega⟩) (by omega) (by omega) dX3_trade_76 ?_
  refine V_iload hf dX3_trade_77 rfl ?_
  refine V_isub hf dX3_trade_79 ?_
  refine B_iast hf hg (by decide) (fun _ => rfl) (by first | exact hR _ _ _ (by decide) | exact ⟨by omega, by omega⟩) (by omega) (by omega) dX3_trade_80 ?_
  refine V_aload_n hf dX3_trade_81 rfl rfl ?_
  refine B_get hf hg rfl fl_X3_12_7 rfl dX3_trade_82 ?_
  refine B_get hf hg rfl fl_X3_97_5 rfl dX3_trade_85 ?_
  refine V_iload hf dX3_trade_88 rfl ?_
  refine V_dup2 hf dX3_trade_90 rfl rfl ?_
  refine B_iald hf hg (fun _ => rfl) (by first | exact hR _ _ _ (by decide) | exact ⟨by omega, by omega⟩) (by omega) (by omega) dX3_trade_91 ?_
  refine V_iload hf dX3_trade_92 rfl ?_
  refine V_iload hf dX3_trade_94 rfl ?_
  refine V_isub hf dX3_trade_96 ?_
  refine V_iadd hf dX3_trade_97 ?_
  refine B_iast hf hg (by decide) (fun _ => rfl) (by first | exact hR _ _ _ (by decide) | exact ⟨by omega, by omega⟩) (by omega) (by omega) dX3_trade_98 ?_
  refine V_aload_n hf dX3_trade_99 rfl rfl ?_
  refine V_dup hf dX3_trade_100 rfl ?_
  refine B_get hf hg rfl fl_X3_48_7 rfl dX3_trade_101 ?_
  refine V_iload hf dX3_trade_104 rfl ?_
  refine V_iadd hf dX3_trade_106 ?_
  refine B_putI (kI := 7) hf rfl hg rfl fp_X3_48_7 rfl rfl (Nat.le_of_ble_eq_true rfl) (by decide) (cs_0_7 _ _ _ _ _) dX3_trade_107 ?_
  refine V_aload_n hf dX3_trade_110 rfl rfl ?_
  refine B_get hf hg rfl fl_X3_12_7 rfl dX3_trade_111 ?_
  refine B_get hf hg rfl fl_X3_164_5 rfl dX3_trade_114 ?_
  refine V_iload hf dX3_trade_117 rfl ?_
  refine V_iload_n hf dX3_trade_119 rfl rfl ?_
  refine B_iast hf hg (by decide) (fun _ => rfl) (by first | exact hR _ _ _ (by decide) | exact ⟨by omega, by omega⟩) (by omega) (by omega) dX3_trade_120 ?_
  refine V_aload_n hf dX3_trade_121 rfl rfl ?_
  refine B_get hf hg rfl fl_X3_34_7 rfl dX3_trade_122 ?_
  refine V_iload_n hf dX3_trade_125 rfl rfl ?_
  refine V_iload hf dX3_trade_126 rfl ?_
  refine V_iload hf dX3_trade_128 rfl ?_
  refine V_iload hf dX3_trade_130 rfl ?_
  refine B_callVv hf (As := [_, _, _, _]) (c_note hl0 g hg _ hR2 _ _ _ _) cv_X3_205 hg rfl rfl rfl (Nat.le_of_ble_eq_true rfl) ⟨by decide, by decide, by decide, by decide⟩ dX3_trade_132 ?_
  exact B_vret hf he dX3_trade_135 (by decide) (by decide) rfl

theorem removeM_j {σ : Mem} {g : Int} {p j : Nat} {r k : Int} (h1 : ¬ j = p) (h2 : j < p + 1 ∨ p + 5 < j) : removeM σ g p r g j k = σ g j k := by
  simp only [removeM, moveM, cpy]
  repeat rw [if_neg (by omega)]
  exact st3_j h1
theorem aucOk_n {g : Int} {n : Nat} {σ : Mem} {b : Int} (h : aucOk g (n + 1) σ b) : 0 ≤ n := Nat.zero_le n
set_option maxHeartbeats 4000000 in
set_option maxRecDepth 100000 in
theorem c_auction {l : Launch} {D : va_G} {K : Nat → ClassId} {ad : Adr} (hl0 : l.stackTraces = false) (g : Int) (hg : 0 ≤ g ∧ g < 11) (σ : Mem) (hR : Rng σ) (hn0 : 0 ≤ σ g 6 0) (hn1 : σ g 6 0 ≤ 10) (hA : aucOk g (σ g 6 0).toNat σ 0) : Cb l D K ad yX3_holdAuction (.code yX3_holdAuction cX3_holdAuction 4 none) 3 0 0 σ [.ref (ad g 0)] (.inl none) (tide1 g σ) := by
  refine Cb.of (own := RX3) (ls0 := [some (.ref (ad g 0)), none, none, none]) hl0 (by decide) rfl (Nat.le_of_ble_eq_true rfl) rfl ?_
  intro X hX1 hX2 hX3 hf he hh
  subst hX1 hX2 hX3
  have loop : ∀ (n : Nat) (τ : Mem) (b : Int), (n : Int) ≤ 10 → aucOk g n τ b → Be X none ad (.inl none) (aucR g n τ b) 0 0 → B X ad τ 10 [some (.ref (ad g 0)), some (.int (iN b)), some (.int (iN (n : Int))), none] [] 0 0 := by
    intro n
    induction n with
    | zero =>
      intro τ b hn10 hA he
      refine V_iload_n hf dX3_holdAuction_10 rfl rfl ?_
      refine V_if_le (tgt := 59) hf ⟨by omega, by omega⟩ dX3_holdAuction_11 (by decide) (fun h11 => ?_) (fun h11 => ?_)
      · exact B_vret hf he dX3_holdAuction_59 (by decide) (by decide) rfl
      · exact absurd h11 (by omega)
    | succ n ih =>
      intro τ b hn10 hA he
      have hn9 := aucOk_n hA
      refine V_iload_n hf dX3_holdAuction_10 rfl rfl ?_
      refine V_if_le (tgt := 59) hf ⟨by omega, by omega⟩ dX3_holdAuction_11 (by decide) (fun h11 => ?_) (fun h11 => ?_)
      · exact absurd h11 (by omega)
      · refine V_aload_n hf dX3_holdAuction_14 rfl rfl ?_
        refine V_iload_n hf dX3_holdAuction_15 rfl rfl ?_
        refine B_callVi hf (As := [_]) (c_matchO hl0 g hg τ hA.1.1 hA.1.2.1 b ⟨hA.1.2.2.1, hA.1.2.2.2⟩) cv_X3_181 hg rfl rfl rfl (Nat.le_of_ble_eq_true rfl) ⟨by decide, by decide, by decide, by decide⟩ dX3_holdAuction_16 ?_
        have r1 := matchO_r (τ g) b
        have r2 := hA.1.2.1.no
        have r3 := hA.1.2.1.nb
        have r4 := hA.1.2.2
        refine V_istore_n (ls2 := [_, _, _, _]) hf dX3_holdAuction_19 rfl (by decide) rfl rfl ?_
        refine V_iload_n hf dX3_holdAuction_20 rfl rfl ?_
        refine V_iconst hf dX3_holdAuction_21 ?_
        refine V_icmp_ne (tgt := 31) hf ⟨by omega, by omega⟩ ⟨by omega, by omega⟩ dX3_holdAuction_22 (by decide) (fun h22 => ?_) (fun h22 => ?_)
        · have hA2 := hA.2
          rw [if_neg h22] at hA2
          rw [show aucR g (n + 1) τ b = aucR g n (aucStep g τ b) b from if_neg h22] at he
          refine V_aload_n hf dX3_holdAuction_31 rfl rfl ?_
          refine V_iload_n hf dX3_holdAuction_32 rfl rfl ?_
          refine V_iload_n hf dX3_holdAuction_33 rfl rfl ?_
          refine B_callVv hf (As := [_, _]) (c_trade hl0 g hg τ hA.1.1 hA.1.2.1 b (matchO (τ g) b) ⟨by omega, by omega⟩ ⟨by omega, by omega⟩ hA2.1) cv_X3_196 hg rfl rfl rfl (Nat.le_of_ble_eq_true rfl) ⟨by decide, by decide, by decide, by decide⟩ dX3_holdAuction_34 ?_
          refine V_aload_n hf dX3_holdAuction_37 rfl rfl ?_
          refine B_get hf hg rfl fl_X3_21_7 rfl dX3_holdAuction_38 ?_
          refine V_iload_n hf dX3_holdAuction_41 rfl rfl ?_
          refine B_callUv hf (As := [_]) (c_removeB hl0 g hg _ hA2.2.1 (by rw [tradeM_0 (by decide) (by decide) (by decide) (by decide)]; omega) b ⟨by omega, by rw [tradeM_0 (by decide) (by decide) (by decide) (by decide)]; omega⟩) cu_X3_107_4 hg rfl rfl rfl (Nat.le_of_ble_eq_true rfl) ⟨by decide, by decide, by decide, by decide⟩ dX3_holdAuction_42 ?_
          refine V_aload_n hf dX3_holdAuction_45 rfl rfl ?_
          refine B_get hf hg rfl fl_X3_28_7 rfl dX3_holdAuction_46 ?_
          refine V_iload_n hf dX3_holdAuction_49 rfl rfl ?_
          refine B_callUv hf (As := [_]) (c_removeO hl0 g hg _ (hA2.2.1.remove (by decide) (by rw [tradeM_0 (by decide) (by decide) (by decide) (by decide)]; omega)) (by rw [removeM_j (by decide) (by decide), tradeM_0 (by decide) (by decide) (by decide) (by decide)]; omega) (matchO (τ g) b) ⟨by omega, by rw [removeM_j (by decide) (by decide), tradeM_0 (by decide) (by decide) (by decide) (by decide)]; omega⟩) cu_X3_107_8 hg rfl rfl rfl (Nat.le_of_ble_eq_true rfl) ⟨by decide, by decide, by decide, by decide⟩ dX3_holdAuction_50 ?_
          refine V_iinc (ls2 := [_, _, _, _]) hf dX3_holdAuction_53 (by decide) rfl rfl rfl ?_
          refine V_goto (tgt := 10) hf dX3_holdAuction_56 (by decide) ?_
          refine V_fg (ls2 := [some _, some _, some _, none]) ⟨rfl, rfl, rfl, trivial⟩ ?_
          first | (have bk := ih τ (b + 1) (by omega) hA2 he; rw [show ((n + 1 : Nat) : Int) + -1 = (n : Int) by omega]; exact bk) | (have bk := ih (aucStep g τ b) b (by omega) hA2.2.2 he; rw [show ((n + 1 : Nat) : Int) + -1 = (n : Int) by omega]; exact bk)
        · have hA2 := hA.2
          rw [if_pos h22] at hA2
          rw [show aucR g (n + 1) τ b = aucR g n τ (b + 1) from if_pos h22] at he
          refine V_iinc (ls2 := [_, _, _, _]) hf dX3_holdAuction_25 (by decide) rfl rfl rfl ?_
          refine V_goto (tgt := 53) hf dX3_holdAuction_28 (by decide) ?_
          refine V_iinc (ls2 := [_, _, _, _]) hf dX3_holdAuction_53 (by decide) rfl rfl rfl ?_
          refine V_goto (tgt := 10) hf dX3_holdAuction_56 (by decide) ?_
          refine V_fg (ls2 := [some _, some _, some _, none]) ⟨rfl, rfl, rfl, trivial⟩ ?_
          first | (have bk := ih τ (b + 1) (by omega) hA2 he; rw [show ((n + 1 : Nat) : Int) + -1 = (n : Int) by omega]; exact bk) | (have bk := ih (aucStep g τ b) b (by omega) hA2.2.2 he; rw [show ((n + 1 : Nat) : Int) + -1 = (n : Int) by omega]; exact bk)
  refine V_iconst hf dX3_holdAuction_0 ?_
  refine V_istore_n (ls2 := [_, _, _, _]) hf dX3_holdAuction_1 rfl (by decide) rfl rfl ?_
  refine V_aload_n hf dX3_holdAuction_2 rfl rfl ?_
  refine B_get hf hg rfl fl_X3_21_7 rfl dX3_holdAuction_3 ?_
  refine B_get hf hg rfl fl_X3_111_4 rfl dX3_holdAuction_6 ?_
  refine V_istore_n (ls2 := [_, _, _, _]) hf dX3_holdAuction_9 rfl (by decide) rfl rfl ?_
  have bk := loop (σ g 6 0).toNat σ 0 (by omega) hA
  rw [Int.toNat_of_nonneg hn0] at bk
  exact bk he
