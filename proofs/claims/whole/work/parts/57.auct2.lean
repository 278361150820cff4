/-! the auction on both sides, in step -/
section AU
variable {τ : Mem} {x w y s k p f : Int}
/-- the block behind a trade -/
theorem mtradeB_v (hy : y = τ 0 41 (58 + 5 * x + 1)) (hk : k = τ 0 41 (108 + 4 * w + 1)) (hs : s = τ 0 41 (26 + 2 * k)) (hp : p = (τ 0 41 (58 + 5 * x + 3) + τ 0 41 (108 + 4 * w + 2)) / 2) (hf : f = if p < τ 0 41 6 then p else τ 0 41 6) (yr : 0 ≤ y ∧ y < 6) (sr : 0 ≤ s ∧ s < 6) (kr : 0 ≤ k ∧ k < 16) (hne : s ≠ y) (z : Int) :
    mtradeB τ x w 0 41 z = if z = 13 then (if τ 0 41 13 + 1 < 10 then τ 0 41 13 + 1 else 10) else if z = 172 then y else if z = 173 then s else if z = 174 then k else if z = 175 then p else if 176 ≤ z ∧ z < 212 then τ 0 41 (z - 4) else if z = 9 then τ 0 41 9 + p else if z = 8 then τ 0 41 8 + 1 else if z = 26 + 2 * k then y else if z = 10 then τ 0 41 10 + f else if z = 14 + 2 * s then τ 0 41 (14 + 2 * s) + (p - f) else if z = 14 + 2 * y then τ 0 41 (14 + 2 * y) - p else τ 0 41 z := by
  have hA := fun z => mtradeA_v (σ := τ) (x := x) (w := w) (z := z) hy hk hs hp hf yr sr kr hne
  have hB : mtradeB τ x w = rememM (mtradeA τ x w) y s k p := by
    unfold mtradeB
    rw [← hk, ← hs, ← hy, ← hp]
  have hA13 : mtradeA τ x w 0 41 13 = τ 0 41 13 := by
    rw [hA 13, if_neg (by omega), if_neg (by omega), if_neg (by omega), if_neg (by omega), if_neg (by omega), if_neg (by omega)]
  rw [hB, rememM_v, hA13, hA (z - 4), hA z]
  by_cases h13 : z = 13
  · rw [if_pos h13, if_pos h13]
  · rw [if_neg h13, if_neg h13]
    by_cases h1 : z = 172
    · rw [if_pos h1, if_pos h1]
    · rw [if_neg h1, if_neg h1]
      by_cases h2 : z = 173
      · rw [if_pos h2, if_pos h2]
      · rw [if_neg h2, if_neg h2]
        by_cases h3 : z = 174
        · rw [if_pos h3, if_pos h3]
        · rw [if_neg h3, if_neg h3]
          by_cases h4 : z = 175
          · rw [if_pos h4, if_pos h4]
          · rw [if_neg h4, if_neg h4]
            by_cases h5 : 176 ≤ z ∧ z < 212
            · rw [if_pos h5, if_pos h5]
              rw [if_neg (by omega), if_neg (by omega), if_neg (by omega), if_neg (by omega), if_neg (by omega), if_neg (by omega)]
            · rw [if_neg h5, if_neg h5]
theorem mtradeM_v (x0 : 0 ≤ x) (w0 : 0 ≤ w) (z : Int) (h2 : z ≠ 2) (h3 : z ≠ 3) : mtradeM τ x w 0 41 z = if 168 ≤ z ∧ z < 172 then 0 else if 108 + 4 * w ≤ z ∧ z < 168 then mtradeB τ x w 0 41 (z + 4) else if 103 ≤ z ∧ z < 108 then 0 else if 58 + 5 * x ≤ z ∧ z < 103 then mtradeB τ x w 0 41 (z + 5) else mtradeB τ x w 0 41 z := by
  unfold mtradeM
  rw [closeM_v h3]
  by_cases a1 : 168 ≤ z ∧ z < 172
  · rw [if_pos (by omega), if_pos a1]
  · rw [if_neg (by omega), if_neg a1]
    by_cases a2 : 108 + 4 * w ≤ z ∧ z < 168
    · rw [if_pos (by omega), if_pos a2, closeM_v (by omega), if_neg (by omega), if_neg (by omega)]
    · rw [if_neg (by omega), if_neg a2, closeM_v h2]
      by_cases a3 : 103 ≤ z ∧ z < 108
      · rw [if_pos (by omega), if_pos a3]
      · rw [if_neg (by omega), if_neg a3]
        by_cases a4 : 58 + 5 * x ≤ z ∧ z < 103
        · rw [if_pos (by omega), if_pos a4]
        · rw [if_neg (by omega), if_neg a4]
end AU
set_option maxHeartbeats 4000000 in
/-- one trade, on both sides -/
theorem MR_step {σ τ : Mem} {g b : Int} (h : MR (σ g) (τ 0 41)) (b0 : 0 ≤ b) (b1 : b < τ 0 41 2) (hm : matchO (σ g) b ≠ -1) (hg8 : τ 0 41 8 ≤ 90000000) (hg9 : τ 0 41 9 ≤ 90000000) : MR (aucStep g σ b g) (mtradeM τ (mbid τ b) (moff τ b) 0 41) ∧ (0 ≤ mbid τ b ∧ mbid τ b < τ 0 41 2) ∧ (0 ≤ moff τ b ∧ moff τ b < τ 0 41 3) := by
  have hN := h.ni
  have q0 := hN.n0
  have q1 := hN.n1
  have q2 := hN.n2
  have q3 := hN.n3
  have s3 := h.sc.2.2.2.1
  have s6 := h.sc.2.2.2.2.2.2.1
  obtain ⟨hk1, hk2⟩ := h.rankB b0 b1
  have hx := fst_in hk1
  have hx0 : 0 ≤ mbid τ b := hx.1
  have hx1 : mbid τ b < τ 0 41 2 := hx.2.1
  have hbx : bRow (σ g) b = nbRow (τ 0 41) (mbid τ b) := hk2.symm
  obtain ⟨hma, hmb, hmc⟩ := h.mat hbx
  have hmm : mmatch (τ 0 41) (mbid τ b) ≠ -1 := fun q => hm (hma.mpr q)
  obtain ⟨w0, w1, hfit⟩ := hmc hmm
  have how := hmb hmm
  have ew : moff τ b = mmatch (τ 0 41) (mbid τ b) := rfl
  rw [ew]
  generalize mmatch (τ 0 41) (mbid τ b) = w at w0 w1 hfit how ⊢
  generalize mbid τ b = x at hx0 hx1 hbx hfit ⊢
  refine ⟨?_, ⟨hx0, hx1⟩, ⟨w0, w1⟩⟩
  have ho0 : 0 ≤ matchO (σ g) b ∧ matchO (σ g) b < τ 0 41 3 := by
    obtain ⟨a1, a2, -⟩ := fst_in hm
    have a1 : 0 ≤ matchO (σ g) b := a1
    have a2 : matchO (σ g) b < σ g 12 0 := a2
    omega
  generalize ho : matchO (σ g) b = o at how ho0 hm
  -- the numbers of the trade
  have eb2 : σ g 8 b = τ 0 41 (58 + 5 * x + 1) := row_2 hbx
  have eb4 : σ g 10 b = τ 0 41 (58 + 5 * x + 3) := row_4 hbx
  have eo2 : σ g 14 o = τ 0 41 (108 + 4 * w + 1) := row_2 how
  have eo4 : σ g 16 o = τ 0 41 (108 + 4 * w + 2) := row_4 how
  have hxr := hN.bi x hx0 hx1
  have hwr := hN.of w w0 w1
  obtain ⟨y, hy⟩ : ∃ y, y = τ 0 41 (58 + 5 * x + 1) := ⟨_, rfl⟩
  obtain ⟨k, hk⟩ : ∃ k, k = τ 0 41 (108 + 4 * w + 1) := ⟨_, rfl⟩
  obtain ⟨s, hs⟩ : ∃ s, s = τ 0 41 (26 + 2 * k) := ⟨_, rfl⟩
  obtain ⟨p, hp⟩ : ∃ p, p = (τ 0 41 (58 + 5 * x + 3) + τ 0 41 (108 + 4 * w + 2)) / 2 := ⟨_, rfl⟩
  obtain ⟨f, hf⟩ : ∃ f, f = if p < τ 0 41 6 then p else τ 0 41 6 := ⟨_, rfl⟩
  have hkr : 0 ≤ k ∧ k < τ 0 41 1 := by omega
  have hbk := hN.ba k hkr.1 hkr.2
  have hne : s ≠ y := by
    rw [hs, hk, hy]
    exact hfit.1
  have yr : 0 ≤ y ∧ y < 6 := by omega
  have sr : 0 ≤ s ∧ s < 6 := by omega
  have kr : 0 ≤ k ∧ k < 16 := by omega
  have hB := mtradeB_v (τ := τ) (x := x) (w := w) hy hk hs hp hf yr sr kr hne
  have hM := mtradeM_v (τ := τ) (x := x) (w := w) hx0 w0
  have h23 := mtradeM_2 (σ := τ) (b := x) (x := w) hN ⟨hx0, hx1⟩ ⟨w0, w1⟩
  have ey : σ g 8 b = y := by omega
  have ek : σ g 14 o = k := by omega
  have es : σ g 5 k = s := by rw [(h.ba k hkr.1 hkr.2).1, hs]
  have ep : (σ g 10 b + σ g 16 o) / 2 = p := by rw [eb4, eo4, hp]
  have ef : (if p < σ g 0 4 then p else σ g 0 4) = f := by rw [s6, hf]
  have hnk : ∀ z : Int, ¬ (z = 2 ∨ z = 3 ∨ z = 8 ∨ z = 9 ∨ z = 10 ∨ z = 13) → z ≠ 14 + 2 * y → z ≠ 14 + 2 * s → z ≠ 26 + 2 * k → ¬ (58 ≤ z ∧ z < 212) → mtradeM τ x w 0 41 z = τ 0 41 z := fun z a1 a2 a3 a4 a5 => by
    rw [hM z (by omega) (by omega), hB z]
    repeat rw [if_neg (by omega)]
  -- the rows of the block that nothing but the closing touches
  have hBm : ∀ z : Int, 58 ≤ z → z < 172 → mtradeB τ x w 0 41 z = τ 0 41 z := fun z a1 a2 => by
    rw [hB z]
    repeat rw [if_neg (by omega)]
  refine MR_deal (b := b) (x := x) (o := o) (w := w) (y := y) (k := k) (s := s) (p := p) (f := f) h b0 b1 hx0 hx1 hbx ho0.1 ho0.2 w0 w1 how hfit hg8 hg9 hy hk hs hp hf ?_ ?_ ?_ ?_ ?_ ?_ ?_ ?_ ?_ ?_ aucStep_s.1 aucStep_s.2.1 (fun z => aucStep_b) aucStep_s.2.2.1 aucStep_s.2.2.2 (fun z => by rw [aucStep_r, ho]) hnk h23.1 h23.2.2.2 ?_ ?_ ?_ ?_ ?_ ?_ ?_ ?_ ?_ ?_
  · intro j j0 j2 j5 jj
    rw [aucStep_j (by omega), tradeM_j j0 j2 j5 (by omega)]
  · intro z hz
    rw [aucStep_j (by decide), tradeM_0z, if_neg hz]
  · rw [aucStep_j (by decide), tradeM_0z, if_pos rfl, ho, ep, ef]
  · intro z a1 a2
    rw [aucStep_j (by decide), ho, tradeM_2z (by rw [ek, es, ey]; exact hne), ek, es, ey, if_neg a1, if_neg a2]
  · rw [aucStep_j (by decide), ho, tradeM_2z (by rw [ek, es, ey]; exact hne), ek, es, ey, if_pos rfl, ep]
  · rw [aucStep_j (by decide), ho, tradeM_2z (by rw [ek, es, ey]; exact hne), ek, es, ey, if_neg hne, if_pos rfl, ep, ef]
  · intro z hz
    rw [aucStep_j (by decide), ho, tradeM_5z, ek, if_neg hz]
  · rw [aucStep_j (by decide), ho, tradeM_5z, ek, if_pos rfl, ey]
  · rw [aucStep_j (by decide), ho, tradeM_18.1, tradeM_18.2, ep]
    exact ⟨rfl, rfl⟩
  · intro z z0 z1
    have t := tradeM_t (σ := σ) (g := g) (b := b) (o := o) z0 z1
    rw [ek, es, ey, ep] at t
    rw [aucStep_j (by decide), aucStep_j (by decide), aucStep_j (by decide), aucStep_j (by decide), ho]
    exact t
  · rw [hM 8 (by decide) (by decide), hB 8]
    repeat (first | rw [if_neg (by omega)] | rw [if_pos (by omega)])
  · rw [hM 9 (by decide) (by decide), hB 9]
    repeat (first | rw [if_neg (by omega)] | rw [if_pos (by omega)])
  · rw [hM 10 (by decide) (by decide), hB 10]
    repeat (first | rw [if_neg (by omega)] | rw [if_pos (by omega)])
  · rw [hM 13 (by decide) (by decide), hB 13, if_neg (by omega), if_neg (by omega), if_neg (by omega), if_neg (by omega), if_pos rfl]
  · rw [hM (14 + 2 * y) (by omega) (by omega), hB (14 + 2 * y)]
    repeat (first | rw [if_neg (by omega)] | rw [if_pos (by omega)])
  · rw [hM (14 + 2 * s) (by omega) (by omega), hB (14 + 2 * s)]
    repeat (first | rw [if_neg (by omega)] | rw [if_pos (by omega)])
  · rw [hM (26 + 2 * k) (by omega) (by omega), hB (26 + 2 * k)]
    repeat (first | rw [if_neg (by omega)] | rw [if_pos (by omega)])
  · intro z z0 z1
    have e : ∀ i : Int, 0 ≤ i → i < 4 → mtradeM τ x w 0 41 (172 + 4 * z + i) = mtradeB τ x w 0 41 (172 + 4 * z + i) := fun i i0 i1 => by
      rw [hM _ (by omega) (by omega)]
      repeat rw [if_neg (by omega)]
    have e0 := e 0 (by decide) (by decide)
    rw [Int.add_zero] at e0
    rw [e0, e 1 (by decide) (by decide), e 2 (by decide) (by decide), e 3 (by decide) (by decide), hB (172 + 4 * z), hB (172 + 4 * z + 1), hB (172 + 4 * z + 2), hB (172 + 4 * z + 3)]
    by_cases c : z = 0
    · subst c
      rw [if_pos rfl, if_pos rfl, if_pos rfl, if_pos rfl]
      refine ⟨?_, ?_, ?_, ?_⟩
      · rw [if_neg (by omega), if_pos (by omega)]
      · rw [if_neg (by omega), if_neg (by omega), if_pos (by omega)]
      · rw [if_neg (by omega), if_neg (by omega), if_neg (by omega), if_pos (by omega)]
      · rw [if_neg (by omega), if_neg (by omega), if_neg (by omega), if_neg (by omega), if_pos (by omega)]
    · rw [if_neg c, if_neg c, if_neg c, if_neg c]
      refine ⟨?_, ?_, ?_, ?_⟩
      all_goals
        rw [if_neg (by omega), if_neg (by omega), if_neg (by omega), if_neg (by omega), if_neg (by omega), if_pos (by omega)]
        congr 1
        omega
  · intro z z0 z1
    have e : ∀ i : Int, 0 ≤ i → i < 5 → mtradeM τ x w 0 41 (58 + 5 * z + i) = if x ≤ z then τ 0 41 (58 + 5 * (z + 1) + i) else τ 0 41 (58 + 5 * z + i) := fun i i0 i1 => by
      rw [hM _ (by omega) (by omega), if_neg (by omega), if_neg (by omega), if_neg (by omega)]
      by_cases c : x ≤ z
      · rw [if_pos c, if_pos (by omega), hBm _ (by omega) (by omega)]
        congr 1
        omega
      · rw [if_neg c, if_neg (by omega), hBm _ (by omega) (by omega)]
    have e0 := e 0 (by decide) (by decide)
    rw [Int.add_zero, Int.add_zero] at e0
    unfold nbRow
    rw [e0, e 1 (by decide) (by decide), e 2 (by decide) (by decide), e 3 (by decide) (by decide), e 4 (by decide) (by decide)]
    by_cases c : x ≤ z
    · rw [if_pos c, if_pos c, if_pos c, if_pos c, if_pos c, if_pos c]
    · rw [if_neg c, if_neg c, if_neg c, if_neg c, if_neg c, if_neg c]
  · intro z i z0 z1 i0 i1
    rw [hM _ (by omega) (by omega), if_neg (by omega)]
    by_cases c : w ≤ z
    · rw [if_pos c, if_pos (by omega), hBm _ (by omega) (by omega)]
      congr 1
      omega
    · rw [if_neg c, if_neg (by omega), if_neg (by omega), if_neg (by omega), hBm _ (by omega) (by omega)]
