/-! a tide, on both sides: the whole of it -/
theorem ageK_b : AgeK 2 58 5 4 108 10 nbRow := by
  refine ⟨by decide, by decide, fun ν k => rfl, fun k a b => by omega, fun σ k j v k0 k1 j0 j1 hv => ?_, fun σ k j k0 k1 j0 j1 => ?_, fun σ v j j0 j1 => ?_⟩
  · unfold nbRow
    rw [st3_k (by omega), st3_k (by omega), st3_k (by omega), st3_k (by omega)]
    by_cases e : j = k
    · subst e
      rw [if_pos rfl, st3_self, hv]
      rfl
    · rw [if_neg e, st3_k (by omega)]
  · have c : ∀ i : Int, 0 ≤ i → i < 5 → closeM σ 2 (58 + 5 * k) 5 108 0 41 (58 + 5 * j + i) = if k ≤ j then σ 0 41 (58 + 5 * (j + 1) + i) else σ 0 41 (58 + 5 * j + i) := fun i i0 i1 => by
      rw [closeM_v (by omega), if_neg (by omega)]
      by_cases e : k ≤ j
      · rw [if_pos (by omega), if_pos e]
        congr 1
        omega
      · rw [if_neg (by omega), if_neg e]
    have c0 := c 0 (by decide) (by decide)
    simp only [Int.add_zero] at c0
    unfold nbRow
    rw [c0, c 1 (by decide) (by decide), c 2 (by decide) (by decide), c 3 (by decide) (by decide), c 4 (by decide) (by decide)]
    by_cases e : k ≤ j
    · rw [if_pos e, if_pos e, if_pos e, if_pos e, if_pos e, if_pos e]
    · rw [if_neg e, if_neg e, if_neg e, if_neg e, if_neg e, if_neg e]
  · unfold nbRow
    rw [st3_k (by omega), st3_k (by omega), st3_k (by omega), st3_k (by omega), st3_k (by omega)]
theorem ageK_o : AgeK 3 108 4 3 172 16 orw := by
  refine ⟨by decide, by decide, fun ν k => rfl, fun k a b => by omega, fun σ k j v k0 k1 j0 j1 hv => ?_, fun σ k j k0 k1 j0 j1 => ?_, fun σ v j j0 j1 => ?_⟩
  · unfold orw
    rw [st3_k (by omega), st3_k (by omega), st3_k (by omega)]
    by_cases e : j = k
    · subst e
      rw [if_pos rfl, st3_self, hv]
      rfl
    · rw [if_neg e, st3_k (by omega)]
  · have c : ∀ i : Int, 0 ≤ i → i < 4 → closeM σ 3 (108 + 4 * k) 4 172 0 41 (108 + 4 * j + i) = if k ≤ j then σ 0 41 (108 + 4 * (j + 1) + i) else σ 0 41 (108 + 4 * j + i) := fun i i0 i1 => by
      rw [closeM_v (by omega), if_neg (by omega)]
      by_cases e : k ≤ j
      · rw [if_pos (by omega), if_pos e]
        congr 1
        omega
      · rw [if_neg (by omega), if_neg e]
    have c0 := c 0 (by decide) (by decide)
    simp only [Int.add_zero] at c0
    unfold orw
    rw [c0, c 1 (by decide) (by decide), c 2 (by decide) (by decide), c 3 (by decide) (by decide)]
    by_cases e : k ≤ j
    · rw [if_pos e, if_pos e, if_pos e, if_pos e, if_pos e]
    · rw [if_neg e, if_neg e, if_neg e, if_neg e, if_neg e]
  · unfold orw
    rw [st3_k (by omega), st3_k (by omega), st3_k (by omega), st3_k (by omega)]
/-- what a run of the auction leaves -/
theorem mtradeM_j {τ : Mem} {x w : Int} {g : Int} {j : Nat} (h : ¬ (g = 0 ∧ j = 41)) : mtradeM τ x w g j = τ g j := by
  funext z
  unfold mtradeM
  rw [closeM_j h, closeM_j h]
  simp only [mtradeB, rememM, mtradeA, cpy, st3]
  repeat rw [if_neg (fun q => h ⟨q.1, q.2.1⟩)]
theorem mtradeA_j {τ : Mem} {x w : Int} {g : Int} {j : Nat} (h : ¬ (g = 0 ∧ j = 41)) : mtradeA τ x w g j = τ g j := by
  funext z
  simp only [mtradeA, st3]
  repeat rw [if_neg (fun q => h ⟨q.1, q.2.1⟩)]
theorem mtradeB_j {τ : Mem} {x w : Int} {g : Int} {j : Nat} (h : ¬ (g = 0 ∧ j = 41)) : mtradeB τ x w g j = τ g j := by
  funext z
  simp only [mtradeB, rememM, mtradeA, cpy, st3]
  repeat rw [if_neg (fun q => h ⟨q.1, q.2.1⟩)]
set_option maxHeartbeats 4000000 in
/-- the numbers of a trade stay in range, both sides -/
theorem deal_rng {σ τ : Mem} {g b : Int} (h : MR (σ g) (τ 0 41)) (hRσ : Rng σ) (hRτ : Rng τ) (b0 : 0 ≤ b) (b1 : b < τ 0 41 2) (hm : matchO (σ g) b ≠ -1) : Rng (tradeM4 σ g b (matchO (σ g) b)) ∧ Rng (tradeM σ g b (matchO (σ g) b)) ∧ Rng (aucStep g σ b) ∧ Rng (mtradeA τ (mbid τ b) (moff τ b)) ∧ Rng (mtradeB τ (mbid τ b) (moff τ b)) ∧ Rng (closeM (mtradeB τ (mbid τ b) (moff τ b)) 2 (58 + 5 * mbid τ b) 5 108) ∧ Rng (mtradeM τ (mbid τ b) (moff τ b)) := by
  have hN := h.ni
  have hM := h.mi
  have n2 := hN.n2
  have s2 := h.sc.2.2.1
  have s3 := h.sc.2.2.2.1
  obtain ⟨hk1, hk2⟩ := h.rankB b0 b1
  have hx := fst_in hk1
  have hx0 : 0 ≤ mbid τ b := hx.1
  have hx1 : mbid τ b < τ 0 41 2 := hx.2.1
  obtain ⟨hma, hmb, hmc⟩ := h.mat (b := b) (c := mbid τ b) hk2.symm
  have hmm : mmatch (τ 0 41) (mbid τ b) ≠ -1 := fun q => hm (hma.mpr q)
  obtain ⟨w0, w1, hfit⟩ := hmc hmm
  have ew : moff τ b = mmatch (τ 0 41) (mbid τ b) := rfl
  rw [ew]
  generalize mmatch (τ 0 41) (mbid τ b) = w at w0 w1 hfit ⊢
  generalize mbid τ b = x at hx0 hx1 hfit ⊢
  obtain ⟨o0, o1, o2, -⟩ := fst_in hm
  have o0 : 0 ≤ matchO (σ g) b := o0
  have o1 : matchO (σ g) b < σ g 12 0 := o1
  unfold aucStep
  generalize matchO (σ g) b = o at o0 o1 ⊢
  have hb := hM.bo b b0 (by omega)
  have ho := hM.oo o o0 o1
  have hk := hM.fl.2.2.2 (σ g 14 o) ho.1.1 ho.1.2
  have hcy := hM.fl.2.2.1 (σ g 8 b) hb.1.1 hb.1.2
  have hcs := hM.fl.2.2.1 (σ g 5 (σ g 14 o)) hk.1 hk.2.1
  have hfee := hM.cr 4 (by decide)
  have htill := hM.cr 7 (by decide)
  have e8 := h.sc.2.2.2.2.2.2.2.2.1
  have e9 := h.sc.2.2.2.2.2.2.2.2.2.1
  have c8 := hN.cr 8 (by decide)
  have c9 := hN.cr 9 (by decide)
  have c10 := hN.cr 10 (by decide)
  have c6 := hN.cr 6 (by decide)
  have c13 := hN.cr 13 (by decide)
  have hR4 : Rng (tradeM4 σ g b o) := by
    simp only [tradeM4]
    have hf : 0 ≤ (if (σ g 10 b + σ g 16 o) / 2 < σ g 0 4 then (σ g 10 b + σ g 16 o) / 2 else σ g 0 4) ∧ (if (σ g 10 b + σ g 16 o) / 2 < σ g 0 4 then (σ g 10 b + σ g 16 o) / 2 else σ g 0 4) ≤ 99 := by
      split <;> omega
    generalize (if (σ g 10 b + σ g 16 o) / 2 < σ g 0 4 then (σ g 10 b + σ g 16 o) / 2 else σ g 0 4) = f at hf ⊢
    have hp : 0 ≤ (σ g 10 b + σ g 16 o) / 2 ∧ (σ g 10 b + σ g 16 o) / 2 ≤ 99 := by omega
    generalize (σ g 10 b + σ g 16 o) / 2 = p at hp ⊢
    have h1 : Rng (st3 σ g 2 (σ g 8 b) (σ g 2 (σ g 8 b) - p)) := hRσ.st ⟨by omega, by omega⟩
    have v1 : -200 ≤ st3 σ g 2 (σ g 8 b) (σ g 2 (σ g 8 b) - p) g 2 (σ g 5 (σ g 14 o)) ∧ st3 σ g 2 (σ g 8 b) (σ g 2 (σ g 8 b) - p) g 2 (σ g 5 (σ g 14 o)) ≤ 100000000 := by
      rw [st3_if]
      split <;> omega
    have h2 := h1.st (g := g) (j := 2) (k := σ g 5 (σ g 14 o)) (v := st3 σ g 2 (σ g 8 b) (σ g 2 (σ g 8 b) - p) g 2 (σ g 5 (σ g 14 o)) + (p - f)) ⟨by omega, by omega⟩
    refine (h2.st ?_).st (hRσ _ _ _ (by decide))
    rw [st3_j (by decide), st3_j (by decide)]
    exact ⟨by omega, by omega⟩
  have hRT : Rng (tradeM σ g b o) := by
    have ht : tradeM σ g b o = noteM (tradeM4 σ g b o) g (σ g 8 b) (σ g 5 (σ g 14 o)) (σ g 14 o) ((σ g 10 b + σ g 16 o) / 2) := rfl
    rw [ht]
    have v0 : tradeM4 σ g b o g 18 0 = σ g 18 0 := by
      simp only [tradeM4]
      rw [st3_j (by decide), st3_j (by decide), st3_j (by decide), st3_j (by decide)]
    have v1 : tradeM4 σ g b o g 18 1 = σ g 18 1 := by
      simp only [tradeM4]
      rw [st3_j (by decide), st3_j (by decide), st3_j (by decide), st3_j (by decide)]
    generalize tradeM4 σ g b o = σ4 at hR4 v0 v1 ⊢
    have hp : 0 ≤ (σ g 10 b + σ g 16 o) / 2 ∧ (σ g 10 b + σ g 16 o) / 2 ≤ 99 := by omega
    generalize (σ g 10 b + σ g 16 o) / 2 = p at hp ⊢
    simp only [noteM]
    have h1 := (((hR4.cpy (g1 := g) (j1 := 19) (sp := 0) (g2 := g) (j2 := 19) (dp := 1) (n := 9) (by decide)).cpy (g1 := g) (j1 := 20) (sp := 0) (g2 := g) (j2 := 20) (dp := 1) (n := 9) (by decide)).cpy (g1 := g) (j1 := 21) (sp := 0) (g2 := g) (j2 := 21) (dp := 1) (n := 9) (by decide)).cpy (g1 := g) (j1 := 22) (sp := 0) (g2 := g) (j2 := 22) (dp := 1) (n := 9) (by decide)
    have h2 := (((h1.st (g := g) (j := 19) (k := 0) (v := σ g 8 b) (hRσ _ _ _ (by decide))).st (g := g) (j := 20) (k := 0) (v := σ g 5 (σ g 14 o)) (hRσ _ _ _ (by decide))).st (g := g) (j := 21) (k := 0) (v := σ g 14 o) (hRσ _ _ _ (by decide))).st (g := g) (j := 22) (k := 0) (v := p) ⟨by omega, by omega⟩
    refine (h2.st ?_).st ?_
    · rw [st3_j (by decide), st3_j (by decide), st3_j (by decide), st3_j (by decide), cpy_k (by decide), cpy_k (by decide), cpy_k (by decide), cpy_k (by decide), v0]
      exact ⟨by omega, by omega⟩
    · rw [st3_k (by decide), st3_j (by decide), st3_j (by decide), st3_j (by decide), st3_j (by decide), cpy_k (by decide), cpy_k (by decide), cpy_k (by decide), cpy_k (by decide), v1]
      exact ⟨by omega, by omega⟩
  have t6 : tradeM σ g b o g 6 = σ g 6 := tradeM_j (by decide) (by decide) (by decide) (by decide)
  have t12 : tradeM σ g b o g 12 = σ g 12 := tradeM_j (by decide) (by decide) (by decide) (by decide)
  have hRS : Rng (removeM (removeM (tradeM σ g b o) g 6 b) g 12 o) := (hRT.remove (by decide) (by rw [t6]; omega)).remove (by decide) (by rw [removeM_js (by decide), t12]; omega)
  -- the reference
  have hxr := hN.bi x hx0 hx1
  have hwr := hN.of w w0 w1
  have hwb := hN.ba _ hwr.1.1 hwr.1.2
  have hcy' := hN.sh _ hxr.1.1 hxr.1.2
  have hcs' := hN.sh _ hwb.1.1 hwb.1.2
  have hRA : Rng (mtradeA τ x w) := by
    simp only [mtradeA]
    have hp : 0 ≤ (τ 0 41 (58 + 5 * x + 3) + τ 0 41 (108 + 4 * w + 2)) / 2 ∧ (τ 0 41 (58 + 5 * x + 3) + τ 0 41 (108 + 4 * w + 2)) / 2 ≤ 99 := by omega
    generalize (τ 0 41 (58 + 5 * x + 3) + τ 0 41 (108 + 4 * w + 2)) / 2 = p at hp ⊢
    have hf : 0 ≤ (if p < τ 0 41 6 then p else τ 0 41 6) ∧ (if p < τ 0 41 6 then p else τ 0 41 6) ≤ p := by
      split <;> omega
    generalize (if p < τ 0 41 6 then p else τ 0 41 6) = f at hf ⊢
    generalize τ 0 41 (58 + 5 * x + 1) = y at hxr hcy' ⊢
    generalize τ 0 41 (108 + 4 * w + 1) = k at hwr hwb hcs' ⊢
    generalize τ 0 41 (26 + 2 * k) = s at hwb hcs' ⊢
    have h1 : Rng (st3 τ 0 41 (14 + 2 * y) (τ 0 41 (14 + 2 * y) - p)) := hRτ.st ⟨by omega, by omega⟩
    have v1 : -200 ≤ st3 τ 0 41 (14 + 2 * y) (τ 0 41 (14 + 2 * y) - p) 0 41 (14 + 2 * s) ∧ st3 τ 0 41 (14 + 2 * y) (τ 0 41 (14 + 2 * y) - p) 0 41 (14 + 2 * s) ≤ 100000000 := by
      rw [st3_if]
      split <;> omega
    have h2 := h1.st (g := 0) (j := 41) (k := 14 + 2 * s) (v := st3 τ 0 41 (14 + 2 * y) (τ 0 41 (14 + 2 * y) - p) 0 41 (14 + 2 * s) + (p - f)) ⟨by omega, by omega⟩
    have hyr : 0 ≤ y ∧ y < 6 := by have := hN.n0; omega
    have hsr : 0 ≤ s ∧ s < 6 := by have := hN.n0; omega
    have hkr : 0 ≤ k ∧ k < 16 := by have := hN.n1; omega
    refine (((h2.st ?_).st ?_).st ?_).st ?_
    · rw [st3_k (by omega), st3_k (by omega)]
      exact ⟨by omega, by omega⟩
    · exact ⟨by omega, by omega⟩
    · rw [st3_k (by omega), st3_k (by omega), st3_k (by omega), st3_k (by omega)]
      exact ⟨by omega, by omega⟩
    · rw [st3_k (by omega), st3_k (by omega), st3_k (by omega), st3_k (by omega), st3_k (by omega)]
      exact ⟨by omega, by omega⟩
  have h23 := mtradeM_2 (σ := τ) (b := x) (x := w) hN ⟨hx0, hx1⟩ ⟨w0, w1⟩
  have hRB : Rng (mtradeB τ x w) := by
    unfold mtradeB rememM
    have h1 := hRA.cpy (g1 := 0) (j1 := 41) (sp := 172) (g2 := 0) (j2 := 41) (dp := 176) (n := 36) (by decide)
    have h2 := (((h1.st (g := 0) (j := 41) (k := 172) (v := τ 0 41 (58 + 5 * x + 1)) (hRτ _ _ _ (by decide))).st (g := 0) (j := 41) (k := 173) (v := τ 0 41 (26 + 2 * τ 0 41 (108 + 4 * w + 1))) (hRτ _ _ _ (by decide))).st (g := 0) (j := 41) (k := 174) (v := τ 0 41 (108 + 4 * w + 1)) (hRτ _ _ _ (by decide))).st (g := 0) (j := 41) (k := 175) (v := (τ 0 41 (58 + 5 * x + 3) + τ 0 41 (108 + 4 * w + 2)) / 2) ⟨by omega, by omega⟩
    refine h2.st ?_
    have hz := h2 0 41 13 (by decide)
    split
    · exact ⟨by omega, by omega⟩
    · exact ⟨by decide, by decide⟩
  have hRC : Rng (closeM (mtradeB τ x w) 2 (58 + 5 * x) 5 108) := closeM_R hRB (by omega) (by omega) (by rw [h23.2.1]; omega)
  refine ⟨hR4, hRT, hRS, hRA, hRB, hRC, closeM_R hRC (by omega) (by omega) ?_⟩
  rw [closeM_k (by omega) (by omega) (by omega), h23.2.2.1]
  omega
set_option maxHeartbeats 4000000 in
/-- the auction on both sides: they keep step -/
theorem auc_both {g : Int} : ∀ (n : Nat) (σ τ : Mem) (b d B : Int), MR (σ g) (τ 0 41) → Rng σ → Rng τ → 0 ≤ b → τ 0 41 2 = b + n → BD (τ 0 41) B → B + 99 * n ≤ 90000000 →
    aucOk g n σ b ∧ maucOk n τ b ∧ MR (aucR g n σ b g) ((maucR n τ b d).1 0 41) ∧ Rng (aucR g n σ b) ∧ Rng (maucR n τ b d).1 ∧ aucR g n σ b g 18 0 - σ g 18 0 = (maucR n τ b d).2 - d ∧ BD ((maucR n τ b d).1 0 41) (B + 99 * n) ∧ (∀ i : Int, i ≠ g → aucR g n σ b i = σ i) ∧ (∀ j : Nat, 23 ≤ j → aucR g n σ b g j = σ g j) ∧ ∀ (i : Int) (j : Nat), ¬ (i = 0 ∧ j = 41) → (maucR n τ b d).1 i j = τ i j
  | 0, σ, τ, b, d, B, h, hRσ, hRτ, b0, hs, hB, hB2 => by
    rw [aucR, maucR]
    exact ⟨trivial, trivial, h, hRσ, hRτ, by omega, hB.mono (by omega), fun _ _ => rfl, fun _ _ => rfl, fun _ _ _ => rfl⟩
  | n + 1, σ, τ, b, d, B, h, hRσ, hRτ, b0, hs, hB, hB2 => by
    have hN := h.ni
    have hM := h.mi
    have s2 := h.sc.2.2.1
    have s8 := h.sc.2.2.2.2.2.2.2.2.1
    have b1 : b < τ 0 41 2 := by omega
    obtain ⟨hk1, hk2⟩ := h.rankB b0 b1
    have hk1 : mbid τ b ≠ -1 := hk1
    obtain ⟨hma, -, -⟩ := h.mat (b := b) (c := mbid τ b) hk2.symm
    have hma : matchO (σ g) b = -1 ↔ moff τ b = -1 := hma
    rw [aucR, maucR, aucOk, maucOk]
    by_cases hm : matchO (σ g) b = -1
    · have hm' := hma.mp hm
      rw [if_pos hm, if_pos hm', if_pos hm, if_pos hm']
      have ih := auc_both n σ τ (b + 1) d B h hRσ hRτ (by omega) (by omega) hB (by omega)
      obtain ⟨i1, i2, i3, i4, i5, i6, i7, i8, i9, i10⟩ := ih
      exact ⟨⟨⟨hRσ, hM, b0, by omega⟩, i1⟩, ⟨⟨hRτ, hN, b0, b1, hk1⟩, i2⟩, i3, i4, i5, i6, i7.mono (by omega), i8, i9, i10⟩
    · have hm' : ¬ moff τ b = -1 := fun q => hm (hma.mpr q)
      rw [if_neg hm, if_neg hm', if_neg hm, if_neg hm']
      have hb8 := hB 8 (by decide) (by decide)
      have hb9 := hB 9 (by decide) (by decide)
      obtain ⟨hst, hxr, hwr⟩ := MR_step h b0 b1 hm (by omega) (by omega)
      obtain ⟨r1, r2, r3, r4, r5, r6, r7⟩ := deal_rng h hRσ hRτ b0 b1 hm
      have h2 := (mtradeM_2 (σ := τ) (b := mbid τ b) (x := moff τ b) hN hxr hwr).1
      have hBD : BD (mtradeM τ (mbid τ b) (moff τ b) 0 41) (B + 99) := by
        have s := hst.sc
        have s' := h.sc
        have f1 : aucStep g σ b g 0 = tradeM σ g b (matchO (σ g) b) g 0 := aucStep_j (by decide)
        have f18 : aucStep g σ b g 18 = tradeM σ g b (matchO (σ g) b) g 18 := aucStep_j (by decide)
        obtain ⟨o0, o1, -⟩ := fst_in hm
        have o0 : 0 ≤ matchO (σ g) b := o0
        have o1 : matchO (σ g) b < σ g 12 0 := o1
        have hbr := hM.bo b b0 (by omega)
        have hor := hM.oo _ o0 o1
        have t18 := tradeM_18 (σ := σ) (g := g) (b := b) (o := matchO (σ g) b)
        have t0 := fun z => tradeM_0z (σ := σ) (g := g) (b := b) (o := matchO (σ g) b) (z := z)
        have st := aucStep_s (σ := σ) (g := g) (b := b)
        have hfee := hM.cr 4 (by decide)
        have hf : (if (σ g 10 b + σ g 16 (matchO (σ g) b)) / 2 < σ g 0 4 then (σ g 10 b + σ g 16 (matchO (σ g) b)) / 2 else σ g 0 4) ≤ 99 := by
          split <;> omega
        obtain ⟨a0, a1, a2, a3, a4, a5, a6, a7, a8, a9, a10, a11, a12⟩ := s
        obtain ⟨c0, c1, c2, c3, c4, c5, c6, c7, c8, c9, c10, c11, c12⟩ := s'
        rw [f1] at a6 a7 a10 a11 a12
        rw [f18] at a8 a9
        rw [t0, if_neg (by decide)] at a6 a7 a11 a12
        rw [t0, if_pos rfl] at a10
        intro k k0 k1
        have hbk := hB k k0 k1
        have hk : k = 4 ∨ k = 5 ∨ k = 6 ∨ k = 7 ∨ k = 8 ∨ k = 9 ∨ k = 10 ∨ k = 11 ∨ k = 12 := by omega
        rcases hk with rfl | rfl | rfl | rfl | rfl | rfl | rfl | rfl | rfl <;> omega
      have ih := auc_both n (aucStep g σ b) (mtradeM τ (mbid τ b) (moff τ b)) b (d + 1) (B + 99) hst r3 r7 b0 (by omega) hBD (by omega)
      obtain ⟨i1, i2, i3, i4, i5, i6, i7, i8, i9, i10⟩ := ih
      have e18 : aucStep g σ b g 18 0 = σ g 18 0 + 1 := by rw [aucStep_j (by decide), tradeM_18.1]
      refine ⟨⟨⟨hRσ, hM, b0, by omega⟩, r1, r2, i1⟩, ⟨⟨hRτ, hN, b0, b1, hk1⟩, r4, r5, r6, i2⟩, i3, i4, i5, by omega, i7.mono (by omega), fun i hi => ?_, fun j hj => ?_, fun i j hij => ?_⟩
      · rw [i8 i hi, aucStep_o hi]
      · rw [i9 j hj, aucStep_j (by omega), tradeM_j (by omega) (by omega) (by omega) (by omega)]
      · rw [i10 i j hij, mtradeM_j hij]
