/-! a tide, on both sides: ages, and the end -/
theorem AB_1 (x y : Row) (h : AB x y) : AB (incR x) y := h
theorem AB_2 (x y : Row) (h : AB x y) : AB x (incR y) := h
theorem AO_1 (x y : Row) (h : AO x y) : AO (incR x) y := h
theorem AO_2 (x y : Row) (h : AO x y) : AO x (incR y) := h
set_option maxHeartbeats 4000000 in
theorem ages_B {σ τ : Mem} {g : Int} {B : Int} (h : MR (σ g) (τ 0 41)) (hRσ : Rng σ) (hRτ : Rng τ) (hB : BD (τ 0 41) B) (hB2 : B ≤ 85000000) :
    let q := growR g 6 (σ g 6 0).toNat σ 0
    let σ' := st3 q.1 g 0 6 (σ g 0 6 + q.2)
    bkOk σ g 6 10 ∧ mbkOk τ 2 58 5 4 10 ∧ MR (σ' g) (mage1 τ 0 41) ∧ Rng σ' ∧ Rng (mage1 τ) ∧ BD (mage1 τ 0 41) (B + 10) ∧ (∀ i : Int, i ≠ g → σ' i = σ i) ∧ (∀ j : Nat, 12 ≤ j → σ' g j = σ g j) ∧ ∀ (i : Int) (j : Nat), ¬ (i = 0 ∧ j = 41) → mage1 τ i j = τ i j := by
  have hN := h.ni
  have hM := h.mi
  have n2 := hN.n2
  have s2 := h.sc.2.2.1
  have s11 := h.sc.2.2.2.2.2.2.2.2.2.2.2.1
  have c11 := hN.cr 11 (by decide)
  have b11 := hB 11 (by decide) (by decide)
  have hbk : bkOk σ g 6 10 := ⟨hRσ, hM.nb, fun k a b => (hM.bo k a b).2.2.2⟩
  have hmk : mbkOk τ 2 58 5 4 10 := ⟨hRτ, n2, fun i a b => (hN.bi i a b).2.2.2, by omega, by omega⟩
  have hc := growR_spec (g := g) (p := 6) (by decide) AB_1 AB_2 (σ g 6 0).toNat σ 0 (by omega) hRσ (fun k a b => (hM.bo k a (by omega)).2.2.2) (fun i j a b c => h.bi.2.1 i j a b (by omega))
  have hr := mageR_spec ageK_b (A := fun x y => x.1 < y.1) (fun _ _ h => h) (fun _ _ h => h) (τ 0 41 2).toNat τ 0 (by omega) (by decide) n2.2 hRτ (by omega) (fun j a b => (hN.bi j a b).2.2.2) (fun i j a b c => h.bi.2.2.1 i j a b c)
  intro q σ'
  obtain ⟨⟨g1, g2, g3⟩, ⟨g4, g5, g6⟩, g7, g8, g9⟩ := hc
  obtain ⟨⟨r1, r2⟩, ⟨r4, r5, r6⟩, r7, r8, r9⟩ := hr
  have hq : growR g 6 (σ g 6 0).toNat σ 0 = q := rfl
  rw [hq] at g1 g2 g3 g4 g5 g6 g7 g8 g9
  have hm : mageR 2 58 5 4 108 (τ 0 41 2).toNat τ 0 = mage1 τ := rfl
  rw [hm] at r1 r2 r4 r5 r6 r7 r8 r9
  have hR' : Rng σ' := g9.st (by have := hM.cr 6 (by decide); exact ⟨by omega, by omega⟩)
  have f6 : ∀ j : Nat, j ≠ 0 → σ' g j = q.1 g j := fun j hj => by
    show st3 q.1 g 0 6 _ g j = _
    rw [st3_pm, pm_j hj]
  have f0 : ∀ z : Int, z ≠ 6 → σ' g 0 z = σ g 0 z := fun z hz => by
    show st3 q.1 g 0 6 _ g 0 z = _
    rw [st3_k hz, g1 0 (by decide)]
  have hb : bRow (σ' g) = gRow (q.1 g) 6 := by
    funext k
    unfold bRow gRow
    rw [f6 7 (by decide), f6 8 (by decide), f6 9 (by decide), f6 10 (by decide), f6 11 (by decide)]
  refine ⟨hbk, hmk, ?_, hR', r9, ?_, fun i hi => ?_, fun j hj => ?_, r1⟩
  · refine MR_oldB h (by omega) (by rw [f6 6 (by decide)]; exact g5) (by omega) (fun j j0 j1 => ?_) f0 ?_ (by rw [f6 6 (by decide)]; exact g2) (fun φ => ?_) (fun i j a b c => ?_) r2 (by omega) (fun φ => ?_) r8
    · rw [f6 j j0, g1 j (by omega)]
    · rw [f6 6 (by decide)]
      show st3 q.1 g 0 6 _ g 0 6 = _
      rw [st3_self]
      omega
    · rw [hb, f6 6 (by decide), g7 φ]
      refine sumI_congr fun k a b => ?_
      rw [if_pos (by omega)]
      rfl
    · rw [f6 6 (by decide)] at c
      rw [hb]
      exact g8 i j a b c
    · rw [r7 φ]
      refine sumI_congr fun k a b => ?_
      rw [if_pos a]
  · intro k k0 k1
    have hk := hB k k0 k1
    by_cases e : k = 11
    · subst e
      omega
    · rw [r2 k (by omega) e (by omega)]
      omega
  · show st3 q.1 g 0 6 _ i = _
    rw [st3_o hi, g3 i hi]
  · rw [f6 j (by omega), g1 j (by omega)]
set_option maxHeartbeats 4000000 in
theorem ages_O {σ τ : Mem} {g : Int} {B : Int} (h : MR (σ g) (τ 0 41)) (hRσ : Rng σ) (hRτ : Rng τ) (hB : BD (τ 0 41) B) (hB2 : B ≤ 85000000) :
    let q := growR g 12 (σ g 12 0).toNat σ 0
    let σ' := st3 q.1 g 0 6 (σ g 0 6 + q.2)
    let τ' := mageR 3 108 4 3 172 (τ 0 41 3).toNat τ 0
    bkOk σ g 12 16 ∧ mbkOk τ 3 108 4 3 16 ∧ MR (σ' g) (τ' 0 41) ∧ Rng σ' ∧ Rng τ' ∧ BD (τ' 0 41) (B + 16) ∧ (∀ i : Int, i ≠ g → σ' i = σ i) ∧ (∀ j : Nat, 18 ≤ j → σ' g j = σ g j) ∧ ∀ (i : Int) (j : Nat), ¬ (i = 0 ∧ j = 41) → τ' i j = τ i j := by
  have hN := h.ni
  have hM := h.mi
  have n3 := hN.n3
  have s3 := h.sc.2.2.2.1
  have s11 := h.sc.2.2.2.2.2.2.2.2.2.2.2.1
  have c11 := hN.cr 11 (by decide)
  have b11 := hB 11 (by decide) (by decide)
  have hbk : bkOk σ g 12 16 := ⟨hRσ, hM.no, fun k a b => (hM.oo k a b).2.2.2⟩
  have hmk : mbkOk τ 3 108 4 3 16 := ⟨hRτ, n3, fun i a b => (hN.of i a b).2.2, by omega, by omega⟩
  have hc := growR_spec (g := g) (p := 12) (by decide) AO_1 AO_2 (σ g 12 0).toNat σ 0 (by omega) hRσ (fun k a b => (hM.oo k a (by omega)).2.2.2) (fun i j a b c => h.of.2.1 i j a b (by omega))
  have hr := mageR_spec ageK_o (A := fun x y => x.1 < y.1) (fun _ _ h => h) (fun _ _ h => h) (τ 0 41 3).toNat τ 0 (by omega) (by decide) n3.2 hRτ (by omega) (fun j a b => (hN.of j a b).2.2) (fun i j a b c => h.of.2.2.1 i j a b c)
  intro q σ' τ'
  obtain ⟨⟨g1, g2, g3⟩, ⟨g4, g5, g6⟩, g7, g8, g9⟩ := hc
  obtain ⟨⟨r1, r2⟩, ⟨r4, r5, r6⟩, r7, r8, r9⟩ := hr
  have hq : growR g 12 (σ g 12 0).toNat σ 0 = q := rfl
  rw [hq] at g1 g2 g3 g4 g5 g6 g7 g8 g9
  have hm : mageR 3 108 4 3 172 (τ 0 41 3).toNat τ 0 = τ' := rfl
  rw [hm] at r1 r2 r4 r5 r6 r7 r8 r9
  have hR' : Rng σ' := g9.st (by have := hM.cr 6 (by decide); exact ⟨by omega, by omega⟩)
  have f6 : ∀ j : Nat, j ≠ 0 → σ' g j = q.1 g j := fun j hj => by
    show st3 q.1 g 0 6 _ g j = _
    rw [st3_pm, pm_j hj]
  have f0 : ∀ z : Int, z ≠ 6 → σ' g 0 z = σ g 0 z := fun z hz => by
    show st3 q.1 g 0 6 _ g 0 z = _
    rw [st3_k hz, g1 0 (by decide)]
  have hb : oRow (σ' g) = gRow (q.1 g) 12 := by
    funext k
    unfold oRow gRow
    rw [f6 13 (by decide), f6 14 (by decide), f6 15 (by decide), f6 16 (by decide), f6 17 (by decide)]
  refine ⟨hbk, hmk, ?_, hR', r9, ?_, fun i hi => ?_, fun j hj => ?_, r1⟩
  · refine MR_oldO h (by omega) (by rw [f6 12 (by decide)]; exact g5) (by omega) (fun j j0 j1 => ?_) f0 ?_ (by rw [f6 12 (by decide)]; exact g2) (fun φ => ?_) (fun i j a b c => ?_) r2 (by omega) (fun φ => ?_) r8
    · rw [f6 j j0, g1 j (by omega)]
    · rw [f6 12 (by decide)]
      show st3 q.1 g 0 6 _ g 0 6 = _
      rw [st3_self]
      omega
    · rw [hb, f6 12 (by decide), g7 φ]
      refine sumI_congr fun k a b => ?_
      rw [if_pos (by omega)]
      rfl
    · rw [f6 12 (by decide)] at c
      rw [hb]
      exact g8 i j a b c
    · rw [r7 φ]
      refine sumI_congr fun k a b => ?_
      rw [if_pos a]
  · intro k k0 k1
    have hk := hB k k0 k1
    by_cases e : k = 11
    · subst e
      omega
    · rw [r2 k (by omega) e (by omega)]
      omega
  · show st3 q.1 g 0 6 _ i = _
    rw [st3_o hi, g3 i hi]
  · rw [f6 j (by omega), g1 j (by omega)]
set_option maxHeartbeats 4000000 in
theorem tide_both {σ τ : Mem} {g : Int} {B : Int} (h : MR (σ g) (τ 0 41)) (hRσ : Rng σ) (hRτ : Rng τ) (hB : BD (τ 0 41) B) (hB2 : B ≤ 80000000) :
    tideOk g σ ∧ mtideOk τ ∧ MR (tideM g σ g) (mtideM τ 0 41) ∧ Rng (tideM g σ) ∧ Rng (mtideM τ) ∧ BD (mtideM τ 0 41) (B + 2000) ∧ tideM g σ g 18 0 - σ g 18 0 = (mtide1 τ).2 ∧ (∀ i : Int, i ≠ g → tideM g σ i = σ i) ∧ (∀ j : Nat, 23 ≤ j → tideM g σ g j = σ g j) ∧ ∀ (i : Int) (j : Nat), ¬ (i = 0 ∧ j = 41) → mtideM τ i j = τ i j := by
  have hN := h.ni
  have hM := h.mi
  have n2 := hN.n2
  have s2 := h.sc.2.2.1
  have ha := auc_both (g := g) (τ 0 41 2).toNat σ τ 0 0 B h hRσ hRτ (by decide) (by omega) hB (by omega)
  have e1 : aucR g (τ 0 41 2).toNat σ 0 = tide1 g σ := by unfold tide1; rw [s2]
  have e2 : maucR (τ 0 41 2).toNat τ 0 0 = mtide1 τ := rfl
  rw [e1, e2] at ha
  obtain ⟨a1, a2, a3, a4, a5, a6, a7, a8, a9, a10⟩ := ha
  obtain ⟨b1, b2, b3, b4, b5, b6, b7, b8, b9⟩ := ages_B a3 a4 a5 a7 (by omega)
  have e3 : st3 (growR g 6 (tide1 g σ g 6 0).toNat (tide1 g σ) 0).1 g 0 6 (tide1 g σ g 0 6 + (growR g 6 (tide1 g σ g 6 0).toNat (tide1 g σ) 0).2) = tide2 g σ := rfl
  simp only [e3] at b3 b4 b7 b8
  obtain ⟨c1, c2, c3, c4, c5, c6, c7, c8, c9⟩ := ages_O b3 b4 b5 b6 (by omega)
  have e4 : st3 (growR g 12 (tide2 g σ g 12 0).toNat (tide2 g σ) 0).1 g 0 6 (tide2 g σ g 0 6 + (growR g 12 (tide2 g σ g 12 0).toNat (tide2 g σ) 0).2) = tide3 g σ := rfl
  have e5 : mageR 3 108 4 3 172 (mage1 (mtide1 τ).1 0 41 3).toNat (mage1 (mtide1 τ).1) 0 = mages (mtide1 τ).1 := rfl
  simp only [e4, e5] at c3 c4 c5 c6 c7 c8 c9
  have h7 := c6 7 (by decide) (by decide)
  have k7 := c3.ni.cr 7 (by decide)
  have s7 := c3.sc.2.2.2.2.2.2.2.1
  refine ⟨⟨hM.nb, by rw [s2]; exact a1, b1, c1⟩, ⟨⟨n2, a2⟩, b2, c2⟩, ?_, ?_, ?_, ?_, ?_, fun i hi => ?_, fun j hj => ?_, fun i j hij => ?_⟩
  · refine MR_one c3 (i := 5) (k := 7) (v := mages (mtide1 τ).1 0 41 7 + 1) (Or.inr (Or.inl ⟨rfl, rfl⟩)) (by omega) (fun j hj => ?_) (fun z hz => ?_) ?_ (fun z hz => ?_) ?_
    · show st3 (tide3 g σ) g 0 5 _ g j = _
      rw [st3_pm, pm_j hj]
    · show st3 (tide3 g σ) g 0 5 _ g 0 z = _
      rw [st3_k hz]
    · show st3 (tide3 g σ) g 0 5 _ g 0 5 = _
      rw [st3_self, s7]
    · show st3 (mages (mtide1 τ).1) 0 41 7 _ 0 41 z = _
      rw [st3_k hz]
    · show st3 (mages (mtide1 τ).1) 0 41 7 _ 0 41 7 = _
      rw [st3_self]
  · exact c4.st (by rw [s7]; exact ⟨by omega, by omega⟩)
  · exact c5.st ⟨by omega, by omega⟩
  · intro k k0 k1
    have hk := c6 k k0 k1
    show st3 (mages (mtide1 τ).1) 0 41 7 _ 0 41 k ≤ _
    rw [st3_if]
    split <;> omega
  · have x1 : tideM g σ g 18 = tide3 g σ g 18 := by
      show st3 (tide3 g σ) g 0 5 _ g 18 = _
      rw [st3_pm, pm_j (by decide)]
    rw [x1, c8 18 (by decide), b8 18 (by decide)]
    omega
  · show st3 (tide3 g σ) g 0 5 _ i = _
    rw [st3_o hi, c7 i hi, b7 i hi, a8 i hi]
  · have x1 : tideM g σ g j = tide3 g σ g j := by
      show st3 (tide3 g σ) g 0 5 _ g j = _
      rw [st3_pm, pm_j (by omega)]
    rw [x1, c8 j (by omega), b8 j (by omega), a9 j hj]
  · have x1 : mtideM τ i j = mages (mtide1 τ).1 i j := by
      funext z
      exact if_neg fun q => hij ⟨q.1, q.2.1⟩
    rw [x1, c9 i j hij, b9 i j hij, a10 i j hij]
