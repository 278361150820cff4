/-! orders grow older, on both sides -/
def incR (x : Row) : Row := (x.1, x.2.1, x.2.2.1, x.2.2.2.1, x.2.2.2.2 + 1)
def psi (φ : Row → Int) (x : Row) : Int := if 3 ≤ x.2.2.2.2 + 1 then 0 else φ (incR x)
theorem age_row {σ : Mem} {g : Int} {p : Nat} {i k : Int} : gRow (st3 σ g (p+5) i (σ g (p+5) i + 1) g) p k = if k = i then incR (gRow (σ g) p k) else gRow (σ g) p k := by
  unfold gRow
  rw [st3_j (by omega), st3_j (by omega), st3_j (by omega), st3_j (by omega), st3_if]
  by_cases h : k = i
  · subst h
    rw [if_pos rfl, if_pos rfl]
    rfl
  · rw [if_neg h, if_neg h]
set_option maxHeartbeats 4000000 in
theorem growR_spec {g : Int} {p : Nat} (hp : p < 46) {A : Row → Row → Prop} (hA1 : ∀ x y, A x y → A (incR x) y) (hA2 : ∀ x y, A x y → A x (incR y)) : ∀ (n : Nat) (σ : Mem) (e : Int), (n : Int) ≤ σ g p 0 → Rng σ → (∀ k : Int, 0 ≤ k → k < n → 0 ≤ σ g (p+5) k ∧ σ g (p+5) k ≤ 2) → (∀ i j : Int, 0 ≤ i → i < j → j < σ g p 0 → A (gRow (σ g) p i) (gRow (σ g) p j)) →
    ((∀ j : Nat, ¬ (p ≤ j ∧ j ≤ p + 5) → (growR g p n σ e).1 g j = σ g j) ∧ (growR g p n σ e).1 g p 1 = σ g p 1 ∧ ∀ i : Int, i ≠ g → (growR g p n σ e).1 i = σ i) ∧
    ((growR g p n σ e).2 - e = σ g p 0 - (growR g p n σ e).1 g p 0 ∧ 0 ≤ (growR g p n σ e).1 g p 0 ∧ (growR g p n σ e).1 g p 0 ≤ σ g p 0) ∧
    (∀ φ : Row → Int, sumI (fun k => φ (gRow ((growR g p n σ e).1 g) p k)) ((growR g p n σ e).1 g p 0) = sumI (fun k => if k < n then psi φ (gRow (σ g) p k) else φ (gRow (σ g) p k)) (σ g p 0)) ∧
    (∀ i j : Int, 0 ≤ i → i < j → j < (growR g p n σ e).1 g p 0 → A (gRow ((growR g p n σ e).1 g) p i) (gRow ((growR g p n σ e).1 g) p j)) ∧ Rng (growR g p n σ e).1
  | 0, σ, e, hn, hR, ha, hs => by
    rw [growR]
    dsimp only
    refine ⟨⟨fun _ _ => rfl, rfl, fun _ _ => rfl⟩, ⟨by omega, by omega, by omega⟩, fun φ => ?_, hs, hR⟩
    refine sumI_congr fun k a b => ?_
    rw [if_neg (by omega)]
  | n + 1, σ, e, hn, hR, ha, hs => by
    have han := ha n (by omega) (by omega)
    have e1 : st3 σ g (p+5) (n : Int) (σ g (p+5) (n : Int) + 1) g (p+5) (n : Int) = σ g (p+5) (n : Int) + 1 := st3_self
    have e0 : ∀ z, st3 σ g (p+5) (n : Int) (σ g (p+5) (n : Int) + 1) g p z = σ g p z := fun z => st3_j (by omega)
    have hR1 : Rng (st3 σ g (p+5) (n : Int) (σ g (p+5) (n : Int) + 1)) := hR.st ⟨by omega, by omega⟩
    have hrow := fun k => age_row (σ := σ) (g := g) (p := p) (i := (n : Int)) (k := k)
    have hage : ∀ k, (gRow (σ g) p k).2.2.2.2 = σ g (p+5) k := fun _ => rfl
    have hfr : ∀ j : Nat, ¬ (p ≤ j ∧ j ≤ p + 5) → st3 σ g (p+5) (n : Int) (σ g (p+5) (n : Int) + 1) g j = σ g j := fun j hj => by
      rw [st3_pm, pm_j (by omega)]
    have hfo : ∀ i : Int, i ≠ g → st3 σ g (p+5) (n : Int) (σ g (p+5) (n : Int) + 1) i = σ i := fun i hi => st3_o hi
    have ha1 : ∀ k : Int, 0 ≤ k → k < n → st3 σ g (p+5) (n : Int) (σ g (p+5) (n : Int) + 1) g (p+5) k = σ g (p+5) k := fun k a b => st3_k (by omega)
    have hs1 : ∀ i j : Int, 0 ≤ i → i < j → j < σ g p 0 → A (gRow (st3 σ g (p+5) (n : Int) (σ g (p+5) (n : Int) + 1) g) p i) (gRow (st3 σ g (p+5) (n : Int) (σ g (p+5) (n : Int) + 1) g) p j) := fun i j a b c => by
      have h0 := hs i j a b c
      rw [hrow, hrow]
      by_cases c1 : i = n
      · rw [if_pos c1, if_neg (by omega)]
        exact hA1 _ _ h0
      · rw [if_neg c1]
        by_cases c2 : j = n
        · rw [if_pos c2]
          exact hA2 _ _ h0
        · rw [if_neg c2]
          exact h0
    rw [growR]
    try dsimp only
    rw [e1]
    generalize hσ1 : st3 σ g (p+5) (n : Int) (σ g (p+5) (n : Int) + 1) = σ1 at e1 e0 hR1 hrow hfr hfo ha1 hs1 ⊢
    by_cases hc : σ g (p+5) (n : Int) + 1 ≥ 3
    · rw [if_pos hc]
      have hr2 := fun k => removeM_row (σ := σ1) (g := g) (p := p) (r := (n : Int)) (k := k)
      have h20 : removeM σ1 g p (n : Int) g p 0 = σ g p 0 - 1 := by rw [removeM_0, e0]
      have h21 : removeM σ1 g p (n : Int) g p 1 = σ g p 1 := by rw [removeM_p1, e0]
      have hR2 : Rng (removeM σ1 g p (n : Int)) := hR1.remove hp (by rw [e0]; omega)
      have ha2 : ∀ k : Int, 0 ≤ k → k < n → 0 ≤ removeM σ1 g p (n : Int) g (p+5) k ∧ removeM σ1 g p (n : Int) g (p+5) k ≤ 2 := fun k a b => by
        rw [removeM_5 b, ha1 k a b]
        exact ha k a (by omega)
      have hs2 : ∀ i j : Int, 0 ≤ i → i < j → j < removeM σ1 g p (n : Int) g p 0 → A (gRow (removeM σ1 g p (n : Int) g) p i) (gRow (removeM σ1 g p (n : Int) g) p j) := fun i j a b c => by
        rw [h20] at c
        rw [hr2, hr2, e0]
        by_cases c1 : (n : Int) ≤ i
        · rw [if_pos (by omega), if_pos (by omega)]
          exact hs1 _ _ (by omega) (by omega) (by omega)
        · rw [if_neg (by omega)]
          by_cases c2 : (n : Int) ≤ j
          · rw [if_pos (by omega)]
            exact hs1 _ _ (by omega) (by omega) (by omega)
          · rw [if_neg (by omega)]
            exact hs1 _ _ (by omega) (by omega) (by omega)
      have ih := growR_spec hp hA1 hA2 n (removeM σ1 g p (n : Int)) (e + 1) (by rw [h20]; omega) hR2 ha2 hs2
      generalize growR g p n (removeM σ1 g p (n : Int)) (e + 1) = q at ih ⊢
      obtain ⟨⟨i1, i2, i3⟩, ⟨i4, i5, i6⟩, i7, i8, i9⟩ := ih
      rw [h20] at i4 i6 i7
      refine ⟨⟨fun j hj => ?_, by rw [i2, h21], fun i hi => ?_⟩, ⟨by omega, i5, by omega⟩, fun φ => ?_, i8, i9⟩
      · rw [i1 j hj, removeM_js hj, hfr j hj]
      · rw [i3 i hi, removeM_o hi, hfo i hi]
      · rw [i7 φ]
        have hz := sumI_rem (g := fun k => if k < ((n + 1 : Nat) : Int) then psi φ (gRow (σ g) p k) else φ (gRow (σ g) p k)) (g' := fun k => if k < (n : Int) then psi φ (gRow (removeM σ1 g p (n : Int) g) p k) else φ (gRow (removeM σ1 g p (n : Int) g) p k)) (n := σ g p 0) (r := (n : Int)) (by omega) (by omega) (fun k a b => by
          rw [if_pos b, if_pos (by omega), hr2, if_neg (by omega), hrow, if_neg (by omega)]) (fun k a b => by
          rw [if_neg (by omega), if_neg (by omega), hr2, if_pos (by rw [e0]; omega), hrow, if_neg (by omega)])
        rw [hz, if_pos (by omega)]
        have : psi φ (gRow (σ g) p (n : Int)) = 0 := if_pos (by rw [hage]; omega)
        omega
    · rw [if_neg hc]
      have ih := growR_spec hp hA1 hA2 n σ1 e (by rw [e0]; omega) hR1 (fun k a b => by rw [ha1 k a b]; exact ha k a (by omega)) (by rw [e0]; exact hs1)
      generalize growR g p n σ1 e = q at ih ⊢
      obtain ⟨⟨i1, i2, i3⟩, ⟨i4, i5, i6⟩, i7, i8, i9⟩ := ih
      rw [e0] at i2 i4 i6
      refine ⟨⟨fun j hj => ?_, i2, fun i hi => ?_⟩, ⟨i4, i5, i6⟩, fun φ => ?_, i8, i9⟩
      · rw [i1 j hj, hfr j hj]
      · rw [i3 i hi, hfo i hi]
      · rw [i7 φ, e0]
        refine sumI_congr fun k a b => ?_
        rw [hrow]
        by_cases c : k < (n : Int)
        · rw [if_pos c, if_neg (by omega), if_pos (by omega)]
        · rw [if_neg c]
          by_cases c2 : k = n
          · rw [if_pos c2, if_pos (by omega), psi, if_neg (by rw [hage, c2]; omega)]
          · rw [if_neg c2, if_neg (by omega)]
/-- what the reference's rows must bear for their growing older to be said -/
def AgeK (w b s a e cap : Int) (R : (Int → Int) → Int → Row) : Prop :=
  (2 ≤ w ∧ w ≤ 3) ∧ (58 ≤ b ∧ 0 ≤ s ∧ 0 ≤ a ∧ b + s ≤ e ∧ e ≤ 172 ∧ 4 ≤ e - s) ∧
  (∀ (ν : Int → Int) (k : Int), (R ν k).2.2.2.2 = ν (b + s * k + a)) ∧
  (∀ k : Int, 0 ≤ k → k < cap → b ≤ b + s * k ∧ b + s * k ≤ b + s * k + a ∧ b + s * k + a < e ∧ b + s * k ≤ e - s) ∧
  (∀ (σ : Mem) (k j v : Int), 0 ≤ k → k < cap → 0 ≤ j → j < cap → v = σ 0 41 (b + s * k + a) + 1 → R (st3 σ 0 41 (b + s * k + a) v 0 41) j = if j = k then incR (R (σ 0 41) j) else R (σ 0 41) j) ∧
  (∀ (σ : Mem) (k j : Int), 0 ≤ k → k < cap → 0 ≤ j → j < cap - 1 → R (closeM σ w (b + s * k) s e 0 41) j = if k ≤ j then R (σ 0 41) (j + 1) else R (σ 0 41) j) ∧
  ∀ (σ : Mem) (v j : Int), 0 ≤ j → j < cap → R (st3 σ 0 41 11 v 0 41) j = R (σ 0 41) j
set_option maxHeartbeats 4000000 in
theorem mageR_spec {w b s a e cap : Int} {R : (Int → Int) → Int → Row} (hK : AgeK w b s a e cap R) {A : Row → Row → Prop} (hA1 : ∀ x y, A x y → A (incR x) y) (hA2 : ∀ x y, A x y → A x (incR y)) : ∀ (n : Nat) (σ : Mem) (k : Int), (n : Int) + k = σ 0 41 w → 0 ≤ k → σ 0 41 w ≤ cap → Rng σ → (0 ≤ σ 0 41 11 ∧ σ 0 41 11 + n ≤ 200000100) → (∀ j : Int, k ≤ j → j < σ 0 41 w → 0 ≤ σ 0 41 (b + s * j + a) ∧ σ 0 41 (b + s * j + a) ≤ 2) → (∀ i j : Int, 0 ≤ i → i < j → j < σ 0 41 w → A (R (σ 0 41) i) (R (σ 0 41) j)) →
    ((∀ (g : Int) (j : Nat), ¬ (g = 0 ∧ j = 41) → mageR w b s a e n σ k g j = σ g j) ∧ ∀ z : Int, z ≠ w → z ≠ 11 → ¬ (b ≤ z ∧ z < e) → mageR w b s a e n σ k 0 41 z = σ 0 41 z) ∧
    (mageR w b s a e n σ k 0 41 11 - σ 0 41 11 = σ 0 41 w - mageR w b s a e n σ k 0 41 w ∧ 0 ≤ mageR w b s a e n σ k 0 41 w ∧ mageR w b s a e n σ k 0 41 w ≤ σ 0 41 w) ∧
    (∀ φ : Row → Int, sumI (fun j => φ (R (mageR w b s a e n σ k 0 41) j)) (mageR w b s a e n σ k 0 41 w) = sumI (fun j => if k ≤ j then psi φ (R (σ 0 41) j) else φ (R (σ 0 41) j)) (σ 0 41 w)) ∧
    (∀ i j : Int, 0 ≤ i → i < j → j < mageR w b s a e n σ k 0 41 w → A (R (mageR w b s a e n σ k 0 41) i) (R (mageR w b s a e n σ k 0 41) j)) ∧ Rng (mageR w b s a e n σ k)
  | 0, σ, k, hn, hk, hc, hR, h11, hg, hs => by
    rw [mageR]
    refine ⟨⟨fun _ _ _ => rfl, fun _ _ _ _ => rfl⟩, ⟨by omega, by omega, by omega⟩, fun φ => ?_, hs, hR⟩
    refine sumI_congr fun j a b => ?_
    rw [if_neg (by omega)]
  | n + 1, σ, k, hn, hk, hc, hR, h11, hg, hs => by
    obtain ⟨⟨kw1, kw2⟩, ⟨kb, ks, ka, kbs, ke, kes⟩, hage, hpos, hinc, hcl, hx11⟩ := hK
    have hK : AgeK w b s a e cap R := ⟨⟨kw1, kw2⟩, ⟨kb, ks, ka, kbs, ke, kes⟩, hage, hpos, hinc, hcl, hx11⟩
    have hgk := hg k (Int.le_refl k) (by omega)
    have hpk := hpos k hk (by omega)
    generalize hpz : b + s * k = pk at hpk hgk
    rw [mageR]
    try dsimp only
    rw [hpz]
    have e1 : st3 σ 0 41 (pk + a) (σ 0 41 (pk + a) + 1) 0 41 (pk + a) = σ 0 41 (pk + a) + 1 := st3_self
    rw [e1]
    have hrow : ∀ j : Int, 0 ≤ j → j < cap → R (st3 σ 0 41 (pk + a) (σ 0 41 (pk + a) + 1) 0 41) j = if j = k then incR (R (σ 0 41) j) else R (σ 0 41) j := fun j j0 j1 => by
      have := hinc σ k j (σ 0 41 (pk + a) + 1) hk (by omega) j0 j1
      rw [hpz] at this
      exact this rfl
    have ew : st3 σ 0 41 (pk + a) (σ 0 41 (pk + a) + 1) 0 41 w = σ 0 41 w := st3_k (by omega)
    have e11 : st3 σ 0 41 (pk + a) (σ 0 41 (pk + a) + 1) 0 41 11 = σ 0 41 11 := st3_k (by omega)
    have hR1 : Rng (st3 σ 0 41 (pk + a) (σ 0 41 (pk + a) + 1)) := hR.st ⟨by omega, by omega⟩
    have hfz : ∀ z : Int, ¬ (b ≤ z ∧ z < e) → st3 σ 0 41 (pk + a) (σ 0 41 (pk + a) + 1) 0 41 z = σ 0 41 z := fun z hz => st3_k (by omega)
    have hfj : ∀ (g : Int) (j : Nat), ¬ (g = 0 ∧ j = 41) → st3 σ 0 41 (pk + a) (σ 0 41 (pk + a) + 1) g j = σ g j := fun g j hj => by
      funext z
      exact if_neg fun q => hj ⟨q.1, q.2.1⟩
    have hs1 : ∀ i j : Int, 0 ≤ i → i < j → j < σ 0 41 w → A (R (st3 σ 0 41 (pk + a) (σ 0 41 (pk + a) + 1) 0 41) i) (R (st3 σ 0 41 (pk + a) (σ 0 41 (pk + a) + 1) 0 41) j) := fun i j i0 ij j1 => by
      have h0 := hs i j i0 ij j1
      rw [hrow i i0 (by omega), hrow j (by omega) (by omega)]
      by_cases c1 : i = k
      · rw [if_pos c1, if_neg (by omega)]
        exact hA1 _ _ h0
      · rw [if_neg c1]
        by_cases c2 : j = k
        · rw [if_pos c2]
          exact hA2 _ _ h0
        · rw [if_neg c2]
          exact h0
    have hgj : ∀ j : Int, k < j → j < σ 0 41 w → st3 σ 0 41 (pk + a) (σ 0 41 (pk + a) + 1) 0 41 (b + s * j + a) = σ 0 41 (b + s * j + a) := fun j j0 j1 => by
      have h1 := hrow j (by omega) (by omega)
      rw [if_neg (by omega)] at h1
      have h2 := congrArg (fun x : Row => x.2.2.2.2) h1
      simp only [hage] at h2
      exact h2
    have hageσ := fun j => hage (σ 0 41) j
    generalize hσ1 : st3 σ 0 41 (pk + a) (σ 0 41 (pk + a) + 1) = σ1 at e1 hrow ew e11 hR1 hfz hfj hs1 hgj ⊢
    by_cases hc3 : σ 0 41 (pk + a) + 1 = 3
    · rw [if_pos hc3]
      have hclR : ∀ j : Int, 0 ≤ j → j < cap - 1 → R (st3 (closeM σ1 w pk s e) 0 41 11 (closeM σ1 w pk s e 0 41 11 + 1) 0 41) j = if k ≤ j then R (σ1 0 41) (j + 1) else R (σ1 0 41) j := fun j j0 j1 => by
        rw [hx11 _ _ j j0 (by omega)]
        have := hcl σ1 k j hk (by omega) j0 j1
        rw [hpz] at this
        exact this
      have c11 : closeM σ1 w pk s e 0 41 11 = σ 0 41 11 := by
        rw [closeM_k (by omega) (by omega) (by omega), e11]
      have cw : st3 (closeM σ1 w pk s e) 0 41 11 (closeM σ1 w pk s e 0 41 11 + 1) 0 41 w = σ 0 41 w - 1 := by
        rw [st3_k (by omega), closeM_w (by omega) (by omega), ew]
      have c11' : st3 (closeM σ1 w pk s e) 0 41 11 (closeM σ1 w pk s e 0 41 11 + 1) 0 41 11 = σ 0 41 11 + 1 := by
        rw [st3_self, c11]
      have hR2 : Rng (st3 (closeM σ1 w pk s e) 0 41 11 (closeM σ1 w pk s e 0 41 11 + 1)) := (closeM_R hR1 (by omega) (by omega) (by rw [ew]; omega)).st (by rw [c11]; exact ⟨by omega, by omega⟩)
      have f1 : ∀ (g : Int) (j : Nat), ¬ (g = 0 ∧ j = 41) → st3 (closeM σ1 w pk s e) 0 41 11 (closeM σ1 w pk s e 0 41 11 + 1) g j = σ g j := fun g j hj => by
        funext z
        rw [show st3 (closeM σ1 w pk s e) 0 41 11 (closeM σ1 w pk s e 0 41 11 + 1) g j z = closeM σ1 w pk s e g j z from if_neg fun q => hj ⟨q.1, q.2.1⟩, closeM_j hj, hfj g j hj]
      have f2 : ∀ z : Int, z ≠ w → z ≠ 11 → ¬ (b ≤ z ∧ z < e) → st3 (closeM σ1 w pk s e) 0 41 11 (closeM σ1 w pk s e 0 41 11 + 1) 0 41 z = σ 0 41 z := fun z z1 z2 z3 => by
        rw [st3_k z2, closeM_v z1, if_neg (by omega), if_neg (by omega), hfz z z3]
      generalize st3 (closeM σ1 w pk s e) 0 41 11 (closeM σ1 w pk s e 0 41 11 + 1) = σ2 at hclR cw c11' hR2 f1 f2 ⊢
      have hg2 : ∀ j : Int, k ≤ j → j < σ2 0 41 w → 0 ≤ σ2 0 41 (b + s * j + a) ∧ σ2 0 41 (b + s * j + a) ≤ 2 := fun j j0 j1 => by
        have h1 := hclR j (by omega) (by omega)
        rw [if_pos j0] at h1
        have h2 := congrArg (fun x : Row => x.2.2.2.2) h1
        simp only [hage] at h2
        rw [h2, hgj (j + 1) (by omega) (by omega)]
        exact hg (j + 1) (by omega) (by omega)
      have hs2 : ∀ i j : Int, 0 ≤ i → i < j → j < σ2 0 41 w → A (R (σ2 0 41) i) (R (σ2 0 41) j) := fun i j i0 ij j1 => by
        rw [hclR i i0 (by omega), hclR j (by omega) (by omega)]
        by_cases c1 : k ≤ i
        · rw [if_pos c1, if_pos (by omega)]
          exact hs1 _ _ (by omega) (by omega) (by omega)
        · rw [if_neg c1]
          by_cases c2 : k ≤ j
          · rw [if_pos c2]
            exact hs1 _ _ i0 (by omega) (by omega)
          · rw [if_neg c2]
            exact hs1 _ _ i0 ij (by omega)
      have ih := mageR_spec hK hA1 hA2 n σ2 k (by omega) hk (by omega) hR2 (by omega) hg2 hs2
      generalize mageR w b s a e n σ2 k = q at ih ⊢
      obtain ⟨⟨i1, i2⟩, ⟨i4, i5, i6⟩, i7, i8, i9⟩ := ih
      refine ⟨⟨fun g j hj => by rw [i1 g j hj, f1 g j hj], fun z z1 z2 z3 => by rw [i2 z z1 z2 z3, f2 z z1 z2 z3]⟩, ⟨by omega, i5, by omega⟩, fun φ => ?_, i8, i9⟩
      rw [i7 φ, cw]
      have hz := sumI_rem (g := fun j => if k ≤ j then psi φ (R (σ 0 41) j) else φ (R (σ 0 41) j)) (g' := fun j => if k ≤ j then psi φ (R (σ2 0 41) j) else φ (R (σ2 0 41) j)) (n := σ 0 41 w) (r := k) hk (by omega) (fun j j0 j1 => by
        rw [if_neg (by omega), if_neg (by omega), hclR j j0 (by omega), if_neg (by omega), hrow j j0 (by omega), if_neg (by omega)]) (fun j j0 j1 => by
        rw [if_pos (by omega), if_pos (by omega), hclR j (by omega) (by omega), if_pos j0, hrow (j + 1) (by omega) (by omega), if_neg (by omega)])
      rw [hz, if_pos (Int.le_refl k)]
      have : psi φ (R (σ 0 41) k) = 0 := if_pos (by rw [hageσ, hpz]; omega)
      omega
    · rw [if_neg hc3]
      have ih := mageR_spec hK hA1 hA2 n σ1 (k + 1) (by omega) (by omega) (by omega) hR1 (by omega) (fun j j0 j1 => by rw [hgj j (by omega) (by omega)]; exact hg j (by omega) (by omega)) (by rw [ew]; exact hs1)
      generalize mageR w b s a e n σ1 (k + 1) = q at ih ⊢
      obtain ⟨⟨i1, i2⟩, ⟨i4, i5, i6⟩, i7, i8, i9⟩ := ih
      refine ⟨⟨fun g j hj => by rw [i1 g j hj, hfj g j hj], fun z z1 z2 z3 => by rw [i2 z z1 z2 z3, hfz z z3]⟩, ⟨by omega, i5, by omega⟩, fun φ => ?_, i8, i9⟩
      rw [i7 φ, ew]
      refine sumI_congr fun j j0 j1 => ?_
      rw [hrow j j0 (by omega)]
      by_cases c : k + 1 ≤ j
      · rw [if_pos c, if_neg (by omega : ¬ j = k), if_pos (by omega : k ≤ j)]
      · rw [if_neg c]
        by_cases c2 : j = k
        · rw [if_pos c2, if_pos (by omega), psi, if_neg (by rw [hageσ, c2, hpz]; omega)]
        · rw [if_neg c2, if_neg (by omega)]
