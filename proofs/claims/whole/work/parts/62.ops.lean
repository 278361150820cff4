/-! each change on both sides: what is kept -/
def Kp (σ τ σ' τ' : Mem) (B : Int) : Prop := MR (σ' 0) (τ' 0 41) ∧ Rng σ' ∧ Rng τ' ∧ BD (τ' 0 41) (B + 2000) ∧ (∀ i : Int, i ≠ 0 → σ' i = σ i) ∧ (∀ j : Nat, 23 ≤ j → σ' 0 j = σ 0 j) ∧ ∀ (i : Int) (j : Nat), ¬ (i = 0 ∧ j = 41) → τ' i j = τ i j
theorem st3_oj {σ : Mem} {g i : Int} {j j' : Nat} {k v : Int} (h : ¬ (i = g ∧ j' = j)) : st3 σ g j k v i j' = σ i j' := by
  funext z
  exact if_neg fun q => h ⟨q.1, q.2.1⟩
theorem slot_spec (P : Int → Prop) {n : Int} (hn : 0 ≤ n) : 0 ≤ slotI P n ∧ slotI P n ≤ n ∧ (∀ k : Int, 0 ≤ k → k < slotI P n → ¬ P k) ∧ (slotI P n < n → P (slotI P n)) := by
  rcases fst_cases P n with ⟨q1, q2⟩ | ⟨q1, q2, q3, q4⟩
  · rw [slotI_no q2]
    exact ⟨hn, Int.le_refl n, q2, fun z => absurd z (by omega)⟩
  · rw [slotI_yes q1 q2 q3 q4]
    exact ⟨q1, by omega, q4, fun _ => q3⟩
theorem Rng.enter {σ : Mem} (h : Rng σ) {g : Int} {p : Nat} (hp : p < 46) {r o a b : Int} (h0 : 0 ≤ σ g p 0 ∧ σ g p 0 ≤ 1000) (h1 : 0 ≤ σ g p 1 ∧ σ g p 1 ≤ 1000000000) (ho : inR o) (ha : inR a) (hb : inR b) : Rng (enterM σ g p r o a b) := by
  have hm : moveM σ g p r (r + 1) (σ g p 0 - r) g p = σ g p := moveM_p (by omega)
  have hR1 : Rng (moveM σ g p r (r + 1) (σ g p 0 - r)) := h.move hp
  simp only [enterM]
  generalize moveM σ g p r (r + 1) (σ g p 0 - r) = σ1 at hm hR1 ⊢
  have v0 : σ1 g p 0 = σ g p 0 := by rw [hm]
  have v1 : σ1 g p 1 = σ g p 1 := by rw [hm]
  have e1 : st3 σ1 g p 0 (σ1 g p 0 + 1) g p 1 = σ g p 1 := by rw [st3_k (by decide), v1]
  have h2 : Rng (st3 σ1 g p 0 (σ1 g p 0 + 1)) := hR1.st ⟨by omega, by omega⟩
  have h3 := ((((h2.st (g := g) (j := p + 1) (k := r) (v := st3 σ1 g p 0 (σ1 g p 0 + 1) g p 1) (by rw [e1]; exact ⟨by omega, by omega⟩)).st (g := g) (j := p + 2) (k := r) (v := o) ho).st (g := g) (j := p + 3) (k := r) (v := a) ha).st (g := g) (j := p + 4) (k := r) (v := b) hb).st (g := g) (j := p + 5) (k := r) (v := 0) ⟨by decide, by decide⟩
  refine h3.st ?_
  rw [st3_j (by omega), st3_j (by omega), st3_j (by omega), st3_j (by omega), st3_j (by omega), e1]
  exact ⟨by omega, by omega⟩
set_option maxHeartbeats 4000000 in
theorem ov_s {σ τ : Mem} {B a b : Int} (h : MR (σ 0) (τ 0 41)) (hRσ : Rng σ) (hRτ : Rng τ) (hB : BD (τ 0 41) B) (hB2 : B ≤ 80000000) :
    (vShip (σ 0) a b = 0 ∧ (0 ≤ a ∧ a ≤ 99) ∧ (1 ≤ b ∧ b ≤ 5) ∧ τ 0 41 0 < 6 ∧ σ 0 1 0 < 6 ∧ Kp σ τ (shipM σ 0 a b) (mshipM τ a b) B ∧ st3 σ 0 0 8 (σ 0 0 8 + a) 0 1 0 = mshipM τ a b 0 41 0 - 1) ∨
    (vShip (σ 0) a b = -2 ∧ ¬ ((0 ≤ a ∧ a ≤ 99) ∧ 1 ≤ b ∧ b ≤ 5)) ∨ (vShip (σ 0) a b = 1 ∧ (0 ≤ a ∧ a ≤ 99) ∧ (1 ≤ b ∧ b ≤ 5) ∧ τ 0 41 0 = 6) := by
  have hN := h.ni
  have s := h.sc
  have n0 := hN.n0
  unfold vShip
  by_cases c1 : (0 ≤ a ∧ a ≤ 99) ∧ 1 ≤ b ∧ b ≤ 5
  · rw [if_pos c1]
    by_cases c2 : σ 0 1 0 ≥ 6
    · rw [if_pos c2]
      exact Or.inr (Or.inr ⟨rfl, c1.1, c1.2, by have := s.1; omega⟩)
    · rw [if_neg c2]
      have s0 := s.1
      have b12 := hB 12 (by decide) (by decide)
      have c12 := hN.cr 12 (by decide)
      have s12 := s.2.2.2.2.2.2.2.2.2.2.2.2
      have v1 : st3 σ 0 0 8 (σ 0 0 8 + a) 0 1 = σ 0 1 := by rw [st3_pm, pm_j (by decide)]
      have m1 : shipM σ 0 a b 0 = pm (pm (pm (pm (σ 0) 0 8 (σ 0 0 8 + a)) 2 (σ 0 1 0) a) 3 (σ 0 1 0) b) 1 0 (σ 0 1 0 + 1) := by
        unfold shipM launchM
        simp only [st3_pm, v1]
        rw [pm_j (by decide), pm_j (by decide), pm_j (by decide)]
      have m2 : mshipM τ a b 0 41 = pn (pn (pn (pn (τ 0 41) (14 + 2 * τ 0 41 0) a) (14 + 2 * τ 0 41 0 + 1) b) 12 (τ 0 41 12 + a)) 0 (τ 0 41 0 + 1) := by
        unfold mshipM
        simp only [st3_pn]
        have x1 : pn (τ 0 41) (14 + 2 * τ 0 41 0) a 0 = τ 0 41 0 := pn_ne (by omega)
        rw [x1]
        have x2 : pn (pn (τ 0 41) (14 + 2 * τ 0 41 0) a) (14 + 2 * τ 0 41 0 + 1) b 12 = τ 0 41 12 := by rw [pn_ne (by omega), pn_ne (by omega)]
        rw [x2]
        have x3 : pn (pn (pn (τ 0 41) (14 + 2 * τ 0 41 0) a) (14 + 2 * τ 0 41 0 + 1) b) 12 (τ 0 41 12 + a) 0 = τ 0 41 0 := by rw [pn_ne (by decide), pn_ne (by omega), pn_ne (by omega)]
        rw [x3]
      refine Or.inl ⟨rfl, c1.1, c1.2, by omega, by omega, ⟨?_, ?_, ?_, ?_, fun i hi => ?_, fun j hj => ?_, fun i j hij => ?_⟩, ?_⟩
      · rw [m1, m2]
        refine MR_ship (a := a) (b := b) h (by omega) c1.1 c1.2 (by omega) (fun j hj => ?_) (fun k hk => ?_) ?_ ?_ ?_ (fun k hk => ?_) ?_ (fun k k0 k12 kk => ?_) ?_ ?_ ?_
        · rw [pm_j (by omega), pm_j (by omega), pm_j (by omega), pm_j (by omega)]
        · rw [pm_j (by decide), pm_j (by decide), pm_j (by decide), pm_k hk]
        · rw [pm_j (by decide), pm_j (by decide), pm_j (by decide), pm_self]
        · rw [pm_self]
        · rw [pm_k (by decide), pm_j (by decide), pm_j (by decide), pm_j (by decide)]
        · rw [pm_j (by decide), pm_j (by decide), pm_k hk, pm_j (by decide), pm_j (by decide), pm_k hk, pm_j (by decide), pm_j (by decide)]
          exact ⟨rfl, rfl⟩
        · rw [pm_j (by decide), pm_j (by decide), pm_self, pm_j (by decide), pm_self]
          exact ⟨rfl, rfl⟩
        · rw [pn_ne k0, pn_ne k12, pn_ne (by omega), pn_ne (by omega)]
        · rw [pn_self]
        · rw [pn_ne (by decide), pn_self]
        · rw [pn_ne (by omega), pn_ne (by omega), pn_ne (by omega), pn_self, pn_ne (by omega), pn_ne (by omega), pn_self]
          exact ⟨rfl, rfl⟩
      · unfold shipM launchM
        refine (((hRσ.st ?_).st ?_).st ?_).st ?_
        · exact ⟨by omega, by omega⟩
        · exact ⟨by omega, by omega⟩
        · exact ⟨by omega, by omega⟩
        · rw [st3_j (by decide), st3_j (by decide), v1]
          exact ⟨by omega, by omega⟩
      · unfold mshipM
        refine (((hRτ.st ?_).st ?_).st ?_).st ?_
        · exact ⟨by omega, by omega⟩
        · exact ⟨by omega, by omega⟩
        · rw [st3_k (by rw [st3_k (by omega)]; omega), st3_k (by omega)]
          exact ⟨by omega, by omega⟩
        · rw [st3_k (by decide), st3_k (by rw [st3_k (by omega)]; omega), st3_k (by omega)]
          exact ⟨by omega, by omega⟩
      · rw [m2]
        intro k k0 k1
        have := hB k k0 k1
        rw [pn_ne (by omega)]
        by_cases e : k = 12
        · subst e
          rw [pn_self]
          omega
        · rw [pn_ne e, pn_ne (by omega), pn_ne (by omega)]
          omega
      · unfold shipM launchM
        rw [st3_o hi, st3_o hi, st3_o hi, st3_o hi]
      · rw [m1, pm_j (by omega), pm_j (by omega), pm_j (by omega), pm_j (by omega)]
      · unfold mshipM
        rw [st3_oj hij, st3_oj hij, st3_oj hij, st3_oj hij]
      · rw [v1, m2, pn_self]
        omega
  · rw [if_neg c1]
    exact Or.inr (Or.inl ⟨rfl, c1⟩)
set_option maxHeartbeats 4000000 in
theorem ov_a {σ τ : Mem} {B s a : Int} (h : MR (σ 0) (τ 0 41)) (hRσ : Rng σ) (hRτ : Rng τ) (hB : BD (τ 0 41) B) :
    (vBarn (σ 0) s a = 0 ∧ (0 ≤ s ∧ s < τ 0 41 0) ∧ (1 ≤ a ∧ a ≤ 9) ∧ τ 0 41 1 < 16 ∧ σ 0 1 3 < 16 ∧ 0 < mplaces (τ 0 41) s ∧ Kp σ τ (boardM σ 0 s a) (mbarnM τ s a) B ∧ σ 0 1 3 = mbarnM τ s a 0 41 1 - 1) ∨
    (vBarn (σ 0) s a = -1 ∧ ¬ (0 ≤ s ∧ s < τ 0 41 0)) ∨ (vBarn (σ 0) s a = -2 ∧ (0 ≤ s ∧ s < τ 0 41 0) ∧ ¬ (1 ≤ a ∧ a ≤ 9)) ∨
    (vBarn (σ 0) s a = 2 ∧ (0 ≤ s ∧ s < τ 0 41 0) ∧ (1 ≤ a ∧ a ≤ 9) ∧ τ 0 41 1 = 16) ∨ (vBarn (σ 0) s a = 3 ∧ (0 ≤ s ∧ s < τ 0 41 0) ∧ (1 ≤ a ∧ a ≤ 9) ∧ τ 0 41 1 < 16 ∧ mplaces (τ 0 41) s ≤ 0 ∧ σ 0 3 s = mcap (τ 0 41) s) := by
  have hN := h.ni
  have n0 := hN.n0
  have n1 := hN.n1
  have s0 := h.sc.1
  have s1 := h.sc.2.1
  unfold vBarn
  rw [s0]
  by_cases c1 : 0 ≤ s ∧ s < τ 0 41 0
  · rw [if_pos c1]
    by_cases c2 : 1 ≤ a ∧ a ≤ 9
    · rw [if_pos c2]
      by_cases c3 : σ 0 1 3 ≥ 16
      · rw [if_pos c3]
        exact Or.inr (Or.inr (Or.inr (Or.inl ⟨rfl, c1, c2, by omega⟩)))
      · rw [if_neg c3, h.places c1.1 c1.2]
        by_cases c4 : mplaces (τ 0 41) s < 1
        · rw [if_pos c4]
          exact Or.inr (Or.inr (Or.inr (Or.inr ⟨rfl, c1, c2, by omega, by omega, (h.sh s c1.1 c1.2).2⟩)))
        · rw [if_neg c4]
          have m1 : boardM σ 0 s a 0 = pm (pm (pm (σ 0) 4 (σ 0 1 3) a) 5 (σ 0 1 3) s) 1 3 (σ 0 1 3 + 1) := by
            unfold boardM
            simp only [st3_pm]
            rw [pm_j (by decide), pm_j (by decide)]
          have m2 : mbarnM τ s a 0 41 = pn (pn (pn (τ 0 41) (26 + 2 * τ 0 41 1) s) (26 + 2 * τ 0 41 1 + 1) a) 1 (τ 0 41 1 + 1) := by
            unfold mbarnM
            simp only [st3_pn]
            have x1 : pn (τ 0 41) (26 + 2 * τ 0 41 1) s 1 = τ 0 41 1 := pn_ne (by omega)
            rw [x1]
            have x2 : pn (pn (τ 0 41) (26 + 2 * τ 0 41 1) s) (26 + 2 * τ 0 41 1 + 1) a 1 = τ 0 41 1 := by rw [pn_ne (by omega), pn_ne (by omega)]
            rw [x2]
          refine Or.inl ⟨rfl, c1, c2, by omega, by omega, by omega, ⟨?_, ?_, ?_, ?_, fun i hi => ?_, fun j hj => ?_, fun i j hij => ?_⟩, ?_⟩
          · rw [m1, m2]
            refine MR_barn (s := s) (a := a) h (by omega) c1 c2 (by omega) (fun j j1 j4 j5 => ?_) ?_ ?_ (fun k hk => ?_) ?_ (fun k k1 kk => ?_) ?_ ?_
            · rw [pm_j j1, pm_j j5, pm_j j4]
            · rw [pm_k (by decide), pm_j (by decide), pm_j (by decide)]
            · rw [pm_self]
            · rw [pm_j (by decide), pm_k hk, pm_j (by decide), pm_j (by decide), pm_j (by decide), pm_k hk]
              exact ⟨rfl, rfl⟩
            · rw [pm_j (by decide), pm_self, pm_j (by decide), pm_j (by decide), pm_self]
              exact ⟨rfl, rfl⟩
            · rw [pn_ne k1, pn_ne (by omega), pn_ne (by omega)]
            · rw [pn_self]
            · rw [pn_ne (by omega), pn_ne (by omega), pn_self, pn_ne (by omega), pn_self]
              exact ⟨rfl, rfl⟩
          · unfold boardM
            refine ((hRσ.st ?_).st ?_).st ?_
            · exact ⟨by omega, by omega⟩
            · exact ⟨by omega, by omega⟩
            · rw [st3_j (by decide), st3_j (by decide)]
              exact ⟨by omega, by omega⟩
          · unfold mbarnM
            refine ((hRτ.st ?_).st ?_).st ?_
            · exact ⟨by omega, by omega⟩
            · exact ⟨by omega, by omega⟩
            · rw [st3_k (by rw [st3_k (by omega)]; omega), st3_k (by omega)]
              exact ⟨by omega, by omega⟩
          · rw [m2]
            intro k k0 k1
            have := hB k k0 k1
            rw [pn_ne (by omega), pn_ne (by omega), pn_ne (by omega)]
            omega
          · unfold boardM
            rw [st3_o hi, st3_o hi, st3_o hi]
          · rw [m1, pm_j (by omega), pm_j (by omega), pm_j (by omega)]
          · unfold mbarnM
            rw [st3_oj hij, st3_oj hij, st3_oj hij]
          · rw [m2, pn_self]
            omega
    · rw [if_neg c2]
      exact Or.inr (Or.inr (Or.inl ⟨rfl, c1, c2⟩))
  · rw [if_neg c1]
    exact Or.inr (Or.inl ⟨rfl, c1⟩)
set_option maxHeartbeats 4000000 in
theorem ov_c {σ τ : Mem} {B s c : Int} (h : MR (σ 0) (τ 0 41)) (hRσ : Rng σ) (hRτ : Rng τ) (hB : BD (τ 0 41) B) (hB2 : B ≤ 80000000) :
    (vGift (σ 0) s c = 0 ∧ (0 ≤ s ∧ s < τ 0 41 0) ∧ (1 ≤ c ∧ c ≤ 99) ∧ Kp σ τ (giftM σ 0 s c) (mgiveM τ s c) B ∧ giftM σ 0 s c 0 2 s = mgiveM τ s c 0 41 (14 + 2 * s)) ∨
    (vGift (σ 0) s c = -1 ∧ ¬ (0 ≤ s ∧ s < τ 0 41 0)) ∨ (vGift (σ 0) s c = -2 ∧ (0 ≤ s ∧ s < τ 0 41 0) ∧ ¬ (1 ≤ c ∧ c ≤ 99)) := by
  have hN := h.ni
  have n0 := hN.n0
  have s0 := h.sc.1
  have s12 := h.sc.2.2.2.2.2.2.2.2.2.2.2.2
  unfold vGift
  rw [s0]
  by_cases c1 : 0 ≤ s ∧ s < τ 0 41 0
  · rw [if_pos c1]
    by_cases c2 : 1 ≤ c ∧ c ≤ 99
    · rw [if_pos c2]
      have b12 := hB 12 (by decide) (by decide)
      have c12 := hN.cr 12 (by decide)
      have hs := hN.sh s c1.1 c1.2
      have hsc := (h.sh s c1.1 c1.2).1
      have m1 : giftM σ 0 s c 0 = pm (pm (σ 0) 0 8 (σ 0 0 8 + c)) 2 s (σ 0 2 s + c) := by
        unfold giftM
        simp only [st3_pm]
        rw [pm_j (by decide)]
      have m2 : mgiveM τ s c 0 41 = pn (pn (τ 0 41) (14 + 2 * s) (τ 0 41 (14 + 2 * s) + c)) 12 (τ 0 41 12 + c) := by
        unfold mgiveM
        simp only [st3_pn]
        have x1 : pn (τ 0 41) (14 + 2 * s) (τ 0 41 (14 + 2 * s) + c) 12 = τ 0 41 12 := pn_ne (by omega)
        rw [x1]
      refine Or.inl ⟨rfl, c1, c2, ⟨?_, ?_, ?_, ?_, fun i hi => ?_, fun j hj => ?_, fun i j hij => ?_⟩, ?_⟩
      · rw [m1, m2]
        refine MR_gift (s := s) (c := c) h c1 c2 (by omega) (fun j j0 j2 => ?_) (fun k hk => ?_) ?_ (fun k hk => ?_) ?_ (fun k k1 kk => ?_) ?_ ?_
        · rw [pm_j j2, pm_j j0]
        · rw [pm_j (by decide), pm_k hk]
        · rw [pm_j (by decide), pm_self]
        · rw [pm_k hk, pm_j (by decide)]
        · rw [pm_self]
        · rw [pn_ne k1, pn_ne kk]
        · rw [pn_self]
        · rw [pn_ne (by omega), pn_self]
      · unfold giftM
        refine (hRσ.st ?_).st ?_
        · exact ⟨by omega, by omega⟩
        · rw [st3_j (by decide)]
          exact ⟨by omega, by omega⟩
      · unfold mgiveM
        refine (hRτ.st ?_).st ?_
        · exact ⟨by omega, by omega⟩
        · rw [st3_k (by omega)]
          exact ⟨by omega, by omega⟩
      · rw [m2]
        intro k k0 k1
        have := hB k k0 k1
        by_cases e : k = 12
        · subst e
          rw [pn_self]
          omega
        · rw [pn_ne e, pn_ne (by omega)]
          omega
      · unfold giftM
        rw [st3_o hi, st3_o hi]
      · rw [m1, pm_j (by omega), pm_j (by omega)]
      · unfold mgiveM
        rw [st3_oj hij, st3_oj hij]
      · rw [m1, m2, pm_self, pn_ne (by omega), pn_self, hsc]
    · rw [if_neg c2]
      exact Or.inr (Or.inr ⟨rfl, c1, c2⟩)
  · rw [if_neg c1]
    exact Or.inr (Or.inl ⟨rfl, c1⟩)
set_option maxHeartbeats 4000000 in
theorem ov_f {σ τ : Mem} {B c : Int} (h : MR (σ 0) (τ 0 41)) (hRσ : Rng σ) (hRτ : Rng τ) (hB : BD (τ 0 41) B) (hB0 : 0 ≤ B) :
    ((if 0 ≤ c ∧ c ≤ 9 then (0 : Int) else -2) = 0 ∧ (0 ≤ c ∧ c ≤ 9) ∧ Kp σ τ (st3 σ 0 0 4 c) (st3 τ 0 41 6 c) B ∧ σ 0 0 4 = τ 0 41 6) ∨ ((if 0 ≤ c ∧ c ≤ 9 then (0 : Int) else -2) = -2 ∧ ¬ (0 ≤ c ∧ c ≤ 9)) := by
  by_cases c1 : 0 ≤ c ∧ c ≤ 9
  · rw [if_pos c1]
    refine Or.inl ⟨rfl, c1, ⟨?_, ?_, ?_, ?_, fun i hi => ?_, fun j hj => ?_, fun i j hij => ?_⟩, h.sc.2.2.2.2.2.2.1⟩
    · rw [st3_pm, st3_pn]
      refine MR_one h (i := 4) (k := 6) (v := c) (Or.inl ⟨rfl, rfl⟩) (by omega) (fun j hj => pm_j hj) (fun z hz => pm_k hz) pm_self (fun z hz => pn_ne hz) pn_self
    · exact hRσ.st ⟨by omega, by omega⟩
    · exact hRτ.st ⟨by omega, by omega⟩
    · rw [st3_pn]
      intro k k0 k1
      have := hB k k0 k1
      by_cases e : k = 6
      · subst e
        rw [pn_self]
        omega
      · rw [pn_ne e]
        omega
    · exact st3_o hi
    · rw [st3_pm, pm_j (by omega)]
    · exact st3_oj hij
  · rw [if_neg c1]
    exact Or.inr ⟨rfl, c1⟩
