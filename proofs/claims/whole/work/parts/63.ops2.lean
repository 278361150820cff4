/-! each change on both sides: orders, tides -/
set_option maxHeartbeats 4000000 in
theorem ov_b {σ τ : Mem} {B s a p : Int} (h : MR (σ 0) (τ 0 41)) (hRσ : Rng σ) (hRτ : Rng τ) (hB : BD (τ 0 41) B) (hB2 : B ≤ 80000000) :
    (vBid (σ 0) s a p = 0 ∧ (0 ≤ s ∧ s < τ 0 41 0) ∧ (1 ≤ a ∧ a ≤ 9) ∧ (1 ≤ p ∧ p ≤ 99) ∧ τ 0 41 2 < 10 ∧ σ 0 6 0 < 10 ∧ 0 < mplaces (τ 0 41) s ∧ p ≤ τ 0 41 (14 + 2 * s) - mres (τ 0 41) s ∧ Kp σ τ (bidM σ 0 s a p) (mbidM τ s a p) B ∧ bidM σ 0 s a p 0 7 (slotI (caB (σ 0) a p) (σ 0 6 0)) = mbidM τ s a p 0 41 (58 + 5 * τ 0 41 2)) ∨
    (vBid (σ 0) s a p = -1 ∧ ¬ (0 ≤ s ∧ s < τ 0 41 0)) ∨ (vBid (σ 0) s a p = -2 ∧ (0 ≤ s ∧ s < τ 0 41 0) ∧ ¬ ((1 ≤ a ∧ a ≤ 9) ∧ 1 ≤ p ∧ p ≤ 99)) ∨
    (vBid (σ 0) s a p = 4 ∧ (0 ≤ s ∧ s < τ 0 41 0) ∧ (1 ≤ a ∧ a ≤ 9) ∧ (1 ≤ p ∧ p ≤ 99) ∧ τ 0 41 2 = 10 ∧ mbRank (τ 0 41) 9 ≠ -1 ∧ σ 0 7 9 = τ 0 41 (58 + 5 * mbRank (τ 0 41) 9)) ∨
    (vBid (σ 0) s a p = 3 ∧ (0 ≤ s ∧ s < τ 0 41 0) ∧ (1 ≤ a ∧ a ≤ 9) ∧ (1 ≤ p ∧ p ≤ 99) ∧ τ 0 41 2 < 10 ∧ mplaces (τ 0 41) s ≤ 0 ∧ σ 0 3 s = mcap (τ 0 41) s) ∨
    (vBid (σ 0) s a p = 5 ∧ (0 ≤ s ∧ s < τ 0 41 0) ∧ (1 ≤ a ∧ a ≤ 9) ∧ (1 ≤ p ∧ p ≤ 99) ∧ τ 0 41 2 < 10 ∧ 0 < mplaces (τ 0 41) s ∧ τ 0 41 (14 + 2 * s) - mres (τ 0 41) s < p ∧ coinsL (σ 0) s = τ 0 41 (14 + 2 * s) - mres (τ 0 41) s) := by
  have hN := h.ni
  have n0 := hN.n0
  have n2 := hN.n2
  have s0 := h.sc.1
  have s2 := h.sc.2.2.1
  have s4 := h.sc.2.2.2.2.1
  unfold vBid
  rw [s0]
  by_cases c1 : 0 ≤ s ∧ s < τ 0 41 0
  · rw [if_pos c1]
    by_cases c2 : (1 ≤ a ∧ a ≤ 9) ∧ 1 ≤ p ∧ p ≤ 99
    · rw [if_pos c2]
      by_cases c3 : σ 0 6 0 ≥ 10
      · rw [if_pos c3]
        obtain ⟨k1, k2⟩ := h.rankB (r := 9) (by decide) (by omega)
        have k3 : τ 0 41 (58 + 5 * mbRank (τ 0 41) 9) = σ 0 7 9 := row_1 k2
        exact Or.inr (Or.inr (Or.inr (Or.inl ⟨rfl, c1, c2.1, c2.2, by omega, k1, k3.symm⟩)))
      · rw [if_neg c3, h.places c1.1 c1.2, h.coins c1.1 c1.2]
        by_cases c4 : mplaces (τ 0 41) s < 1
        · rw [if_pos c4]
          exact Or.inr (Or.inr (Or.inr (Or.inr (Or.inl ⟨rfl, c1, c2.1, c2.2, by omega, by omega, (h.sh s c1.1 c1.2).2⟩))))
        · rw [if_neg c4]
          by_cases c5 : τ 0 41 (14 + 2 * s) - mres (τ 0 41) s < p
          · rw [if_pos c5]
            exact Or.inr (Or.inr (Or.inr (Or.inr (Or.inr ⟨rfl, c1, c2.1, c2.2, by omega, by omega, c5, rfl⟩))))
          · rw [if_neg c5]
            have b4 := hB 4 (by decide) (by decide)
            have c4' := hN.cr 4 (by decide)
            obtain ⟨t0, t1, t2, t3⟩ := slot_spec (caB (σ 0) a p) (n := σ 0 6 0) (by omega)
            have hrow := fun k => enterM_row (σ := σ) (g := 0) (p := 6) (r := slotI (caB (σ 0) a p) (σ 0 6 0)) (o := s) (a := a) (b := p) (k := k)
            have m2 : mbidM τ s a p 0 41 = pn (pn (pn (pn (pn (pn (pn (τ 0 41) (58 + 5 * τ 0 41 2) (τ 0 41 4)) (58 + 5 * τ 0 41 2 + 1) s) (58 + 5 * τ 0 41 2 + 2) a) (58 + 5 * τ 0 41 2 + 3) p) (58 + 5 * τ 0 41 2 + 4) 0) 2 (τ 0 41 2 + 1)) 4 (τ 0 41 4 + 1) := by
              unfold mbidM
              simp only [st3_pn]
              have x1 : pn (pn (pn (pn (pn (τ 0 41) (58 + 5 * τ 0 41 2) (τ 0 41 4)) (58 + 5 * τ 0 41 2 + 1) s) (58 + 5 * τ 0 41 2 + 2) a) (58 + 5 * τ 0 41 2 + 3) p) (58 + 5 * τ 0 41 2 + 4) 0 2 = τ 0 41 2 := by rw [pn_ne (by omega), pn_ne (by omega), pn_ne (by omega), pn_ne (by omega), pn_ne (by omega)]
              rw [x1]
              have x2 : pn (pn (pn (pn (pn (pn (τ 0 41) (58 + 5 * τ 0 41 2) (τ 0 41 4)) (58 + 5 * τ 0 41 2 + 1) s) (58 + 5 * τ 0 41 2 + 2) a) (58 + 5 * τ 0 41 2 + 3) p) (58 + 5 * τ 0 41 2 + 4) 0) 2 (τ 0 41 2 + 1) 4 = τ 0 41 4 := by rw [pn_ne (by omega), pn_ne (by omega), pn_ne (by omega), pn_ne (by omega), pn_ne (by omega), pn_ne (by omega)]
              rw [x2]
            have w1 : mbidM τ s a p 0 41 (58 + 5 * τ 0 41 2) = τ 0 41 4 := by rw [m2, pn_ne (by omega), pn_ne (by omega), pn_ne (by omega), pn_ne (by omega), pn_ne (by omega), pn_ne (by omega), pn_self]
            have w2 : mbidM τ s a p 0 41 (58 + 5 * τ 0 41 2 + 1) = s := by rw [m2, pn_ne (by omega), pn_ne (by omega), pn_ne (by omega), pn_ne (by omega), pn_ne (by omega), pn_self]
            have w3 : mbidM τ s a p 0 41 (58 + 5 * τ 0 41 2 + 2) = a := by rw [m2, pn_ne (by omega), pn_ne (by omega), pn_ne (by omega), pn_ne (by omega), pn_self]
            have w4 : mbidM τ s a p 0 41 (58 + 5 * τ 0 41 2 + 3) = p := by rw [m2, pn_ne (by omega), pn_ne (by omega), pn_ne (by omega), pn_self]
            have w5 : mbidM τ s a p 0 41 (58 + 5 * τ 0 41 2 + 4) = 0 := by rw [m2, pn_ne (by omega), pn_ne (by omega), pn_self]
            have hw : ∀ k : Int, k ≠ 2 → k ≠ 4 → ¬ (58 + 5 * τ 0 41 2 ≤ k ∧ k ≤ 58 + 5 * τ 0 41 2 + 4) → mbidM τ s a p 0 41 k = τ 0 41 k := fun k a1 a2 a3 => by
              rw [m2, pn_ne a2, pn_ne a1, pn_ne (by omega), pn_ne (by omega), pn_ne (by omega), pn_ne (by omega), pn_ne (by omega)]
            have hw2 : mbidM τ s a p 0 41 2 = τ 0 41 2 + 1 := by rw [m2, pn_ne (by decide), pn_self]
            have hw4 : mbidM τ s a p 0 41 4 = τ 0 41 4 + 1 := by rw [m2, pn_self]
            refine Or.inl ⟨rfl, c1, c2.1, c2.2, by omega, by omega, by omega, by omega, ⟨?_, ?_, ?_, ?_, fun i hi => ?_, fun j hj => ?_, fun i j hij => ?_⟩, ?_⟩
            · refine MR_bid (r := slotI (caB (σ 0) a p) (σ 0 6 0)) (s := s) (a := a) (p := p) h (by omega) c1 c2.1 c2.2 (by omega) (by omega) (by omega) t0 t1 t2 t3 (fun j hj => enterM_j hj) enterM_p0 enterM_p1 hrow hw hw2 hw4 ?_
              unfold nbRow
              rw [w1, w2, w3, w4, w5]
            · exact hRσ.enter (by decide) (by omega) (by omega) ⟨by omega, by omega⟩ ⟨by omega, by omega⟩ ⟨by omega, by omega⟩
            · unfold mbidM
              have h1 := ((((hRτ.st (g := 0) (j := 41) (k := 58 + 5 * τ 0 41 2) (v := τ 0 41 4) (hRτ _ _ _ (by decide))).st (g := 0) (j := 41) (k := 58 + 5 * τ 0 41 2 + 1) (v := s) ⟨by omega, by omega⟩).st (g := 0) (j := 41) (k := 58 + 5 * τ 0 41 2 + 2) (v := a) ⟨by omega, by omega⟩).st (g := 0) (j := 41) (k := 58 + 5 * τ 0 41 2 + 3) (v := p) ⟨by omega, by omega⟩).st (g := 0) (j := 41) (k := 58 + 5 * τ 0 41 2 + 4) (v := 0) ⟨by decide, by decide⟩
              refine (h1.st ?_).st ?_
              · rw [st3_k (by omega), st3_k (by omega), st3_k (by omega), st3_k (by omega), st3_k (by omega)]
                exact ⟨by omega, by omega⟩
              · rw [st3_k (by omega), st3_k (by omega), st3_k (by omega), st3_k (by omega), st3_k (by omega), st3_k (by omega)]
                exact ⟨by omega, by omega⟩
            · intro k k0 k1
              have := hB k k0 k1
              by_cases e : k = 4
              · subst e
                omega
              · rw [hw k (by omega) e (by omega)]
                omega
            · exact enterM_o hi
            · exact enterM_j (by omega)
            · unfold mbidM
              rw [st3_oj hij, st3_oj hij, st3_oj hij, st3_oj hij, st3_oj hij, st3_oj hij, st3_oj hij]
            · have hr := hrow (slotI (caB (σ 0) a p) (σ 0 6 0))
              rw [if_pos rfl] at hr
              have hr1 : bidM σ 0 s a p 0 7 (slotI (caB (σ 0) a p) (σ 0 6 0)) = σ 0 6 1 := row_1 hr
              rw [hr1, w1, s4]
    · rw [if_neg c2]
      exact Or.inr (Or.inr (Or.inl ⟨rfl, c1, c2⟩))
  · rw [if_neg c1]
    exact Or.inr (Or.inl ⟨rfl, c1⟩)
/-- not more offers than barnacles -/
theorem MR.few {μ : MM} {ν : Int → Int} (h : MR μ ν) {b : Int} (hb : 0 ≤ b ∧ b < ν 1) (hno : mofferFor ν b = -1) : ν 3 < 16 := by
  have hN := h.ni
  have n1 := hN.n1
  have n3 := hN.n3
  apply Classical.byContradiction
  intro hc
  have h3 : ν 3 = 16 := by omega
  -- each barnacle is counted at most once; all sixteen offers would need sixteen others
  have hcnt : ∀ m : Int, 0 ≤ m → (m ≤ ν 1 → sumI (fun x => sumI (fun k => if ν (108 + 4 * k + 1) = x then (1 : Int) else 0) (ν 3)) m ≤ m - (if b < m then 1 else 0)) := by
    refine int_up 0 (fun _ => by rw [sumI_0]; split <;> omega) ?_
    intro m hm ih hmn
    rw [sumI_s _ hm]
    have h1 : sumI (fun k => if ν (108 + 4 * k + 1) = m then (1 : Int) else 0) (ν 3) ≤ 1 ∧ (m = b → sumI (fun k => if ν (108 + 4 * k + 1) = m then (1 : Int) else 0) (ν 3) = 0) := by
      by_cases hz : mofferFor ν m = -1
      · have : sumI (fun k => if ν (108 + 4 * k + 1) = m then (1 : Int) else 0) (ν 3) = 0 := sumI_z fun k a c => if_neg (fst_nn hz k a c)
        omega
      · obtain ⟨f0, f1, f2, -⟩ := fst_in hz
        have f2 : ν (108 + 4 * mofferFor ν m + 1) = m := f2
        refine ⟨?_, fun e => absurd hno (by rw [← e]; exact hz)⟩
        have e1 : sumI (fun k => if ν (108 + 4 * k + 1) = m then (1 : Int) else 0) (ν 3) = sumI (fun _ => 0) (ν 3) + 1 := by
          refine sumI_one f0 f1 (fun k a c d => if_neg fun q => d ?_) ?_
          · exact own_inj h.of.2.2.2.2 a c f0 f1 (by rw [q]; exact f2.symm)
          · exact if_pos f2
        rw [e1, sumI_z (fun _ _ _ => rfl)]
        omega
    have ih := ih (by omega)
    by_cases e : m = b
    · have := h1.2 e
      rw [if_neg (by omega)] at ih
      rw [if_pos (by omega)]
      omega
    · by_cases e2 : b < m
      · rw [if_pos e2] at ih
        rw [if_pos (by omega)]
        omega
      · rw [if_neg e2] at ih
        rw [if_neg (by omega)]
        omega
  have hall : ∀ m : Int, 0 ≤ m → (m ≤ ν 3 → sumI (fun x => sumI (fun k => if ν (108 + 4 * k + 1) = x then (1 : Int) else 0) m) (ν 1) = m) := by
    refine int_up 0 (fun _ => sumI_z fun k _ _ => sumI_0 _) ?_
    intro m hm ih hmn
    have e : sumI (fun x => sumI (fun k => if ν (108 + 4 * k + 1) = x then (1 : Int) else 0) (m + 1)) (ν 1) = sumI (fun x => sumI (fun k => if ν (108 + 4 * k + 1) = x then (1 : Int) else 0) m) (ν 1) + sumI (fun x => if ν (108 + 4 * m + 1) = x then (1 : Int) else 0) (ν 1) := sumI_add fun x a c => sumI_s _ hm
    rw [e, ih (by omega)]
    have hw := (hN.of m hm (by omega)).1
    have e1 : sumI (fun x => if ν (108 + 4 * m + 1) = x then (1 : Int) else 0) (ν 1) = sumI (fun _ => 0) (ν 1) + 1 := sumI_one hw.1 hw.2 (fun k a c d => if_neg fun q => d q.symm) (if_pos rfl)
    rw [e1, sumI_z (fun _ _ _ => rfl)]
    omega
  have a1 := hcnt (ν 1) n1.1 (Int.le_refl _)
  have a2 := hall (ν 3) n3.1 (Int.le_refl _)
  rw [if_pos hb.2] at a1
  omega
set_option maxHeartbeats 4000000 in
theorem ov_o {σ τ : Mem} {B b p : Int} (h : MR (σ 0) (τ 0 41)) (hRσ : Rng σ) (hRτ : Rng τ) (hB : BD (τ 0 41) B) (hB2 : B ≤ 80000000) :
    (vOffer (σ 0) b p = 0 ∧ (0 ≤ b ∧ b < τ 0 41 1) ∧ (0 ≤ b ∧ b < σ 0 1 3) ∧ (1 ≤ p ∧ p ≤ 99) ∧ mofferFor (τ 0 41) b = -1 ∧ τ 0 41 3 < 16 ∧ σ 0 12 0 < 16 ∧ Kp σ τ (offerM σ 0 b p) (mofferM τ b p) B ∧ offerM σ 0 b p 0 13 (slotI (caO (σ 0) (σ 0 4 b) p) (σ 0 12 0)) = mofferM τ b p 0 41 (108 + 4 * τ 0 41 3)) ∨
    (vOffer (σ 0) b p = -1 ∧ ¬ (0 ≤ b ∧ b < τ 0 41 1)) ∨ (vOffer (σ 0) b p = -2 ∧ (0 ≤ b ∧ b < τ 0 41 1) ∧ ¬ (1 ≤ p ∧ p ≤ 99)) ∨
    (vOffer (σ 0) b p = 6 ∧ (0 ≤ b ∧ b < τ 0 41 1) ∧ (1 ≤ p ∧ p ≤ 99) ∧ mofferFor (τ 0 41) b ≠ -1 ∧ (if rowOwn (σ 0) 12 b = -1 then (-1 : Int) else σ 0 13 (rowOwn (σ 0) 12 b)) = τ 0 41 (108 + 4 * mofferFor (τ 0 41) b)) := by
  have hN := h.ni
  have n1 := hN.n1
  have n3 := hN.n3
  have s1 := h.sc.2.1
  have s3 := h.sc.2.2.2.1
  have s5 := h.sc.2.2.2.2.2.1
  obtain ⟨hown, hrowo⟩ := h.ownO b
  unfold vOffer
  rw [s1]
  by_cases c1 : 0 ≤ b ∧ b < τ 0 41 1
  · rw [if_pos c1]
    by_cases c2 : 1 ≤ p ∧ p ≤ 99
    · rw [if_pos c2]
      by_cases c3 : rowOwn (σ 0) 12 b = -1
      · rw [if_pos c3]
        have hno := hown.mp c3
        have hfew := h.few c1 hno
        have b5 := hB 5 (by decide) (by decide)
        have c5' := hN.cr 5 (by decide)
        have hgr := hN.ba b c1.1 c1.2
        have hg4 := (h.ba b c1.1 c1.2).2
        obtain ⟨t0, t1, t2, t3⟩ := slot_spec (caO (σ 0) (σ 0 4 b) p) (n := σ 0 12 0) (by omega)
        have hrow := fun k => enterM_row (σ := σ) (g := 0) (p := 12) (r := slotI (caO (σ 0) (σ 0 4 b) p) (σ 0 12 0)) (o := b) (a := σ 0 4 b) (b := p) (k := k)
        have m2 : mofferM τ b p 0 41 = pn (pn (pn (pn (pn (pn (τ 0 41) (108 + 4 * τ 0 41 3) (τ 0 41 5)) (108 + 4 * τ 0 41 3 + 1) b) (108 + 4 * τ 0 41 3 + 2) p) (108 + 4 * τ 0 41 3 + 3) 0) 3 (τ 0 41 3 + 1)) 5 (τ 0 41 5 + 1) := by
          unfold mofferM
          simp only [st3_pn]
          have x1 : pn (pn (pn (pn (τ 0 41) (108 + 4 * τ 0 41 3) (τ 0 41 5)) (108 + 4 * τ 0 41 3 + 1) b) (108 + 4 * τ 0 41 3 + 2) p) (108 + 4 * τ 0 41 3 + 3) 0 3 = τ 0 41 3 := by rw [pn_ne (by omega), pn_ne (by omega), pn_ne (by omega), pn_ne (by omega)]
          rw [x1]
          have x2 : pn (pn (pn (pn (pn (τ 0 41) (108 + 4 * τ 0 41 3) (τ 0 41 5)) (108 + 4 * τ 0 41 3 + 1) b) (108 + 4 * τ 0 41 3 + 2) p) (108 + 4 * τ 0 41 3 + 3) 0) 3 (τ 0 41 3 + 1) 5 = τ 0 41 5 := by rw [pn_ne (by omega), pn_ne (by omega), pn_ne (by omega), pn_ne (by omega), pn_ne (by omega)]
          rw [x2]
        have w1 : mofferM τ b p 0 41 (108 + 4 * τ 0 41 3) = τ 0 41 5 := by rw [m2, pn_ne (by omega), pn_ne (by omega), pn_ne (by omega), pn_ne (by omega), pn_ne (by omega), pn_self]
        have w2 : mofferM τ b p 0 41 (108 + 4 * τ 0 41 3 + 1) = b := by rw [m2, pn_ne (by omega), pn_ne (by omega), pn_ne (by omega), pn_ne (by omega), pn_self]
        have w4 : mofferM τ b p 0 41 (108 + 4 * τ 0 41 3 + 2) = p := by rw [m2, pn_ne (by omega), pn_ne (by omega), pn_ne (by omega), pn_self]
        have w5 : mofferM τ b p 0 41 (108 + 4 * τ 0 41 3 + 3) = 0 := by rw [m2, pn_ne (by omega), pn_ne (by omega), pn_self]
        have hw : ∀ k : Int, k ≠ 3 → k ≠ 5 → ¬ (108 + 4 * τ 0 41 3 ≤ k ∧ k ≤ 108 + 4 * τ 0 41 3 + 3) → mofferM τ b p 0 41 k = τ 0 41 k := fun k a1 a2 a3 => by
          rw [m2, pn_ne a2, pn_ne a1, pn_ne (by omega), pn_ne (by omega), pn_ne (by omega), pn_ne (by omega)]
        have hw3 : mofferM τ b p 0 41 3 = τ 0 41 3 + 1 := by rw [m2, pn_ne (by decide), pn_self]
        have hw5 : mofferM τ b p 0 41 5 = τ 0 41 5 + 1 := by rw [m2, pn_self]
        refine Or.inl ⟨rfl, c1, by omega, c2, hno, hfew, by omega, ⟨?_, ?_, ?_, ?_, fun i hi => ?_, fun j hj => ?_, fun i j hij => ?_⟩, ?_⟩
        · exact MR_offer (r := slotI (caO (σ 0) (σ 0 4 b) p) (σ 0 12 0)) (b := b) (p := p) h c1 c2 hno hfew (by omega) t0 t1 t2 t3 (fun j hj => enterM_j hj) enterM_p0 enterM_p1 hrow hw hw3 hw5 w1 w2 w4 w5
        · exact hRσ.enter (by decide) (by omega) (by omega) ⟨by omega, by omega⟩ (hRσ _ _ _ (by decide)) ⟨by omega, by omega⟩
        · unfold mofferM
          have h1 := (((hRτ.st (g := 0) (j := 41) (k := 108 + 4 * τ 0 41 3) (v := τ 0 41 5) (hRτ _ _ _ (by decide))).st (g := 0) (j := 41) (k := 108 + 4 * τ 0 41 3 + 1) (v := b) ⟨by omega, by omega⟩).st (g := 0) (j := 41) (k := 108 + 4 * τ 0 41 3 + 2) (v := p) ⟨by omega, by omega⟩).st (g := 0) (j := 41) (k := 108 + 4 * τ 0 41 3 + 3) (v := 0) ⟨by decide, by decide⟩
          refine (h1.st ?_).st ?_
          · rw [st3_k (by omega), st3_k (by omega), st3_k (by omega), st3_k (by omega)]
            exact ⟨by omega, by omega⟩
          · rw [st3_k (by omega), st3_k (by omega), st3_k (by omega), st3_k (by omega), st3_k (by omega)]
            exact ⟨by omega, by omega⟩
        · intro k k0 k1
          have := hB k k0 k1
          by_cases e : k = 5
          · subst e
            omega
          · rw [hw k (by omega) e (by omega)]
            omega
        · exact enterM_o hi
        · exact enterM_j (by omega)
        · unfold mofferM
          rw [st3_oj hij, st3_oj hij, st3_oj hij, st3_oj hij, st3_oj hij, st3_oj hij]
        · have hr := hrow (slotI (caO (σ 0) (σ 0 4 b) p) (σ 0 12 0))
          rw [if_pos rfl] at hr
          have hr1 : offerM σ 0 b p 0 13 (slotI (caO (σ 0) (σ 0 4 b) p) (σ 0 12 0)) = σ 0 12 1 := row_1 hr
          rw [hr1, w1, s5]
      · rw [if_neg c3]
        have hno : mofferFor (τ 0 41) b ≠ -1 := fun q => c3 (hown.mpr q)
        refine Or.inr (Or.inr (Or.inr ⟨rfl, c1, c2, hno, ?_⟩))
        rw [if_neg c3]
        exact row_1 (hrowo hno)
    · rw [if_neg c2]
      exact Or.inr (Or.inr (Or.inl ⟨rfl, c1, c2⟩))
  · rw [if_neg c1]
    exact Or.inr (Or.inl ⟨rfl, c1⟩)
set_option maxHeartbeats 4000000 in
theorem ov_x {σ τ : Mem} {B i : Int} (h : MR (σ 0) (τ 0 41)) (hRσ : Rng σ) (hRτ : Rng τ) (hB : BD (τ 0 41) B) :
    ((if rowId (σ 0) 6 i = -1 then (-3 : Int) else 0) = 0 ∧ rowId (σ 0) 6 i ≠ -1 ∧ mplB (τ 0 41) i ≠ -1 ∧ Kp σ τ (removeM σ 0 6 (rowId (σ 0) 6 i)) (closeM τ 2 (58 + 5 * mplB (τ 0 41) i) 5 108) B ∧ removeM σ 0 6 (rowId (σ 0) 6 i) 0 6 0 = closeM τ 2 (58 + 5 * mplB (τ 0 41) i) 5 108 0 41 2) ∨
    ((if rowId (σ 0) 6 i = -1 then (-3 : Int) else 0) = -3 ∧ mplB (τ 0 41) i = -1) := by
  have hN := h.ni
  have n2 := hN.n2
  have s2 := h.sc.2.2.1
  obtain ⟨h1, h2⟩ := h.rowB i
  by_cases c : rowId (σ 0) 6 i = -1
  · rw [if_pos c]
    exact Or.inr ⟨rfl, h1.mp c⟩
  · rw [if_neg c]
    have c' : mplB (τ 0 41) i ≠ -1 := fun q => c (h1.mpr q)
    have hrb := h2 c'
    obtain ⟨r0, r1, -⟩ := fst_in c
    have r0 : 0 ≤ rowId (σ 0) 6 i := r0
    have r1 : rowId (σ 0) 6 i < σ 0 6 0 := r1
    obtain ⟨b0, b1, -⟩ := fst_in c'
    have b0 : 0 ≤ mplB (τ 0 41) i := b0
    have b1 : mplB (τ 0 41) i < τ 0 41 2 := b1
    generalize rowId (σ 0) 6 i = r at c hrb r0 r1 ⊢
    generalize mplB (τ 0 41) i = b at c' hrb b0 b1 ⊢
    have hR' : Rng (closeM τ 2 (58 + 5 * b) 5 108) := closeM_R hRτ (by omega) (by omega) (by omega)
    have hnk : ∀ k : Int, k ≠ 2 → ¬ (58 ≤ k ∧ k < 108) → closeM τ 2 (58 + 5 * b) 5 108 0 41 k = τ 0 41 k := fun k k2 kk => by
      rw [closeM_v k2, if_neg (by omega), if_neg (by omega)]
    have hn2 : closeM τ 2 (58 + 5 * b) 5 108 0 41 2 = τ 0 41 2 - 1 := closeM_w (by omega) (by omega)
    have hm2 : removeM σ 0 6 r 0 6 0 = σ 0 6 0 - 1 := removeM_0
    have hMR := MR_canB (μ' := removeM σ 0 6 r 0) (ν' := closeM τ 2 (58 + 5 * b) 5 108 0 41) h r0 (by omega) b0 b1 hrb (fun j hj => removeM_js hj) hm2 removeM_p1 (fun k => removeM_row) hnk hn2 (fun k k0 k1 => ageK_b.2.2.2.2.2.1 τ b k b0 (by omega) k0 (by omega))
    refine Or.inl ⟨rfl, c, c', ⟨hMR.1, hRσ.remove (by decide) (by omega), hR', fun k k0 k1 => ?_, fun j hj => removeM_o hj, fun j hj => removeM_js (by omega), fun i j hij => ?_⟩, by rw [hm2, hn2, s2]⟩
    · rw [hnk k (by omega) (by omega)]
      have := hB k k0 k1
      omega
    · funext z
      exact closeM_j hij
set_option maxHeartbeats 4000000 in
theorem ov_y {σ τ : Mem} {B i : Int} (h : MR (σ 0) (τ 0 41)) (hRσ : Rng σ) (hRτ : Rng τ) (hB : BD (τ 0 41) B) :
    ((if rowId (σ 0) 12 i = -1 then (-3 : Int) else 0) = 0 ∧ rowId (σ 0) 12 i ≠ -1 ∧ mplO (τ 0 41) i ≠ -1 ∧ Kp σ τ (removeM σ 0 12 (rowId (σ 0) 12 i)) (closeM τ 3 (108 + 4 * mplO (τ 0 41) i) 4 172) B ∧ removeM σ 0 12 (rowId (σ 0) 12 i) 0 12 0 = closeM τ 3 (108 + 4 * mplO (τ 0 41) i) 4 172 0 41 3) ∨
    ((if rowId (σ 0) 12 i = -1 then (-3 : Int) else 0) = -3 ∧ mplO (τ 0 41) i = -1) := by
  have hN := h.ni
  have n1 := hN.n1
  have n3 := hN.n3
  have s3 := h.sc.2.2.2.1
  obtain ⟨h1, h2⟩ := h.rowO i
  by_cases c : rowId (σ 0) 12 i = -1
  · rw [if_pos c]
    exact Or.inr ⟨rfl, h1.mp c⟩
  · rw [if_neg c]
    have c' : mplO (τ 0 41) i ≠ -1 := fun q => c (h1.mpr q)
    have hrb := h2 c'
    obtain ⟨r0, r1, -⟩ := fst_in c
    have r0 : 0 ≤ rowId (σ 0) 12 i := r0
    have r1 : rowId (σ 0) 12 i < σ 0 12 0 := r1
    obtain ⟨b0, b1, -⟩ := fst_in c'
    have b0 : 0 ≤ mplO (τ 0 41) i := b0
    have b1 : mplO (τ 0 41) i < τ 0 41 3 := b1
    generalize rowId (σ 0) 12 i = r at c hrb r0 r1 ⊢
    generalize mplO (τ 0 41) i = b at c' hrb b0 b1 ⊢
    have hR' : Rng (closeM τ 3 (108 + 4 * b) 4 172) := closeM_R hRτ (by omega) (by omega) (by omega)
    have hnk : ∀ k : Int, k ≠ 3 → ¬ (108 ≤ k ∧ k < 172) → closeM τ 3 (108 + 4 * b) 4 172 0 41 k = τ 0 41 k := fun k k2 kk => by
      rw [closeM_v k2, if_neg (by omega), if_neg (by omega)]
    have hn3 : closeM τ 3 (108 + 4 * b) 4 172 0 41 3 = τ 0 41 3 - 1 := closeM_w (by omega) (by omega)
    have hm2 : removeM σ 0 12 r 0 12 0 = σ 0 12 0 - 1 := removeM_0
    have hMR := MR_canO (μ' := removeM σ 0 12 r 0) (ν' := closeM τ 3 (108 + 4 * b) 4 172 0 41) h r0 (by omega) b0 b1 hrb (fun j hj => removeM_js hj) hm2 removeM_p1 (fun k => removeM_row) hnk hn3 (fun k k0 k1 => by
      have hw := ageK_o.2.2.2.2.2.1 τ b k b0 (by omega) k0 (by omega)
      have hz := hN.of k k0 (by omega)
      have hz1 := hN.of (k + 1) (by omega) (by omega)
      have fg : ∀ t : Int, 0 ≤ t → t < τ 0 41 1 → closeM τ 3 (108 + 4 * b) 4 172 0 41 (26 + 2 * t + 1) = τ 0 41 (26 + 2 * t + 1) := fun t t0 t1 => hnk _ (by omega) (by omega)
      generalize closeM τ 3 (108 + 4 * b) 4 172 0 41 = ν' at hw fg ⊢
      have u1 : ν' (108 + 4 * k) = (if b ≤ k then orw (τ 0 41) (k + 1) else orw (τ 0 41) k).1 := row_1 hw
      have u2 : ν' (108 + 4 * k + 1) = (if b ≤ k then orw (τ 0 41) (k + 1) else orw (τ 0 41) k).2.1 := row_2 hw
      have u4 : ν' (108 + 4 * k + 2) = (if b ≤ k then orw (τ 0 41) (k + 1) else orw (τ 0 41) k).2.2.2.1 := row_4 hw
      have u5 : ν' (108 + 4 * k + 3) = (if b ≤ k then orw (τ 0 41) (k + 1) else orw (τ 0 41) k).2.2.2.2 := row_5 hw
      unfold noRow mgr
      by_cases e : b ≤ k
      · rw [if_pos e] at u1 u2 u4 u5 ⊢
        rw [u1, u2, u4, u5]
        unfold orw
        dsimp only
        rw [fg _ hz1.1.1 hz1.1.2]
      · rw [if_neg e] at u1 u2 u4 u5 ⊢
        rw [u1, u2, u4, u5]
        unfold orw
        dsimp only
        rw [fg _ hz.1.1 hz.1.2])
    refine Or.inl ⟨rfl, c, c', ⟨hMR, hRσ.remove (by decide) (by omega), hR', fun k k0 k1 => ?_, fun j hj => removeM_o hj, fun j hj => removeM_js (by omega), fun i j hij => ?_⟩, by rw [hm2, hn3, s3]⟩
    · rw [hnk k (by omega) (by omega)]
      have := hB k k0 k1
      omega
    · funext z
      exact closeM_j hij
theorem ov_t {σ τ : Mem} {B : Int} (h : MR (σ 0) (τ 0 41)) (hRσ : Rng σ) (hRτ : Rng τ) (hB : BD (τ 0 41) B) (hB2 : B ≤ 80000000) : tideOk 0 σ ∧ mtideOk τ ∧ Kp σ τ (tideM 0 σ) (mtideM τ) B ∧ tideM 0 σ 0 18 0 - σ 0 18 0 = (mtide1 τ).2 := by
  obtain ⟨a1, a2, a3, a4, a5, a6, a7, a8, a9, a10⟩ := tide_both (g := 0) h hRσ hRτ hB hB2
  exact ⟨a1, a2, ⟨a3, a4, a5, a6, a8, a9, a10⟩, a7⟩
