/-! the relation is kept: orders come and go -/
theorem bag_id {f h : Int → Row} {n m : Int} (b : Bag f h n) (hh : ∀ k : Int, 0 ≤ k → k < n → (h k).1 < m) {k : Int} (h0 : 0 ≤ k) (h1 : k < n) : (f k).1 < m := by
  obtain ⟨j, j0, j1, e⟩ := b.mem h0 h1
  rw [← e]
  exact hh j j0 j1
/-- a bid is placed -/
theorem MR_bid {μ μ' : MM} {ν ν' : Int → Int} (h : MR μ ν) {s a p r : Int} (hn : ν 2 < 10) (hs : 0 ≤ s ∧ s < ν 0) (ha : 1 ≤ a ∧ a ≤ 9) (hp : 1 ≤ p ∧ p ≤ 99) (hpl : 1 ≤ mplaces ν s) (hco : p ≤ ν (14 + 2 * s) - mres ν s) (hg : ν 4 ≤ 90000000)
    (r0 : 0 ≤ r) (r1 : r ≤ μ 6 0) (hl : ∀ k : Int, 0 ≤ k → k < r → ¬ p > μ 10 k) (hu : r < μ 6 0 → p > μ 10 r)
    (mj : ∀ j : Nat, ¬ (6 ≤ j ∧ j ≤ 11) → μ' j = μ j) (m60 : μ' 6 0 = μ 6 0 + 1) (m61 : μ' 6 1 = μ 6 1 + 1) (mr : ∀ k : Int, bRow μ' k = if k = r then (μ 6 1, s, a, p, 0) else if r < k ∧ k ≤ μ 6 0 then bRow μ (k - 1) else bRow μ k)
    (nk : ∀ k : Int, k ≠ 2 → k ≠ 4 → ¬ (58 + 5 * ν 2 ≤ k ∧ k ≤ 58 + 5 * ν 2 + 4) → ν' k = ν k) (n2 : ν' 2 = ν 2 + 1) (n4 : ν' 4 = ν 4 + 1) (nr : nbRow ν' (ν 2) = (ν 4, s, a, p, 0)) : MR μ' ν' := by
  obtain ⟨s0, s1, s2, s3, s4, s5, s6, s7, s8, s9, s10, s11, s12⟩ := h.sc
  have hN := h.ni
  have q0 := hN.n0
  have q1 := hN.n1
  have q2 := hN.n2
  have q3 := hN.n3
  have ns : ∀ k : Int, k ≤ 57 → k ≠ 2 → k ≠ 4 → ν' k = ν k := fun k a1 a2 a3 => nk k a2 a3 (by omega)
  have n108 : ∀ k : Int, 108 ≤ k → ν' k = ν k := fun k a1 => nk k (by omega) (by omega) (by omega)
  have nb : ∀ k : Int, 0 ≤ k → k < ν 2 → nbRow ν' k = nbRow ν k := fun k a1 a2 => by
    unfold nbRow
    rw [nk (58 + 5 * k) (by omega) (by omega) (by omega), nk (58 + 5 * k + 1) (by omega) (by omega) (by omega), nk (58 + 5 * k + 2) (by omega) (by omega) (by omega), nk (58 + 5 * k + 3) (by omega) (by omega) (by omega), nk (58 + 5 * k + 4) (by omega) (by omega) (by omega)]
  have z1 : ν' (58 + 5 * ν 2) = ν 4 := row_1 nr
  have z2 : ν' (58 + 5 * ν 2 + 1) = s := row_2 nr
  have z3 : ν' (58 + 5 * ν 2 + 2) = a := row_3 nr
  have z4 : ν' (58 + 5 * ν 2 + 3) = p := row_4 nr
  have z5 : ν' (58 + 5 * ν 2 + 4) = 0 := row_5 nr
  have e0 := ns 0 (by decide) (by decide) (by decide)
  have e1 := ns 1 (by decide) (by decide) (by decide)
  have e3 := ns 3 (by decide) (by decide) (by decide)
  have e5 := ns 5 (by decide) (by decide) (by decide)
  have e6 := ns 6 (by decide) (by decide) (by decide)
  have e7 := ns 7 (by decide) (by decide) (by decide)
  have e8 := ns 8 (by decide) (by decide) (by decide)
  have e9 := ns 9 (by decide) (by decide) (by decide)
  have e10 := ns 10 (by decide) (by decide) (by decide)
  have e11 := ns 11 (by decide) (by decide) (by decide)
  have e12 := ns 12 (by decide) (by decide) (by decide)
  have e13 := ns 13 (by decide) (by decide) (by decide)
  have mrr : bRow μ' r = (μ 6 1, s, a, p, 0) := by rw [mr r, if_pos rfl]
  have mrl : ∀ k : Int, 0 ≤ k → k < r → bRow μ' k = bRow μ k := fun k a1 a2 => by rw [mr k, if_neg (by omega), if_neg (by omega)]
  have mru : ∀ k : Int, r < k → k ≤ ν 2 → bRow μ' k = bRow μ (k - 1) := fun k a1 a2 => by rw [mr k, if_neg (by omega), if_pos (by omega)]
  have hidc : ∀ k : Int, 0 ≤ k → k < ν 2 → μ 7 k < ν 4 := fun k a1 a2 => bag_id h.bi.1 (fun j b1 b2 => (h.bi.2.2.2 j b1 b2).2) a1 a2
  have hmono : ∀ i j : Int, 0 ≤ i → i ≤ j → j < ν 2 → μ 10 j ≤ μ 10 i := fun i j a1 a2 a3 => by
    by_cases e : i = j
    · rw [e]
      exact Int.le_refl _
    · have hab := h.bi.2.1 i j a1 (by omega) a3
      have hab : μ 10 j < μ 10 i ∨ (μ 10 i = μ 10 j ∧ μ 7 i < μ 7 j) := hab
      omega
  refine ⟨?_, ?_, ?_, ?_, ?_, ?_, ?_, ?_, ?_⟩
  · rw [RSc, mj 1 (by decide), mj 12 (by decide), mj 0 (by decide), mj 18 (by decide)]
    omega
  · intro t a1 a2
    rw [mj 2 (by decide), mj 3 (by decide), ns _ (by omega) (by omega) (by omega), ns _ (by omega) (by omega) (by omega)]
    exact h.sh t a1 (by omega)
  · intro b a1 a2
    rw [mj 5 (by decide), mj 4 (by decide), ns _ (by omega) (by omega) (by omega), ns _ (by omega) (by omega) (by omega)]
    exact h.ba b a1 (by omega)
  · exact h.tr.congr (fun j a1 a2 => mj j (by omega)) (fun k a1 a2 => n108 k (by omega)) e8 e13
  · unfold RBi
    rw [n2, n4]
    refine ⟨?_, ?_, ?_, ?_⟩
    · refine h.bi.1.ins (r := r) (t := ν 2) r0 (by omega) q2.1 (Int.le_refl _) mrl (fun k a1 a2 => mru k a1 a2) nb (fun k a1 a2 => by omega) ?_
      rw [mrr, nr, s4]
    · intro i j a1 a2 a3
      by_cases ei : i = r
      · rw [ei, mrr, mru j (by omega) (by omega)]
        have w1 := hmono r (j - 1) r0 (by omega) (by omega)
        have w2 := hu (by omega)
        refine Or.inl ?_
        show μ 10 (j - 1) < p
        omega
      · by_cases ej : j = r
        · rw [ej, mrr, mrl i a1 (by omega)]
          have w1 := hl i a1 (by omega)
          have w2 := hidc i a1 (by omega)
          show p < μ 10 i ∨ (μ 10 i = p ∧ μ 7 i < μ 6 1)
          omega
        · by_cases ci : i < r
          · rw [mrl i a1 ci]
            by_cases cj : j < r
            · rw [mrl j (by omega) cj]
              exact h.bi.2.1 i j a1 a2 (by omega)
            · rw [mru j (by omega) (by omega)]
              exact h.bi.2.1 i (j - 1) a1 (by omega) (by omega)
          · rw [mru i (by omega) (by omega), mru j (by omega) (by omega)]
            exact h.bi.2.1 (i - 1) (j - 1) (by omega) (by omega) (by omega)
    · intro i j a1 a2 a3
      have wi : ν' (58 + 5 * i) = ν (58 + 5 * i) := row_1 (nb i a1 (by omega))
      rw [wi]
      by_cases e : j = ν 2
      · rw [e, z1]
        exact (h.bi.2.2.2 i a1 (by omega)).2
      · have wj : ν' (58 + 5 * j) = ν (58 + 5 * j) := row_1 (nb j (by omega) (by omega))
        rw [wj]
        exact h.bi.2.2.1 i j a1 a2 (by omega)
    · intro k a1 a2
      by_cases e : k = ν 2
      · rw [e, z1]
        have := hN.cr 4 (by decide)
        omega
      · have wj : ν' (58 + 5 * k) = ν (58 + 5 * k) := row_1 (nb k a1 (by omega))
        rw [wj]
        have := h.bi.2.2.2 k a1 (by omega)
        omega
  · exact h.of.congr hN (fun j a1 a2 => mj j (by omega)) (fun k a1 a2 => n108 k (by omega)) (fun k a1 a2 => ns _ (by omega) (by omega) (by omega)) e3 e5
  · refine NI.mk' (by omega) (by omega) (by omega) (by omega) (fun k hk => ?_) (hN.nsh.congr q0.2 e0 (fun k a1 a2 => ns k (by omega) (by omega) (by omega))) (hN.nba.congr q1.2 (by omega) e1 (fun k a1 a2 => ns k (by omega) (by omega) (by omega))) (fun k a1 a2 => ?_) (hN.nof.congr q3.2 (by omega) e3 (fun k a1 a2 => n108 k (by omega)))
    · have c := hN.cr k hk
      by_cases e : k = 4
      · subst e
        omega
      · rw [ns k (by omega) (by omega) e]
        exact c
    · by_cases e : k = ν 2
      · rw [e, z2, z3, z4, z5, e0]
        omega
      · have w := nb k a1 (by omega)
        have w2 : ν' (58 + 5 * k + 1) = ν (58 + 5 * k + 1) := row_2 w
        have w3 : ν' (58 + 5 * k + 2) = ν (58 + 5 * k + 2) := row_3 w
        have w4 : ν' (58 + 5 * k + 3) = ν (58 + 5 * k + 3) := row_4 w
        have w5 : ν' (58 + 5 * k + 4) = ν (58 + 5 * k + 4) := row_5 w
        rw [w2, w3, w4, w5, e0]
        exact hN.bi k a1 (by omega)
  · have el : ∀ s : Int, mload ν' s = mload ν s := fun s => mload_congr s e1 fun b a1 a2 => ns _ (by omega) (by omega) (by omega)
    have ec : ∀ t : Int, sumI (mcntF ν' t) (ν' 2) = sumI (mcntF ν t) (ν 2) + (if s = t then 1 else 0) := fun t => by
      rw [n2, sumI_s _ q2.1]
      have e : sumI (mcntF ν' t) (ν 2) = sumI (mcntF ν t) (ν 2) := sumI_congr fun k b1 b2 => by
        have w2 : ν' (58 + 5 * k + 1) = ν (58 + 5 * k + 1) := row_2 (nb k b1 b2)
        unfold mcntF
        rw [w2]
      rw [e]
      unfold mcntF
      rw [z2]
    have er : ∀ t : Int, mres ν' t = mres ν t + (if s = t then p else 0) := fun t => by
      unfold mres
      rw [n2, sumI_s _ q2.1]
      have e : sumI (mresF ν' t) (ν 2) = sumI (mresF ν t) (ν 2) := sumI_congr fun k b1 b2 => by
        have w2 : ν' (58 + 5 * k + 1) = ν (58 + 5 * k + 1) := row_2 (nb k b1 b2)
        have w4 : ν' (58 + 5 * k + 3) = ν (58 + 5 * k + 3) := row_4 (nb k b1 b2)
        unfold mresF
        rw [w2, w4]
      rw [e]
      unfold mresF
      rw [z2, z4]
    refine ⟨fun t a1 a2 => ?_, ?_⟩
    · have hr := h.re.1 t a1 (by omega)
      unfold mplaces mcap at hr hpl ⊢
      rw [el, ec, er, ns _ (by omega) (by omega) (by omega), ns _ (by omega) (by omega) (by omega)]
      by_cases e : s = t
      · subst e
        rw [if_pos rfl, if_pos rfl]
        omega
      · rw [if_neg e, if_neg e]
        omega
    · have e : sumI (mcoinF ν') (ν 0) = sumI (mcoinF ν) (ν 0) := sumI_congr fun s a1 a2 => ns _ (by omega) (by omega) (by omega)
      rw [e0, e10, e12, e]
      exact h.re.2
  · intro k a1 a2 a3
    rw [mj 0 (by decide)]
    exact h.rz k a1 a2 a3
/-- an offer is placed -/
theorem MR_offer {μ μ' : MM} {ν ν' : Int → Int} (h : MR μ ν) {b p r : Int} (hb : 0 ≤ b ∧ b < ν 1) (hp : 1 ≤ p ∧ p ≤ 99) (hno : mofferFor ν b = -1) (hn : ν 3 < 16) (hg : ν 5 ≤ 90000000)
    (r0 : 0 ≤ r) (r1 : r ≤ μ 12 0) (hl : ∀ k : Int, 0 ≤ k → k < r → ¬ caO μ (μ 4 b) p k) (hu : r < μ 12 0 → caO μ (μ 4 b) p r)
    (mj : ∀ j : Nat, ¬ (12 ≤ j ∧ j ≤ 17) → μ' j = μ j) (m60 : μ' 12 0 = μ 12 0 + 1) (m61 : μ' 12 1 = μ 12 1 + 1) (mr : ∀ k : Int, oRow μ' k = if k = r then (μ 12 1, b, μ 4 b, p, 0) else if r < k ∧ k ≤ μ 12 0 then oRow μ (k - 1) else oRow μ k)
    (nk : ∀ k : Int, k ≠ 3 → k ≠ 5 → ¬ (108 + 4 * ν 3 ≤ k ∧ k ≤ 108 + 4 * ν 3 + 3) → ν' k = ν k) (n3 : ν' 3 = ν 3 + 1) (n5 : ν' 5 = ν 5 + 1) (z1 : ν' (108 + 4 * ν 3) = ν 5) (z2 : ν' (108 + 4 * ν 3 + 1) = b) (z4 : ν' (108 + 4 * ν 3 + 2) = p) (z5 : ν' (108 + 4 * ν 3 + 3) = 0) : MR μ' ν' := by
  obtain ⟨s0, s1, s2, s3, s4, s5, s6, s7, s8, s9, s10, s11, s12⟩ := h.sc
  have hN := h.ni
  have q0 := hN.n0
  have q1 := hN.n1
  have q2 := hN.n2
  have q3 := hN.n3
  have ns : ∀ k : Int, k ≤ 107 → k ≠ 3 → k ≠ 5 → ν' k = ν k := fun k a1 a2 a3 => nk k a2 a3 (by omega)
  have n172 : ∀ k : Int, 172 ≤ k → ν' k = ν k := fun k a1 => nk k (by omega) (by omega) (by omega)
  have gr : ∀ x : Int, 0 ≤ x → x < ν 1 → mgr ν' x = mgr ν x := fun x a1 a2 => ns _ (by omega) (by omega) (by omega)
  have nb : ∀ k : Int, 0 ≤ k → k < ν 3 → noRow ν' k = noRow ν k := fun k a1 a2 => by
    unfold noRow
    rw [nk (108 + 4 * k) (by omega) (by omega) (by omega), nk (108 + 4 * k + 1) (by omega) (by omega) (by omega), nk (108 + 4 * k + 2) (by omega) (by omega) (by omega), nk (108 + 4 * k + 3) (by omega) (by omega) (by omega), gr _ (hN.of k a1 a2).1.1 (hN.of k a1 a2).1.2]
  have hgb := (h.ba b hb.1 hb.2).2
  have nr : noRow ν' (ν 3) = (ν 5, b, μ 4 b, p, 0) := by
    unfold noRow
    rw [z1, z2, z4, z5, gr b hb.1 hb.2, hgb]
    rfl
  have e0 := ns 0 (by decide) (by decide) (by decide)
  have e1 := ns 1 (by decide) (by decide) (by decide)
  have e2 := ns 2 (by decide) (by decide) (by decide)
  have e4 := ns 4 (by decide) (by decide) (by decide)
  have e6 := ns 6 (by decide) (by decide) (by decide)
  have e7 := ns 7 (by decide) (by decide) (by decide)
  have e8 := ns 8 (by decide) (by decide) (by decide)
  have e9 := ns 9 (by decide) (by decide) (by decide)
  have e10 := ns 10 (by decide) (by decide) (by decide)
  have e11 := ns 11 (by decide) (by decide) (by decide)
  have e12 := ns 12 (by decide) (by decide) (by decide)
  have e13 := ns 13 (by decide) (by decide) (by decide)
  have mrr : oRow μ' r = (μ 12 1, b, μ 4 b, p, 0) := by rw [mr r, if_pos rfl]
  have mrl : ∀ k : Int, 0 ≤ k → k < r → oRow μ' k = oRow μ k := fun k a1 a2 => by rw [mr k, if_neg (by omega), if_neg (by omega)]
  have mru : ∀ k : Int, r < k → k ≤ ν 3 → oRow μ' k = oRow μ (k - 1) := fun k a1 a2 => by rw [mr k, if_neg (by omega), if_pos (by omega)]
  have hidc : ∀ k : Int, 0 ≤ k → k < ν 3 → μ 13 k < ν 5 := fun k a1 a2 => bag_id h.of.1 (fun j b1 b2 => (h.of.2.2.2.1 j b1 b2).2) a1 a2
  have hown : ∀ k : Int, 0 ≤ k → k < ν 3 → ν (108 + 4 * k + 1) ≠ b := fun k a1 a2 => fst_nn hno k a1 a2
  have hmono : ∀ i j : Int, 0 ≤ i → i ≤ j → j < ν 3 → μ 16 i < μ 16 j ∨ (μ 16 i = μ 16 j ∧ μ 15 j ≤ μ 15 i) := fun i j a1 a2 a3 => by
    by_cases e : i = j
    · rw [e]
      omega
    · have hab := h.of.2.1 i j a1 (by omega) a3
      have hab : μ 16 i < μ 16 j ∨ (μ 16 i = μ 16 j ∧ (μ 15 j < μ 15 i ∨ (μ 15 i = μ 15 j ∧ μ 13 i < μ 13 j))) := hab
      omega
  refine ⟨?_, ?_, ?_, ?_, ?_, ?_, ?_, ?_, ?_⟩
  · rw [RSc, mj 1 (by decide), mj 6 (by decide), mj 0 (by decide), mj 18 (by decide)]
    omega
  · intro t a1 a2
    rw [mj 2 (by decide), mj 3 (by decide), ns _ (by omega) (by omega) (by omega), ns _ (by omega) (by omega) (by omega)]
    exact h.sh t a1 (by omega)
  · intro b a1 a2
    rw [mj 5 (by decide), mj 4 (by decide), ns _ (by omega) (by omega) (by omega), ns _ (by omega) (by omega) (by omega)]
    exact h.ba b a1 (by omega)
  · exact h.tr.congr (fun j a1 a2 => mj j (by omega)) (fun k a1 a2 => n172 k (by omega)) e8 e13
  · exact h.bi.congr q2.2 (fun j a1 a2 => mj j (by omega)) (fun k a1 a2 => ns k (by omega) (by omega) (by omega)) e2 e4
  · unfold ROf
    rw [n3, n5]
    refine ⟨?_, ?_, ?_, ?_, ?_⟩
    · refine h.of.1.ins (r := r) (t := ν 3) r0 (by omega) q3.1 (Int.le_refl _) mrl (fun k a1 a2 => mru k a1 a2) nb (fun k a1 a2 => by omega) ?_
      rw [mrr, nr, s5]
    · intro i j a1 a2 a3
      by_cases ei : i = r
      · rw [ei, mrr, mru j (by omega) (by omega)]
        have w1 := hmono r (j - 1) r0 (by omega) (by omega)
        have w2 := hu (by omega)
        unfold caO at w2
        show p < μ 16 (j - 1) ∨ (p = μ 16 (j - 1) ∧ (μ 15 (j - 1) < μ 4 b ∨ (μ 4 b = μ 15 (j - 1) ∧ μ 12 1 < μ 13 (j - 1))))
        omega
      · by_cases ej : j = r
        · rw [ej, mrr, mrl i a1 (by omega)]
          have w1 := hl i a1 (by omega)
          have w2 := hidc i a1 (by omega)
          unfold caO at w1
          show μ 16 i < p ∨ (μ 16 i = p ∧ (μ 4 b < μ 15 i ∨ (μ 15 i = μ 4 b ∧ μ 13 i < μ 12 1)))
          omega
        · by_cases ci : i < r
          · rw [mrl i a1 ci]
            by_cases cj : j < r
            · rw [mrl j (by omega) cj]
              exact h.of.2.1 i j a1 a2 (by omega)
            · rw [mru j (by omega) (by omega)]
              exact h.of.2.1 i (j - 1) a1 (by omega) (by omega)
          · rw [mru i (by omega) (by omega), mru j (by omega) (by omega)]
            exact h.of.2.1 (i - 1) (j - 1) (by omega) (by omega) (by omega)
    · intro i j a1 a2 a3
      have wi : ν' (108 + 4 * i) = ν (108 + 4 * i) := row_1 (nb i a1 (by omega))
      rw [wi]
      by_cases e : j = ν 3
      · rw [e, z1]
        exact (h.of.2.2.2.1 i a1 (by omega)).2
      · have wj : ν' (108 + 4 * j) = ν (108 + 4 * j) := row_1 (nb j (by omega) (by omega))
        rw [wj]
        exact h.of.2.2.1 i j a1 a2 (by omega)
    · intro k a1 a2
      by_cases e : k = ν 3
      · rw [e, z1]
        have := hN.cr 5 (by decide)
        omega
      · have wj : ν' (108 + 4 * k) = ν (108 + 4 * k) := row_1 (nb k a1 (by omega))
        rw [wj]
        have := h.of.2.2.2.1 k a1 (by omega)
        omega
    · intro i j a1 a2 a3
      have wi : ν' (108 + 4 * i + 1) = ν (108 + 4 * i + 1) := row_2 (nb i a1 (by omega))
      rw [wi]
      by_cases e : j = ν 3
      · rw [e, z2]
        exact hown i a1 (by omega)
      · have wj : ν' (108 + 4 * j + 1) = ν (108 + 4 * j + 1) := row_2 (nb j (by omega) (by omega))
        rw [wj]
        exact h.of.2.2.2.2 i j a1 a2 (by omega)
  · refine NI.mk' (by omega) (by omega) (by omega) (by omega) (fun k hk => ?_) (hN.nsh.congr q0.2 e0 (fun k a1 a2 => ns k (by omega) (by omega) (by omega))) (hN.nba.congr q1.2 (by omega) e1 (fun k a1 a2 => ns k (by omega) (by omega) (by omega))) (hN.nbi.congr q2.2 (by omega) e2 (fun k a1 a2 => ns k (by omega) (by omega) (by omega))) (fun k a1 a2 => ?_)
    · have c := hN.cr k hk
      by_cases e : k = 5
      · subst e
        omega
      · rw [ns k (by omega) (by omega) e]
        exact c
    · by_cases e : k = ν 3
      · rw [e, z2, z4, z5, e1]
        omega
      · have w := nb k a1 (by omega)
        have w2 : ν' (108 + 4 * k + 1) = ν (108 + 4 * k + 1) := row_2 w
        have w4 : ν' (108 + 4 * k + 2) = ν (108 + 4 * k + 2) := row_4 w
        have w5 : ν' (108 + 4 * k + 3) = ν (108 + 4 * k + 3) := row_5 w
        rw [w2, w4, w5, e1]
        exact hN.of k a1 (by omega)
  · have el : ∀ s : Int, mload ν' s = mload ν s := fun s => mload_congr s e1 fun b a1 a2 => ns _ (by omega) (by omega) (by omega)
    have ec : ∀ s : Int, sumI (mcntF ν' s) (ν' 2) = sumI (mcntF ν s) (ν 2) := fun s => mcnt_congr s e2 fun b a1 a2 => ns _ (by omega) (by omega) (by omega)
    have er : ∀ s : Int, mres ν' s = mres ν s := fun s => mres_congr s e2 fun b a1 a2 => ⟨ns _ (by omega) (by omega) (by omega), ns _ (by omega) (by omega) (by omega)⟩
    refine ⟨fun t a1 a2 => ?_, ?_⟩
    · have hr := h.re.1 t a1 (by omega)
      unfold mplaces mcap at hr ⊢
      rw [el, ec, er, ns _ (by omega) (by omega) (by omega), ns _ (by omega) (by omega) (by omega)]
      exact hr
    · have e : sumI (mcoinF ν') (ν 0) = sumI (mcoinF ν) (ν 0) := sumI_congr fun s a1 a2 => ns _ (by omega) (by omega) (by omega)
      rw [e0, e10, e12, e]
      exact h.re.2
  · intro k a1 a2 a3
    rw [mj 0 (by decide)]
    exact h.rz k a1 a2 a3
/-- a bid goes; and what that gives back -/
theorem MR_canB {μ μ' : MM} {ν ν' : Int → Int} (h : MR μ ν) {r b : Int} (r0 : 0 ≤ r) (r1 : r < ν 2) (b0 : 0 ≤ b) (b1 : b < ν 2) (hrb : bRow μ r = nbRow ν b)
    (mj : ∀ j : Nat, ¬ (6 ≤ j ∧ j ≤ 11) → μ' j = μ j) (m60 : μ' 6 0 = μ 6 0 - 1) (m61 : μ' 6 1 = μ 6 1) (mr : ∀ k : Int, bRow μ' k = if r ≤ k ∧ k < μ 6 0 - 1 then bRow μ (k + 1) else bRow μ k)
    (nk : ∀ k : Int, k ≠ 2 → ¬ (58 ≤ k ∧ k < 108) → ν' k = ν k) (n2 : ν' 2 = ν 2 - 1) (nr : ∀ k : Int, 0 ≤ k → k < ν 2 - 1 → nbRow ν' k = if b ≤ k then nbRow ν (k + 1) else nbRow ν k) :
    MR μ' ν' ∧ mplaces ν' (ν (58 + 5 * b + 1)) = mplaces ν (ν (58 + 5 * b + 1)) + 1 ∧ mres ν' (ν (58 + 5 * b + 1)) = mres ν (ν (58 + 5 * b + 1)) - ν (58 + 5 * b + 3) := by
  obtain ⟨s0, s1, s2, s3, s4, s5, s6, s7, s8, s9, s10, s11, s12⟩ := h.sc
  have hN := h.ni
  have q0 := hN.n0
  have q1 := hN.n1
  have q2 := hN.n2
  have q3 := hN.n3
  have ns : ∀ k : Int, k ≤ 57 → k ≠ 2 → ν' k = ν k := fun k a1 a2 => nk k a2 (by omega)
  have n108 : ∀ k : Int, 108 ≤ k → ν' k = ν k := fun k a1 => nk k (by omega) (by omega)
  have nl : ∀ k : Int, 0 ≤ k → k < b → nbRow ν' k = nbRow ν k := fun k a1 a2 => by rw [nr k a1 (by omega), if_neg (by omega)]
  have nu : ∀ k : Int, b ≤ k → k < ν 2 - 1 → nbRow ν' k = nbRow ν (k + 1) := fun k a1 a2 => by rw [nr k (by omega) a2, if_pos a1]
  have ml : ∀ k : Int, 0 ≤ k → k < r → bRow μ' k = bRow μ k := fun k a1 a2 => by rw [mr k, if_neg (by omega)]
  have mu : ∀ k : Int, r ≤ k → k < ν 2 - 1 → bRow μ' k = bRow μ (k + 1) := fun k a1 a2 => by rw [mr k, if_pos (by omega)]
  -- where each row that stays comes from
  have src : ∀ k : Int, 0 ≤ k → k < ν 2 - 1 → ∃ j : Int, 0 ≤ j ∧ j < ν 2 ∧ j = (if k < b then k else k + 1) ∧ nbRow ν' k = nbRow ν j := fun k a1 a2 => by
    by_cases e : k < b
    · exact ⟨k, a1, by omega, by rw [if_pos e], nl k a1 e⟩
    · exact ⟨k + 1, by omega, by omega, by rw [if_neg e], nu k (by omega) a2⟩
  have e0 := ns 0 (by decide) (by decide)
  have e1 := ns 1 (by decide) (by decide)
  have e3 := ns 3 (by decide) (by decide)
  have e4 := ns 4 (by decide) (by decide)
  have e5 := ns 5 (by decide) (by decide)
  have e6 := ns 6 (by decide) (by decide)
  have e7 := ns 7 (by decide) (by decide)
  have e8 := ns 8 (by decide) (by decide)
  have e9 := ns 9 (by decide) (by decide)
  have e10 := ns 10 (by decide) (by decide)
  have e11 := ns 11 (by decide) (by decide)
  have e12 := ns 12 (by decide) (by decide)
  have e13 := ns 13 (by decide) (by decide)
  have el : ∀ s : Int, mload ν' s = mload ν s := fun s => mload_congr s e1 fun b a1 a2 => ns _ (by omega) (by omega)
  have sm : ∀ φ : Row → Int, sumI (fun k => φ (nbRow ν k)) (ν 2) = sumI (fun k => φ (nbRow ν' k)) (ν 2 - 1) + φ (nbRow ν b) := fun φ => sumI_rem (g := fun k => φ (nbRow ν k)) (g' := fun k => φ (nbRow ν' k)) b0 b1 (fun k a1 a2 => by rw [nl k a1 a2]) (fun k a1 a2 => by rw [nu k a1 a2])
  have ec : ∀ t : Int, sumI (mcntF ν t) (ν 2) = sumI (mcntF ν' t) (ν' 2) + (if ν (58 + 5 * b + 1) = t then 1 else 0) := fun t => by
    rw [n2]
    exact sm (fun x => if x.2.1 = t then 1 else 0)
  have er : ∀ t : Int, mres ν t = mres ν' t + (if ν (58 + 5 * b + 1) = t then ν (58 + 5 * b + 3) else 0) := fun t => by
    unfold mres
    rw [n2]
    exact sm (fun x => if x.2.1 = t then x.2.2.2.1 else 0)
  have hb := hN.bi b b0 b1
  refine ⟨⟨?_, ?_, ?_, ?_, ?_, ?_, ?_, ?_, ?_⟩, ?_, ?_⟩
  · rw [RSc, mj 1 (by decide), mj 12 (by decide), mj 0 (by decide), mj 18 (by decide)]
    omega
  · intro t a1 a2
    rw [mj 2 (by decide), mj 3 (by decide), ns _ (by omega) (by omega), ns _ (by omega) (by omega)]
    exact h.sh t a1 (by omega)
  · intro b a1 a2
    rw [mj 5 (by decide), mj 4 (by decide), ns _ (by omega) (by omega), ns _ (by omega) (by omega)]
    exact h.ba b a1 (by omega)
  · exact h.tr.congr (fun j a1 a2 => mj j (by omega)) (fun k a1 a2 => n108 k (by omega)) e8 e13
  · unfold RBi
    rw [n2, e4]
    refine ⟨h.bi.1.rem r0 r1 b0 b1 ml mu nl nu hrb, ?_, ?_, ?_⟩
    · intro i j a1 a2 a3
      by_cases ci : i < r
      · rw [ml i a1 ci]
        by_cases cj : j < r
        · rw [ml j (by omega) cj]
          exact h.bi.2.1 i j a1 a2 (by omega)
        · rw [mu j (by omega) a3]
          exact h.bi.2.1 i (j + 1) a1 (by omega) (by omega)
      · rw [mu i (by omega) (by omega), mu j (by omega) a3]
        exact h.bi.2.1 (i + 1) (j + 1) (by omega) (by omega) (by omega)
    · intro i j a1 a2 a3
      obtain ⟨x, x0, x1, x2, x3⟩ := src i a1 (by omega)
      obtain ⟨y, y0, y1, y2, y3⟩ := src j (by omega) a3
      have wx : ν' (58 + 5 * i) = ν (58 + 5 * x) := row_1 x3
      have wy : ν' (58 + 5 * j) = ν (58 + 5 * y) := row_1 y3
      rw [wx, wy]
      refine h.bi.2.2.1 x y x0 ?_ y1
      split at x2 <;> split at y2 <;> omega
    · intro k a1 a2
      obtain ⟨x, x0, x1, x2, x3⟩ := src k a1 a2
      have wx : ν' (58 + 5 * k) = ν (58 + 5 * x) := row_1 x3
      rw [wx]
      exact h.bi.2.2.2 x x0 x1
  · exact h.of.congr hN (fun j a1 a2 => mj j (by omega)) (fun k a1 a2 => n108 k (by omega)) (fun k a1 a2 => ns _ (by omega) (by omega)) e3 e5
  · refine NI.mk' (by omega) (by omega) (by omega) (by omega) (fun k hk => ?_) (hN.nsh.congr q0.2 e0 (fun k a1 a2 => ns k (by omega) (by omega))) (hN.nba.congr q1.2 (by omega) e1 (fun k a1 a2 => ns k (by omega) (by omega))) (fun k a1 a2 => ?_) (hN.nof.congr q3.2 (by omega) e3 (fun k a1 a2 => n108 k (by omega)))
    · rw [ns k (by omega) (by omega)]
      exact hN.cr k hk
    · obtain ⟨x, x0, x1, x2, w⟩ := src k a1 (by omega)
      have w2 : ν' (58 + 5 * k + 1) = ν (58 + 5 * x + 1) := row_2 w
      have w3 : ν' (58 + 5 * k + 2) = ν (58 + 5 * x + 2) := row_3 w
      have w4 : ν' (58 + 5 * k + 3) = ν (58 + 5 * x + 3) := row_4 w
      have w5 : ν' (58 + 5 * k + 4) = ν (58 + 5 * x + 4) := row_5 w
      rw [w2, w3, w4, w5, e0]
      exact hN.bi x x0 x1
  · refine ⟨fun t a1 a2 => ?_, ?_⟩
    · have hr := h.re.1 t a1 (by omega)
      have c1 := ec t
      have c2 := er t
      unfold mplaces mcap at hr ⊢
      rw [el, ns (14 + 2 * t + 1) (by omega) (by omega), ns (14 + 2 * t) (by omega) (by omega)]
      by_cases e : ν (58 + 5 * b + 1) = t
      · rw [if_pos e] at c1 c2
        omega
      · rw [if_neg e] at c1 c2
        omega
    · have e : sumI (mcoinF ν') (ν 0) = sumI (mcoinF ν) (ν 0) := sumI_congr fun s a1 a2 => ns _ (by omega) (by omega)
      rw [e0, e10, e12, e]
      exact h.re.2
  · intro k a1 a2 a3
    rw [mj 0 (by decide)]
    exact h.rz k a1 a2 a3
  · have c1 := ec (ν (58 + 5 * b + 1))
    rw [if_pos rfl] at c1
    unfold mplaces mcap
    rw [el, ns (14 + 2 * ν (58 + 5 * b + 1) + 1) (by omega) (by omega)]
    omega
  · have c2 := er (ν (58 + 5 * b + 1))
    rw [if_pos rfl] at c2
    omega
/-- an offer goes -/
theorem MR_canO {μ μ' : MM} {ν ν' : Int → Int} (h : MR μ ν) {r b : Int} (r0 : 0 ≤ r) (r1 : r < ν 3) (b0 : 0 ≤ b) (b1 : b < ν 3) (hrb : oRow μ r = noRow ν b)
    (mj : ∀ j : Nat, ¬ (12 ≤ j ∧ j ≤ 17) → μ' j = μ j) (m60 : μ' 12 0 = μ 12 0 - 1) (m61 : μ' 12 1 = μ 12 1) (mr : ∀ k : Int, oRow μ' k = if r ≤ k ∧ k < μ 12 0 - 1 then oRow μ (k + 1) else oRow μ k)
    (nk : ∀ k : Int, k ≠ 3 → ¬ (108 ≤ k ∧ k < 172) → ν' k = ν k) (n3 : ν' 3 = ν 3 - 1) (nr : ∀ k : Int, 0 ≤ k → k < ν 3 - 1 → noRow ν' k = if b ≤ k then noRow ν (k + 1) else noRow ν k) : MR μ' ν' := by
  obtain ⟨s0, s1, s2, s3, s4, s5, s6, s7, s8, s9, s10, s11, s12⟩ := h.sc
  have hN := h.ni
  have q0 := hN.n0
  have q1 := hN.n1
  have q2 := hN.n2
  have q3 := hN.n3
  have ns : ∀ k : Int, k ≤ 107 → k ≠ 3 → ν' k = ν k := fun k a1 a2 => nk k a2 (by omega)
  have n172 : ∀ k : Int, 172 ≤ k → ν' k = ν k := fun k a1 => nk k (by omega) (by omega)
  have nl : ∀ k : Int, 0 ≤ k → k < b → noRow ν' k = noRow ν k := fun k a1 a2 => by rw [nr k a1 (by omega), if_neg (by omega)]
  have nu : ∀ k : Int, b ≤ k → k < ν 3 - 1 → noRow ν' k = noRow ν (k + 1) := fun k a1 a2 => by rw [nr k (by omega) a2, if_pos a1]
  have ml : ∀ k : Int, 0 ≤ k → k < r → oRow μ' k = oRow μ k := fun k a1 a2 => by rw [mr k, if_neg (by omega)]
  have mu : ∀ k : Int, r ≤ k → k < ν 3 - 1 → oRow μ' k = oRow μ (k + 1) := fun k a1 a2 => by rw [mr k, if_pos (by omega)]
  have src : ∀ k : Int, 0 ≤ k → k < ν 3 - 1 → ∃ j : Int, 0 ≤ j ∧ j < ν 3 ∧ j = (if k < b then k else k + 1) ∧ noRow ν' k = noRow ν j := fun k a1 a2 => by
    by_cases e : k < b
    · exact ⟨k, a1, by omega, by rw [if_pos e], nl k a1 e⟩
    · exact ⟨k + 1, by omega, by omega, by rw [if_neg e], nu k (by omega) a2⟩
  have e0 := ns 0 (by decide) (by decide)
  have e1 := ns 1 (by decide) (by decide)
  have e2 := ns 2 (by decide) (by decide)
  have e4 := ns 4 (by decide) (by decide)
  have e5 := ns 5 (by decide) (by decide)
  have e6 := ns 6 (by decide) (by decide)
  have e7 := ns 7 (by decide) (by decide)
  have e8 := ns 8 (by decide) (by decide)
  have e9 := ns 9 (by decide) (by decide)
  have e10 := ns 10 (by decide) (by decide)
  have e11 := ns 11 (by decide) (by decide)
  have e12 := ns 12 (by decide) (by decide)
  have e13 := ns 13 (by decide) (by decide)
  have el : ∀ s : Int, mload ν' s = mload ν s := fun s => mload_congr s e1 fun b a1 a2 => ns _ (by omega) (by omega)
  have ec : ∀ s : Int, sumI (mcntF ν' s) (ν' 2) = sumI (mcntF ν s) (ν 2) := fun s => mcnt_congr s e2 fun b a1 a2 => ns _ (by omega) (by omega)
  have er : ∀ s : Int, mres ν' s = mres ν s := fun s => mres_congr s e2 fun b a1 a2 => ⟨ns _ (by omega) (by omega), ns _ (by omega) (by omega)⟩
  refine ⟨?_, ?_, ?_, ?_, ?_, ?_, ?_, ?_, ?_⟩
  · rw [RSc, mj 1 (by decide), mj 6 (by decide), mj 0 (by decide), mj 18 (by decide)]
    omega
  · intro t a1 a2
    rw [mj 2 (by decide), mj 3 (by decide), ns _ (by omega) (by omega), ns _ (by omega) (by omega)]
    exact h.sh t a1 (by omega)
  · intro b a1 a2
    rw [mj 5 (by decide), mj 4 (by decide), ns _ (by omega) (by omega), ns _ (by omega) (by omega)]
    exact h.ba b a1 (by omega)
  · exact h.tr.congr (fun j a1 a2 => mj j (by omega)) (fun k a1 a2 => n172 k (by omega)) e8 e13
  · exact h.bi.congr q2.2 (fun j a1 a2 => mj j (by omega)) (fun k a1 a2 => ns k (by omega) (by omega)) e2 e4
  · unfold ROf
    rw [n3, e5]
    refine ⟨h.of.1.rem r0 r1 b0 b1 ml mu nl nu hrb, ?_, ?_, ?_, ?_⟩
    · intro i j a1 a2 a3
      by_cases ci : i < r
      · rw [ml i a1 ci]
        by_cases cj : j < r
        · rw [ml j (by omega) cj]
          exact h.of.2.1 i j a1 a2 (by omega)
        · rw [mu j (by omega) a3]
          exact h.of.2.1 i (j + 1) a1 (by omega) (by omega)
      · rw [mu i (by omega) (by omega), mu j (by omega) a3]
        exact h.of.2.1 (i + 1) (j + 1) (by omega) (by omega) (by omega)
    · intro i j a1 a2 a3
      obtain ⟨x, x0, x1, x2, x3⟩ := src i a1 (by omega)
      obtain ⟨y, y0, y1, y2, y3⟩ := src j (by omega) a3
      have wx : ν' (108 + 4 * i) = ν (108 + 4 * x) := row_1 x3
      have wy : ν' (108 + 4 * j) = ν (108 + 4 * y) := row_1 y3
      rw [wx, wy]
      refine h.of.2.2.1 x y x0 ?_ y1
      split at x2 <;> split at y2 <;> omega
    · intro k a1 a2
      obtain ⟨x, x0, x1, x2, x3⟩ := src k a1 a2
      have wx : ν' (108 + 4 * k) = ν (108 + 4 * x) := row_1 x3
      rw [wx]
      exact h.of.2.2.2.1 x x0 x1
    · intro i j a1 a2 a3
      obtain ⟨x, x0, x1, x2, x3⟩ := src i a1 (by omega)
      obtain ⟨y, y0, y1, y2, y3⟩ := src j (by omega) a3
      have wx : ν' (108 + 4 * i + 1) = ν (108 + 4 * x + 1) := row_2 x3
      have wy : ν' (108 + 4 * j + 1) = ν (108 + 4 * y + 1) := row_2 y3
      rw [wx, wy]
      refine h.of.2.2.2.2 x y x0 ?_ y1
      split at x2 <;> split at y2 <;> omega
  · refine NI.mk' (by omega) (by omega) (by omega) (by omega) (fun k hk => ?_) (hN.nsh.congr q0.2 e0 (fun k a1 a2 => ns k (by omega) (by omega))) (hN.nba.congr q1.2 (by omega) e1 (fun k a1 a2 => ns k (by omega) (by omega))) (hN.nbi.congr q2.2 (by omega) e2 (fun k a1 a2 => ns k (by omega) (by omega))) (fun k a1 a2 => ?_)
    · rw [ns k (by omega) (by omega)]
      exact hN.cr k hk
    · obtain ⟨x, x0, x1, x2, w⟩ := src k a1 (by omega)
      have w2 : ν' (108 + 4 * k + 1) = ν (108 + 4 * x + 1) := row_2 w
      have w4 : ν' (108 + 4 * k + 2) = ν (108 + 4 * x + 2) := row_4 w
      have w5 : ν' (108 + 4 * k + 3) = ν (108 + 4 * x + 3) := row_5 w
      rw [w2, w4, w5, e1]
      exact hN.of x x0 x1
  · refine ⟨fun t a1 a2 => ?_, ?_⟩
    · have hr := h.re.1 t a1 (by omega)
      unfold mplaces mcap at hr ⊢
      rw [el, ec, er, ns _ (by omega) (by omega), ns _ (by omega) (by omega)]
      exact hr
    · have e : sumI (mcoinF ν') (ν 0) = sumI (mcoinF ν) (ν 0) := sumI_congr fun s a1 a2 => ns _ (by omega) (by omega)
      rw [e0, e10, e12, e]
      exact h.re.2
  · intro k a1 a2 a3
    rw [mj 0 (by decide)]
    exact h.rz k a1 a2 a3
