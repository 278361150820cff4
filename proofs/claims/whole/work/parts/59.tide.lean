/-! a tide, on both sides -/
theorem sumI_c1 {n : Int} (h : 0 ≤ n) : sumI (fun _ => 1) n = n := int_up (P := fun n => sumI (fun _ => 1) n = n) 0 (sumI_0 _) (fun k hk ih => by rw [sumI_s _ hk, ih]) n h
theorem sumI_mono {f g : Int → Int} {n : Int} (h : ∀ k : Int, 0 ≤ k → k < n → f k ≤ g k) : sumI f n ≤ sumI g n := by
  have e : sumI g n = sumI f n + sumI (fun k => g k - f k) n := sumI_add fun k a b => by omega
  have := sumI_ge0r (f := fun k => g k - f k) (n := n) fun k a b => by
    show 0 ≤ g k - f k
    have := h k a b
    omega
  omega
/-- rows that grew older: where each comes from -/
theorem old_src {f f' : Int → Row} {n n' : Int} (hS : ∀ φ : Row → Int, sumI (fun k => φ (f' k)) n' = sumI (fun k => psi φ (f k)) n) {k : Int} (h0 : 0 ≤ k) (h1 : k < n') : ∃ i : Int, 0 ≤ i ∧ i < n ∧ (f i).2.2.2.2 + 1 < 3 ∧ f' k = incR (f i) := by
  have e := hS (fun x => if x = f' k then 1 else 0)
  have p := sumI_ge (f := fun j => if f' j = f' k then (1 : Int) else 0) (fun j => by
    show (0 : Int) ≤ if f' j = f' k then 1 else 0
    split <;> decide) h0 h1
  rw [if_pos (Eq.refl (f' k))] at p
  have e : sumI (fun j => if f' j = f' k then (1 : Int) else 0) n' = sumI (fun j => psi (fun x => if x = f' k then 1 else 0) (f j)) n := e
  obtain ⟨i, i0, i1, i2⟩ := sumI_ex (f := fun j => psi (fun x => if x = f' k then 1 else 0) (f j)) (n := n) (by omega)
  refine ⟨i, i0, i1, ?_, ?_⟩
  · apply Classical.byContradiction
    intro q
    exact i2 (if_pos (by omega))
  · apply Classical.byContradiction
    intro q
    apply i2
    unfold psi
    split
    · rfl
    · exact if_neg fun z => q z.symm
theorem psi_le {φ : Row → Int} {x : Row} (h0 : 0 ≤ φ x) (h1 : φ (incR x) = φ x) : psi φ x ≤ φ x := by
  unfold psi
  split <;> omega
set_option maxHeartbeats 4000000 in
theorem MR_oldB {μ μ' : MM} {ν ν' : Int → Int} (h : MR μ ν) (hn : 0 ≤ ν' 2 ∧ ν' 2 ≤ ν 2) (hm : 0 ≤ μ' 6 0) (hg : ν 11 ≤ 90000000)
    (mj : ∀ j : Nat, j ≠ 0 → ¬ (6 ≤ j ∧ j ≤ 11) → μ' j = μ j) (m0 : ∀ z : Int, z ≠ 6 → μ' 0 z = μ 0 z) (m06 : μ' 0 6 = μ 0 6 + (μ 6 0 - μ' 6 0)) (m61 : μ' 6 1 = μ 6 1)
    (mC : ∀ φ : Row → Int, sumI (fun k => φ (bRow μ' k)) (μ' 6 0) = sumI (fun k => psi φ (bRow μ k)) (μ 6 0)) (mD : ∀ i j : Int, 0 ≤ i → i < j → j < μ' 6 0 → AB (bRow μ' i) (bRow μ' j))
    (nk : ∀ z : Int, z ≠ 2 → z ≠ 11 → ¬ (58 ≤ z ∧ z < 108) → ν' z = ν z) (n11 : ν' 11 = ν 11 + (ν 2 - ν' 2))
    (nC : ∀ φ : Row → Int, sumI (fun k => φ (nbRow ν' k)) (ν' 2) = sumI (fun k => psi φ (nbRow ν k)) (ν 2)) (nD : ∀ i j : Int, 0 ≤ i → i < j → j < ν' 2 → (nbRow ν' i).1 < (nbRow ν' j).1) : MR μ' ν' := by
  obtain ⟨s0, s1, s2, s3, s4, s5, s6, s7, s8, s9, s10, s11, s12⟩ := h.sc
  have hN := h.ni
  have q0 := hN.n0
  have q1 := hN.n1
  have q2 := hN.n2
  have q3 := hN.n3
  rw [s2] at mC
  have n108 : ∀ z : Int, 108 ≤ z → ν' z = ν z := fun z hz => nk z (by omega) (by omega) (by omega)
  have nlo : ∀ z : Int, z ≤ 57 → z ≠ 2 → z ≠ 11 → ν' z = ν z := fun z a1 a2 a3 => nk z a2 a3 (by omega)
  have e0 := nlo 0 (by decide) (by decide) (by decide)
  have e1 := nlo 1 (by decide) (by decide) (by decide)
  have e3 := nlo 3 (by decide) (by decide) (by decide)
  have e4 := nlo 4 (by decide) (by decide) (by decide)
  have e5 := nlo 5 (by decide) (by decide) (by decide)
  have e6 := nlo 6 (by decide) (by decide) (by decide)
  have e7 := nlo 7 (by decide) (by decide) (by decide)
  have e8 := nlo 8 (by decide) (by decide) (by decide)
  have e9 := nlo 9 (by decide) (by decide) (by decide)
  have e10 := nlo 10 (by decide) (by decide) (by decide)
  have e12 := nlo 12 (by decide) (by decide) (by decide)
  have e13 := nlo 13 (by decide) (by decide) (by decide)
  have hsz : μ' 6 0 = ν' 2 := by
    have a1 := mC (fun _ => 1)
    have a2 := nC (fun _ => 1)
    have a3 := h.bi.1 (psi (fun _ => 1))
    rw [sumI_c1 hm] at a1
    rw [sumI_c1 hn.1] at a2
    omega
  have src := fun k a b => old_src nC (k := k) a b
  have ec : ∀ t : Int, sumI (mcntF ν' t) (ν' 2) ≤ sumI (mcntF ν t) (ν 2) := fun t => by
    have a := nC (fun x => if x.2.1 = t then 1 else 0)
    have a : sumI (mcntF ν' t) (ν' 2) = sumI (fun k => psi (fun x => if x.2.1 = t then 1 else 0) (nbRow ν k)) (ν 2) := a
    rw [a]
    exact sumI_mono fun k k0 k1 => psi_le (φ := fun x => if x.2.1 = t then 1 else 0) (x := nbRow ν k) (by
      show (0 : Int) ≤ if (nbRow ν k).2.1 = t then 1 else 0
      split <;> decide) rfl
  have er : ∀ t : Int, mres ν' t ≤ mres ν t := fun t => by
    have a := nC (fun x => if x.2.1 = t then x.2.2.2.1 else 0)
    have a : mres ν' t = sumI (fun k => psi (fun x => if x.2.1 = t then x.2.2.2.1 else 0) (nbRow ν k)) (ν 2) := a
    rw [a]
    refine sumI_mono fun k k0 k1 => psi_le (φ := fun x => if x.2.1 = t then x.2.2.2.1 else 0) (x := nbRow ν k) ?_ rfl
    have hk := hN.bi k k0 k1
    have hk : 1 ≤ (nbRow ν k).2.2.2.1 := hk.2.2.1.1
    show (0 : Int) ≤ if (nbRow ν k).2.1 = t then (nbRow ν k).2.2.2.1 else 0
    split <;> omega
  have el : ∀ s : Int, mload ν' s = mload ν s := fun s => mload_congr s e1 fun b a1 a2 => nlo _ (by omega) (by omega) (by omega)
  have c11 := hN.cr 11 (by decide)
  refine ⟨?_, ?_, ?_, ?_, ?_, ?_, ?_, ?_, ?_⟩
  · rw [RSc, mj 1 (by decide) (by decide), mj 12 (by decide) (by decide), mj 18 (by decide) (by decide), m0 4 (by decide), m0 5 (by decide), m0 7 (by decide), m0 8 (by decide)]
    omega
  · intro t a1 a2
    rw [mj 2 (by decide) (by decide), mj 3 (by decide) (by decide), nlo _ (by omega) (by omega) (by omega), nlo _ (by omega) (by omega) (by omega)]
    exact h.sh t a1 (by omega)
  · intro b a1 a2
    rw [mj 5 (by decide) (by decide), mj 4 (by decide) (by decide), nlo _ (by omega) (by omega) (by omega), nlo _ (by omega) (by omega) (by omega)]
    exact h.ba b a1 (by omega)
  · exact h.tr.congr (fun j a1 a2 => mj j (by omega) (by omega)) (fun k a1 a2 => n108 k (by omega)) e8 e13
  · unfold RBi
    rw [e4]
    refine ⟨fun φ => ?_, by rw [← hsz]; exact mD, nD, fun k a1 a2 => ?_⟩
    · rw [nC φ, ← hsz, mC φ]
      exact h.bi.1 (psi φ)
    · obtain ⟨i, i0, i1, i2, i3⟩ := src k a1 a2
      have w : ν' (58 + 5 * k) = ν (58 + 5 * i) := row_1 i3
      rw [w]
      exact h.bi.2.2.2 i i0 i1
  · exact h.of.congr hN (fun j a1 a2 => mj j (by omega) (by omega)) (fun k a1 a2 => n108 k (by omega)) (fun k a1 a2 => nlo _ (by omega) (by omega) (by omega)) e3 e5
  · refine NI.mk' (by omega) (by omega) (by omega) (by omega) (fun z hz => ?_) (hN.nsh.congr q0.2 e0 (fun k a1 a2 => nlo k (by omega) (by omega) (by omega))) (hN.nba.congr q1.2 (by omega) e1 (fun k a1 a2 => nlo k (by omega) (by omega) (by omega))) (fun k a1 a2 => ?_) (hN.nof.congr q3.2 (by omega) e3 (fun k a1 a2 => n108 k (by omega)))
    · by_cases e : z = 11
      · subst e
        omega
      · rw [nlo z (by omega) (by omega) e]
        exact hN.cr z hz
    · obtain ⟨i, i0, i1, i2, i3⟩ := src k a1 a2
      have w2 : ν' (58 + 5 * k + 1) = ν (58 + 5 * i + 1) := row_2 i3
      have w3 : ν' (58 + 5 * k + 2) = ν (58 + 5 * i + 2) := row_3 i3
      have w4 : ν' (58 + 5 * k + 3) = ν (58 + 5 * i + 3) := row_4 i3
      have w5 : ν' (58 + 5 * k + 4) = ν (58 + 5 * i + 4) + 1 := row_5 i3
      have i2 : ν (58 + 5 * i + 4) + 1 < 3 := i2
      have hi := hN.bi i i0 i1
      rw [w2, w3, w4, w5, e0]
      exact ⟨hi.1, hi.2.1, hi.2.2.1, by omega, by omega⟩
  · refine ⟨fun t a1 a2 => ?_, ?_⟩
    · have hr := h.re.1 t a1 (by omega)
      have c1 := ec t
      have c2 := er t
      unfold mplaces mcap at hr ⊢
      rw [el, nlo (14 + 2 * t + 1) (by omega) (by omega) (by omega), nlo (14 + 2 * t) (by omega) (by omega) (by omega)]
      omega
    · have e : sumI (mcoinF ν') (ν 0) = sumI (mcoinF ν) (ν 0) := sumI_congr fun s a1 a2 => nlo _ (by omega) (by omega) (by omega)
      rw [e0, e10, e12, e]
      exact h.re.2
  · intro z a1 a2 a3
    rw [m0 z (by omega)]
    exact h.rz z a1 a2 a3
/-- an offer's row as the reference keeps it -/
def orw (ν : Int → Int) (k : Int) : Row := (ν (108 + 4 * k), ν (108 + 4 * k + 1), 0, ν (108 + 4 * k + 2), ν (108 + 4 * k + 3))
def fxR (G : Int → Int) (x : Row) : Row := (x.1, x.2.1, G x.2.1, x.2.2.2.1, x.2.2.2.2)
set_option maxHeartbeats 4000000 in
theorem MR_oldO {μ μ' : MM} {ν ν' : Int → Int} (h : MR μ ν) (hn : 0 ≤ ν' 3 ∧ ν' 3 ≤ ν 3) (hm : 0 ≤ μ' 12 0) (hg : ν 11 ≤ 90000000)
    (mj : ∀ j : Nat, j ≠ 0 → ¬ (12 ≤ j ∧ j ≤ 17) → μ' j = μ j) (m0 : ∀ z : Int, z ≠ 6 → μ' 0 z = μ 0 z) (m06 : μ' 0 6 = μ 0 6 + (μ 12 0 - μ' 12 0)) (m61 : μ' 12 1 = μ 12 1)
    (mC : ∀ φ : Row → Int, sumI (fun k => φ (oRow μ' k)) (μ' 12 0) = sumI (fun k => psi φ (oRow μ k)) (μ 12 0)) (mD : ∀ i j : Int, 0 ≤ i → i < j → j < μ' 12 0 → AO (oRow μ' i) (oRow μ' j))
    (nk : ∀ z : Int, z ≠ 3 → z ≠ 11 → ¬ (108 ≤ z ∧ z < 172) → ν' z = ν z) (n11 : ν' 11 = ν 11 + (ν 3 - ν' 3))
    (nC : ∀ φ : Row → Int, sumI (fun k => φ (orw ν' k)) (ν' 3) = sumI (fun k => psi φ (orw ν k)) (ν 3)) (nD : ∀ i j : Int, 0 ≤ i → i < j → j < ν' 3 → (orw ν' i).1 < (orw ν' j).1) : MR μ' ν' := by
  obtain ⟨s0, s1, s2, s3, s4, s5, s6, s7, s8, s9, s10, s11, s12⟩ := h.sc
  have hN := h.ni
  have q0 := hN.n0
  have q1 := hN.n1
  have q2 := hN.n2
  have q3 := hN.n3
  rw [s3] at mC
  have n172 : ∀ z : Int, 172 ≤ z → ν' z = ν z := fun z hz => nk z (by omega) (by omega) (by omega)
  have nlo : ∀ z : Int, z ≤ 107 → z ≠ 3 → z ≠ 11 → ν' z = ν z := fun z a1 a2 a3 => nk z a2 a3 (by omega)
  have e0 := nlo 0 (by decide) (by decide) (by decide)
  have e1 := nlo 1 (by decide) (by decide) (by decide)
  have e2 := nlo 2 (by decide) (by decide) (by decide)
  have e4 := nlo 4 (by decide) (by decide) (by decide)
  have e5 := nlo 5 (by decide) (by decide) (by decide)
  have e6 := nlo 6 (by decide) (by decide) (by decide)
  have e7 := nlo 7 (by decide) (by decide) (by decide)
  have e8 := nlo 8 (by decide) (by decide) (by decide)
  have e9 := nlo 9 (by decide) (by decide) (by decide)
  have e10 := nlo 10 (by decide) (by decide) (by decide)
  have e12 := nlo 12 (by decide) (by decide) (by decide)
  have e13 := nlo 13 (by decide) (by decide) (by decide)
  have src := fun k a b => old_src nC (k := k) a b
  have hrow : ∀ k : Int, 0 ≤ k → k < ν' 3 → noRow ν' k = fxR (mgr ν) (orw ν' k) := fun k a1 a2 => by
    obtain ⟨i, i0, i1, i2, i3⟩ := src k a1 a2
    have w2 : ν' (108 + 4 * k + 1) = ν (108 + 4 * i + 1) := row_2 i3
    have hi := (hN.of i i0 i1).1
    unfold noRow fxR orw
    have eg : mgr ν' (ν' (108 + 4 * k + 1)) = mgr ν (ν' (108 + 4 * k + 1)) := by
      unfold mgr
      rw [w2]
      exact nlo _ (by omega) (by omega) (by omega)
    rw [eg]
  have nC' : ∀ φ : Row → Int, sumI (fun k => φ (noRow ν' k)) (ν' 3) = sumI (fun k => psi φ (noRow ν k)) (ν 3) := fun φ => by
    have a := nC (fun x => φ (fxR (mgr ν) x))
    rw [sumI_congr (f := fun k => φ (noRow ν' k)) (g := fun k => φ (fxR (mgr ν) (orw ν' k))) fun k a1 a2 => by rw [hrow k a1 a2]]
    exact a
  have hsz : μ' 12 0 = ν' 3 := by
    have a1 := mC (fun _ => 1)
    have a2 := nC' (fun _ => 1)
    have a3 := h.of.1 (psi (fun _ => 1))
    rw [sumI_c1 hm] at a1
    rw [sumI_c1 hn.1] at a2
    omega
  have ec : ∀ s : Int, sumI (mcntF ν' s) (ν' 2) = sumI (mcntF ν s) (ν 2) := fun s => mcnt_congr s e2 fun b a1 a2 => nlo _ (by omega) (by omega) (by omega)
  have er : ∀ s : Int, mres ν' s = mres ν s := fun s => mres_congr s e2 fun b a1 a2 => ⟨nlo _ (by omega) (by omega) (by omega), nlo _ (by omega) (by omega) (by omega)⟩
  have el : ∀ s : Int, mload ν' s = mload ν s := fun s => mload_congr s e1 fun b a1 a2 => nlo _ (by omega) (by omega) (by omega)
  have c11 := hN.cr 11 (by decide)
  refine ⟨?_, ?_, ?_, ?_, ?_, ?_, ?_, ?_, ?_⟩
  · rw [RSc, mj 1 (by decide) (by decide), mj 6 (by decide) (by decide), mj 18 (by decide) (by decide), m0 4 (by decide), m0 5 (by decide), m0 7 (by decide), m0 8 (by decide)]
    omega
  · intro t a1 a2
    rw [mj 2 (by decide) (by decide), mj 3 (by decide) (by decide), nlo _ (by omega) (by omega) (by omega), nlo _ (by omega) (by omega) (by omega)]
    exact h.sh t a1 (by omega)
  · intro b a1 a2
    rw [mj 5 (by decide) (by decide), mj 4 (by decide) (by decide), nlo _ (by omega) (by omega) (by omega), nlo _ (by omega) (by omega) (by omega)]
    exact h.ba b a1 (by omega)
  · exact h.tr.congr (fun j a1 a2 => mj j (by omega) (by omega)) (fun k a1 a2 => n172 k (by omega)) e8 e13
  · exact h.bi.congr q2.2 (fun j a1 a2 => mj j (by omega) (by omega)) (fun k a1 a2 => nlo k (by omega) (by omega) (by omega)) e2 e4
  · unfold ROf
    rw [e5]
    refine ⟨fun φ => ?_, by rw [← hsz]; exact mD, nD, fun k a1 a2 => ?_, fun i j a1 a2 a3 => ?_⟩
    · rw [nC' φ, ← hsz, mC φ]
      exact h.of.1 (psi φ)
    · obtain ⟨i, i0, i1, i2, i3⟩ := src k a1 a2
      have w : ν' (108 + 4 * k) = ν (108 + 4 * i) := row_1 i3
      rw [w]
      exact h.of.2.2.2.1 i i0 i1
    · obtain ⟨x, x0, x1, x2, x3⟩ := src i a1 (by omega)
      obtain ⟨y, y0, y1, y2, y3⟩ := src j (by omega) a3
      have wx : ν' (108 + 4 * i + 1) = ν (108 + 4 * x + 1) := row_2 x3
      have wy : ν' (108 + 4 * j + 1) = ν (108 + 4 * y + 1) := row_2 y3
      intro e
      have hxy : x = y := own_inj h.of.2.2.2.2 x0 x1 y0 y1 (by omega)
      have hd := nD i j a1 a2 a3
      rw [x3, y3, hxy] at hd
      omega
  · refine NI.mk' (by omega) (by omega) (by omega) (by omega) (fun z hz => ?_) (hN.nsh.congr q0.2 e0 (fun k a1 a2 => nlo k (by omega) (by omega) (by omega))) (hN.nba.congr q1.2 (by omega) e1 (fun k a1 a2 => nlo k (by omega) (by omega) (by omega))) (hN.nbi.congr q2.2 (by omega) e2 (fun k a1 a2 => nlo k (by omega) (by omega) (by omega))) (fun k a1 a2 => ?_)
    · by_cases e : z = 11
      · subst e
        omega
      · rw [nlo z (by omega) (by omega) e]
        exact hN.cr z hz
    · obtain ⟨i, i0, i1, i2, i3⟩ := src k a1 a2
      have w2 : ν' (108 + 4 * k + 1) = ν (108 + 4 * i + 1) := row_2 i3
      have w4 : ν' (108 + 4 * k + 2) = ν (108 + 4 * i + 2) := row_4 i3
      have w5 : ν' (108 + 4 * k + 3) = ν (108 + 4 * i + 3) + 1 := row_5 i3
      have i2 : ν (108 + 4 * i + 3) + 1 < 3 := i2
      have hi := hN.of i i0 i1
      rw [w2, w4, w5, e1]
      exact ⟨hi.1, hi.2.1, by omega, by omega⟩
  · refine ⟨fun t a1 a2 => ?_, ?_⟩
    · have hr := h.re.1 t a1 (by omega)
      unfold mplaces mcap at hr ⊢
      rw [el, ec, er, nlo _ (by omega) (by omega) (by omega), nlo _ (by omega) (by omega) (by omega)]
      exact hr
    · have e : sumI (mcoinF ν') (ν 0) = sumI (mcoinF ν) (ν 0) := sumI_congr fun s a1 a2 => nlo _ (by omega) (by omega) (by omega)
      rw [e0, e10, e12, e]
      exact h.re.2
  · intro z a1 a2 a3
    rw [m0 z (by omega)]
    exact h.rz z a1 a2 a3
