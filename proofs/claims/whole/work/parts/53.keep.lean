/-! the relation is kept: ships, barnacles, gifts, the fee -/
theorem sumI_z {f : Int → Int} {n : Int} (h : ∀ k : Int, 0 ≤ k → k < n → f k = 0) : sumI f n = 0 := by
  apply Classical.byContradiction
  intro q
  obtain ⟨k, a, b, c⟩ := sumI_ex q
  exact c (h k a b)
theorem Bag.congr {f f' h h' : Int → Row} {n : Int} (b : Bag f h n) (hf : ∀ k : Int, 0 ≤ k → k < n → f' k = f k) (hh : ∀ k : Int, 0 ≤ k → k < n → h' k = h k) : Bag f' h' n := by
  intro φ
  rw [sumI_congr (f := fun k => φ (f' k)) (g := fun k => φ (f k)) (fun k a c => by rw [hf k a c]), sumI_congr (f := fun k => φ (h' k)) (g := fun k => φ (h k)) (fun k a c => by rw [hh k a c])]
  exact b φ
theorem bRow_congr {μ μ' : MM} (m : ∀ j : Nat, 7 ≤ j → j ≤ 11 → μ' j = μ j) : bRow μ' = bRow μ := by
  funext k
  unfold bRow
  rw [m 7 (by decide) (by decide), m 8 (by decide) (by decide), m 9 (by decide) (by decide), m 10 (by decide) (by decide), m 11 (by decide) (by decide)]
theorem oRow_congr {μ μ' : MM} (m : ∀ j : Nat, 13 ≤ j → j ≤ 17 → μ' j = μ j) : oRow μ' = oRow μ := by
  funext k
  unfold oRow
  rw [m 13 (by decide) (by decide), m 14 (by decide) (by decide), m 15 (by decide) (by decide), m 16 (by decide) (by decide), m 17 (by decide) (by decide)]
theorem nbRow_congr {ν ν' : Int → Int} (n : ∀ k : Int, 58 ≤ k → k < 108 → ν' k = ν k) {k : Int} (h0 : 0 ≤ k) (h1 : k < 10) : nbRow ν' k = nbRow ν k := by
  unfold nbRow
  rw [n (58 + 5 * k) (by omega) (by omega), n (58 + 5 * k + 1) (by omega) (by omega), n (58 + 5 * k + 2) (by omega) (by omega), n (58 + 5 * k + 3) (by omega) (by omega), n (58 + 5 * k + 4) (by omega) (by omega)]
theorem noRow_congr {ν ν' : Int → Int} (n : ∀ k : Int, 108 ≤ k → k < 172 → ν' k = ν k) (g : ∀ b : Int, 0 ≤ b → b < ν 1 → ν' (26 + 2 * b + 1) = ν (26 + 2 * b + 1)) {k : Int} (h0 : 0 ≤ k) (h1 : k < 16) (ho : 0 ≤ ν (108 + 4 * k + 1) ∧ ν (108 + 4 * k + 1) < ν 1) : noRow ν' k = noRow ν k := by
  unfold noRow mgr
  rw [n (108 + 4 * k) (by omega) (by omega), n (108 + 4 * k + 1) (by omega) (by omega), n (108 + 4 * k + 2) (by omega) (by omega), n (108 + 4 * k + 3) (by omega) (by omega), g _ ho.1 ho.2]
theorem RBi.congr {μ μ' : MM} {ν ν' : Int → Int} (h : RBi μ ν) (hle : ν 2 ≤ 10) (m : ∀ j : Nat, 7 ≤ j → j ≤ 11 → μ' j = μ j) (n : ∀ k : Int, 58 ≤ k → k < 108 → ν' k = ν k) (n2 : ν' 2 = ν 2) (n4 : ν' 4 = ν 4) : RBi μ' ν' := by
  have e1 := bRow_congr m
  unfold RBi
  rw [e1, n2, n4]
  refine ⟨h.1.congr (fun _ _ _ => rfl) (fun k a b => nbRow_congr n a (by omega)), h.2.1, fun i j a b c => ?_, fun k a b => ?_⟩
  · rw [n _ (by omega) (by omega), n _ (by omega) (by omega)]
    exact h.2.2.1 i j a b c
  · rw [n _ (by omega) (by omega)]
    exact h.2.2.2 k a b
theorem ROf.congr {μ μ' : MM} {ν ν' : Int → Int} (h : ROf μ ν) (hN : NI ν) (m : ∀ j : Nat, 13 ≤ j → j ≤ 17 → μ' j = μ j) (n : ∀ k : Int, 108 ≤ k → k < 172 → ν' k = ν k) (g : ∀ b : Int, 0 ≤ b → b < ν 1 → ν' (26 + 2 * b + 1) = ν (26 + 2 * b + 1)) (n3 : ν' 3 = ν 3) (n5 : ν' 5 = ν 5) : ROf μ' ν' := by
  have e1 := oRow_congr m
  have hle := hN.n3
  unfold ROf
  rw [e1, n3, n5]
  refine ⟨h.1.congr (fun _ _ _ => rfl) (fun k a b => noRow_congr n g a (by omega) (hN.of k a b).1), h.2.1, fun i j a b c => ?_, fun k a b => ?_, fun i j a b c => ?_⟩
  · rw [n _ (by omega) (by omega), n _ (by omega) (by omega)]
    exact h.2.2.1 i j a b c
  · rw [n _ (by omega) (by omega)]
    exact h.2.2.2.1 k a b
  · rw [n _ (by omega) (by omega), n _ (by omega) (by omega)]
    exact h.2.2.2.2 i j a b c
theorem RTr.congr {μ μ' : MM} {ν ν' : Int → Int} (h : RTr μ ν) (m : ∀ j : Nat, 19 ≤ j → j ≤ 22 → μ' j = μ j) (n : ∀ k : Int, 172 ≤ k → k < 212 → ν' k = ν k) (n8 : ν' 8 = ν 8) (n13 : ν' 13 = ν 13) : RTr μ' ν' := by
  unfold RTr
  rw [n8, n13]
  refine ⟨h.1, fun k a b => ?_⟩
  rw [m 19 (by decide) (by decide), m 20 (by decide) (by decide), m 21 (by decide) (by decide), m 22 (by decide) (by decide), n _ (by omega) (by omega), n _ (by omega) (by omega), n _ (by omega) (by omega), n _ (by omega) (by omega)]
  exact h.2 k a b
def NSh (ν : Int → Int) : Prop := ∀ s : Int, 0 ≤ s → s < ν 0 → (0 ≤ ν (14 + 2 * s) ∧ ν (14 + 2 * s) ≤ 100000000) ∧ 1 ≤ ν (14 + 2 * s + 1) ∧ ν (14 + 2 * s + 1) ≤ 5
def NBa (ν : Int → Int) : Prop := ∀ b : Int, 0 ≤ b → b < ν 1 → (0 ≤ ν (26 + 2 * b) ∧ ν (26 + 2 * b) < ν 0) ∧ 1 ≤ ν (26 + 2 * b + 1) ∧ ν (26 + 2 * b + 1) ≤ 9
def NBi (ν : Int → Int) : Prop := ∀ k : Int, 0 ≤ k → k < ν 2 → (0 ≤ ν (58 + 5 * k + 1) ∧ ν (58 + 5 * k + 1) < ν 0) ∧ (1 ≤ ν (58 + 5 * k + 2) ∧ ν (58 + 5 * k + 2) ≤ 9) ∧ (1 ≤ ν (58 + 5 * k + 3) ∧ ν (58 + 5 * k + 3) ≤ 99) ∧ 0 ≤ ν (58 + 5 * k + 4) ∧ ν (58 + 5 * k + 4) ≤ 2
def NOf (ν : Int → Int) : Prop := ∀ k : Int, 0 ≤ k → k < ν 3 → (0 ≤ ν (108 + 4 * k + 1) ∧ ν (108 + 4 * k + 1) < ν 1) ∧ (1 ≤ ν (108 + 4 * k + 2) ∧ ν (108 + 4 * k + 2) ≤ 99) ∧ 0 ≤ ν (108 + 4 * k + 3) ∧ ν (108 + 4 * k + 3) ≤ 2
def NCr (ν : Int → Int) : Prop := ∀ k : Int, 4 ≤ k ∧ k < 14 → 0 ≤ ν k ∧ ν k ≤ 100000000
theorem NI.mk' {ν : Int → Int} (n0 : 0 ≤ ν 0 ∧ ν 0 ≤ 6) (n1 : 0 ≤ ν 1 ∧ ν 1 ≤ 16) (n2 : 0 ≤ ν 2 ∧ ν 2 ≤ 10) (n3 : 0 ≤ ν 3 ∧ ν 3 ≤ 16) (cr : NCr ν) (sh : NSh ν) (ba : NBa ν) (bi : NBi ν) (of : NOf ν) : NI ν := ⟨n0, n1, n2, n3, cr, sh, ba, bi, of⟩
theorem NI.nsh {ν : Int → Int} (h : NI ν) : NSh ν := h.sh
theorem NI.nba {ν : Int → Int} (h : NI ν) : NBa ν := h.ba
theorem NI.nbi {ν : Int → Int} (h : NI ν) : NBi ν := h.bi
theorem NI.nof {ν : Int → Int} (h : NI ν) : NOf ν := h.of
theorem NSh.congr {ν ν' : Int → Int} (h : NSh ν) (h6 : ν 0 ≤ 6) (n0 : ν' 0 = ν 0) (n : ∀ k : Int, 14 ≤ k → k < 26 → ν' k = ν k) : NSh ν' := fun s a b => by
  rw [n0] at b
  rw [n _ (by omega) (by omega), n _ (by omega) (by omega)]
  exact h s a b
theorem NBa.congr {ν ν' : Int → Int} (h : NBa ν) (h16 : ν 1 ≤ 16) (n0 : ν 0 ≤ ν' 0) (n1 : ν' 1 = ν 1) (n : ∀ k : Int, 26 ≤ k → k < 58 → ν' k = ν k) : NBa ν' := fun b a c => by
  rw [n1] at c
  rw [n (26 + 2 * b) (by omega) (by omega), n (26 + 2 * b + 1) (by omega) (by omega)]
  have := h b a c
  exact ⟨⟨this.1.1, by omega⟩, this.2⟩
theorem NBi.congr {ν ν' : Int → Int} (h : NBi ν) (h10 : ν 2 ≤ 10) (n0 : ν 0 ≤ ν' 0) (n2 : ν' 2 = ν 2) (n : ∀ k : Int, 58 ≤ k → k < 108 → ν' k = ν k) : NBi ν' := fun k a c => by
  rw [n2] at c
  rw [n (58 + 5 * k + 1) (by omega) (by omega), n (58 + 5 * k + 2) (by omega) (by omega), n (58 + 5 * k + 3) (by omega) (by omega), n (58 + 5 * k + 4) (by omega) (by omega)]
  have := h k a c
  exact ⟨⟨this.1.1, by omega⟩, this.2⟩
theorem NOf.congr {ν ν' : Int → Int} (h : NOf ν) (h16 : ν 3 ≤ 16) (n1 : ν 1 ≤ ν' 1) (n3 : ν' 3 = ν 3) (n : ∀ k : Int, 108 ≤ k → k < 172 → ν' k = ν k) : NOf ν' := fun k a c => by
  rw [n3] at c
  rw [n (108 + 4 * k + 1) (by omega) (by omega), n (108 + 4 * k + 2) (by omega) (by omega), n (108 + 4 * k + 3) (by omega) (by omega)]
  have := h k a c
  exact ⟨⟨this.1.1, by omega⟩, this.2⟩
theorem mload_congr {ν ν' : Int → Int} (s : Int) (n1 : ν' 1 = ν 1) (n : ∀ b : Int, 0 ≤ b → b < ν 1 → ν' (26 + 2 * b) = ν (26 + 2 * b)) : mload ν' s = mload ν s := by
  unfold mload
  rw [n1]
  refine sumI_congr fun k a b => ?_
  unfold mloadF
  rw [n k a b]
theorem mcnt_congr {ν ν' : Int → Int} (s : Int) (n2 : ν' 2 = ν 2) (n : ∀ k : Int, 0 ≤ k → k < ν 2 → ν' (58 + 5 * k + 1) = ν (58 + 5 * k + 1)) : sumI (mcntF ν' s) (ν' 2) = sumI (mcntF ν s) (ν 2) := by
  rw [n2]
  refine sumI_congr fun k a b => ?_
  unfold mcntF
  rw [n k a b]
theorem mres_congr {ν ν' : Int → Int} (s : Int) (n2 : ν' 2 = ν 2) (n : ∀ k : Int, 0 ≤ k → k < ν 2 → ν' (58 + 5 * k + 1) = ν (58 + 5 * k + 1) ∧ ν' (58 + 5 * k + 3) = ν (58 + 5 * k + 3)) : mres ν' s = mres ν s := by
  unfold mres
  rw [n2]
  refine sumI_congr fun k a b => ?_
  unfold mresF
  rw [(n k a b).1, (n k a b).2]
/-- a ship is added -/
theorem MR_ship {μ μ' : MM} {ν ν' : Int → Int} (h : MR μ ν) {a b : Int} (hn : ν 0 < 6) (ha : 0 ≤ a ∧ a ≤ 99) (hb : 1 ≤ b ∧ b ≤ 5) (hg : ν 12 ≤ 90000000)
    (mj : ∀ j : Nat, 4 ≤ j → μ' j = μ j) (m0 : ∀ k : Int, k ≠ 8 → μ' 0 k = μ 0 k) (m08 : μ' 0 8 = μ 0 8 + a) (m10 : μ' 1 0 = μ 1 0 + 1) (m13 : μ' 1 3 = μ 1 3)
    (m2 : ∀ k : Int, k ≠ μ 1 0 → μ' 2 k = μ 2 k ∧ μ' 3 k = μ 3 k) (m2n : μ' 2 (μ 1 0) = a ∧ μ' 3 (μ 1 0) = b)
    (nk : ∀ k : Int, k ≠ 0 → k ≠ 12 → ¬ (k = 14 + 2 * ν 0 ∨ k = 14 + 2 * ν 0 + 1) → ν' k = ν k) (n0 : ν' 0 = ν 0 + 1) (n12 : ν' 12 = ν 12 + a) (nS : ν' (14 + 2 * ν 0) = a ∧ ν' (14 + 2 * ν 0 + 1) = b) : MR μ' ν' := by
  obtain ⟨s0, s1, s2, s3, s4, s5, s6, s7, s8, s9, s10, s11, s12⟩ := h.sc
  have hN := h.ni
  have q0 := hN.n0
  have q1 := hN.n1
  have q2 := hN.n2
  have q3 := hN.n3
  have n26 : ∀ k : Int, 26 ≤ k → ν' k = ν k := fun k hk => nk k (by omega) (by omega) (by omega)
  have ns : ∀ k : Int, 1 ≤ k → k ≤ 13 → k ≠ 12 → ν' k = ν k := fun k a1 a2 a3 => nk k (by omega) a3 (by omega)
  have nsh : ∀ s : Int, 0 ≤ s → s < ν 0 → ν' (14 + 2 * s) = ν (14 + 2 * s) ∧ ν' (14 + 2 * s + 1) = ν (14 + 2 * s + 1) := fun s a1 a2 => ⟨nk _ (by omega) (by omega) (by omega), nk _ (by omega) (by omega) (by omega)⟩
  have e1 := ns 1 (by decide) (by decide) (by decide)
  have e2 := ns 2 (by decide) (by decide) (by decide)
  have e3 := ns 3 (by decide) (by decide) (by decide)
  have e4 := ns 4 (by decide) (by decide) (by decide)
  have e5 := ns 5 (by decide) (by decide) (by decide)
  have e6 := ns 6 (by decide) (by decide) (by decide)
  have e7 := ns 7 (by decide) (by decide) (by decide)
  have e8 := ns 8 (by decide) (by decide) (by decide)
  have e9 := ns 9 (by decide) (by decide) (by decide)
  have e10 := ns 10 (by decide) (by decide) (by decide)
  have e11 := ns 11 (by decide) (by decide) (by decide)
  have e13 := ns 13 (by decide) (by decide) (by decide)
  refine ⟨?_, ?_, ?_, ?_, ?_, ?_, ?_, ?_, ?_⟩
  · refine ⟨by omega, by omega, ?_, ?_, ?_, ?_, ?_, ?_, ?_, ?_, ?_, ?_, by omega⟩
    · rw [mj 6 (by decide), e2, s2]
    · rw [mj 12 (by decide), e3, s3]
    · rw [mj 6 (by decide), e4, s4]
    · rw [mj 12 (by decide), e5, s5]
    · rw [m0 4 (by decide), e6, s6]
    · rw [m0 5 (by decide), e7, s7]
    · rw [mj 18 (by decide), e8, s8]
    · rw [mj 18 (by decide), e9, s9]
    · rw [m0 7 (by decide), e10, s10]
    · rw [m0 6 (by decide), e11, s11]
  · intro s a1 a2
    by_cases e : s = ν 0
    · subst e
      rw [nS.1, nS.2, ← s0, m2n.1, m2n.2]
      exact ⟨rfl, rfl⟩
    · obtain ⟨x1, x2⟩ := nsh s a1 (by omega)
      obtain ⟨y1, y2⟩ := m2 s (by omega)
      rw [x1, x2, y1, y2]
      exact h.sh s a1 (by omega)
  · intro b a1 a2
    rw [mj 5 (by decide), mj 4 (by decide), n26 _ (by omega), n26 _ (by omega)]
    exact h.ba b a1 (by omega)
  · exact h.tr.congr (fun j a1 a2 => mj j (by omega)) (fun k a1 a2 => n26 k (by omega)) e8 e13
  · exact h.bi.congr q2.2 (fun j a1 a2 => mj j (by omega)) (fun k a1 a2 => n26 k (by omega)) e2 e4
  · exact h.of.congr hN (fun j a1 a2 => mj j (by omega)) (fun k a1 a2 => n26 k (by omega)) (fun k a1 a2 => n26 _ (by omega)) e3 e5
  · refine NI.mk' (by omega) (by omega) (by omega) (by omega) (fun k hk => ?_) (fun s a1 a2 => ?_) (hN.nba.congr q1.2 (by omega) e1 (fun k a1 a2 => n26 k (by omega))) (hN.nbi.congr q2.2 (by omega) e2 (fun k a1 a2 => n26 k (by omega))) (hN.nof.congr q3.2 (by omega) e3 (fun k a1 a2 => n26 k (by omega)))
    · have c := hN.cr k hk
      by_cases e : k = 12
      · subst e
        omega
      · rw [ns k (by omega) (by omega) e]
        exact c
    · by_cases e : s = ν 0
      · subst e
        omega
      · obtain ⟨x1, x2⟩ := nsh s a1 (by omega)
        rw [x1, x2]
        exact hN.sh s a1 (by omega)
  · have el : ∀ s : Int, mload ν' s = mload ν s := fun s => mload_congr s e1 fun b a1 a2 => n26 _ (by omega)
    have ec : ∀ s : Int, sumI (mcntF ν' s) (ν' 2) = sumI (mcntF ν s) (ν 2) := fun s => mcnt_congr s e2 fun b a1 a2 => n26 _ (by omega)
    have er : ∀ s : Int, mres ν' s = mres ν s := fun s => mres_congr s e2 fun b a1 a2 => ⟨n26 _ (by omega), n26 _ (by omega)⟩
    refine ⟨fun s a1 a2 => ?_, ?_⟩
    · have hr := h.re.1 s
      unfold mplaces mcap at hr ⊢
      rw [el, ec, er]
      by_cases e : s = ν 0
      · subst e
        have z1 : mload ν (ν 0) = 0 := sumI_z fun k b1 b2 => if_neg (by have := (hN.ba k b1 b2).1; omega)
        have z2 : sumI (mcntF ν (ν 0)) (ν 2) = 0 := sumI_z fun k b1 b2 => if_neg (by have := (hN.bi k b1 b2).1; omega)
        have z3 : mres ν (ν 0) = 0 := sumI_z fun k b1 b2 => if_neg (by have := (hN.bi k b1 b2).1; omega)
        omega
      · obtain ⟨x1, x2⟩ := nsh s a1 (by omega)
        rw [x1, x2]
        exact hr a1 (by omega)
    · rw [n0, sumI_s _ q0.1, e10, n12]
      have hz := h.re.2
      have e : sumI (mcoinF ν') (ν 0) = sumI (mcoinF ν) (ν 0) := sumI_congr fun s a1 a2 => (nsh s a1 a2).1
      have e' : mcoinF ν' (ν 0) = a := nS.1
      omega
  · intro k a1 a2 a3
    rw [m0 k (by omega)]
    exact h.rz k a1 a2 a3
/-- a barnacle is added -/
theorem MR_barn {μ μ' : MM} {ν ν' : Int → Int} (h : MR μ ν) {s a : Int} (hn : ν 1 < 16) (hs : 0 ≤ s ∧ s < ν 0) (ha : 1 ≤ a ∧ a ≤ 9) (hp : 1 ≤ mplaces ν s)
    (mj : ∀ j : Nat, j ≠ 1 → j ≠ 4 → j ≠ 5 → μ' j = μ j) (m10 : μ' 1 0 = μ 1 0) (m13 : μ' 1 3 = μ 1 3 + 1)
    (m2 : ∀ k : Int, k ≠ μ 1 3 → μ' 5 k = μ 5 k ∧ μ' 4 k = μ 4 k) (m2n : μ' 5 (μ 1 3) = s ∧ μ' 4 (μ 1 3) = a)
    (nk : ∀ k : Int, k ≠ 1 → ¬ (k = 26 + 2 * ν 1 ∨ k = 26 + 2 * ν 1 + 1) → ν' k = ν k) (n1 : ν' 1 = ν 1 + 1) (nS : ν' (26 + 2 * ν 1) = s ∧ ν' (26 + 2 * ν 1 + 1) = a) : MR μ' ν' := by
  obtain ⟨s0, s1, s2, s3, s4, s5, s6, s7, s8, s9, s10, s11, s12⟩ := h.sc
  have hN := h.ni
  have q0 := hN.n0
  have q1 := hN.n1
  have q2 := hN.n2
  have q3 := hN.n3
  have n58 : ∀ k : Int, 58 ≤ k → ν' k = ν k := fun k hk => nk k (by omega) (by omega)
  have ns : ∀ k : Int, k ≤ 25 → k ≠ 1 → ν' k = ν k := fun k a1 a2 => nk k a2 (by omega)
  have nsh : ∀ b : Int, 0 ≤ b → b < ν 1 → ν' (26 + 2 * b) = ν (26 + 2 * b) ∧ ν' (26 + 2 * b + 1) = ν (26 + 2 * b + 1) := fun s a1 a2 => ⟨nk _ (by omega) (by omega), nk _ (by omega) (by omega)⟩
  have e0 := ns 0 (by decide) (by decide)
  have e2 := ns 2 (by decide) (by decide)
  have e3 := ns 3 (by decide) (by decide)
  have e4 := ns 4 (by decide) (by decide)
  have e5 := ns 5 (by decide) (by decide)
  have e6 := ns 6 (by decide) (by decide)
  have e7 := ns 7 (by decide) (by decide)
  have e8 := ns 8 (by decide) (by decide)
  have e9 := ns 9 (by decide) (by decide)
  have e10 := ns 10 (by decide) (by decide)
  have e11 := ns 11 (by decide) (by decide)
  have e12 := ns 12 (by decide) (by decide)
  have e13 := ns 13 (by decide) (by decide)
  refine ⟨?_, ?_, ?_, ?_, ?_, ?_, ?_, ?_, ?_⟩
  · rw [RSc, mj 6 (by decide) (by decide) (by decide), mj 12 (by decide) (by decide) (by decide), mj 0 (by decide) (by decide) (by decide), mj 18 (by decide) (by decide) (by decide)]
    omega
  · intro s a1 a2
    rw [mj 2 (by decide) (by decide) (by decide), mj 3 (by decide) (by decide) (by decide), ns _ (by omega) (by omega), ns _ (by omega) (by omega)]
    exact h.sh s a1 (by omega)
  · intro b a1 a2
    by_cases e : b = ν 1
    · subst e
      rw [nS.1, nS.2, ← s1, m2n.1, m2n.2]
      exact ⟨rfl, rfl⟩
    · obtain ⟨x1, x2⟩ := nsh b a1 (by omega)
      obtain ⟨y1, y2⟩ := m2 b (by omega)
      rw [x1, x2, y1, y2]
      exact h.ba b a1 (by omega)
  · exact h.tr.congr (fun j a1 a2 => mj j (by omega) (by omega) (by omega)) (fun k a1 a2 => n58 k (by omega)) e8 e13
  · exact h.bi.congr q2.2 (fun j a1 a2 => mj j (by omega) (by omega) (by omega)) (fun k a1 a2 => n58 k (by omega)) e2 e4
  · exact h.of.congr hN (fun j a1 a2 => mj j (by omega) (by omega) (by omega)) (fun k a1 a2 => n58 k (by omega)) (fun k a1 a2 => (nsh k a1 a2).2) e3 e5
  · refine NI.mk' (by omega) (by omega) (by omega) (by omega) (fun k hk => ?_) (hN.nsh.congr q0.2 e0 (fun k a1 a2 => ns k (by omega) (by omega))) (fun b a1 a2 => ?_) (hN.nbi.congr q2.2 (by omega) e2 (fun k a1 a2 => n58 k (by omega))) (hN.nof.congr q3.2 (by omega) e3 (fun k a1 a2 => n58 k (by omega)))
    · rw [ns k (by omega) (by omega)]
      exact hN.cr k hk
    · by_cases e : b = ν 1
      · subst e
        omega
      · obtain ⟨x1, x2⟩ := nsh b a1 (by omega)
        rw [x1, x2, e0]
        exact hN.ba b a1 (by omega)
  · have ec : ∀ s : Int, sumI (mcntF ν' s) (ν' 2) = sumI (mcntF ν s) (ν 2) := fun s => mcnt_congr s e2 fun b a1 a2 => n58 _ (by omega)
    have er : ∀ s : Int, mres ν' s = mres ν s := fun s => mres_congr s e2 fun b a1 a2 => ⟨n58 _ (by omega), n58 _ (by omega)⟩
    refine ⟨fun t a1 a2 => ?_, ?_⟩
    · have hr := h.re.1 t a1 (by omega)
      unfold mplaces mcap at hr hp ⊢
      rw [ec, er, ns _ (by omega) (by omega), ns _ (by omega) (by omega)]
      have el : mload ν' t = mload ν t + (if s = t then 1 else 0) := by
        unfold mload
        rw [n1, sumI_s _ q1.1]
        have e : sumI (mloadF ν' t) (ν 1) = sumI (mloadF ν t) (ν 1) := sumI_congr fun k b1 b2 => by
          unfold mloadF
          rw [(nsh k b1 b2).1]
        rw [e]
        unfold mloadF
        rw [nS.1]
      rw [el]
      split
      · rename_i e
        subst e
        omega
      · omega
    · rw [e0, e10, e12]
      have e : sumI (mcoinF ν') (ν 0) = sumI (mcoinF ν) (ν 0) := sumI_congr fun s a1 a2 => ns _ (by omega) (by omega)
      rw [e]
      exact h.re.2
  · intro k a1 a2 a3
    rw [mj 0 (by decide) (by decide) (by decide)]
    exact h.rz k a1 a2 a3
/-- coins are given -/
theorem MR_gift {μ μ' : MM} {ν ν' : Int → Int} (h : MR μ ν) {s c : Int} (hs : 0 ≤ s ∧ s < ν 0) (hc : 1 ≤ c ∧ c ≤ 99) (hg : ν 12 ≤ 90000000)
    (mj : ∀ j : Nat, j ≠ 0 → j ≠ 2 → μ' j = μ j) (m0 : ∀ k : Int, k ≠ 8 → μ' 0 k = μ 0 k) (m08 : μ' 0 8 = μ 0 8 + c) (m2 : ∀ k : Int, k ≠ s → μ' 2 k = μ 2 k) (m2n : μ' 2 s = μ 2 s + c)
    (nk : ∀ k : Int, k ≠ 12 → ¬ (k = 14 + 2 * s) → ν' k = ν k) (n12 : ν' 12 = ν 12 + c) (nS : ν' (14 + 2 * s) = ν (14 + 2 * s) + c) : MR μ' ν' := by
  obtain ⟨s0, s1, s2, s3, s4, s5, s6, s7, s8, s9, s10, s11, s12⟩ := h.sc
  have hN := h.ni
  have q0 := hN.n0
  have q1 := hN.n1
  have q2 := hN.n2
  have q3 := hN.n3
  have n26 : ∀ k : Int, 26 ≤ k → ν' k = ν k := fun k hk => nk k (by omega) (by omega)
  have ns : ∀ k : Int, k ≤ 13 → k ≠ 12 → ν' k = ν k := fun k a1 a2 => nk k a2 (by omega)
  have nc : ∀ t : Int, 0 ≤ t → t < ν 0 → ν' (14 + 2 * t + 1) = ν (14 + 2 * t + 1) := fun t a1 a2 => nk _ (by omega) (by omega)
  have nm : ∀ t : Int, 0 ≤ t → t ≠ s → ν' (14 + 2 * t) = ν (14 + 2 * t) := fun t a1 a2 => nk _ (by omega) (by omega)
  have e0 := ns 0 (by decide) (by decide)
  have e1 := ns 1 (by decide) (by decide)
  have e2 := ns 2 (by decide) (by decide)
  have e3 := ns 3 (by decide) (by decide)
  have e4 := ns 4 (by decide) (by decide)
  have e5 := ns 5 (by decide) (by decide)
  have e6 := ns 6 (by decide) (by decide)
  have e7 := ns 7 (by decide) (by decide)
  have e8 := ns 8 (by decide) (by decide)
  have e9 := ns 9 (by decide) (by decide)
  have e10 := ns 10 (by decide) (by decide)
  have e11 := ns 11 (by decide) (by decide)
  have e13 := ns 13 (by decide) (by decide)
  have hsum : sumI (mcoinF ν') (ν 0) = sumI (mcoinF ν) (ν 0) + c := sumI_one hs.1 hs.2 (fun k a1 a2 a3 => nm k a1 a3) nS
  have c12 := hN.cr 12 (by decide)
  have c10 := hN.cr 10 (by decide)
  have hge : ν (14 + 2 * s) ≤ sumI (mcoinF ν) (ν 0) := sumI_ger (f := mcoinF ν) (fun k a1 a2 => (hN.sh k a1 a2).1.1) hs.1 hs.2
  have hre := h.re.2
  refine ⟨?_, ?_, ?_, ?_, ?_, ?_, ?_, ?_, ?_⟩
  · rw [RSc, mj 1 (by decide) (by decide), mj 6 (by decide) (by decide), mj 12 (by decide) (by decide), mj 18 (by decide) (by decide), m0 4 (by decide), m0 5 (by decide), m0 6 (by decide), m0 7 (by decide)]
    omega
  · intro t a1 a2
    rw [mj 3 (by decide) (by decide), nc t a1 (by omega)]
    have ht := h.sh t a1 (by omega)
    by_cases e : t = s
    · subst e
      rw [m2n, nS]
      omega
    · rw [m2 t e, nm t a1 e]
      exact ht
  · intro b a1 a2
    rw [mj 5 (by decide) (by decide), mj 4 (by decide) (by decide), n26 _ (by omega), n26 _ (by omega)]
    exact h.ba b a1 (by omega)
  · exact h.tr.congr (fun j a1 a2 => mj j (by omega) (by omega)) (fun k a1 a2 => n26 k (by omega)) e8 e13
  · exact h.bi.congr q2.2 (fun j a1 a2 => mj j (by omega) (by omega)) (fun k a1 a2 => n26 k (by omega)) e2 e4
  · exact h.of.congr hN (fun j a1 a2 => mj j (by omega) (by omega)) (fun k a1 a2 => n26 k (by omega)) (fun k a1 a2 => n26 _ (by omega)) e3 e5
  · refine NI.mk' (by omega) (by omega) (by omega) (by omega) (fun k hk => ?_) (fun t a1 a2 => ?_) (hN.nba.congr q1.2 (by omega) e1 (fun k a1 a2 => n26 k (by omega))) (hN.nbi.congr q2.2 (by omega) e2 (fun k a1 a2 => n26 k (by omega))) (hN.nof.congr q3.2 (by omega) e3 (fun k a1 a2 => n26 k (by omega)))
    · by_cases e : k = 12
      · subst e
        omega
      · rw [ns k (by omega) e]
        exact hN.cr k hk
    · have ht := hN.sh t a1 (by omega)
      rw [nc t a1 (by omega)]
      by_cases e : t = s
      · subst e
        rw [nS]
        omega
      · rw [nm t a1 e]
        exact ht
  · have el : ∀ s : Int, mload ν' s = mload ν s := fun s => mload_congr s e1 fun b a1 a2 => n26 _ (by omega)
    have ec : ∀ s : Int, sumI (mcntF ν' s) (ν' 2) = sumI (mcntF ν s) (ν 2) := fun s => mcnt_congr s e2 fun b a1 a2 => n26 _ (by omega)
    have er : ∀ s : Int, mres ν' s = mres ν s := fun s => mres_congr s e2 fun b a1 a2 => ⟨n26 _ (by omega), n26 _ (by omega)⟩
    refine ⟨fun t a1 a2 => ?_, by rw [e0, e10, n12]; omega⟩
    have hr := h.re.1 t a1 (by omega)
    unfold mplaces mcap at hr ⊢
    rw [el, ec, er, nc t a1 (by omega)]
    by_cases e : t = s
    · subst e
      rw [nS]
      omega
    · rw [nm t a1 e]
      exact hr
  · intro k a1 a2 a3
    rw [m0 k (by omega)]
    exact h.rz k a1 a2 a3
/-- a number of the block changes that no row rests on: the fee, the tides, the expired ones -/
theorem MR_one {μ μ' : MM} {ν ν' : Int → Int} (h : MR μ ν) {i v : Int} {k : Int} (hi : (i = 4 ∧ k = 6) ∨ (i = 5 ∧ k = 7) ∨ (i = 6 ∧ k = 11)) (hv : 0 ≤ v ∧ v ≤ 100000000)
    (mj : ∀ j : Nat, j ≠ 0 → μ' j = μ j) (m0 : ∀ z : Int, z ≠ i → μ' 0 z = μ 0 z) (m0i : μ' 0 i = v) (nk : ∀ z : Int, z ≠ k → ν' z = ν z) (nki : ν' k = v) : MR μ' ν' := by
  obtain ⟨s0, s1, s2, s3, s4, s5, s6, s7, s8, s9, s10, s11, s12⟩ := h.sc
  have hN := h.ni
  have q0 := hN.n0
  have q1 := hN.n1
  have q2 := hN.n2
  have q3 := hN.n3
  have n14 : ∀ k : Int, 14 ≤ k → ν' k = ν k := fun k hk => nk k (by omega)
  have e0 := nk 0 (by omega)
  have e1 := nk 1 (by omega)
  have e2 := nk 2 (by omega)
  have e3 := nk 3 (by omega)
  have e4 := nk 4 (by omega)
  have e5 := nk 5 (by omega)
  have e8 := nk 8 (by omega)
  have e9 := nk 9 (by omega)
  have e10 := nk 10 (by omega)
  have e12 := nk 12 (by omega)
  have e13 := nk 13 (by omega)
  have x7 := m0 7 (by omega)
  have x8 := m0 8 (by omega)
  refine ⟨?_, ?_, ?_, ?_, ?_, ?_, ?_, ?_, ?_⟩
  · rw [RSc, mj 1 (by decide), mj 6 (by decide), mj 12 (by decide), mj 18 (by decide)]
    rcases hi with ⟨rfl, rfl⟩ | ⟨rfl, rfl⟩ | ⟨rfl, rfl⟩
    · have a1 := m0 5 (by decide)
      have a2 := m0 6 (by decide)
      have b1 := nk 7 (by decide)
      have b2 := nk 11 (by decide)
      omega
    · have a1 := m0 4 (by decide)
      have a2 := m0 6 (by decide)
      have b1 := nk 6 (by decide)
      have b2 := nk 11 (by decide)
      omega
    · have a1 := m0 4 (by decide)
      have a2 := m0 5 (by decide)
      have b1 := nk 6 (by decide)
      have b2 := nk 7 (by decide)
      omega
  · intro t a1 a2
    rw [mj 2 (by decide), mj 3 (by decide), n14 _ (by omega), n14 _ (by omega)]
    exact h.sh t a1 (by omega)
  · intro b a1 a2
    rw [mj 5 (by decide), mj 4 (by decide), n14 _ (by omega), n14 _ (by omega)]
    exact h.ba b a1 (by omega)
  · exact h.tr.congr (fun j a1 a2 => mj j (by omega)) (fun k a1 a2 => n14 k (by omega)) e8 e13
  · exact h.bi.congr q2.2 (fun j a1 a2 => mj j (by omega)) (fun k a1 a2 => n14 k (by omega)) e2 e4
  · exact h.of.congr hN (fun j a1 a2 => mj j (by omega)) (fun k a1 a2 => n14 k (by omega)) (fun k a1 a2 => n14 _ (by omega)) e3 e5
  · refine NI.mk' (by omega) (by omega) (by omega) (by omega) (fun z hz => ?_) (hN.nsh.congr q0.2 e0 (fun k a1 a2 => n14 k (by omega))) (hN.nba.congr q1.2 (by omega) e1 (fun k a1 a2 => n14 k (by omega))) (hN.nbi.congr q2.2 (by omega) e2 (fun k a1 a2 => n14 k (by omega))) (hN.nof.congr q3.2 (by omega) e3 (fun k a1 a2 => n14 k (by omega)))
    by_cases e : z = k
    · subst e
      rw [nki]
      exact hv
    · rw [nk z e]
      exact hN.cr z hz
  · have el : ∀ s : Int, mload ν' s = mload ν s := fun s => mload_congr s e1 fun b a1 a2 => n14 _ (by omega)
    have ec : ∀ s : Int, sumI (mcntF ν' s) (ν' 2) = sumI (mcntF ν s) (ν 2) := fun s => mcnt_congr s e2 fun b a1 a2 => n14 _ (by omega)
    have er : ∀ s : Int, mres ν' s = mres ν s := fun s => mres_congr s e2 fun b a1 a2 => ⟨n14 _ (by omega), n14 _ (by omega)⟩
    refine ⟨fun t a1 a2 => ?_, ?_⟩
    · have hr := h.re.1 t a1 (by omega)
      unfold mplaces mcap at hr ⊢
      rw [el, ec, er, n14 _ (by omega), n14 _ (by omega)]
      exact hr
    · have e : sumI (mcoinF ν') (ν 0) = sumI (mcoinF ν) (ν 0) := sumI_congr fun s a1 a2 => n14 _ (by omega)
      rw [e0, e10, e12, e]
      exact h.re.2
  · intro z a1 a2 a3
    rw [m0 z (by omega)]
    exact h.rz z a1 a2 a3
