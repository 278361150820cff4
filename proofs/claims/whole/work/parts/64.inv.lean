/-! the whole states: what holds between two calls -/
/-- a market read at other places, a block read at others -/
theorem MR_congr {μ μ' : MM} {ν ν' : Int → Int} (h : MR μ ν) (hz : RZ μ') (nn : ∀ k : Int, 0 ≤ k → k < 212 → ν' k = ν k) (c1 : μ' 1 0 = μ 1 0 ∧ μ' 1 3 = μ 1 3) (c0 : ∀ k : Int, 4 ≤ k → k ≤ 8 → μ' 0 k = μ 0 k)
    (c2 : ∀ k : Int, 0 ≤ k → k < 6 → μ' 2 k = μ 2 k ∧ μ' 3 k = μ 3 k) (c4 : ∀ k : Int, 0 ≤ k → k < 16 → μ' 4 k = μ 4 k ∧ μ' 5 k = μ 5 k) (c6 : μ' 6 0 = μ 6 0 ∧ μ' 6 1 = μ 6 1 ∧ μ' 12 0 = μ 12 0 ∧ μ' 12 1 = μ 12 1)
    (cb : ∀ k : Int, 0 ≤ k → k < μ 6 0 → bRow μ' k = bRow μ k) (co : ∀ k : Int, 0 ≤ k → k < μ 12 0 → oRow μ' k = oRow μ k) (c18 : μ' 18 0 = μ 18 0 ∧ μ' 18 1 = μ 18 1)
    (ct : ∀ k : Int, 0 ≤ k → k < 10 → μ' 19 k = μ 19 k ∧ μ' 20 k = μ 20 k ∧ μ' 21 k = μ 21 k ∧ μ' 22 k = μ 22 k) : MR μ' ν' := by
  obtain ⟨s0, s1, s2, s3, s4, s5, s6, s7, s8, s9, s10, s11, s12⟩ := h.sc
  have hN := h.ni
  have q0 := hN.n0
  have q1 := hN.n1
  have q2 := hN.n2
  have q3 := hN.n3
  have e0 := nn 0 (by decide) (by decide)
  have e1 := nn 1 (by decide) (by decide)
  have e2 := nn 2 (by decide) (by decide)
  have e3 := nn 3 (by decide) (by decide)
  have e4 := nn 4 (by decide) (by decide)
  have e5 := nn 5 (by decide) (by decide)
  have e6 := nn 6 (by decide) (by decide)
  have e7 := nn 7 (by decide) (by decide)
  have e8 := nn 8 (by decide) (by decide)
  have e9 := nn 9 (by decide) (by decide)
  have e10 := nn 10 (by decide) (by decide)
  have e11 := nn 11 (by decide) (by decide)
  have e12 := nn 12 (by decide) (by decide)
  have e13 := nn 13 (by decide) (by decide)
  have d4 := c0 4 (by decide) (by decide)
  have d5 := c0 5 (by decide) (by decide)
  have d6 := c0 6 (by decide) (by decide)
  have d7 := c0 7 (by decide) (by decide)
  have d8 := c0 8 (by decide) (by decide)
  have nb : ∀ k : Int, 0 ≤ k → k < ν 2 → nbRow ν' k = nbRow ν k := fun k a b => nbRow_congr (fun z z0 z1 => nn z (by omega) (by omega)) a (by omega)
  have no : ∀ k : Int, 0 ≤ k → k < ν 3 → noRow ν' k = noRow ν k := fun k a b => noRow_congr (fun z z0 z1 => nn z (by omega) (by omega)) (fun t t0 t1 => nn _ (by omega) (by omega)) a (by omega) (hN.of k a b).1
  refine ⟨?_, ?_, ?_, ?_, ?_, ?_, ?_, ?_, hz⟩
  · rw [RSc]
    omega
  · intro s a b
    obtain ⟨x1, x2⟩ := c2 s a (by omega)
    rw [x1, x2, nn (14 + 2 * s) (by omega) (by omega), nn (14 + 2 * s + 1) (by omega) (by omega)]
    exact h.sh s a (by omega)
  · intro k a b
    obtain ⟨x1, x2⟩ := c4 k a (by omega)
    rw [x1, x2, nn (26 + 2 * k) (by omega) (by omega), nn (26 + 2 * k + 1) (by omega) (by omega)]
    exact h.ba k a (by omega)
  · refine ⟨by rw [e13, e8]; exact h.tr.1, fun k a b => ?_⟩
    obtain ⟨x1, x2, x3, x4⟩ := ct k a b
    rw [x1, x2, x3, x4, nn (172 + 4 * k) (by omega) (by omega), nn (172 + 4 * k + 1) (by omega) (by omega), nn (172 + 4 * k + 2) (by omega) (by omega), nn (172 + 4 * k + 3) (by omega) (by omega)]
    exact h.tr.2 k a b
  · unfold RBi
    rw [e2, e4]
    refine ⟨h.bi.1.congr (fun k a b => cb k a (by omega)) nb, fun i j a b c => ?_, fun i j a b c => ?_, fun k a b => ?_⟩
    · rw [cb i a (by omega), cb j (by omega) (by omega)]
      exact h.bi.2.1 i j a b c
    · rw [nn _ (by omega) (by omega), nn _ (by omega) (by omega)]
      exact h.bi.2.2.1 i j a b c
    · rw [nn _ (by omega) (by omega)]
      exact h.bi.2.2.2 k a b
  · unfold ROf
    rw [e3, e5]
    refine ⟨h.of.1.congr (fun k a b => co k a (by omega)) no, fun i j a b c => ?_, fun i j a b c => ?_, fun k a b => ?_, fun i j a b c => ?_⟩
    · rw [co i a (by omega), co j (by omega) (by omega)]
      exact h.of.2.1 i j a b c
    · rw [nn _ (by omega) (by omega), nn _ (by omega) (by omega)]
      exact h.of.2.2.1 i j a b c
    · rw [nn _ (by omega) (by omega)]
      exact h.of.2.2.2.1 k a b
    · rw [nn _ (by omega) (by omega), nn _ (by omega) (by omega)]
      exact h.of.2.2.2.2 i j a b c
  · refine NI.mk' (by omega) (by omega) (by omega) (by omega) (fun k hk => by rw [nn k (by omega) (by omega)]; exact hN.cr k hk) (hN.nsh.congr q0.2 e0 (fun k a b => nn k (by omega) (by omega))) (hN.nba.congr q1.2 (by omega) e1 (fun k a b => nn k (by omega) (by omega))) (hN.nbi.congr q2.2 (by omega) e2 (fun k a b => nn k (by omega) (by omega))) (hN.nof.congr q3.2 (by omega) e3 (fun k a b => nn k (by omega) (by omega)))
  · have el : ∀ s : Int, mload ν' s = mload ν s := fun s => mload_congr s e1 fun b a1 a2 => nn _ (by omega) (by omega)
    have ec : ∀ s : Int, sumI (mcntF ν' s) (ν' 2) = sumI (mcntF ν s) (ν 2) := fun s => mcnt_congr s e2 fun b a1 a2 => nn _ (by omega) (by omega)
    have er : ∀ s : Int, mres ν' s = mres ν s := fun s => mres_congr s e2 fun b a1 a2 => ⟨nn _ (by omega) (by omega), nn _ (by omega) (by omega)⟩
    refine ⟨fun t a1 a2 => ?_, ?_⟩
    · have hr := h.re.1 t a1 (by omega)
      unfold mplaces mcap at hr ⊢
      rw [el, ec, er, nn (14 + 2 * t + 1) (by omega) (by omega), nn (14 + 2 * t) (by omega) (by omega)]
      exact hr
    · have e : sumI (mcoinF ν') (ν 0) = sumI (mcoinF ν) (ν 0) := sumI_congr fun s a1 a2 => nn _ (by omega) (by omega)
      rw [e0, e10, e12, e]
      exact h.re.2
theorem MR_same {μ μ' : MM} {ν ν' : Int → Int} (h : MR μ ν) (m : ∀ j : Nat, j ≤ 22 → μ' j = μ j) (nn : ∀ k : Int, 0 ≤ k → k < 212 → ν' k = ν k) : MR μ' ν' := by
  refine MR_congr h (fun k a b c => by rw [m 0 (by decide)]; exact h.rz k a b c) nn (by rw [m 1 (by decide)]; exact ⟨rfl, rfl⟩) (fun k _ _ => by rw [m 0 (by decide)]) (fun k _ _ => by rw [m 2 (by decide), m 3 (by decide)]; exact ⟨rfl, rfl⟩) (fun k _ _ => by rw [m 4 (by decide), m 5 (by decide)]; exact ⟨rfl, rfl⟩) (by rw [m 6 (by decide), m 12 (by decide)]; exact ⟨rfl, rfl, rfl, rfl⟩) (fun k _ _ => by rw [bRow_congr (fun j a b => m j (by omega))]) (fun k _ _ => by rw [oRow_congr (fun j a b => m j (by omega))]) (by rw [m 18 (by decide)]; exact ⟨rfl, rfl⟩) (fun k _ _ => by rw [m 19 (by decide), m 20 (by decide), m 21 (by decide), m 22 (by decide)]; exact ⟨rfl, rfl, rfl, rfl⟩)
theorem BD_congr {ν ν' : Int → Int} {B : Int} (h : BD ν B) (nn : ∀ k : Int, 0 ≤ k → k < 212 → ν' k = ν k) : BD ν' B := fun k a b => by
  rw [nn k (by omega) (by omega)]
  exact h k a b
/-! a market copied -/
section CP
variable {σ : Mem} {g h : Int}
theorem cpFleet_j {j : Nat} (hj : ¬ (1 ≤ j ∧ j ≤ 5)) : cpFleet σ g h g j = σ g j := by
  funext k
  simp only [cpFleet]
  rw [cpy_k (by omega), cpy_k (by omega), st3_j (by omega), cpy_k (by omega), cpy_k (by omega), st3_j (by omega)]
theorem cpBook_j {p j : Nat} (hj : ¬ (p ≤ j ∧ j ≤ p + 5)) : cpBook σ g h p g j = σ g j := by
  funext k
  simp only [cpBook]
  rw [cpy_k (by omega), cpy_k (by omega), cpy_k (by omega), cpy_k (by omega), cpy_k (by omega), st3_j (by omega), st3_j (by omega)]
theorem cpLog_j {j : Nat} (hj : ¬ (18 ≤ j ∧ j ≤ 22)) : cpLog σ g h g j = σ g j := by
  funext k
  simp only [cpLog]
  rw [cpy_k (by omega), cpy_k (by omega), cpy_k (by omega), cpy_k (by omega), st3_j (by omega), st3_j (by omega)]
theorem cpFleet_1 (hgh : ¬ h = g) : cpFleet σ g h g 1 0 = σ h 1 0 ∧ cpFleet σ g h g 1 3 = σ h 1 3 := by
  constructor
  · simp [cpFleet, cpy, st3, hgh]
  · simp [cpFleet, cpy, st3, hgh]
theorem cpFleet_2 (hgh : ¬ h = g) {k : Int} (k0 : 0 ≤ k) (k1 : k < 6) : cpFleet σ g h g 2 k = σ h 2 k ∧ cpFleet σ g h g 3 k = σ h 3 k := by
  constructor
  · simp [cpFleet, cpy, st3, hgh, k0, k1]
  · simp [cpFleet, cpy, st3, hgh, k0, k1]
theorem cpFleet_4 (hgh : ¬ h = g) {k : Int} (k0 : 0 ≤ k) (k1 : k < 16) : cpFleet σ g h g 4 k = σ h 4 k ∧ cpFleet σ g h g 5 k = σ h 5 k := by
  constructor
  · simp [cpFleet, cpy, st3, hgh, k0, k1]
  · simp [cpFleet, cpy, st3, hgh, k0, k1]
theorem cpBook_p (hgh : ¬ h = g) {p : Nat} : cpBook σ g h p g p 0 = σ h p 0 ∧ cpBook σ g h p g p 1 = σ h p 1 := by
  constructor
  · simp [cpBook, cpy, st3, hgh]
  · simp [cpBook, cpy, st3, hgh]
theorem cpBook_r (hgh : ¬ h = g) {p : Nat} {k : Int} (k0 : 0 ≤ k) (k1 : k < σ h p 0) : gRow (cpBook σ g h p g) p k = gRow (σ h) p k := by
  simp [gRow, cpBook, cpy, st3, hgh, k0, k1]
theorem cpLog_p (hgh : ¬ h = g) : cpLog σ g h g 18 0 = σ h 18 0 ∧ cpLog σ g h g 18 1 = σ h 18 1 := by
  constructor
  · simp [cpLog, cpy, st3, hgh]
  · simp [cpLog, cpy, st3, hgh]
theorem cpLog_t (hgh : ¬ h = g) {k : Int} (k0 : 0 ≤ k) (k1 : k < 10) : cpLog σ g h g 19 k = σ h 19 k ∧ cpLog σ g h g 20 k = σ h 20 k ∧ cpLog σ g h g 21 k = σ h 21 k ∧ cpLog σ g h g 22 k = σ h 22 k := by
  refine ⟨?_, ?_, ?_, ?_⟩
  · simp [cpLog, cpy, st3, hgh, k0, k1]
  · simp [cpLog, cpy, st3, hgh, k0, k1]
  · simp [cpLog, cpy, st3, hgh, k0, k1]
  · simp [cpLog, cpy, st3, hgh, k0, k1]
/-- a market's copy: outside place 0 -/
theorem cpMarket_n0 {j : Nat} (hj : j ≠ 0) : cpMarket σ g h g j = cpLog (cpBook (cpBook (cpFleet σ g h) g h 6) g h 12) g h g j := by
  simp only [cpMarket, st3_pm]
  rw [pm_j hj, pm_j hj, pm_j hj, pm_j hj, pm_j hj]
theorem cpMarket_0 (hgh : ¬ h = g) (k : Int) : cpMarket σ g h g 0 k = if 4 ≤ k ∧ k ≤ 8 then σ h 0 k else σ g 0 k := by
  have e : ∀ z : Int, cpLog (cpBook (cpBook (cpFleet σ g h) g h 6) g h 12) g h h = σ h := fun _ => by rw [cpLog_g hgh, cpBook_g hgh, cpBook_g hgh, cpFleet_g hgh]
  have e0 : cpLog (cpBook (cpBook (cpFleet σ g h) g h 6) g h 12) g h g 0 = σ g 0 := by rw [cpLog_j (by decide), cpBook_j (by decide), cpBook_j (by decide), cpFleet_j (by decide)]
  have e := e 0
  simp only [cpMarket]
  generalize cpLog (cpBook (cpBook (cpFleet σ g h) g h 6) g h 12) g h = σ4 at e e0 ⊢
  simp only [st3_o hgh, e]
  by_cases c : 4 ≤ k ∧ k ≤ 8
  · rw [if_pos c]
    have hk : k = 4 ∨ k = 5 ∨ k = 6 ∨ k = 7 ∨ k = 8 := by omega
    rcases hk with rfl | rfl | rfl | rfl | rfl
    · rw [st3_k (by decide), st3_k (by decide), st3_k (by decide), st3_k (by decide), st3_self]
    · rw [st3_k (by decide), st3_k (by decide), st3_k (by decide), st3_self]
    · rw [st3_k (by decide), st3_k (by decide), st3_self]
    · rw [st3_k (by decide), st3_self]
    · rw [st3_self]
  · rw [if_neg c, st3_k (by omega), st3_k (by omega), st3_k (by omega), st3_k (by omega), st3_k (by omega), e0]
theorem cpMarket_rz (hgh : ¬ h = g) (hz : RZ (σ g)) : RZ (cpMarket σ g h g) := fun k a b c => by
  rw [cpMarket_0 hgh, if_neg c]
  exact hz k a b c
theorem cpMarket_hi {j : Nat} (hj : 23 ≤ j) : cpMarket σ g h g j = σ g j := by
  rw [cpMarket_n0 (by omega), cpLog_j (by omega), cpBook_j (by omega), cpBook_j (by omega), cpFleet_j (by omega)]
theorem cpMarket_sz (hgh : ¬ h = g) : cpMarket σ g h g 6 0 = σ h 6 0 ∧ cpMarket σ g h g 12 0 = σ h 12 0 ∧ cpMarket σ g h g 6 1 = σ h 6 1 ∧ cpMarket σ g h g 12 1 = σ h 12 1 := by
  refine ⟨?_, ?_, ?_, ?_⟩
  · rw [cpMarket_n0 (by decide), cpLog_j (by decide), cpBook_j (by decide), (cpBook_p hgh).1, cpFleet_g hgh]
  · rw [cpMarket_n0 (by decide), cpLog_j (by decide), (cpBook_p hgh).1, cpBook_g hgh, cpFleet_g hgh]
  · rw [cpMarket_n0 (by decide), cpLog_j (by decide), cpBook_j (by decide), (cpBook_p hgh).2, cpFleet_g hgh]
  · rw [cpMarket_n0 (by decide), cpLog_j (by decide), (cpBook_p hgh).2, cpBook_g hgh, cpFleet_g hgh]
theorem cpMarket_MR {ν : Int → Int} (hgh : ¬ h = g) (hm : MR (σ h) ν) (hz : RZ (σ g)) : MR (cpMarket σ g h g) ν := by
  have sz := cpMarket_sz (σ := σ) hgh
  refine MR_congr hm (cpMarket_rz hgh hz) (fun _ _ _ => rfl) ?_ (fun k a b => by rw [cpMarket_0 hgh, if_pos ⟨a, b⟩]) (fun k a b => ?_) (fun k a b => ?_) ⟨sz.1, sz.2.2.1, sz.2.1, sz.2.2.2⟩ (fun k a b => ?_) (fun k a b => ?_) ?_ (fun k a b => ?_)
  · rw [cpMarket_n0 (by decide), cpLog_j (by decide), cpBook_j (by decide), cpBook_j (by decide)]
    exact cpFleet_1 hgh
  · rw [cpMarket_n0 (by decide), cpMarket_n0 (by decide), cpLog_j (by decide), cpBook_j (by decide), cpBook_j (by decide), cpLog_j (by decide), cpBook_j (by decide), cpBook_j (by decide)]
    exact cpFleet_2 hgh a b
  · rw [cpMarket_n0 (by decide), cpMarket_n0 (by decide), cpLog_j (by decide), cpBook_j (by decide), cpBook_j (by decide), cpLog_j (by decide), cpBook_j (by decide), cpBook_j (by decide)]
    exact cpFleet_4 hgh a b
  · have e : bRow (cpMarket σ g h g) = gRow (cpBook (cpFleet σ g h) g h 6 g) 6 := by
      funext z
      unfold bRow gRow
      rw [cpMarket_n0 (j := 7) (by decide), cpMarket_n0 (j := 8) (by decide), cpMarket_n0 (j := 9) (by decide), cpMarket_n0 (j := 10) (by decide), cpMarket_n0 (j := 11) (by decide), cpLog_j (j := 7) (by decide), cpLog_j (j := 8) (by decide), cpLog_j (j := 9) (by decide), cpLog_j (j := 10) (by decide), cpLog_j (j := 11) (by decide), cpBook_j (p := 12) (j := 7) (by decide), cpBook_j (p := 12) (j := 8) (by decide), cpBook_j (p := 12) (j := 9) (by decide), cpBook_j (p := 12) (j := 10) (by decide), cpBook_j (p := 12) (j := 11) (by decide)]
    rw [e, cpBook_r hgh a (by rw [cpFleet_g hgh]; exact b), cpFleet_g hgh]
    rfl
  · have e : oRow (cpMarket σ g h g) = gRow (cpBook (cpBook (cpFleet σ g h) g h 6) g h 12 g) 12 := by
      funext z
      unfold oRow gRow
      rw [cpMarket_n0 (j := 13) (by decide), cpMarket_n0 (j := 14) (by decide), cpMarket_n0 (j := 15) (by decide), cpMarket_n0 (j := 16) (by decide), cpMarket_n0 (j := 17) (by decide), cpLog_j (j := 13) (by decide), cpLog_j (j := 14) (by decide), cpLog_j (j := 15) (by decide), cpLog_j (j := 16) (by decide), cpLog_j (j := 17) (by decide)]
    rw [e, cpBook_r hgh a (by rw [cpBook_g hgh, cpFleet_g hgh]; exact b), cpBook_g hgh, cpFleet_g hgh]
    rfl
  · rw [cpMarket_n0 (by decide)]
    have t := cpLog_p (σ := cpBook (cpBook (cpFleet σ g h) g h 6) g h 12) (g := g) (h := h) hgh
    rw [cpBook_g hgh, cpBook_g hgh, cpFleet_g hgh] at t
    exact t
  · rw [cpMarket_n0 (by decide), cpMarket_n0 (by decide), cpMarket_n0 (by decide), cpMarket_n0 (by decide)]
    have t := cpLog_t (σ := cpBook (cpBook (cpFleet σ g h) g h 6) g h 12) (g := g) (h := h) hgh a b
    rw [cpBook_g hgh, cpBook_g hgh, cpFleet_g hgh] at t
    exact t
end CP
/-! the invariant -/
def hix (σ : Mem) (i : Int) : Int := 3 + (σ 0 24 1 - σ 0 24 0 + i + 8) % 8
def blk (σ : Mem) (i : Int) : Int → Int := fun k => σ 0 45 (212 * i + k)
def HR (σ : Mem) (B : Int) : Prop := ∀ i : Int, 0 ≤ i → i < σ 0 24 0 → MR (σ (hix σ i)) (blk σ i) ∧ BD (blk σ i) B
def RJ (σ : Mem) : Prop := (σ 0 23 7 = -1 ∧ σ 0 40 11 = 0 ∧ σ 0 40 13 = 0) ∨ ((1 ≤ σ 0 23 7 ∧ σ 0 23 7 ≤ 6) ∧ σ 0 40 11 = σ 0 23 7 ∧ σ 0 40 12 = σ 0 23 8 ∧ σ 0 40 13 = 0) ∨ (σ 0 23 7 = 7 ∧ σ 0 40 11 = 7 ∧ σ 0 40 12 = σ 0 23 8 ∧ σ 0 40 13 = σ 0 23 9 ∧ 1 ≤ σ 0 23 9 ∧ σ 0 23 9 ≤ 6)
def INp (σ : Mem) : Prop := σ 0 26 1 = σ 0 40 10 ∧ (0 ≤ σ 0 26 1 ∧ σ 0 26 1 ≤ 60) ∧ ∀ k : Int, 0 ≤ k → k < σ 0 26 1 → σ 0 27 k = σ 0 46 k ∧ 32 ≤ σ 0 27 k ∧ σ 0 27 k ≤ 126
def OUp (σ : Mem) : Prop := σ 0 31 3 = σ 0 40 17 ∧ (0 ≤ σ 0 31 3 ∧ σ 0 31 3 ≤ σ 0 33 0 ∧ σ 0 31 3 ≤ 160) ∧ (16 ≤ σ 0 33 0 ∧ σ 0 33 0 ≤ 499) ∧ σ 0 31 1 = 0 ∧ ∀ k : Int, 0 ≤ k → (k < σ 0 31 3 → σ 0 32 k = σ 0 47 k) ∧ 0 ≤ σ 0 32 k ∧ σ 0 32 k < 128
def INV (σ : Mem) (B : Int) : Prop := Rng σ ∧ (MR (σ 0) (σ 0 41) ∧ BD (σ 0 41) B) ∧ SZ σ ∧ (∀ g : Int, 0 ≤ g → g < 11 → RZ (σ g)) ∧ (HI σ ∧ σ 0 40 6 = σ 0 24 0) ∧ HR σ B ∧ (σ 0 40 4 = σ 0 23 3 ∧ (σ 0 23 3 ≠ 0 → MR (σ 2) (σ 0 44) ∧ BD (σ 0 44) B)) ∧ RJ σ ∧ σ 0 40 7 = σ 0 23 10 ∧ INp σ ∧ OUp σ
section IV
variable {σ : Mem} {B : Int}
theorem INV.r (h : INV σ B) : Rng σ := h.1
theorem INV.m (h : INV σ B) : MR (σ 0) (σ 0 41) := h.2.1.1
theorem INV.b (h : INV σ B) : BD (σ 0 41) B := h.2.1.2
theorem INV.s (h : INV σ B) : SZ σ := h.2.2.1
theorem INV.z (h : INV σ B) : ∀ g : Int, 0 ≤ g → g < 11 → RZ (σ g) := h.2.2.2.1
theorem INV.hi (h : INV σ B) : HI σ := h.2.2.2.2.1.1
theorem INV.h6 (h : INV σ B) : σ 0 40 6 = σ 0 24 0 := h.2.2.2.2.1.2
theorem INV.hr (h : INV σ B) : HR σ B := h.2.2.2.2.2.1
theorem INV.sn (h : INV σ B) : σ 0 40 4 = σ 0 23 3 ∧ (σ 0 23 3 ≠ 0 → MR (σ 2) (σ 0 44) ∧ BD (σ 0 44) B) := h.2.2.2.2.2.2.1
theorem INV.rj (h : INV σ B) : RJ σ := h.2.2.2.2.2.2.2.1
theorem INV.se (h : INV σ B) : σ 0 40 7 = σ 0 23 10 := h.2.2.2.2.2.2.2.2.1
theorem INV.in_ (h : INV σ B) : INp σ := h.2.2.2.2.2.2.2.2.2.1
theorem INV.ou (h : INV σ B) : OUp σ := h.2.2.2.2.2.2.2.2.2.2
theorem hix_r (h : HI σ) (i : Int) : 3 ≤ hix σ i ∧ hix σ i < 11 := by
  unfold hix
  omega
/-- what a reading call leaves of it -/
theorem INV.view {σ' : Mem} {B' : Int} (h : INV σ B) (hB : B ≤ B') (hR : Rng σ') (hg : ∀ g : Int, 0 ≤ g → g < 11 → g ≠ 1 → ∀ j : Nat, j ≤ 22 → σ' g j = σ g j) (h1 : (0 ≤ σ' 1 6 0 ∧ σ' 1 6 0 ≤ 10) ∧ 0 ≤ σ' 1 12 0 ∧ σ' 1 12 0 ≤ 16) (hz : RZ (σ' 1))
    (hp : ∀ j : Nat, (j = 23 ∨ j = 24 ∨ j = 27 ∨ j = 31 ∨ j = 32 ∨ j = 33 ∨ j = 41 ∨ j = 44 ∨ j = 45 ∨ j = 46 ∨ j = 47) → σ' 0 j = σ 0 j) (h26 : σ' 0 26 1 = σ 0 26 1) (h40 : ∀ k : Int, (k = 4 ∨ k = 6 ∨ k = 7 ∨ k = 10 ∨ k = 11 ∨ k = 12 ∨ k = 13 ∨ k = 17) → σ' 0 40 k = σ 0 40 k) : INV σ' B' := by
  have p23 := hp 23 (by decide)
  have p24 := hp 24 (by decide)
  have p27 := hp 27 (by decide)
  have p31 := hp 31 (by decide)
  have p32 := hp 32 (by decide)
  have p33 := hp 33 (by decide)
  have p41 := hp 41 (by decide)
  have p44 := hp 44 (by decide)
  have p45 := hp 45 (by decide)
  have p46 := hp 46 (by decide)
  have p47 := hp 47 (by decide)
  have k4 := h40 4 (by decide)
  have k6 := h40 6 (by decide)
  have k7 := h40 7 (by decide)
  have k10 := h40 10 (by decide)
  have k11 := h40 11 (by decide)
  have k12 := h40 12 (by decide)
  have k13 := h40 13 (by decide)
  have k17 := h40 17 (by decide)
  have hx : ∀ i : Int, hix σ' i = hix σ i := fun i => by unfold hix; rw [p24]
  have hb : ∀ i : Int, blk σ' i = blk σ i := fun i => by unfold blk; rw [p45]
  refine ⟨hR, ⟨?_, ?_⟩, fun g g0 g1 => ?_, fun g g0 g1 => ?_, ⟨?_, ?_⟩, fun i i0 i1 => ?_, ⟨?_, fun hn => ?_⟩, ?_, ?_, ?_, ?_⟩
  · rw [p41]
    exact MR_same h.m (hg 0 (by decide) (by decide) (by decide)) (fun _ _ _ => rfl)
  · rw [p41]
    exact h.b.mono hB
  · by_cases e : g = 1
    · subst e
      exact h1
    · rw [hg g g0 g1 e 6 (by decide), hg g g0 g1 e 12 (by decide)]
      exact h.s g g0 g1
  · by_cases e : g = 1
    · subst e
      exact hz
    · intro k a b c
      rw [hg g g0 g1 e 0 (by decide)]
      exact h.z g g0 g1 k a b c
  · unfold HI
    rw [p24]
    exact h.hi
  · rw [k6, p24]
    exact h.h6
  · rw [hx, hb]
    rw [p24] at i1
    obtain ⟨a1, a2⟩ := h.hr i i0 i1
    have r := hix_r h.hi i
    exact ⟨MR_same a1 (hg _ (by omega) (by omega) (by omega)) (fun _ _ _ => rfl), a2.mono hB⟩
  · rw [k4, p23]
    exact h.sn.1
  · rw [p23] at hn
    obtain ⟨a1, a2⟩ := h.sn.2 hn
    rw [p44]
    exact ⟨MR_same a1 (hg 2 (by decide) (by decide) (by decide)) (fun _ _ _ => rfl), a2.mono hB⟩
  · unfold RJ
    rw [p23, k11, k12, k13]
    exact h.rj
  · rw [k7, p23]
    exact h.se
  · unfold INp
    rw [h26, k10, p27, p46]
    exact h.in_
  · unfold OUp
    rw [p31, p32, p33, p47, k17]
    exact h.ou
/-- behind a change: history grown -/
theorem INV_hist {σ' : Mem} {B' : Int} (h : INV σ B) (hB : B ≤ B') (hR : Rng σ') (hm : MR (σ' 0) (σ' 0 41)) (hb : BD (σ' 0 41) B') (hS : SZ σ') (hz : ∀ g : Int, 0 ≤ g → g < 11 → RZ (σ' g)) (hcp : MR (σ' (3 + σ 0 24 1)) (σ 0 41))
    (hg : ∀ g : Int, 2 ≤ g → g < 11 → g ≠ 3 + σ 0 24 1 → ∀ j : Nat, j ≤ 22 → σ' g j = σ g j) (h24 : σ' 0 24 0 = if 8 < σ 0 24 0 + 1 then 8 else σ 0 24 0 + 1) (h241 : σ' 0 24 1 = (σ 0 24 1 + 1) % 8) (h6 : σ' 0 40 6 = σ' 0 24 0)
    (h45 : (σ 0 24 0 < 8 → (∀ i k : Int, 0 ≤ i → i < σ 0 24 0 → 0 ≤ k → k < 212 → σ' 0 45 (212 * i + k) = σ 0 45 (212 * i + k)) ∧ ∀ k : Int, 0 ≤ k → k < 212 → σ' 0 45 (212 * σ 0 24 0 + k) = σ 0 41 k) ∧ (σ 0 24 0 = 8 → (∀ i k : Int, 0 ≤ i → i < 7 → 0 ≤ k → k < 212 → σ' 0 45 (212 * i + k) = σ 0 45 (212 * (i + 1) + k)) ∧ ∀ k : Int, 0 ≤ k → k < 212 → σ' 0 45 (212 * 7 + k) = σ 0 41 k))
    (hs : σ' 0 40 4 = σ 0 40 4 ∧ σ' 0 23 3 = σ 0 23 3 ∧ σ' 0 44 = σ 0 44) (hrj : RJ σ') (hse : σ' 0 40 7 = σ' 0 23 10) (hin : INp σ') (hou : OUp σ') : INV σ' B' := by
  have hh := h.hi
  have d := hh.1
  have n0 := hh.2.1
  have n1 := hh.2.2
  refine ⟨hR, ⟨hm, hb⟩, hS, hz, ⟨⟨?_, ?_⟩, h6⟩, fun i i0 i1 => ?_, ⟨?_, fun hn => ?_⟩, hrj, hse, hin, hou⟩
  · rw [h24]
    split <;> omega
  · rw [h241]
    omega
  · rw [h24] at i1
    by_cases d8 : σ 0 24 0 = 8
    · obtain ⟨x1, x2⟩ := h45.2 d8
      rw [if_pos (by omega)] at i1
      have hx : hix σ' i = 3 + (σ 0 24 1 + 1 + i) % 8 := by
        unfold hix
        rw [h241, h24, if_pos (by omega)]
        omega
      by_cases e : i = 7
      · subst e
        have hx7 : hix σ' 7 = 3 + σ 0 24 1 := by rw [hx]; omega
        rw [hx7]
        exact ⟨MR_same hcp (fun _ _ => rfl) (fun k a b => x2 k a b), BD_congr (h.b.mono hB) (fun k a b => x2 k a b)⟩
      · obtain ⟨a1, a2⟩ := h.hr (i + 1) (by omega) (by omega)
        have hxe : hix σ' i = hix σ (i + 1) := by
          rw [hx]
          unfold hix
          omega
        have r := hix_r hh (i + 1)
        have hne : hix σ (i + 1) ≠ 3 + σ 0 24 1 := by
          unfold hix
          omega
        rw [hxe]
        exact ⟨MR_same a1 (hg _ (by omega) (by omega) hne) (fun k a b => x1 i k i0 (by omega) a b), BD_congr (a2.mono hB) (fun k a b => x1 i k i0 (by omega) a b)⟩
    · obtain ⟨x1, x2⟩ := h45.1 (by omega)
      rw [if_neg (by omega)] at i1
      have hx : hix σ' i = 3 + (σ 0 24 1 - σ 0 24 0 + i + 8) % 8 := by
        unfold hix
        rw [h241, h24, if_neg (by omega)]
        omega
      by_cases e : i = σ 0 24 0
      · have hx7 : hix σ' i = 3 + σ 0 24 1 := by rw [hx, e]; omega
        rw [hx7, e]
        exact ⟨MR_same hcp (fun _ _ => rfl) (fun k a b => x2 k a b), BD_congr (h.b.mono hB) (fun k a b => x2 k a b)⟩
      · obtain ⟨a1, a2⟩ := h.hr i i0 (by omega)
        have hxe : hix σ' i = hix σ i := hx
        have r := hix_r hh i
        have hne : hix σ i ≠ 3 + σ 0 24 1 := by
          unfold hix
          omega
        rw [hxe]
        exact ⟨MR_same a1 (hg _ (by omega) (by omega) hne) (fun k a b => x1 i k i0 (by omega) a b), BD_congr (a2.mono hB) (fun k a b => x1 i k i0 (by omega) a b)⟩
  · rw [hs.1, hs.2.1]
    exact h.sn.1
  · rw [hs.2.1] at hn
    obtain ⟨a1, a2⟩ := h.sn.2 hn
    rw [hs.2.2]
    exact ⟨MR_same a1 (hg 2 (by decide) (by decide) (by omega)) (fun _ _ _ => rfl), a2.mono hB⟩
end IV
