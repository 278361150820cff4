/-! the class's market and the reference's block: what they share -/
def bRow (μ : MM) (k : Int) : Row := (μ 7 k, μ 8 k, μ 9 k, μ 10 k, μ 11 k)
def oRow (μ : MM) (k : Int) : Row := (μ 13 k, μ 14 k, μ 15 k, μ 16 k, μ 17 k)
def nbRow (ν : Int → Int) (k : Int) : Row := (ν (58 + 5 * k), ν (58 + 5 * k + 1), ν (58 + 5 * k + 2), ν (58 + 5 * k + 3), ν (58 + 5 * k + 4))
def noRow (ν : Int → Int) (k : Int) : Row := (ν (108 + 4 * k), ν (108 + 4 * k + 1), mgr ν (ν (108 + 4 * k + 1)), ν (108 + 4 * k + 2), ν (108 + 4 * k + 3))
abbrev AB (x y : Row) : Prop := y.2.2.2.1 < x.2.2.2.1 ∨ (x.2.2.2.1 = y.2.2.2.1 ∧ x.1 < y.1)
abbrev AO (x y : Row) : Prop := x.2.2.2.1 < y.2.2.2.1 ∨ (x.2.2.2.1 = y.2.2.2.1 ∧ (y.2.2.1 < x.2.2.1 ∨ (x.2.2.1 = y.2.2.1 ∧ x.1 < y.1)))
theorem AB_as (x y : Row) : AB x y → ¬ AB y x := fun h q => by
  unfold AB at h q
  omega
theorem AO_as (x y : Row) : AO x y → ¬ AO y x := fun h q => by
  unfold AO at h q
  omega
def RSc (μ : MM) (ν : Int → Int) : Prop := μ 1 0 = ν 0 ∧ μ 1 3 = ν 1 ∧ μ 6 0 = ν 2 ∧ μ 12 0 = ν 3 ∧ μ 6 1 = ν 4 ∧ μ 12 1 = ν 5 ∧ μ 0 4 = ν 6 ∧ μ 0 5 = ν 7 ∧ μ 18 0 = ν 8 ∧ μ 18 1 = ν 9 ∧ μ 0 7 = ν 10 ∧ μ 0 6 = ν 11 ∧ μ 0 8 = ν 12
def RSh (μ : MM) (ν : Int → Int) : Prop := ∀ s : Int, 0 ≤ s → s < ν 0 → μ 2 s = ν (14 + 2 * s) ∧ μ 3 s = ν (14 + 2 * s + 1)
def RBa (μ : MM) (ν : Int → Int) : Prop := ∀ b : Int, 0 ≤ b → b < ν 1 → μ 5 b = ν (26 + 2 * b) ∧ μ 4 b = ν (26 + 2 * b + 1)
def RTr (μ : MM) (ν : Int → Int) : Prop := ν 13 = (if ν 8 < 10 then ν 8 else 10) ∧ ∀ k : Int, 0 ≤ k → k < 10 → μ 19 k = ν (172 + 4 * k) ∧ μ 20 k = ν (172 + 4 * k + 1) ∧ μ 21 k = ν (172 + 4 * k + 2) ∧ μ 22 k = ν (172 + 4 * k + 3)
def RBi (μ : MM) (ν : Int → Int) : Prop := Bag (bRow μ) (nbRow ν) (ν 2) ∧ (∀ i j : Int, 0 ≤ i → i < j → j < ν 2 → AB (bRow μ i) (bRow μ j)) ∧ (∀ i j : Int, 0 ≤ i → i < j → j < ν 2 → ν (58 + 5 * i) < ν (58 + 5 * j)) ∧ ∀ k : Int, 0 ≤ k → k < ν 2 → 0 ≤ ν (58 + 5 * k) ∧ ν (58 + 5 * k) < ν 4
def ROf (μ : MM) (ν : Int → Int) : Prop := Bag (oRow μ) (noRow ν) (ν 3) ∧ (∀ i j : Int, 0 ≤ i → i < j → j < ν 3 → AO (oRow μ i) (oRow μ j)) ∧ (∀ i j : Int, 0 ≤ i → i < j → j < ν 3 → ν (108 + 4 * i) < ν (108 + 4 * j)) ∧ (∀ k : Int, 0 ≤ k → k < ν 3 → 0 ≤ ν (108 + 4 * k) ∧ ν (108 + 4 * k) < ν 5) ∧ ∀ i j : Int, 0 ≤ i → i < j → j < ν 3 → ν (108 + 4 * i + 1) ≠ ν (108 + 4 * j + 1)
def RRe (ν : Int → Int) : Prop := (∀ s : Int, 0 ≤ s → s < ν 0 → 0 ≤ mplaces ν s ∧ 0 ≤ ν (14 + 2 * s) - mres ν s) ∧ sumI (mcoinF ν) (ν 0) + ν 10 = ν 12
def RZ (μ : MM) : Prop := ∀ k : Int, 0 ≤ k → k < 10 → ¬ (4 ≤ k ∧ k ≤ 8) → μ 0 k = 0
def MR (μ : MM) (ν : Int → Int) : Prop := RSc μ ν ∧ RSh μ ν ∧ RBa μ ν ∧ RTr μ ν ∧ RBi μ ν ∧ ROf μ ν ∧ NI ν ∧ RRe ν ∧ RZ μ
theorem MR.sc {μ : MM} {ν : Int → Int} (h : MR μ ν) : RSc μ ν := h.1
theorem MR.sh {μ : MM} {ν : Int → Int} (h : MR μ ν) : RSh μ ν := h.2.1
theorem MR.ba {μ : MM} {ν : Int → Int} (h : MR μ ν) : RBa μ ν := h.2.2.1
theorem MR.tr {μ : MM} {ν : Int → Int} (h : MR μ ν) : RTr μ ν := h.2.2.2.1
theorem MR.bi {μ : MM} {ν : Int → Int} (h : MR μ ν) : RBi μ ν := h.2.2.2.2.1
theorem MR.of {μ : MM} {ν : Int → Int} (h : MR μ ν) : ROf μ ν := h.2.2.2.2.2.1
theorem MR.ni {μ : MM} {ν : Int → Int} (h : MR μ ν) : NI ν := h.2.2.2.2.2.2.1
theorem MR.re {μ : MM} {ν : Int → Int} (h : MR μ ν) : RRe ν := h.2.2.2.2.2.2.2.1
theorem MR.rz {μ : MM} {ν : Int → Int} (h : MR μ ν) : RZ μ := h.2.2.2.2.2.2.2.2
theorem row_1 {x y : Row} (h : x = y) : x.1 = y.1 := congrArg (fun z => z.1) h
theorem row_2 {x y : Row} (h : x = y) : x.2.1 = y.2.1 := congrArg (fun z => z.2.1) h
theorem row_3 {x y : Row} (h : x = y) : x.2.2.1 = y.2.2.1 := congrArg (fun z => z.2.2.1) h
theorem row_4 {x y : Row} (h : x = y) : x.2.2.2.1 = y.2.2.2.1 := congrArg (fun z => z.2.2.2.1) h
theorem row_5 {x y : Row} (h : x = y) : x.2.2.2.2 = y.2.2.2.2 := congrArg (fun z => z.2.2.2.2) h
theorem MR.mi {μ : MM} {ν : Int → Int} (h : MR μ ν) : MI μ := by
  obtain ⟨s0, s1, s2, s3, s4, s5, s6, s7, s8, s9, s10, s11, s12⟩ := h.sc
  have hN := h.ni
  have n0 := hN.n0
  have n1 := hN.n1
  have n2 := hN.n2
  have n3 := hN.n3
  refine ⟨⟨by omega, by omega, fun s a b => ?_, fun b a c => ?_⟩, by omega, by omega, fun k a b => ?_, fun k a b => ?_, fun k hk => ?_⟩
  · obtain ⟨e1, e2⟩ := h.sh s a (by omega)
    have := hN.sh s a (by omega)
    omega
  · obtain ⟨e1, e2⟩ := h.ba b a (by omega)
    have := hN.ba b a (by omega)
    omega
  · obtain ⟨j, j0, j1, e⟩ := h.bi.1.mem a (by omega)
    have := hN.bi j j0 j1
    have e2 : ν (58 + 5 * j + 1) = μ 8 k := row_2 e
    have e3 : ν (58 + 5 * j + 2) = μ 9 k := row_3 e
    have e4 : ν (58 + 5 * j + 3) = μ 10 k := row_4 e
    have e5 : ν (58 + 5 * j + 4) = μ 11 k := row_5 e
    rw [← e2, ← e3, ← e4, ← e5, s0]
    exact this
  · obtain ⟨j, j0, j1, e⟩ := h.of.1.mem a (by omega)
    have := hN.of j j0 j1
    have e2 : ν (108 + 4 * j + 1) = μ 14 k := row_2 e
    have e3 : mgr ν (ν (108 + 4 * j + 1)) = μ 15 k := row_3 e
    have e4 : ν (108 + 4 * j + 2) = μ 16 k := row_4 e
    have e5 : ν (108 + 4 * j + 3) = μ 17 k := row_5 e
    have g := hN.ba (ν (108 + 4 * j + 1)) this.1.1 this.1.2
    have g2 : 1 ≤ mgr ν (ν (108 + 4 * j + 1)) ∧ mgr ν (ν (108 + 4 * j + 1)) ≤ 9 := g.2
    rw [← e2, ← e3, ← e4, ← e5, s1]
    exact ⟨this.1, g2, this.2⟩
  · by_cases q : 4 ≤ k ∧ k ≤ 8
    · have c := fun i hi => hN.cr i hi
      have c6 := hN.cr 6 (by decide)
      have c7 := hN.cr 7 (by decide)
      have c10 := hN.cr 10 (by decide)
      have c11 := hN.cr 11 (by decide)
      have c12 := hN.cr 12 (by decide)
      have hk : k = 4 ∨ k = 5 ∨ k = 6 ∨ k = 7 ∨ k = 8 := by omega
      rcases hk with rfl | rfl | rfl | rfl | rfl
      · omega
      · omega
      · omega
      · omega
      · omega
    · rw [h.rz k hk.1 hk.2 q]
      decide
theorem fst_congr {P Q : Int → Prop} {n : Int} (h : ∀ k : Int, 0 ≤ k → k < n → (P k ↔ Q k)) : fst P n = fst Q n := by
  rcases fst_cases P n with q | q
  · rw [q.1, fst_no fun k a b z => q.2 k a b ((h k a b).mpr z)]
  · exact (fst_yes q.1 q.2.1 ((h _ q.1 q.2.1).mp q.2.2.1) fun j a b z => q.2.2.2 j a b ((h j a (by omega)).mpr z)).symm
/-! what is read alike -/
theorem MR.load {μ : MM} {ν : Int → Int} (h : MR μ ν) (s : Int) : loadOn μ s = mload ν s := by
  unfold loadOn mload
  rw [h.sc.2.1]
  refine sumI_congr fun k a b => ?_
  unfold loadF mloadF
  rw [(h.ba k a b).1]
theorem MR.cnt {μ : MM} {ν : Int → Int} (h : MR μ ν) (s : Int) : countB μ 6 s = sumI (mcntF ν s) (ν 2) := by
  unfold countB
  rw [h.sc.2.2.1]
  exact h.bi.1 (fun x => if x.2.1 = s then 1 else 0)
theorem MR.res {μ : MM} {ν : Int → Int} (h : MR μ ν) (s : Int) : psumB μ 6 s = mres ν s := by
  unfold psumB mres
  rw [h.sc.2.2.1]
  exact h.bi.1 (fun x => if x.2.1 = s then x.2.2.2.1 else 0)
theorem MR.places {μ : MM} {ν : Int → Int} (h : MR μ ν) {s : Int} (h0 : 0 ≤ s) (h1 : s < ν 0) : placesL μ s = mplaces ν s := by
  unfold placesL mplaces mcap
  rw [h.load, h.cnt, (h.sh s h0 h1).2]
theorem MR.coins {μ : MM} {ν : Int → Int} (h : MR μ ν) {s : Int} (h0 : 0 ≤ s) (h1 : s < ν 0) : coinsL μ s = ν (14 + 2 * s) - mres ν s := by
  unfold coinsL
  rw [h.res, (h.sh s h0 h1).1]
theorem MR.order {μ : MM} {ν : Int → Int} (h : MR μ ν) (s p : Int) : inOrder μ s p = mbarn ν s p := by
  unfold inOrder mbarn
  rw [h.sc.2.1]
  refine fst_congr fun b b0 b1 => ?_
  rw [(h.ba b b0 b1).1]
  refine and_congr_right fun hs => ?_
  unfold aheadB
  rw [h.sc.2.1]
  have e : sumI (aheadF μ b) (ν 1) = sumI (mbaF ν s b) (ν 1) := sumI_congr fun o o0 o1 => by
    unfold aheadF mbaF mgr
    rw [(h.ba b b0 b1).1, (h.ba b b0 b1).2, (h.ba o o0 o1).1, (h.ba o o0 o1).2, hs]
  rw [e]
theorem MR.wealth {μ : MM} {ν : Int → Int} (h : MR μ ν) {s : Int} (h0 : 0 ≤ s) (h1 : s < ν 0) : wealth μ s = mwealth ν s := by
  unfold Jvm.Pilot.CBarnacleExchangeLaw_law_r5470_f672a2.wealth mwealth
  rw [h.sc.2.1, (h.sh s h0 h1).1]
  congr 1
  refine sumI_congr fun k a b => ?_
  unfold wealthF mwealthF mgr
  rw [(h.ba k a b).1, (h.ba k a b).2]
theorem MR.byWealth {μ : MM} {ν : Int → Int} (h : MR μ ν) (p : Int) : shipInOrder μ p = mshipBy ν p := by
  unfold shipInOrder mshipBy
  rw [h.sc.1]
  refine fst_congr fun s s0 s1 => ?_
  unfold shipsAhead
  rw [h.sc.1]
  have e : sumI (saF μ s) (ν 0) = sumI (msaF ν s) (ν 0) := sumI_congr fun a a0 a1 => by
    unfold saF msaF
    rw [h.wealth s0 s1, h.wealth a0 a1, h.load s, h.load a]
  rw [e]
theorem MR.shipCoins {μ : MM} {ν : Int → Int} (h : MR μ ν) : shipCoins μ = sumI (mcoinF ν) (ν 0) := by
  unfold Jvm.Pilot.CBarnacleExchangeLaw_law_r5470_f672a2.shipCoins
  rw [h.sc.1]
  exact sumI_congr fun s a b => (h.sh s a b).1
theorem mono_inj {f : Int → Int} {n : Int} (h : ∀ i j : Int, 0 ≤ i → i < j → j < n → f i < f j) {i j : Int} (i0 : 0 ≤ i) (i1 : i < n) (j0 : 0 ≤ j) (j1 : j < n) (e : f i = f j) : i = j := by
  apply Classical.byContradiction
  intro q
  by_cases z : i < j
  · have := h i j i0 z j1
    omega
  · have := h j i j0 (by omega) i1
    omega
theorem MR.rowB {μ : MM} {ν : Int → Int} (h : MR μ ν) (i : Int) : (rowId μ 6 i = -1 ↔ mplB ν i = -1) ∧ (mplB ν i ≠ -1 → bRow μ (rowId μ 6 i) = nbRow ν (mplB ν i)) := by
  have e : rowId μ 6 i = fst (fun k => (fun x : Row => x.1 = i) (bRow μ k)) (ν 2) := by
    unfold rowId
    rw [h.sc.2.2.1]
    rfl
  have e2 : mplB ν i = fst (fun k => (fun x : Row => x.1 = i) (nbRow ν k)) (ν 2) := rfl
  rw [e, e2]
  refine ⟨bag_fst_no (P := fun x : Row => x.1 = i) h.bi.1, fun q => (bag_fst_eq (P := fun x : Row => x.1 = i) h.bi.1.symm ?_ q).symm⟩
  intro a b a0 a1 b0 b1 ha hb
  have : a = b := mono_inj h.bi.2.2.1 a0 a1 b0 b1 (Eq.trans ha (Eq.symm hb))
  rw [this]
theorem MR.rowO {μ : MM} {ν : Int → Int} (h : MR μ ν) (i : Int) : (rowId μ 12 i = -1 ↔ mplO ν i = -1) ∧ (mplO ν i ≠ -1 → oRow μ (rowId μ 12 i) = noRow ν (mplO ν i)) := by
  have e : rowId μ 12 i = fst (fun k => (fun x : Row => x.1 = i) (oRow μ k)) (ν 3) := by
    unfold rowId
    rw [h.sc.2.2.2.1]
    rfl
  have e2 : mplO ν i = fst (fun k => (fun x : Row => x.1 = i) (noRow ν k)) (ν 3) := rfl
  rw [e, e2]
  refine ⟨bag_fst_no (P := fun x : Row => x.1 = i) h.of.1, fun q => (bag_fst_eq (P := fun x : Row => x.1 = i) h.of.1.symm ?_ q).symm⟩
  intro a b a0 a1 b0 b1 ha hb
  have : a = b := mono_inj h.of.2.2.1 a0 a1 b0 b1 (Eq.trans ha (Eq.symm hb))
  rw [this]
theorem own_inj {ν : Int → Int} {n : Int} (h : ∀ i j : Int, 0 ≤ i → i < j → j < n → ν (108 + 4 * i + 1) ≠ ν (108 + 4 * j + 1)) {i j : Int} (i0 : 0 ≤ i) (i1 : i < n) (j0 : 0 ≤ j) (j1 : j < n) (e : ν (108 + 4 * i + 1) = ν (108 + 4 * j + 1)) : i = j := by
  apply Classical.byContradiction
  intro q
  by_cases z : i < j
  · exact h i j i0 z j1 e
  · exact h j i j0 (by omega) i1 e.symm
theorem MR.ownO {μ : MM} {ν : Int → Int} (h : MR μ ν) (b : Int) : (rowOwn μ 12 b = -1 ↔ mofferFor ν b = -1) ∧ (mofferFor ν b ≠ -1 → oRow μ (rowOwn μ 12 b) = noRow ν (mofferFor ν b)) := by
  have e : rowOwn μ 12 b = fst (fun k => (fun x : Row => x.2.1 = b) (oRow μ k)) (ν 3) := by
    unfold rowOwn
    rw [h.sc.2.2.2.1]
    rfl
  have e2 : mofferFor ν b = fst (fun k => (fun x : Row => x.2.1 = b) (noRow ν k)) (ν 3) := rfl
  rw [e, e2]
  refine ⟨bag_fst_no (P := fun x : Row => x.2.1 = b) h.of.1, fun q => (bag_fst_eq (P := fun x : Row => x.2.1 = b) h.of.1.symm ?_ q).symm⟩
  intro i j i0 i1 j0 j1 ha hb
  have : i = j := own_inj h.of.2.2.2.2 i0 i1 j0 j1 (Eq.trans ha (Eq.symm hb))
  rw [this]
theorem MR.rankB {μ : MM} {ν : Int → Int} (h : MR μ ν) {r : Int} (r0 : 0 ≤ r) (r1 : r < ν 2) : mbRank ν r ≠ -1 ∧ nbRow ν (mbRank ν r) = bRow μ r :=
  rank_at (A := AB) h.bi.1 h.bi.2.1 AB_as r0 r1
theorem MR.rankB_no {μ : MM} {ν : Int → Int} (h : MR μ ν) {r : Int} (hr : ¬ (0 ≤ r ∧ r < ν 2)) : mbRank ν r = -1 :=
  rank_none (A := AB) h.bi.1 h.bi.2.1 AB_as hr
theorem MR.rankO {μ : MM} {ν : Int → Int} (h : MR μ ν) {r : Int} (r0 : 0 ≤ r) (r1 : r < ν 3) : moRank ν r ≠ -1 ∧ noRow ν (moRank ν r) = oRow μ r :=
  rank_at (A := AO) h.of.1 h.of.2.1 AO_as r0 r1
theorem MR.rankO_no {μ : MM} {ν : Int → Int} (h : MR μ ν) {r : Int} (hr : ¬ (0 ≤ r ∧ r < ν 3)) : moRank ν r = -1 :=
  rank_none (A := AO) h.of.1 h.of.2.1 AO_as hr
/-- the reference's search for the best -/
theorem mbest_spec {ν : Int → Int} {b : Int} : ∀ n : Nat, (mbestN ν b n = -1 ∧ ∀ k : Int, 0 ≤ k → k < n → ¬ mfits ν k b) ∨ (0 ≤ mbestN ν b n ∧ mbestN ν b n < n ∧ mfits ν (mbestN ν b n) b ∧ ∀ k : Int, 0 ≤ k → k < n → mfits ν k b → k = mbestN ν b n ∨ ¬ AO (noRow ν k) (noRow ν (mbestN ν b n)))
  | 0 => Or.inl ⟨rfl, fun k a c => by omega⟩
  | n + 1 => by
    have ih := mbest_spec (ν := ν) (b := b) n
    rw [mbestN]
    unfold mbestS
    split
    · rename_i q
      refine Or.inr ⟨by omega, by omega, q.1, fun k a c hk => ?_⟩
      by_cases e : k = n
      · exact Or.inl e
      · refine Or.inr fun z => ?_
        rcases ih with ⟨i1, i2⟩ | ⟨i1, i2, i3, i4⟩
        · exact i2 k a (by omega) hk
        · have q2 : AO (noRow ν n) (noRow ν (mbestN ν b n)) := by
            rcases q.2 with w | w
            · omega
            · exact w
          rcases i4 k a (by omega) hk with w | w
          · rw [w] at z
            exact AO_as _ _ z q2
          · apply w
            unfold AO at z q2 ⊢
            omega
    · rename_i q
      rcases ih with ⟨i1, i2⟩ | ⟨i1, i2, i3, i4⟩
      · refine Or.inl ⟨i1, fun k a c hk => ?_⟩
        by_cases e : k = n
        · subst e
          exact q ⟨hk, Or.inl i1⟩
        · exact i2 k a (by omega) hk
      · refine Or.inr ⟨i1, by omega, i3, fun k a c hk => ?_⟩
        by_cases e : k = n
        · subst e
          exact Or.inr fun z => q ⟨hk, Or.inr z⟩
        · exact i4 k a (by omega) hk
/-- the class's match and the reference's: none, or offers alike -/
theorem MR.mat {μ : MM} {ν : Int → Int} (h : MR μ ν) {b c : Int} (e : bRow μ b = nbRow ν c) : (matchO μ b = -1 ↔ mmatch ν c = -1) ∧ (mmatch ν c ≠ -1 → oRow μ (matchO μ b) = noRow ν (mmatch ν c)) ∧ (mmatch ν c ≠ -1 → 0 ≤ mmatch ν c ∧ mmatch ν c < ν 3 ∧ mfits ν (mmatch ν c) c) := by
  have n3 := h.ni.n3
  have e2 : μ 8 b = ν (58 + 5 * c + 1) := row_2 e
  have e3 : μ 9 b = ν (58 + 5 * c + 2) := row_3 e
  have e4 : μ 10 b = ν (58 + 5 * c + 3) := row_4 e
  have fitE : ∀ o k : Int, 0 ≤ k → k < ν 3 → oRow μ o = noRow ν k → (fitP μ o b ↔ mfits ν k c) := by
    intro o k k0 k1 eo
    have o2 : μ 14 o = ν (108 + 4 * k + 1) := row_2 eo
    have o3 : μ 15 o = mgr ν (ν (108 + 4 * k + 1)) := row_3 eo
    have o4 : μ 16 o = ν (108 + 4 * k + 2) := row_4 eo
    have hk := h.ni.of k k0 k1
    unfold fitP mfits
    rw [o2, o3, o4, e2, e3, e4, (h.ba _ hk.1.1 hk.1.2).1]
  have hs := mbest_spec (ν := ν) (b := c) (ν 3).toNat
  have hm : matchO μ b = fst (fun o => fitP μ o b) (ν 3) := by
    unfold matchO
    rw [h.sc.2.2.2.1]
  rw [hm]
  unfold mmatch
  rcases hs with ⟨i1, i2⟩ | ⟨i1, i2, i3, i4⟩
  · rw [i1]
    refine ⟨⟨fun _ => rfl, fun _ => fst_no fun o o0 o1 ho => ?_⟩, fun q => absurd rfl q, fun q => absurd rfl q⟩
    obtain ⟨k, k0, k1, ek⟩ := h.of.1.mem o0 o1
    exact i2 k k0 (by omega) ((fitE o k k0 k1 ek.symm).mp ho)
  · generalize mbestN ν c (ν 3).toNat = w at i1 i2 i3 i4 ⊢
    obtain ⟨o, o0, o1, eo⟩ := h.of.1.symm.mem i1 (by omega : w < ν 3)
    have hfo : fitP μ o b := (fitE o w i1 (by omega) eo).mpr i3
    have hne : fst (fun o => fitP μ o b) (ν 3) ≠ -1 := fun q => fst_nn q o o0 o1 hfo
    refine ⟨⟨fun q => absurd q hne, fun q => by omega⟩, fun _ => ?_, fun _ => ⟨i1, by omega, i3⟩⟩
    obtain ⟨f0, f1, f2, f3⟩ := fst_in hne
    generalize fst (fun o => fitP μ o b) (ν 3) = r at f0 f1 f2 f3 ⊢
    obtain ⟨k, k0, k1, ek⟩ := h.of.1.mem f0 f1
    rcases i4 k k0 (by omega) ((fitE r k k0 k1 ek.symm).mp f2) with z | z
    · rw [← z]
      exact ek.symm
    · rw [ek, ← eo] at z
      by_cases q1 : r < o
      · exact absurd (h.of.2.1 r o f0 q1 o1) z
      · by_cases q2 : r = o
        · rw [q2]
          exact eo
        · exact absurd hfo (f3 o o0 (by omega))
/-- the class's two ways to match agree -/
theorem best_spec {μ : MM} {b : Int} : ∀ n : Nat, (bestN μ b n = -1 ∧ ∀ k : Int, 0 ≤ k → k < n → rowOwn μ 12 k ≠ -1 → ¬ fitP μ (rowOwn μ 12 k) b) ∨ (∃ k0 : Int, 0 ≤ k0 ∧ k0 < n ∧ bestN μ b n = rowOwn μ 12 k0 ∧ bestN μ b n ≠ -1 ∧ fitP μ (bestN μ b n) b ∧ ∀ k : Int, 0 ≤ k → k < n → rowOwn μ 12 k ≠ -1 → fitP μ (rowOwn μ 12 k) b → k = k0 ∨ ¬ oAhead μ (rowOwn μ 12 k) (bestN μ b n))
  | 0 => Or.inl ⟨rfl, fun k a c => by omega⟩
  | n + 1 => by
    have ih := best_spec (μ := μ) (b := b) n
    rw [bestN]
    unfold bestStep
    split
    · rename_i q
      refine Or.inr ⟨n, by omega, by omega, rfl, q.1, q.2.1, fun k a c hk hf => ?_⟩
      by_cases e : k = n
      · exact Or.inl e
      · refine Or.inr fun z => ?_
        rcases ih with ⟨i1, i2⟩ | ⟨k0, a0, a1, a2, a3, i3, i4⟩
        · exact i2 k a (by omega) hk hf
        · have q2 : oAhead μ (rowOwn μ 12 n) (bestN μ b n) := by
            rcases q.2.2 with w | w
            · exact absurd w a3
            · exact w
          rcases i4 k a (by omega) hk hf with w | w
          · rw [w, ← a2] at z
            unfold oAhead at z q2
            omega
          · apply w
            unfold oAhead at z q2 ⊢
            omega
    · rename_i q
      rcases ih with ⟨i1, i2⟩ | ⟨k0, a0, a1, a2, a3, i3, i4⟩
      · refine Or.inl ⟨i1, fun k a c hk hf => ?_⟩
        by_cases e : k = n
        · subst e
          exact q ⟨hk, hf, Or.inl i1⟩
        · exact i2 k a (by omega) hk hf
      · refine Or.inr ⟨k0, a0, by omega, a2, a3, i3, fun k a c hk hf => ?_⟩
        by_cases e : k = n
        · subst e
          exact Or.inr fun z => q ⟨hk, hf, Or.inr z⟩
        · exact i4 k a (by omega) hk hf
theorem MR.own_row {μ : MM} {ν : Int → Int} (h : MR μ ν) {o : Int} (o0 : 0 ≤ o) (o1 : o < ν 3) : rowOwn μ 12 (μ 14 o) = o := by
  have s3 := h.sc.2.2.2.1
  refine fst_yes o0 (by omega) rfl fun j j0 j1 hj => ?_
  have hj : μ 14 j = μ 14 o := hj
  obtain ⟨k, k0, k1, ek⟩ := h.of.1.mem o0 o1
  obtain ⟨i, i0, i1, ei⟩ := h.of.1.mem j0 (by omega : j < ν 3)
  have e1 : ν (108 + 4 * k + 1) = μ 14 o := row_2 ek
  have e2 : ν (108 + 4 * i + 1) = μ 14 j := row_2 ei
  have : i = k := own_inj h.of.2.2.2.2 i0 i1 k0 k1 (by omega)
  subst this
  have := h.of.2.1 j o j0 j1 o1
  rw [← ei, ← ek] at this
  exact AO_as _ _ this this
theorem MR.best {μ : MM} {ν : Int → Int} (h : MR μ ν) (b : Int) : bestAB μ b = matchO μ b := by
  have s3 := h.sc.2.2.2.1
  have s1 := h.sc.2.1
  have n1 := h.ni.n1
  have hmi := h.mi
  unfold bestAB
  have hs := best_spec (μ := μ) (b := b) (μ 1 3).toNat
  rcases fst_cases (fun o => fitP μ o b) (μ 12 0) with ⟨q1, q2⟩ | ⟨q1, q2, q3, q4⟩
  · rcases hs with ⟨i1, i2⟩ | ⟨k0, a0, a1, a2, a3, i3, i4⟩
    · rw [i1]
      exact q1.symm
    · exfalso
      obtain ⟨f0, f1, -⟩ := fst_in (P := fun k => μ 14 k = k0) (n := μ 12 0) (by rw [a2] at a3; exact a3)
      exact q2 _ f0 f1 (by rw [a2] at i3; exact i3)
  · show _ = fst (fun o => fitP μ o b) (μ 12 0)
    generalize fst (fun o => fitP μ o b) (μ 12 0) = r at q1 q2 q3 q4 ⊢
    have hr := hmi.oo r q1 q2
    have hro := h.own_row q1 (by omega)
    rcases hs with ⟨i1, i2⟩ | ⟨k0, a0, a1, a2, a3, i3, i4⟩
    · exact absurd q3 (by have := i2 (μ 14 r) hr.1.1 (by omega); rw [hro] at this; exact this (by omega))
    · obtain ⟨f0, f1, -⟩ := fst_in (P := fun k => μ 14 k = k0) (n := μ 12 0) (by rw [a2] at a3; exact a3)
      have f0 : 0 ≤ rowOwn μ 12 k0 := f0
      have f1 : rowOwn μ 12 k0 < μ 12 0 := f1
      rw [a2] at i3 i4 ⊢
      generalize hw : rowOwn μ 12 k0 = w at f0 f1 i3 i4 ⊢
      have h4 := i4 (μ 14 r) hr.1.1 (by omega) (by rw [hro]; omega) (by rw [hro]; exact q3)
      rw [hro] at h4
      rcases h4 with z | z
      · rw [← z, hro] at hw
        exact hw.symm
      · by_cases w1 : r < w
        · exact absurd (h.of.2.1 r w q1 w1 (by omega)) z
        · by_cases w2 : r = w
          · exact w2.symm
          · exact absurd i3 (q4 w f0 (by omega))
