/-! the relation is kept: a trade -/
theorem mres_0 {ν : Int → Int} (h : NI ν) (s : Int) : 0 ≤ mres ν s := sumI_ge0r fun k a b => by
  have := h.bi k a b
  unfold mresF
  split <;> omega
set_option maxHeartbeats 4000000 in
/-- coins, a barnacle and the list of trades -/
theorem MR_trade {μ μ' : MM} {ν ν' : Int → Int} (h : MR μ ν) {y s k p f : Int} (hy : 0 ≤ y ∧ y < ν 0) (hk : 0 ≤ k ∧ k < ν 1) (hs : ν (26 + 2 * k) = s) (hne : s ≠ y) (hp : 0 ≤ p ∧ p ≤ 99) (hf : 0 ≤ f ∧ f ≤ p) (hpl : 1 ≤ mplaces ν y) (hco : p ≤ ν (14 + 2 * y) - mres ν y) (hg8 : ν 8 ≤ 90000000) (hg9 : ν 9 ≤ 90000000)
    (mj : ∀ j : Nat, j ≠ 0 → j ≠ 2 → j ≠ 5 → ¬ (18 ≤ j ∧ j ≤ 22) → μ' j = μ j) (m0 : ∀ z : Int, z ≠ 7 → μ' 0 z = μ 0 z) (m07 : μ' 0 7 = μ 0 7 + f)
    (m2 : ∀ z : Int, z ≠ y → z ≠ s → μ' 2 z = μ 2 z) (m2y : μ' 2 y = μ 2 y - p) (m2s : μ' 2 s = μ 2 s + (p - f)) (m5 : ∀ z : Int, z ≠ k → μ' 5 z = μ 5 z) (m5k : μ' 5 k = y) (m18 : μ' 18 0 = μ 18 0 + 1 ∧ μ' 18 1 = μ 18 1 + p)
    (mt : ∀ z : Int, 0 ≤ z → z < 10 → μ' 19 z = (if z = 0 then y else μ 19 (z - 1)) ∧ μ' 20 z = (if z = 0 then s else μ 20 (z - 1)) ∧ μ' 21 z = (if z = 0 then k else μ 21 (z - 1)) ∧ μ' 22 z = (if z = 0 then p else μ 22 (z - 1)))
    (nk : ∀ z : Int, ¬ (z = 8 ∨ z = 9 ∨ z = 10 ∨ z = 13) → z ≠ 14 + 2 * y → z ≠ 14 + 2 * s → z ≠ 26 + 2 * k → ¬ (172 ≤ z ∧ z < 212) → ν' z = ν z) (n8 : ν' 8 = ν 8 + 1) (n9 : ν' 9 = ν 9 + p) (n10 : ν' 10 = ν 10 + f) (n13 : ν' 13 = if ν 13 + 1 < 10 then ν 13 + 1 else 10)
    (ny : ν' (14 + 2 * y) = ν (14 + 2 * y) - p) (nsl : ν' (14 + 2 * s) = ν (14 + 2 * s) + (p - f)) (nh : ν' (26 + 2 * k) = y)
    (nt : ∀ z : Int, 0 ≤ z → z < 10 → ν' (172 + 4 * z) = (if z = 0 then y else ν (172 + 4 * (z - 1))) ∧ ν' (172 + 4 * z + 1) = (if z = 0 then s else ν (172 + 4 * (z - 1) + 1)) ∧ ν' (172 + 4 * z + 2) = (if z = 0 then k else ν (172 + 4 * (z - 1) + 2)) ∧ ν' (172 + 4 * z + 3) = (if z = 0 then p else ν (172 + 4 * (z - 1) + 3))) : MR μ' ν' := by
  obtain ⟨s0, s1, s2, s3, s4, s5, s6, s7, s8, s9, s10, s11, s12⟩ := h.sc
  have hN := h.ni
  have q0 := hN.n0
  have q1 := hN.n1
  have q2 := hN.n2
  have q3 := hN.n3
  have hbk := hN.ba k hk.1 hk.2
  have hsr : 0 ≤ s ∧ s < ν 0 := by omega
  have n58 : ∀ z : Int, 58 ≤ z → z < 172 → ν' z = ν z := fun z a1 a2 => nk z (by omega) (by omega) (by omega) (by omega) (by omega)
  have nlo : ∀ z : Int, z ≤ 13 → ¬ (z = 8 ∨ z = 9 ∨ z = 10 ∨ z = 13) → ν' z = ν z := fun z a1 a2 => nk z a2 (by omega) (by omega) (by omega) (by omega)
  have ncap : ∀ t : Int, 0 ≤ t → t < ν 0 → ν' (14 + 2 * t + 1) = ν (14 + 2 * t + 1) := fun t a1 a2 => nk _ (by omega) (by omega) (by omega) (by omega) (by omega)
  have nco : ∀ t : Int, 0 ≤ t → t < ν 0 → t ≠ y → t ≠ s → ν' (14 + 2 * t) = ν (14 + 2 * t) := fun t a1 a2 a3 a4 => nk _ (by omega) (by omega) (by omega) (by omega) (by omega)
  have ngr : ∀ t : Int, 0 ≤ t → t < ν 1 → ν' (26 + 2 * t + 1) = ν (26 + 2 * t + 1) := fun t a1 a2 => nk _ (by omega) (by omega) (by omega) (by omega) (by omega)
  have nho : ∀ t : Int, 0 ≤ t → t < ν 1 → t ≠ k → ν' (26 + 2 * t) = ν (26 + 2 * t) := fun t a1 a2 a3 => nk _ (by omega) (by omega) (by omega) (by omega) (by omega)
  have e0 := nlo 0 (by decide) (by decide)
  have e1 := nlo 1 (by decide) (by decide)
  have e2 := nlo 2 (by decide) (by decide)
  have e3 := nlo 3 (by decide) (by decide)
  have e4 := nlo 4 (by decide) (by decide)
  have e5 := nlo 5 (by decide) (by decide)
  have e6 := nlo 6 (by decide) (by decide)
  have e7 := nlo 7 (by decide) (by decide)
  have e11 := nlo 11 (by decide) (by decide)
  have e12 := nlo 12 (by decide) (by decide)
  have ec : ∀ t : Int, sumI (mcntF ν' t) (ν' 2) = sumI (mcntF ν t) (ν 2) := fun t => mcnt_congr t e2 fun b a1 a2 => n58 _ (by omega) (by omega)
  have er : ∀ t : Int, mres ν' t = mres ν t := fun t => mres_congr t e2 fun b a1 a2 => ⟨n58 _ (by omega) (by omega), n58 _ (by omega) (by omega)⟩
  have el : ∀ t : Int, mload ν' t = mload ν t + ((if y = t then 1 else 0) - (if s = t then 1 else 0)) := fun t => by
    unfold mload
    rw [e1]
    refine sumI_one hk.1 hk.2 (fun z a1 a2 a3 => ?_) ?_
    · unfold mloadF
      rw [nho z a1 a2 a3]
    · unfold mloadF
      rw [nh, hs]
      omega
  have hmy := mres_0 hN y
  have hc0 : ∀ t : Int, 0 ≤ t → t < ν 0 → 0 ≤ ν' (14 + 2 * t) := fun t a1 a2 => by
    have ht := (hN.sh t a1 a2).1.1
    by_cases c1 : t = y
    · rw [c1, ny]
      omega
    · by_cases c2 : t = s
      · subst c2
        rw [nsl]
        omega
      · rw [nco t a1 a2 c1 c2]
        exact ht
  have hsum : sumI (mcoinF ν') (ν 0) = sumI (mcoinF ν) (ν 0) - f := by
    have a1 : sumI (fun t => if t = y then ν (14 + 2 * y) - p else mcoinF ν t) (ν 0) = sumI (mcoinF ν) (ν 0) + (- p) := by
      refine sumI_one hy.1 hy.2 (fun z b1 b2 b3 => if_neg b3) ?_
      rw [if_pos rfl]
      rfl
    have a2 : sumI (mcoinF ν') (ν 0) = sumI (fun t => if t = y then ν (14 + 2 * y) - p else mcoinF ν t) (ν 0) + (p - f) := by
      refine sumI_one hsr.1 hsr.2 (fun z b1 b2 b3 => ?_) ?_
      · by_cases c1 : z = y
        · rw [if_pos c1, c1]
          exact ny
        · rw [if_neg c1]
          exact nco z b1 b2 c1 b3
      · rw [if_neg hne]
        exact nsl
    omega
  have hre := h.re.2
  have c10 := hN.cr 10 (by decide)
  have c12 := hN.cr 12 (by decide)
  have c8 := hN.cr 8 (by decide)
  have c9 := hN.cr 9 (by decide)
  refine ⟨?_, ?_, ?_, ?_, ?_, ?_, ?_, ?_, ?_⟩
  · rw [RSc, mj 1 (by decide) (by decide) (by decide) (by decide), mj 6 (by decide) (by decide) (by decide) (by decide), mj 12 (by decide) (by decide) (by decide) (by decide), m0 4 (by decide), m0 5 (by decide), m0 6 (by decide), m0 8 (by decide)]
    omega
  · intro t a1 a2
    have ht := h.sh t a1 (by omega)
    rw [mj 3 (by decide) (by decide) (by decide) (by decide), ncap t a1 (by omega)]
    refine ⟨?_, ht.2⟩
    by_cases c1 : t = y
    · subst c1
      rw [m2y, ny, ht.1]
    · by_cases c2 : t = s
      · subst c2
        rw [m2s, nsl, ht.1]
      · rw [m2 t c1 c2, nco t a1 (by omega) c1 c2]
        exact ht.1
  · intro b a1 a2
    have hb := h.ba b a1 (by omega)
    rw [mj 4 (by decide) (by decide) (by decide) (by decide), ngr b a1 (by omega)]
    refine ⟨?_, hb.2⟩
    by_cases c1 : b = k
    · subst c1
      rw [m5k, nh]
    · rw [m5 b c1, nho b a1 (by omega) c1]
      exact hb.1
  · have ht := h.tr
    refine ⟨?_, fun z a1 a2 => ?_⟩
    · rw [n13, n8, ht.1]
      split <;> split <;> (try split) <;> omega
    · obtain ⟨t1, t2, t3, t4⟩ := nt z a1 a2
      obtain ⟨u1, u2, u3, u4⟩ := mt z a1 a2
      rw [t1, t2, t3, t4, u1, u2, u3, u4]
      by_cases c : z = 0
      · rw [if_pos c, if_pos c, if_pos c, if_pos c, if_pos c, if_pos c, if_pos c, if_pos c]
        exact ⟨rfl, rfl, rfl, rfl⟩
      · rw [if_neg c, if_neg c, if_neg c, if_neg c, if_neg c, if_neg c, if_neg c, if_neg c]
        exact ht.2 (z - 1) (by omega) (by omega)
  · exact h.bi.congr q2.2 (fun j a1 a2 => mj j (by omega) (by omega) (by omega) (by omega)) (fun z a1 a2 => n58 z a1 (by omega)) e2 e4
  · exact h.of.congr hN (fun j a1 a2 => mj j (by omega) (by omega) (by omega) (by omega)) (fun z a1 a2 => n58 z (by omega) a2) ngr e3 e5
  · refine NI.mk' (by omega) (by omega) (by omega) (by omega) (fun z hz => ?_) (fun t a1 a2 => ?_) (fun b a1 a2 => ?_) (hN.nbi.congr q2.2 (by omega) e2 (fun z a1 a2 => n58 z a1 (by omega))) (hN.nof.congr q3.2 (by omega) e3 (fun z a1 a2 => n58 z (by omega) a2))
    · have cz := hN.cr z hz
      have hge := sumI_ge0r (f := mcoinF ν') (n := ν 0) hc0
      by_cases c : z = 8 ∨ z = 9 ∨ z = 10 ∨ z = 13
      · have hz13 := h.tr.1
        rcases c with rfl | rfl | rfl | rfl
        · omega
        · omega
        · omega
        · rw [n13]
          split <;> omega
      · rw [nlo z (by omega) c]
        exact cz
    · have hge := sumI_ger (f := mcoinF ν') (n := ν 0) hc0 a1 (by omega : t < ν 0)
      have hge : ν' (14 + 2 * t) ≤ sumI (mcoinF ν') (ν 0) := hge
      have := hc0 t a1 (by omega)
      rw [ncap t a1 (by omega)]
      have ht := hN.sh t a1 (by omega)
      exact ⟨⟨this, by omega⟩, ht.2⟩
    · have hb := hN.ba b a1 (by omega)
      rw [ngr b a1 (by omega), e0]
      refine ⟨?_, hb.2⟩
      by_cases c1 : b = k
      · subst c1
        rw [nh]
        exact hy
      · rw [nho b a1 (by omega) c1]
        exact hb.1
  · refine ⟨fun t a1 a2 => ?_, by rw [e0, n10, e12]; omega⟩
    have hr := h.re.1 t a1 (by omega)
    unfold mplaces mcap at hr hpl ⊢
    rw [el, ec, er, ncap t a1 (by omega)]
    by_cases c1 : y = t
    · subst c1
      rw [if_pos rfl, if_neg hne, ny]
      omega
    · by_cases c2 : s = t
      · subst c2
        rw [if_neg c1, if_pos rfl, nsl]
        omega
      · rw [if_neg c1, if_neg c2, nco t a1 (by omega) (fun z => c1 z.symm) (fun z => c2 z.symm)]
        omega
  · intro z a1 a2 a3
    rw [m0 z (by omega)]
    exact h.rz z a1 a2 a3
set_option maxHeartbeats 4000000 in
/-- a trade, its bid and its offer gone -/
theorem MR_deal {μ μ' : MM} {ν ν' : Int → Int} (h : MR μ ν) {b x o w y k s p f : Int} (b0 : 0 ≤ b) (b1 : b < ν 2) (x0 : 0 ≤ x) (x1 : x < ν 2) (hbx : bRow μ b = nbRow ν x) (o0 : 0 ≤ o) (o1 : o < ν 3) (w0 : 0 ≤ w) (w1 : w < ν 3) (how : oRow μ o = noRow ν w) (hfit : mfits ν w x) (hg8 : ν 8 ≤ 90000000) (hg9 : ν 9 ≤ 90000000)
    (hy : y = ν (58 + 5 * x + 1)) (hk : k = ν (108 + 4 * w + 1)) (hs : s = ν (26 + 2 * k)) (hp : p = (ν (58 + 5 * x + 3) + ν (108 + 4 * w + 2)) / 2) (hf : f = if p < ν 6 then p else ν 6)
    (mj : ∀ j : Nat, j ≠ 0 → j ≠ 2 → j ≠ 5 → ¬ (6 ≤ j ∧ j ≤ 22) → μ' j = μ j) (m0 : ∀ z : Int, z ≠ 7 → μ' 0 z = μ 0 z) (m07 : μ' 0 7 = μ 0 7 + f)
    (m2 : ∀ z : Int, z ≠ y → z ≠ s → μ' 2 z = μ 2 z) (m2y : μ' 2 y = μ 2 y - p) (m2s : μ' 2 s = μ 2 s + (p - f)) (m5 : ∀ z : Int, z ≠ k → μ' 5 z = μ 5 z) (m5k : μ' 5 k = y) (m18 : μ' 18 0 = μ 18 0 + 1 ∧ μ' 18 1 = μ 18 1 + p)
    (mt : ∀ z : Int, 0 ≤ z → z < 10 → μ' 19 z = (if z = 0 then y else μ 19 (z - 1)) ∧ μ' 20 z = (if z = 0 then s else μ 20 (z - 1)) ∧ μ' 21 z = (if z = 0 then k else μ 21 (z - 1)) ∧ μ' 22 z = (if z = 0 then p else μ 22 (z - 1)))
    (m60 : μ' 6 0 = μ 6 0 - 1) (m61 : μ' 6 1 = μ 6 1) (mrb : ∀ z : Int, bRow μ' z = if b ≤ z ∧ z < μ 6 0 - 1 then bRow μ (z + 1) else bRow μ z)
    (m120 : μ' 12 0 = μ 12 0 - 1) (m121 : μ' 12 1 = μ 12 1) (mro : ∀ z : Int, oRow μ' z = if o ≤ z ∧ z < μ 12 0 - 1 then oRow μ (z + 1) else oRow μ z)
    (nk : ∀ z : Int, ¬ (z = 2 ∨ z = 3 ∨ z = 8 ∨ z = 9 ∨ z = 10 ∨ z = 13) → z ≠ 14 + 2 * y → z ≠ 14 + 2 * s → z ≠ 26 + 2 * k → ¬ (58 ≤ z ∧ z < 212) → ν' z = ν z) (n2 : ν' 2 = ν 2 - 1) (n3 : ν' 3 = ν 3 - 1) (n8 : ν' 8 = ν 8 + 1) (n9 : ν' 9 = ν 9 + p) (n10 : ν' 10 = ν 10 + f) (n13 : ν' 13 = if ν 13 + 1 < 10 then ν 13 + 1 else 10)
    (ny : ν' (14 + 2 * y) = ν (14 + 2 * y) - p) (nsl : ν' (14 + 2 * s) = ν (14 + 2 * s) + (p - f)) (nh : ν' (26 + 2 * k) = y)
    (nt : ∀ z : Int, 0 ≤ z → z < 10 → ν' (172 + 4 * z) = (if z = 0 then y else ν (172 + 4 * (z - 1))) ∧ ν' (172 + 4 * z + 1) = (if z = 0 then s else ν (172 + 4 * (z - 1) + 1)) ∧ ν' (172 + 4 * z + 2) = (if z = 0 then k else ν (172 + 4 * (z - 1) + 2)) ∧ ν' (172 + 4 * z + 3) = (if z = 0 then p else ν (172 + 4 * (z - 1) + 3)))
    (nrb : ∀ z : Int, 0 ≤ z → z < ν 2 - 1 → nbRow ν' z = if x ≤ z then nbRow ν (z + 1) else nbRow ν z) (nro : ∀ z i : Int, 0 ≤ z → z < ν 3 - 1 → 0 ≤ i → i < 4 → ν' (108 + 4 * z + i) = if w ≤ z then ν (108 + 4 * (z + 1) + i) else ν (108 + 4 * z + i)) : MR μ' ν' := by
  have hN := h.ni
  have q0 := hN.n0
  have q1 := hN.n1
  have q2 := hN.n2
  have q3 := hN.n3
  have hx := hN.bi x x0 x1
  have hw := hN.of w w0 w1
  have hb := hN.ba k (by omega) (by omega)
  have hfee := hN.cr 6 (by decide)
  have hfit1 : s ≠ y := by
    have := hfit.1
    rw [hs, hk, hy]
    exact this
  have hp2 : ν (108 + 4 * w + 2) ≤ ν (58 + 5 * x + 3) := hfit.2.2
  have hpr : 0 ≤ p ∧ p ≤ 99 ∧ p ≤ ν (58 + 5 * x + 3) := by omega
  have hfr : 0 ≤ f ∧ f ≤ p := by
    rw [hf]
    split <;> omega
  -- the bid goes first
  have h1 := MR_canB (μ' := fun j => if 6 ≤ j ∧ j ≤ 11 then μ' j else μ j) (ν' := fun z => if z = 2 ∨ (58 ≤ z ∧ z < 108) then ν' z else ν z) h b0 b1 x0 x1 hbx (fun j hj => if_neg hj)
    (by show (if 6 ≤ 6 ∧ 6 ≤ 11 then μ' 6 else μ 6) 0 = _; rw [if_pos ⟨by decide, by decide⟩]; exact m60) (by show (if 6 ≤ 6 ∧ 6 ≤ 11 then μ' 6 else μ 6) 1 = _; rw [if_pos ⟨by decide, by decide⟩]; exact m61)
    (fun z => (show bRow (fun j => if 6 ≤ j ∧ j ≤ 11 then μ' j else μ j) z = bRow μ' z from rfl).trans (mrb z))
    (fun z a1 a2 => if_neg (by omega)) (by show (if (2 : Int) = 2 ∨ (58 ≤ (2 : Int) ∧ (2 : Int) < 108) then ν' 2 else ν 2) = _; rw [if_pos (Or.inl rfl)]; exact n2)
    (fun z a1 a2 => by
      rw [← nrb z a1 a2]
      unfold nbRow
      simp only []
      rw [if_pos (by omega), if_pos (by omega), if_pos (by omega), if_pos (by omega), if_pos (by omega)])
  obtain ⟨h1, hpl, hre⟩ := h1
  generalize hμ1 : (fun j : Nat => if 6 ≤ j ∧ j ≤ 11 then μ' j else μ j) = μ1 at h1
  generalize hν1 : (fun z : Int => if z = 2 ∨ (58 ≤ z ∧ z < 108) then ν' z else ν z) = ν1 at h1 hpl hre
  have m1n : ∀ j : Nat, ¬ (6 ≤ j ∧ j ≤ 11) → μ1 j = μ j := fun j hj => by rw [← hμ1]; exact if_neg hj
  have m1y : ∀ j : Nat, 6 ≤ j → j ≤ 11 → μ1 j = μ' j := fun j a1 a2 => by rw [← hμ1]; exact if_pos ⟨a1, a2⟩
  have v1n : ∀ z : Int, z ≠ 2 → ¬ (58 ≤ z ∧ z < 108) → ν1 z = ν z := fun z a1 a2 => by rw [← hν1]; exact if_neg (by omega)
  have v1y : ∀ z : Int, z = 2 ∨ (58 ≤ z ∧ z < 108) → ν1 z = ν' z := fun z a1 => by rw [← hν1]; exact if_pos a1
  have g1 : ∀ t : Int, 0 ≤ t → t < ν 1 → mgr ν1 t = mgr ν t := fun t a1 a2 => v1n _ (by omega) (by omega)
  have r1 : ∀ z : Int, 0 ≤ z → z < ν 3 → noRow ν1 z = noRow ν z := fun z a1 a2 => by
    have := hN.of z a1 a2
    unfold noRow
    rw [v1n (108 + 4 * z) (by omega) (by omega), v1n (108 + 4 * z + 1) (by omega) (by omega), v1n (108 + 4 * z + 2) (by omega) (by omega), v1n (108 + 4 * z + 3) (by omega) (by omega), g1 _ this.1.1 this.1.2]
  have or1 : ∀ z : Int, oRow μ1 z = oRow μ z := fun z => by
    unfold oRow
    rw [m1n 13 (by decide), m1n 14 (by decide), m1n 15 (by decide), m1n 16 (by decide), m1n 17 (by decide)]
  have e31 : ν1 3 = ν 3 := v1n 3 (by decide) (by decide)
  have e121 : μ1 12 = μ 12 := m1n 12 (by decide)
  -- then the offer
  have h2 := MR_canO (μ' := fun j => if 6 ≤ j ∧ j ≤ 17 then μ' j else μ j) (ν' := fun z => if z = 2 ∨ z = 3 ∨ (58 ≤ z ∧ z < 172) then ν' z else ν z) h1 o0 (by omega) w0 (by omega) (by rw [or1, r1 w w0 w1]; exact how)
    (fun j hj => by
      by_cases c : 6 ≤ j ∧ j ≤ 11
      · rw [m1y j c.1 c.2]
        exact if_pos (by omega)
      · rw [m1n j c]
        exact if_neg (by omega))
    (by show (if 6 ≤ 12 ∧ 12 ≤ 17 then μ' 12 else μ 12) 0 = _; rw [if_pos ⟨by decide, by decide⟩, e121]; exact m120) (by show (if 6 ≤ 12 ∧ 12 ≤ 17 then μ' 12 else μ 12) 1 = _; rw [if_pos ⟨by decide, by decide⟩, e121]; exact m121)
    (fun z => by
      rw [or1, or1, e121]
      exact (show oRow (fun j => if 6 ≤ j ∧ j ≤ 17 then μ' j else μ j) z = oRow μ' z from rfl).trans (mro z))
    (fun z a1 a2 => by
      by_cases c : z = 2 ∨ (58 ≤ z ∧ z < 108)
      · rw [v1y z c]
        exact if_pos (by omega)
      · rw [v1n z (by omega) (by omega)]
        exact if_neg (by omega)) (by show (if (3 : Int) = 2 ∨ (3 : Int) = 3 ∨ (58 ≤ (3 : Int) ∧ (3 : Int) < 172) then ν' 3 else ν 3) = _; rw [if_pos (Or.inr (Or.inl rfl)), e31]; exact n3)
    (fun z a1 a2 => by
      have hz := hN.of z a1 (by omega)
      have hz1 := hN.of (z + 1) (by omega) (by omega)
      have c0 := nro z 0 a1 (by omega) (by decide) (by decide)
      have c1 := nro z 1 a1 (by omega) (by decide) (by decide)
      have c2 := nro z 2 a1 (by omega) (by decide) (by decide)
      have c3 := nro z 3 a1 (by omega) (by decide) (by decide)
      simp only [Int.add_zero] at c0
      rw [r1 z a1 (by omega), r1 (z + 1) (by omega) (by omega)]
      have fi : ∀ i : Int, 0 ≤ i → i < 4 → (fun z : Int => if z = 2 ∨ z = 3 ∨ (58 ≤ z ∧ z < 172) then ν' z else ν z) (108 + 4 * z + i) = ν' (108 + 4 * z + i) := fun i i0 i1 => if_pos (by omega)
      have fg : ∀ t : Int, 0 ≤ t → t < ν 1 → (fun z : Int => if z = 2 ∨ z = 3 ∨ (58 ≤ z ∧ z < 172) then ν' z else ν z) (26 + 2 * t + 1) = ν (26 + 2 * t + 1) := fun t t0 t1 => if_neg (by omega)
      generalize (fun z : Int => if z = 2 ∨ z = 3 ∨ (58 ≤ z ∧ z < 172) then ν' z else ν z) = N at fi fg ⊢
      have f0 := fi 0 (by decide) (by decide)
      simp only [Int.add_zero] at f0
      unfold noRow mgr
      rw [f0, fi 1 (by decide) (by decide), fi 2 (by decide) (by decide), fi 3 (by decide) (by decide), c0, c1, c2, c3]
      by_cases c : w ≤ z
      · rw [if_pos c, if_pos c, if_pos c, if_pos c, if_pos c, fg _ hz1.1.1 hz1.1.2]
      · rw [if_neg c, if_neg c, if_neg c, if_neg c, if_neg c, fg _ hz.1.1 hz.1.2])
  generalize hμ2 : (fun j : Nat => if 6 ≤ j ∧ j ≤ 17 then μ' j else μ j) = μ2 at h2
  generalize hν2 : (fun z : Int => if z = 2 ∨ z = 3 ∨ (58 ≤ z ∧ z < 172) then ν' z else ν z) = ν2 at h2
  have m2n : ∀ j : Nat, ¬ (6 ≤ j ∧ j ≤ 17) → μ2 j = μ j := fun j hj => by rw [← hμ2]; exact if_neg hj
  have m2y' : ∀ j : Nat, 6 ≤ j → j ≤ 17 → μ2 j = μ' j := fun j a1 a2 => by rw [← hμ2]; exact if_pos ⟨a1, a2⟩
  have v2n : ∀ z : Int, z ≠ 2 → z ≠ 3 → ¬ (58 ≤ z ∧ z < 172) → ν2 z = ν z := fun z a1 a2 a3 => by rw [← hν2]; exact if_neg (by omega)
  have v2y : ∀ z : Int, z = 2 ∨ z = 3 ∨ (58 ≤ z ∧ z < 172) → ν2 z = ν' z := fun z a1 => by rw [← hν2]; exact if_pos a1
  have hyr : 0 ≤ y ∧ y < ν 0 := by omega
  have hr0 := h.re.1 y hyr.1 hyr.2
  have v12 : ∀ z : Int, z ≠ 3 → ¬ (108 ≤ z ∧ z < 172) → ν2 z = ν1 z := fun z a1 a2 => by
    by_cases c : z = 2 ∨ (58 ≤ z ∧ z < 108)
    · rw [v2y z (by omega), v1y z c]
    · rw [v2n z (by omega) a1 (by omega), v1n z (by omega) (by omega)]
  have n1n : ν1 1 = ν 1 := v1n 1 (by decide) (by decide)
  have n12' : ν1 2 ≤ 10 := by
    rw [v1y 2 (Or.inl rfl), n2]
    omega
  have hpl2 : mplaces ν2 y = mplaces ν1 y := by
    unfold mplaces mcap
    rw [mload_congr (ν := ν1) (ν' := ν2) y (v12 1 (by decide) (by decide)) (fun t a1 a2 => v12 _ (by omega) (by omega)), mcnt_congr (ν := ν1) (ν' := ν2) y (v12 2 (by decide) (by decide)) (fun t a1 a2 => v12 _ (by omega) (by omega)), v12 _ (by omega) (by omega)]
  have hre2 : mres ν2 y = mres ν1 y := mres_congr (ν := ν1) (ν' := ν2) y (v12 2 (by decide) (by decide)) (fun t a1 a2 => ⟨v12 _ (by omega) (by omega), v12 _ (by omega) (by omega)⟩)
  rw [← hy] at hpl hre
  have hc2 : ν2 (14 + 2 * y) = ν (14 + 2 * y) := v2n _ (by omega) (by omega) (by omega)
  have hk2 : ν2 (26 + 2 * k) = s := by rw [v2n _ (by omega) (by omega) (by omega), ← hs]
  have a1 : ν2 0 = ν 0 := v2n 0 (by decide) (by decide) (by decide)
  have a2 : ν2 1 = ν 1 := v2n 1 (by decide) (by decide) (by decide)
  have a8 : ν2 8 = ν 8 := v2n 8 (by decide) (by decide) (by decide)
  have a9 : ν2 9 = ν 9 := v2n 9 (by decide) (by decide) (by decide)
  have a10 : ν2 10 = ν 10 := v2n 10 (by decide) (by decide) (by decide)
  have a13 : ν2 13 = ν 13 := v2n 13 (by decide) (by decide) (by decide)
  have hsr : 0 ≤ s ∧ s < ν 0 := by omega
  have x0' := m2n 0 (by decide)
  have x2' := m2n 2 (by decide)
  have x5' := m2n 5 (by decide)
  have x18' := m2n 18 (by decide)
  have x19' := m2n 19 (by decide)
  have x20' := m2n 20 (by decide)
  have x21' := m2n 21 (by decide)
  have x22' := m2n 22 (by decide)
  refine MR_trade (y := y) (s := s) (k := k) (p := p) (f := f) h2 (by omega) (by omega) hk2 hfit1 ⟨hpr.1, hpr.2.1⟩ hfr (by omega) (by omega) (by omega) (by omega) (fun j b1 b2 b3 b4 => ?_) (fun z hz => by rw [x0']; exact m0 z hz) (by rw [x0']; exact m07) (fun z b1 b2 => by rw [x2']; exact m2 z b1 b2) (by rw [x2']; exact m2y) (by rw [x2']; exact m2s) (fun z hz => by rw [x5']; exact m5 z hz) m5k (by rw [x18']; exact m18) (fun z b1 b2 => by rw [x19', x20', x21', x22']; exact mt z b1 b2) (fun z b1 b2 b3 b4 b5 => ?_) (by omega) (by omega) (by omega) (by rw [a13]; exact n13) (by omega) (by rw [v2n _ (by omega) (by omega) (by omega)]; exact nsl) nh (fun z b1 b2 => ?_)
  · by_cases c : 6 ≤ j ∧ j ≤ 17
    · exact (m2y' j c.1 c.2).symm
    · rw [m2n j c]
      exact mj j b1 b2 b3 (by omega)
  · by_cases c : z = 2 ∨ z = 3 ∨ (58 ≤ z ∧ z < 172)
    · exact (v2y z c).symm
    · rw [v2n z (by omega) (by omega) (by omega)]
      exact nk z (by omega) b2 b3 b4 (by omega)
  · have t := nt z b1 b2
    by_cases c : z = 0
    · rw [if_pos c, if_pos c, if_pos c, if_pos c] at t ⊢
      exact t
    · rw [if_neg c, if_neg c, if_neg c, if_neg c] at t ⊢
      rw [v2n (172 + 4 * (z - 1)) (by omega) (by omega) (by omega), v2n (172 + 4 * (z - 1) + 1) (by omega) (by omega) (by omega), v2n (172 + 4 * (z - 1) + 2) (by omega) (by omega) (by omega), v2n (172 + 4 * (z - 1) + 3) (by omega) (by omega) (by omega)]
      exact t
