/-! behind a change, an exception, a rejection -/
section CG
variable {σ : Mem} {B : Int}
/-- what a call leaves of the invariant that changes no market and no history -/
theorem INV.gen {σ' : Mem} {B' : Int} (h : INV σ B) (hB : B ≤ B') (hR : Rng σ') (hg : ∀ g : Int, 0 ≤ g → g < 11 → g ≠ 1 → ∀ j : Nat, j ≤ 22 → σ' g j = σ g j) (h1 : (0 ≤ σ' 1 6 0 ∧ σ' 1 6 0 ≤ 10) ∧ 0 ≤ σ' 1 12 0 ∧ σ' 1 12 0 ≤ 16) (hz : RZ (σ' 1))
    (p24 : σ' 0 24 = σ 0 24) (p41 : ∀ k : Int, 0 ≤ k → k < 212 → σ' 0 41 k = σ 0 41 k) (p44 : σ' 0 44 = σ 0 44) (p45 : σ' 0 45 = σ 0 45) (k6 : σ' 0 40 6 = σ 0 40 6) (k4 : σ' 0 40 4 = σ 0 40 4) (p23 : σ' 0 23 3 = σ 0 23 3) (hrj : RJ σ') (hse : σ' 0 40 7 = σ' 0 23 10) (hin : INp σ') (hou : OUp σ') : INV σ' B' := by
  have hx : ∀ i : Int, hix σ' i = hix σ i := fun i => by unfold hix; rw [p24]
  have hb : ∀ i : Int, blk σ' i = blk σ i := fun i => by unfold blk; rw [p45]
  refine ⟨hR, ⟨MR_same h.m (hg 0 (by decide) (by decide) (by decide)) p41, BD_congr (h.b.mono hB) p41⟩, fun g g0 g1 => ?_, fun g g0 g1 => ?_, ⟨?_, ?_⟩, fun i i0 i1 => ?_, ⟨?_, fun hn => ?_⟩, hrj, hse, hin, hou⟩
  · by_cases e : g = 1
    · subst e
      exact h1
    · rw [hg g g0 g1 e 6 (by decide), hg g g0 g1 e 12 (by decide)]
      exact h.s g g0 g1
  · by_cases e : g = 1
    · subst e
      exact hz
    · intro k a b c
      rw [hg g g0 g1 e 0 (by decide)]
      exact h.z g g0 g1 k a b c
  · unfold HI
    rw [p24]
    exact h.hi
  · rw [k6, p24]
    exact h.h6
  · rw [hx, hb]
    rw [p24] at i1
    obtain ⟨a1, a2⟩ := h.hr i i0 i1
    have r := hix_r h.hi i
    exact ⟨MR_same a1 (hg _ (by omega) (by omega) (by omega)) (fun _ _ _ => rfl), a2.mono hB⟩
  · rw [k4, p23]
    exact h.sn.1
  · rw [p23] at hn
    obtain ⟨a1, a2⟩ := h.sn.2 hn
    rw [p44]
    exact ⟨MR_same a1 (hg 2 (by decide) (by decide) (by decide)) (fun _ _ _ => rfl), a2.mono hB⟩
/-! what the steps of a change write -/
theorem remM_i {m i : Int} (h : i ≠ 0) : remM σ m i = cpMarket σ (3 + σ 0 24 1) m i := by
  simp only [remM]
  rw [st3_o h, st3_o h]
theorem remM_0j {m : Int} {j : Nat} (hn : 0 ≤ σ 0 24 1) (hj : j ≠ 24) : remM σ m 0 j = σ 0 j := by
  simp only [remM]
  rw [st3_oj (fun q => hj q.2), st3_oj (fun q => hj q.2), cpMarket_o (by omega)]
theorem remM_24 {m : Int} (hn : 0 ≤ σ 0 24 1) : remM σ m 0 24 0 = (if 8 < σ 0 24 0 + 1 then 8 else σ 0 24 0 + 1) ∧ remM σ m 0 24 1 = (σ 0 24 1 + 1) % 8 := by
  have e : cpMarket σ (3 + σ 0 24 1) m 0 = σ 0 := cpMarket_o (by omega)
  simp only [remM]
  constructor
  · rw [st3_self, st3_k (by decide), e]
  · rw [st3_k (by decide), st3_self, e]
theorem startM_j {i : Int} {j : Nat} (h : ¬ (i = 0 ∧ (j = 40 ∨ j = 42))) : startM σ i j = σ i j := by
  funext k
  unfold startM
  rw [show cpy (st3 (st3 σ 0 40 8 0) 0 40 14 0) 0 41 0 0 42 0 212 i j k = st3 (st3 σ 0 40 8 0) 0 40 14 0 i j k from if_neg fun q => h ⟨q.1, Or.inr q.2.1⟩, st3_oj (fun q => h ⟨q.1, Or.inl q.2⟩), st3_oj (fun q => h ⟨q.1, Or.inl q.2⟩)]
theorem startM_8 : startM σ 0 40 8 = 0 := by
  unfold startM
  rw [cpy_k (by decide), st3_k (by decide), st3_self]
theorem startM_14 : startM σ 0 40 14 = 0 := by
  unfold startM
  rw [cpy_k (by decide), st3_self]
theorem startM_42 {k : Int} (h0 : 0 ≤ k) (h1 : k < 212) : startM σ 0 42 k = σ 0 41 k := by
  unfold startM
  rw [cpy_in h0 (by omega), st3_oj (by decide), st3_oj (by decide), show (0 : Int) + (k - 0) = k by omega]
theorem push_v : (∀ (i : Int) (j : Nat), ¬ (i = 0 ∧ (j = 40 ∨ j = 45)) → pushM σ i j = σ i j) ∧ (∀ k : Int, k ≠ 6 → pushM σ 0 40 k = σ 0 40 k) ∧ pushM σ 0 40 6 = σ 0 40 6 + 1 ∧ (∀ k : Int, ¬ (212 * σ 0 40 6 ≤ k ∧ k < 212 * σ 0 40 6 + 212) → pushM σ 0 45 k = σ 0 45 k) ∧ ∀ k : Int, 0 ≤ k → k < 212 → pushM σ 0 45 (212 * σ 0 40 6 + k) = σ 0 42 k := by
  unfold pushM
  try dsimp only
  refine ⟨fun i j hij => ?_, fun k hk => ?_, ?_, fun k hk => ?_, fun k k0 k1 => ?_⟩
  · rw [st3_oj (fun q => hij ⟨q.1, Or.inl q.2⟩)]
    funext k
    exact if_neg fun q => hij ⟨q.1, Or.inr q.2.1⟩
  · rw [st3_k hk, cpy_k (by decide)]
  · rw [st3_self, cpy_k (by decide)]
  · rw [st3_j (by decide), cpy_out hk]
  · rw [st3_j (by decide), cpy_in (by omega) (by omega)]
    congr 1
    omega
theorem shift_v : (∀ (i : Int) (j : Nat), ¬ (i = 0 ∧ (j = 40 ∨ j = 45)) → shiftM σ i j = σ i j) ∧ (∀ k : Int, k ≠ 6 → shiftM σ 0 40 k = σ 0 40 k) ∧ shiftM σ 0 40 6 = σ 0 40 6 - 1 ∧ ∀ k : Int, 0 ≤ k → k < 1484 → shiftM σ 0 45 k = σ 0 45 (212 + k) := by
  unfold shiftM
  try dsimp only
  refine ⟨fun i j hij => ?_, fun k hk => ?_, ?_, fun k k0 k1 => ?_⟩
  · rw [st3_oj (fun q => hij ⟨q.1, Or.inl q.2⟩)]
    funext k
    exact if_neg fun q => hij ⟨q.1, Or.inr q.2.1⟩
  · rw [st3_k hk, cpy_k (by decide)]
  · rw [st3_self, cpy_k (by decide)]
  · rw [st3_j (by decide), cpy_in k0 (by omega)]
    congr 1
    omega
theorem pushM_R (h : Rng σ) (h6 : -100 ≤ σ 0 40 6 ∧ σ 0 40 6 ≤ 100) : Rng (pushM σ) := by
  unfold pushM
  try dsimp only
  refine (h.cpy (by decide)).st ?_
  rw [cpy_k (by decide)]
  exact ⟨by omega, by omega⟩
theorem shiftM_R (h : Rng σ) (h6 : -100 ≤ σ 0 40 6 ∧ σ 0 40 6 ≤ 100) : Rng (shiftM σ) := by
  unfold shiftM
  try dsimp only
  refine (h.cpy (by decide)).st ?_
  rw [cpy_k (by decide)]
  exact ⟨by omega, by omega⟩
/-- the history grown on both sides -/
theorem hist_both {σ1 σ2 τ1 : Mem} {B' : Int} (h : INV σ B) (hB : B ≤ B') (hm : MR (σ1 0) (τ1 0 41)) (hb : BD (τ1 0 41) B') (hR1 : Rng τ1) (hW : Wr σ1 σ2) (g1 : ∀ i : Int, i ≠ 0 → i ≠ 1 → σ1 i = remM σ 0 i) (g1s : SZ σ1) (g1z : ∀ g : Int, 0 ≤ g → g < 11 → RZ (σ1 g)) (g23 : σ1 0 23 = σ 0 23) (g24 : σ1 0 24 0 = (if 8 < σ 0 24 0 + 1 then 8 else σ 0 24 0 + 1) ∧ σ1 0 24 1 = (σ 0 24 1 + 1) % 8) (g44 : σ1 0 44 = σ 0 44) (g45 : σ1 0 45 = σ 0 45) (g31 : ∀ j : Nat, 31 ≤ j → j ≤ 33 → σ1 0 j = σ 0 j) (g47 : σ1 0 47 = σ 0 47) (hin : INp σ1) (g40 : ∀ k : Int, k = 4 ∨ k = 6 ∨ k = 7 ∨ k = 11 ∨ k = 12 ∨ k = 13 ∨ k = 17 → σ1 0 40 k = σ 0 40 k) (hc : MR (σ1 (3 + σ 0 24 1)) (σ 0 41))
    (t : ∀ (i : Int) (j : Nat), ¬ (i = 0 ∧ (j = 40 ∨ j = 41 ∨ j = 42 ∨ j = 48)) → τ1 i j = σ2 i j) (t40 : ∀ k : Int, k = 4 ∨ k = 6 ∨ k = 7 ∨ k = 10 ∨ k = 11 ∨ k = 12 ∨ k = 13 ∨ k = 17 → τ1 0 40 k = σ2 0 40 k) (t8 : τ1 0 40 8 = 0) (t42 : ∀ k : Int, 0 ≤ k → k < 212 → τ1 0 42 k = σ 0 41 k) :
    ∃ σ3 : Mem, (∀ (l : Launch) (D : va_G) (K : Nat → ClassId) (ad : Adr) (z : Int), l.stackTraces = false → Cb l D K ad yX9_changed (.code yX9_changed cX9_changed 3 (some .int)) 2 0 0 τ1 [.ref (ad 0 40), .int (iN z)] (.inl (some (.int (iN z)))) σ3) ∧ σ3 0 40 8 = 0 ∧ (∀ j : Nat, j = 50 ∨ j = 51 → σ3 0 j = σ2 0 j) ∧ INV σ3 B' := by
  have hh := h.hi
  have d := hh.1
  have n0 := hh.2.1
  have n1 := hh.2.2
  have w40 : ∀ k : Int, σ2 0 40 k = σ1 0 40 k := fun k => by rw [hW 0 40 (by decide)]
  have t6 : τ1 0 40 6 = σ 0 24 0 := by rw [t40 6 (by decide), w40, g40 6 (by decide), h.h6]
  have key : ∀ σ3 : Mem, Rng σ3 → (∀ (i : Int) (j : Nat), ¬ (i = 0 ∧ (j = 40 ∨ j = 45)) → σ3 i j = τ1 i j) → (∀ k : Int, k ≠ 6 → σ3 0 40 k = τ1 0 40 k) → σ3 0 40 6 = (if 8 < σ 0 24 0 + 1 then 8 else σ 0 24 0 + 1) →
      ((σ 0 24 0 < 8 → (∀ i k : Int, 0 ≤ i → i < σ 0 24 0 → 0 ≤ k → k < 212 → σ3 0 45 (212 * i + k) = σ 0 45 (212 * i + k)) ∧ ∀ k : Int, 0 ≤ k → k < 212 → σ3 0 45 (212 * σ 0 24 0 + k) = σ 0 41 k) ∧ (σ 0 24 0 = 8 → (∀ i k : Int, 0 ≤ i → i < 7 → 0 ≤ k → k < 212 → σ3 0 45 (212 * i + k) = σ 0 45 (212 * (i + 1) + k)) ∧ ∀ k : Int, 0 ≤ k → k < 212 → σ3 0 45 (212 * 7 + k) = σ 0 41 k)) →
      σ3 0 40 8 = 0 ∧ (∀ j : Nat, j = 50 ∨ j = 51 → σ3 0 j = σ2 0 j) ∧ INV σ3 B' := by
    intro σ3 hR3 v1 v2 v3 v4
    have V : ∀ (i : Int) (j : Nat), ¬ (i = 0 ∧ (j = 40 ∨ j = 41 ∨ j = 42 ∨ j = 45 ∨ j = 48 ∨ j = 50 ∨ j = 51)) → σ3 i j = σ1 i j := fun i j hij => by
      rw [v1 i j (by omega), t i j (by omega), hW i j (by omega)]
    have V40 : ∀ k : Int, k = 4 ∨ k = 7 ∨ k = 11 ∨ k = 12 ∨ k = 13 ∨ k = 17 → σ3 0 40 k = σ 0 40 k := fun k hk => by
      rw [v2 k (by omega), t40 k (by omega), w40, g40 k (by omega)]
    have V10 : σ3 0 40 10 = σ1 0 40 10 := by rw [v2 10 (by decide), t40 10 (by decide), w40]
    have a4 := V40 4 (by decide)
    have a7 := V40 7 (by decide)
    have a11 := V40 11 (by decide)
    have a12 := V40 12 (by decide)
    have a13 := V40 13 (by decide)
    have a17 := V40 17 (by decide)
    have x23 : σ3 0 23 = σ 0 23 := by rw [V 0 23 (by decide), g23]
    have x24 : σ3 0 24 = σ1 0 24 := V 0 24 (by decide)
    refine ⟨by rw [v2 8 (by decide), t8], fun j hj => ?_, ?_⟩
    · rw [v1 0 j (by omega), t 0 j (by omega)]
    · refine INV_hist h hB hR3 (MR_same hm (fun j hj => V 0 j (by omega)) (fun k _ _ => by rw [v1 0 41 (by decide)])) (BD_congr hb (fun k _ _ => by rw [v1 0 41 (by decide)])) (fun g a b => ?_) (fun g a b => ?_) (MR_same hc (fun j hj => V _ j (by omega)) (fun _ _ _ => rfl)) (fun g a b c j hj => ?_) (by rw [x24]; exact g24.1) (by rw [x24]; exact g24.2) (by rw [v3, x24, g24.1]) v4 ⟨a4, by rw [x23], by rw [V 0 44 (by decide), g44]⟩ ?_ ?_ ?_ ?_
      · rw [V g 6 (by omega), V g 12 (by omega)]
        exact g1s g a b
      · intro k k0 k1 k2
        rw [V g 0 (by omega)]
        exact g1z g a b k k0 k1 k2
      · rw [V g j (by omega), g1 g (by omega) (by omega), remM_i (by omega), cpMarket_o c]
      · unfold RJ
        rw [x23, a11, a12, a13]
        exact h.rj
      · rw [a7, x23]
        exact h.se
      · unfold INp
        rw [V 0 26 (by decide), V 0 27 (by decide), V 0 46 (by decide), V10]
        exact hin
      · unfold OUp
        rw [V 0 31 (by decide), V 0 32 (by decide), V 0 33 (by decide), V 0 47 (by decide), g31 31 (by decide) (by decide), g31 32 (by decide) (by decide), g31 33 (by decide) (by decide), g47, a17]
        exact h.ou
  have t45 : τ1 0 45 = σ 0 45 := by rw [t 0 45 (by decide), hW 0 45 (by decide), g45]
  by_cases d8 : σ 0 24 0 = 8
  · obtain ⟨s1, s2, s3, s4⟩ := shift_v (σ := τ1)
    have hRs := shiftM_R hR1 (by omega)
    obtain ⟨p1, p2, p3, p4, p5⟩ := push_v (σ := shiftM τ1)
    have q6 : shiftM τ1 0 40 6 = 7 := by omega
    refine ⟨pushM (shiftM τ1), fun l D K ad z hl0 => e_changed_s hl0 τ1 hR1 z (by omega) (by omega), key _ (pushM_R hRs (by omega)) (fun i j hij => by rw [p1 i j hij, s1 i j hij]) (fun k hk => by rw [p2 k hk, s2 k hk]) (by rw [p3, q6, if_pos (by omega)]; rfl) ⟨fun q => by omega, fun _ => ⟨fun i k i0 i1 k0 k1 => ?_, fun k k0 k1 => ?_⟩⟩⟩
    · rw [p4 _ (by omega), s4 _ (by omega) (by omega), t45]
      congr 1
      omega
    · have := p5 k k0 k1
      rw [q6] at this
      rw [this, s1 0 42 (by decide), t42 k k0 k1]
  · obtain ⟨p1, p2, p3, p4, p5⟩ := push_v (σ := τ1)
    refine ⟨pushM τ1, fun l D K ad z hl0 => e_changed_o hl0 τ1 hR1 z (by omega) (by omega), key _ (pushM_R hR1 (by omega)) p1 p2 (by rw [p3, if_neg (by omega)]; omega) ⟨fun _ => ⟨fun i k i0 i1 k0 k1 => ?_, fun k k0 k1 => ?_⟩, fun q => absurd q d8⟩⟩
    · rw [p4 _ (by omega), t45]
    · have := p5 k k0 k1
      rw [t6] at this
      rw [this, t42 k k0 k1]
/-- the change's own memory, remembered -/
theorem rem_MR (h : INV σ B) : MR (remM σ 0 0) (σ 0 41) ∧ Rng (remM σ 0) ∧ SZ (remM σ 0) ∧ (∀ g : Int, 0 ≤ g → g < 11 → RZ (remM σ 0 g)) ∧ MR (remM σ 0 (3 + σ 0 24 1)) (σ 0 41) ∧ ∀ j : Nat, j ≠ 24 → remM σ 0 0 j = σ 0 j := by
  have hh := h.hi
  have n0 := hh.2.1
  have n1 := hh.2.2
  have e0 : ∀ j : Nat, j ≠ 24 → remM σ 0 0 j = σ 0 j := fun j hj => remM_0j n0 hj
  have hz3 := h.z (3 + σ 0 24 1) (by omega) (by omega)
  refine ⟨MR_same h.m (fun j hj => e0 j (by omega)) (fun _ _ _ => rfl), remM_R h.r hh, fun g a b => ?_, fun g a b => ?_, ?_, e0⟩
  · by_cases c : g = 0
    · subst c
      rw [e0 6 (by decide), e0 12 (by decide)]
      exact h.s 0 (by decide) (by decide)
    · rw [remM_i c]
      by_cases c2 : g = 3 + σ 0 24 1
      · rw [c2]
        have sz := cpMarket_sz (σ := σ) (g := 3 + σ 0 24 1) (h := 0) (by omega)
        rw [sz.1, sz.2.1]
        exact h.s 0 (by decide) (by decide)
      · rw [cpMarket_o c2]
        exact h.s g a b
  · by_cases c : g = 0
    · subst c
      intro k k0 k1 k2
      rw [e0 0 (by decide)]
      exact h.z 0 (by decide) (by decide) k k0 k1 k2
    · rw [remM_i c]
      by_cases c2 : g = 3 + σ 0 24 1
      · rw [c2]
        exact cpMarket_rz (by omega) hz3
      · rw [cpMarket_o c2]
        exact h.z g a b
  · rw [remM_i (by omega)]
    exact cpMarket_MR (by omega) h.m hz3
theorem chg_ok {σ1 σ2 τ1 : Mem} (h : INV σ B) (hK : Kp (remM σ 0) (startM σ2) σ1 τ1 B) (hW : Wr σ1 σ2) :
    ∃ σ3 : Mem, (∀ (l : Launch) (D : va_G) (K : Nat → ClassId) (ad : Adr) (z : Int), l.stackTraces = false → Cb l D K ad yX9_changed (.code yX9_changed cX9_changed 3 (some .int)) 2 0 0 τ1 [.ref (ad 0 40), .int (iN z)] (.inl (some (.int (iN z)))) σ3) ∧ σ3 0 40 8 = 0 ∧ (∀ j : Nat, j = 50 ∨ j = 51 → σ3 0 j = σ2 0 j) ∧ INV σ3 (B + 60000) := by
  obtain ⟨k1, k2, k3, k4, k5, k6, k7⟩ := hK
  obtain ⟨r1, r2, r3, r4, r5, r6⟩ := rem_MR h
  have hh := h.hi
  have n0 := hh.2.1
  have r24 := remM_24 (σ := σ) (m := 0) n0
  have f : ∀ j : Nat, 23 ≤ j → j ≠ 24 → σ1 0 j = σ 0 j := fun j a b => by rw [k6 j a, r6 j b]
  have hgz : ∀ g : Int, 0 ≤ g → g < 11 → RZ (σ1 g) := fun g a b => by
    by_cases c : g = 0
    · subst c
      exact k1.rz
    · rw [k5 g c]
      exact r4 g a b
  refine hist_both h (by omega) k1 (k4.mono (by omega)) k3 hW (fun i a _ => k5 i a) (fun g a b => ?_) hgz (f 23 (by decide) (by decide)) ⟨by rw [k6 24 (by decide), r24.1], by rw [k6 24 (by decide), r24.2]⟩ (f 44 (by decide) (by decide)) (f 45 (by decide) (by decide)) (fun j a b => f j (by omega) (by omega)) (f 47 (by decide) (by decide)) ?_ (fun k _ => by rw [f 40 (by decide) (by decide)]) (by rw [k5 _ (by omega)]; exact r5) (fun i j hij => ?_) (fun k hk => ?_) (by rw [k7 0 40 (by decide), startM_8]) (fun k a b => ?_)
  · by_cases c : g = 0
    · subst c
      have s := k1.sc
      have hn := k1.ni
      have n2 := hn.n2
      have n3 := hn.n3
      have s2 := s.2.2.1
      have s3 := s.2.2.2.1
      omega
    · rw [k5 g c]
      exact r3 g a b
  · unfold INp
    rw [f 26 (by decide) (by decide), f 27 (by decide) (by decide), f 46 (by decide) (by decide), f 40 (by decide) (by decide)]
    exact h.in_
  · rw [k7 i j (by omega), startM_j (by omega)]
  · rw [k7 0 40 (by decide), startM_k (by omega) (by omega)]
  · rw [k7 0 42 (by decide), startM_42 a b, hW 0 41 (by decide), f 41 (by decide) (by decide)]
theorem chg_x {σ2 : Mem} (h : INV σ B) (hR2 : Rng σ2) (hW : Wr σ σ2) {p : Int} (hp : 1 ≤ p ∧ p ≤ 3) :
    (∀ (l : Launch) (D : va_G) (K : Nat → ClassId) (ad : Adr) (z : Int), l.stackTraces = false → Cb l D K ad yX9_changed (.code yX9_changed cX9_changed 3 (some .int)) 2 0 0 (thrM (startM σ2) p) [.ref (ad 0 40), .int (iN z)] (.inl (some (.int (iN z)))) (thrM (startM σ2) p)) ∧ thrM (startM σ2) p 0 40 8 = p ∧ (∀ j : Nat, j = 50 ∨ j = 51 → thrM (startM σ2) p 0 j = σ2 0 j) ∧ INV (thrM (startM σ2) p) (B + 60000) := by
  have hR : Rng (thrM (startM σ2) p) := (startM_R hR2).st ⟨by omega, by omega⟩
  have e8 : thrM (startM σ2) p 0 40 8 = p := st3_self
  have e14 : thrM (startM σ2) p 0 40 14 = 0 := by
    unfold thrM
    rw [st3_k (by decide), startM_14]
  have v : ∀ (i : Int) (j : Nat), ¬ (i = 0 ∧ (j = 40 ∨ j = 42)) → thrM (startM σ2) p i j = σ2 i j := fun i j hij => by
    unfold thrM
    rw [st3_oj (by omega), startM_j hij]
  refine ⟨fun l D K ad z hl0 => e_changed_t hl0 _ hR z (by omega) (by omega), e8, fun j hj => v 0 j (by omega), ?_⟩
  refine h.view (by omega) hR (fun g _ _ _ j hj => by rw [v g j (by omega), hW g j (by omega)]) ?_ ?_ (fun j hj => by rw [v 0 j (by omega), hW 0 j (by omega)]) (by rw [v 0 26 (by decide), hW 0 26 (by decide)]) (fun k hk => ?_)
  · rw [v 1 6 (by decide), v 1 12 (by decide), hW 1 6 (by decide), hW 1 12 (by decide)]
    exact h.s 1 (by decide) (by decide)
  · intro k a b c
    rw [v 1 0 (by decide), hW 1 0 (by decide)]
    exact h.z 1 (by decide) (by decide) k a b c
  · unfold thrM
    rw [st3_k (by omega), startM_k (by omega) (by omega), hW 0 40 (by decide)]
theorem chg_r {σ2 : Mem} (h : INV σ B) {r d : Int} (hR2 : Rng σ2) (hW : Wr (noteR σ r d (-1)) σ2) {p : Int} (hp : 1 ≤ p ∧ p ≤ 3) (hr : 1 ≤ r ∧ r ≤ 6) (hd : inR d) :
    (∀ (l : Launch) (D : va_G) (K : Nat → ClassId) (ad : Adr) (z : Int), l.stackTraces = false → Cb l D K ad yX9_changed (.code yX9_changed cX9_changed 3 (some .int)) 2 0 0 (rjM (startM σ2) p r d) [.ref (ad 0 40), .int (iN z)] (.inl (some (.int (iN z)))) (rejM (rjM (startM σ2) p r d))) ∧ rejM (rjM (startM σ2) p r d) 0 40 8 = p ∧ (∀ j : Nat, j = 50 ∨ j = 51 → rejM (rjM (startM σ2) p r d) 0 j = σ2 0 j) ∧ INV (rejM (rjM (startM σ2) p r d)) (B + 60000) := by
  have hR : Rng (rjM (startM σ2) p r d) := (((startM_R hR2).st ⟨by omega, by omega⟩).st hd).st ⟨by omega, by omega⟩
  have e8 : rjM (startM σ2) p r d 0 40 8 = p := st3_self
  have e15 : rjM (startM σ2) p r d 0 40 15 = d := by
    unfold rjM
    rw [st3_k (by decide), st3_self]
  have e14 : rjM (startM σ2) p r d 0 40 14 = r := by
    unfold rjM
    rw [st3_k (by decide), st3_k (by decide), st3_self]
  have v0 : ∀ (i : Int) (j : Nat), ¬ (i = 0 ∧ (j = 40 ∨ j = 42)) → rjM (startM σ2) p r d i j = σ2 i j := fun i j hij => by
    unfold rjM
    rw [st3_oj (by omega), st3_oj (by omega), st3_oj (by omega), startM_j hij]
  have v0k : ∀ k : Int, k ≠ 8 → k ≠ 14 → k ≠ 15 → rjM (startM σ2) p r d 0 40 k = σ2 0 40 k := fun k a b c => by
    unfold rjM
    rw [st3_k a, st3_k c, st3_k b, startM_k a b]
  generalize hτ : rjM (startM σ2) p r d = τ at hR e8 e14 e15 v0 v0k ⊢
  have hRr : Rng (rejM τ) := by
    unfold rejM
    try dsimp only
    refine ((hR.st (hR _ _ _ (by decide))).st ?_).st ⟨by decide, by decide⟩
    rw [st3_k (by decide)]
    exact hR _ _ _ (by decide)
  have w11 : rejM τ 0 40 11 = r := by
    unfold rejM
    try dsimp only
    rw [st3_k (by decide), st3_k (by decide), st3_self, e14]
  have w12 : rejM τ 0 40 12 = d := by
    unfold rejM
    try dsimp only
    rw [st3_k (by decide), st3_self, st3_k (by decide), e15]
  have w13 : rejM τ 0 40 13 = 0 := st3_self
  have wk : ∀ k : Int, k ≠ 11 → k ≠ 12 → k ≠ 13 → rejM τ 0 40 k = τ 0 40 k := fun k a b c => by
    unfold rejM
    try dsimp only
    rw [st3_k c, st3_k b, st3_k a]
  have v : ∀ (i : Int) (j : Nat), ¬ (i = 0 ∧ (j = 40 ∨ j = 42)) → rejM τ i j = σ2 i j := fun i j hij => by
    unfold rejM
    try dsimp only
    rw [st3_oj (by omega), st3_oj (by omega), st3_oj (by omega), v0 i j hij]
  have n : ∀ (i : Int) (j : Nat), ¬ (i = 0 ∧ j = 23) → noteR σ r d (-1) i j = σ i j := fun i j hij => by
    unfold noteR
    rw [st3_oj hij, st3_oj hij, st3_oj hij]
  have nk : ∀ k : Int, k ≠ 7 → k ≠ 8 → k ≠ 9 → noteR σ r d (-1) 0 23 k = σ 0 23 k := fun k a b c => by
    unfold noteR
    rw [st3_k c, st3_k b, st3_k a]
  have n7 : noteR σ r d (-1) 0 23 7 = r := by
    unfold noteR
    rw [st3_k (by decide), st3_k (by decide), st3_self]
  have n8 : noteR σ r d (-1) 0 23 8 = d := by
    unfold noteR
    rw [st3_k (by decide), st3_self]
  have vv : ∀ (i : Int) (j : Nat), ¬ (i = 0 ∧ (j = 23 ∨ j = 40 ∨ j = 42 ∨ j = 50 ∨ j = 51)) → rejM τ i j = σ i j := fun i j hij => by
    rw [v i j (by omega), hW i j (by omega), n i j (by omega)]
  have vk : ∀ k : Int, k ≠ 8 → k ≠ 11 → k ≠ 12 → k ≠ 13 → k ≠ 14 → k ≠ 15 → rejM τ 0 40 k = σ 0 40 k := fun k a b c d e f => by
    rw [wk k b c d, v0k k a e f, hW 0 40 (by decide), n 0 40 (by decide)]
  have v23 : ∀ k : Int, rejM τ 0 23 k = noteR σ r d (-1) 0 23 k := fun k => by rw [v 0 23 (by decide), hW 0 23 (by decide)]
  refine ⟨fun l D K ad z hl0 => e_changed_r hl0 _ hR z (by omega) (by omega), by rw [wk 8 (by decide) (by decide) (by decide), e8], fun j hj => v 0 j (by omega), ?_⟩
  refine h.gen (by omega) hRr (fun g _ _ _ j hj => vv g j (by omega)) ?_ ?_ (vv 0 24 (by decide)) (fun k _ _ => by rw [vv 0 41 (by decide)]) (vv 0 44 (by decide)) (vv 0 45 (by decide)) (vk 6 (by decide) (by decide) (by decide) (by decide) (by decide) (by decide)) (vk 4 (by decide) (by decide) (by decide) (by decide) (by decide) (by decide)) (by rw [v23, nk 3 (by decide) (by decide) (by decide)]) ?_ ?_ ?_ ?_
  · rw [vv 1 6 (by decide), vv 1 12 (by decide)]
    exact h.s 1 (by decide) (by decide)
  · intro k a b c
    rw [vv 1 0 (by decide)]
    exact h.z 1 (by decide) (by decide) k a b c
  · refine Or.inr (Or.inl ⟨?_, ?_, ?_, w13⟩)
    · rw [v23, n7]
      exact hr
    · rw [v23, n7, w11]
    · rw [v23, n8, w12]
  · rw [v23, nk 10 (by decide) (by decide) (by decide), vk 7 (by decide) (by decide) (by decide) (by decide) (by decide) (by decide)]
    exact h.se
  · unfold INp
    rw [vv 0 26 (by decide), vv 0 27 (by decide), vv 0 46 (by decide), vk 10 (by decide) (by decide) (by decide) (by decide) (by decide) (by decide)]
    exact h.in_
  · unfold OUp
    rw [vv 0 31 (by decide), vv 0 32 (by decide), vv 0 33 (by decide), vv 0 47 (by decide), vk 17 (by decide) (by decide) (by decide) (by decide) (by decide) (by decide)]
    exact h.ou
end CG
