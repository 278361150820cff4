/-! the whole input carried out, both sides -/
section HG
variable {σ : Mem} {B : Int}
/-- the history grown on both sides -/
theorem hist_gen {σ1 σ2 τ1 : Mem} {B' : Int} (h : INV σ B) (hB : B ≤ B') (hm : MR (σ1 0) (τ1 0 41)) (hb : BD (τ1 0 41) B') (hR1 : Rng τ1) (hW : Wr σ1 σ2) (g1 : ∀ (i : Int) (j : Nat), 2 ≤ i → i < 11 → i ≠ 3 + σ 0 24 1 → j ≤ 22 → σ1 i j = σ i j) (g1s : SZ σ1) (g1z : ∀ g : Int, 0 ≤ g → g < 11 → RZ (σ1 g)) (g23 : σ1 0 23 = σ 0 23) (g24 : σ1 0 24 0 = (if 8 < σ 0 24 0 + 1 then 8 else σ 0 24 0 + 1) ∧ σ1 0 24 1 = (σ 0 24 1 + 1) % 8) (g44 : σ1 0 44 = σ 0 44) (g45 : σ1 0 45 = σ 0 45) (g31 : ∀ j : Nat, 31 ≤ j → j ≤ 33 → σ1 0 j = σ 0 j) (g47 : σ1 0 47 = σ 0 47) (hin : σ1 0 26 1 = τ1 0 40 10 ∧ (0 ≤ σ1 0 26 1 ∧ σ1 0 26 1 ≤ 60) ∧ ∀ k : Int, 0 ≤ k → k < σ1 0 26 1 → σ1 0 27 k = σ1 0 46 k ∧ 32 ≤ σ1 0 27 k ∧ σ1 0 27 k ≤ 126) (g40 : ∀ k : Int, k = 4 ∨ k = 6 ∨ k = 7 ∨ k = 11 ∨ k = 12 ∨ k = 13 ∨ k = 17 → σ1 0 40 k = σ 0 40 k) (hc : MR (σ1 (3 + σ 0 24 1)) (σ 0 41))
    (t : ∀ (i : Int) (j : Nat), ¬ (j = 40 ∨ j = 41 ∨ j = 42 ∨ j = 48) → τ1 i j = σ2 i j) (t40 : ∀ k : Int, k = 4 ∨ k = 6 ∨ k = 7 ∨ k = 11 ∨ k = 12 ∨ k = 13 ∨ k = 17 → τ1 0 40 k = σ2 0 40 k) (t8 : τ1 0 40 8 = 0) (t42 : ∀ k : Int, 0 ≤ k → k < 212 → τ1 0 42 k = σ 0 41 k) :
    ∃ σ3 : Mem, (∀ (l : Launch) (D : va_G) (K : Nat → ClassId) (ad : Adr) (z : Int), l.stackTraces = false → Cb l D K ad yX9_changed (.code yX9_changed cX9_changed 3 (some .int)) 2 0 0 τ1 [.ref (ad 0 40), .int (iN z)] (.inl (some (.int (iN z)))) σ3) ∧ σ3 0 40 8 = 0 ∧ (∀ j : Nat, j = 50 ∨ j = 51 → σ3 0 j = σ2 0 j) ∧ INV σ3 B' := by
  have hh := h.hi
  have d := hh.1
  have n0 := hh.2.1
  have n1 := hh.2.2
  have w40 : ∀ k : Int, σ2 0 40 k = σ1 0 40 k := fun k => by rw [hW 0 40 (by decide)]
  have t6 : τ1 0 40 6 = σ 0 24 0 := by rw [t40 6 (by decide), w40, g40 6 (by decide), h.h6]
  have key : ∀ σ3 : Mem, Rng σ3 → (∀ (i : Int) (j : Nat), ¬ (i = 0 ∧ (j = 40 ∨ j = 45)) → σ3 i j = τ1 i j) → (∀ k : Int, k ≠ 6 → σ3 0 40 k = τ1 0 40 k) → σ3 0 40 6 = (if 8 < σ 0 24 0 + 1 then 8 else σ 0 24 0 + 1) →
      ((σ 0 24 0 < 8 → (∀ i k : Int, 0 ≤ i → i < σ 0 24 0 → 0 ≤ k → k < 212 → σ3 0 45 (212 * i + k) = σ 0 45 (212 * i + k)) ∧ ∀ k : Int, 0 ≤ k → k < 212 → σ3 0 45 (212 * σ 0 24 0 + k) = σ 0 41 k) ∧ (σ 0 24 0 = 8 → (∀ i k : Int, 0 ≤ i → i < 7 → 0 ≤ k → k < 212 → σ3 0 45 (212 * i + k) = σ 0 45 (212 * (i + 1) + k)) ∧ ∀ k : Int, 0 ≤ k → k < 212 → σ3 0 45 (212 * 7 + k) = σ 0 41 k)) →
      σ3 0 40 8 = 0 ∧ (∀ j : Nat, j = 50 ∨ j = 51 → σ3 0 j = σ2 0 j) ∧ INV σ3 B' := by
    intro σ3 hR3 v1 v2 v3 v4
    have V : ∀ (i : Int) (j : Nat), ¬ (j = 40 ∨ j = 41 ∨ j = 42 ∨ j = 45 ∨ j = 48 ∨ j = 50 ∨ j = 51) → σ3 i j = σ1 i j := fun i j hij => by
      rw [v1 i j (by omega), t i j (by omega), hW i j (by omega)]
    have V40 : ∀ k : Int, k = 4 ∨ k = 7 ∨ k = 11 ∨ k = 12 ∨ k = 13 ∨ k = 17 → σ3 0 40 k = σ 0 40 k := fun k hk => by
      rw [v2 k (by omega), t40 k (by omega), w40, g40 k (by omega)]
    have V10 : σ3 0 40 10 = τ1 0 40 10 := v2 10 (by decide)
    have a4 := V40 4 (by decide)
    have a7 := V40 7 (by decide)
    have a11 := V40 11 (by decide)
    have a12 := V40 12 (by decide)
    have a13 := V40 13 (by decide)
    have a17 := V40 17 (by decide)
    have x23 : σ3 0 23 = σ 0 23 := by rw [V 0 23 (by decide), g23]
    have x24 : σ3 0 24 = σ1 0 24 := V 0 24 (by decide)
    refine ⟨by rw [v2 8 (by decide), t8], fun j hj => ?_, ?_⟩
    · rw [v1 0 j (by omega), t 0 j (by omega)]
    · refine INV_hist h hB hR3 (MR_same hm (fun j hj => V 0 j (by omega)) (fun k _ _ => by rw [v1 0 41 (by decide)])) (BD_congr hb (fun k _ _ => by rw [v1 0 41 (by decide)])) (fun g a b => ?_) (fun g a b => ?_) (MR_same hc (fun j hj => V _ j (by omega)) (fun _ _ _ => rfl)) (fun g a b c j hj => ?_) (by rw [x24]; exact g24.1) (by rw [x24]; exact g24.2) (by rw [v3, x24, g24.1]) v4 ⟨a4, by rw [x23], by rw [V 0 44 (by decide), g44]⟩ ?_ ?_ ?_ ?_
      · rw [V g 6 (by omega), V g 12 (by omega)]
        exact g1s g a b
      · intro k k0 k1 k2
        rw [V g 0 (by omega)]
        exact g1z g a b k k0 k1 k2
      · rw [V g j (by omega), g1 g j (by omega) (by omega) c (by omega)]
      · unfold RJ
        rw [x23, a11, a12, a13]
        exact h.rj
      · rw [a7, x23]
        exact h.se
      · unfold INp
        rw [V 0 26 (by decide), V 0 27 (by decide), V 0 46 (by decide), V10]
        exact hin
      · unfold OUp
        rw [V 0 31 (by decide), V 0 32 (by decide), V 0 33 (by decide), V 0 47 (by decide), g31 31 (by decide) (by decide), g31 32 (by decide) (by decide), g31 33 (by decide) (by decide), g47, a17]
        exact h.ou
  have t45 : τ1 0 45 = σ 0 45 := by rw [t 0 45 (by decide), hW 0 45 (by decide), g45]
  by_cases d8 : σ 0 24 0 = 8
  · obtain ⟨s1, s2, s3, s4⟩ := shift_v (σ := τ1)
    have hRs := shiftM_R hR1 (by omega)
    obtain ⟨p1, p2, p3, p4, p5⟩ := push_v (σ := shiftM τ1)
    have q6 : shiftM τ1 0 40 6 = 7 := by omega
    refine ⟨pushM (shiftM τ1), fun l D K ad z hl0 => e_changed_s hl0 τ1 hR1 z (by omega) (by omega), key _ (pushM_R hRs (by omega)) (fun i j hij => by rw [p1 i j hij, s1 i j hij]) (fun k hk => by rw [p2 k hk, s2 k hk]) (by rw [p3, q6, if_pos (by omega)]; rfl) ⟨fun q => by omega, fun _ => ⟨fun i k i0 i1 k0 k1 => ?_, fun k k0 k1 => ?_⟩⟩⟩
    · rw [p4 _ (by omega), s4 _ (by omega) (by omega), t45]
      congr 1
      omega
    · have := p5 k k0 k1
      rw [q6] at this
      rw [this, s1 0 42 (by decide), t42 k k0 k1]
  · obtain ⟨p1, p2, p3, p4, p5⟩ := push_v (σ := τ1)
    refine ⟨pushM τ1, fun l D K ad z hl0 => e_changed_o hl0 τ1 hR1 z (by omega) (by omega), key _ (pushM_R hR1 (by omega)) p1 p2 (by rw [p3, if_neg (by omega)]; omega) ⟨fun _ => ⟨fun i k i0 i1 k0 k1 => ?_, fun k k0 k1 => ?_⟩, fun q => absurd q d8⟩⟩
    · rw [p4 _ (by omega), t45]
    · have := p5 k k0 k1
      rw [t6] at this
      rw [this, t42 k k0 k1]
/-- what a failing input leaves of the invariant -/
theorem INV.gen2 {σ' : Mem} {B' : Int} (h : INV σ B) (hB : B ≤ B') (hR : Rng σ') (hm : MR (σ' 0) (σ' 0 41)) (hb : BD (σ' 0 41) B') (hg : ∀ g : Int, 2 ≤ g → g < 11 → ∀ j : Nat, j ≤ 22 → σ' g j = σ g j) (h1 : (0 ≤ σ' 1 6 0 ∧ σ' 1 6 0 ≤ 10) ∧ 0 ≤ σ' 1 12 0 ∧ σ' 1 12 0 ≤ 16) (hz : RZ (σ' 1))
    (p24 : σ' 0 24 = σ 0 24) (p44 : σ' 0 44 = σ 0 44) (p45 : σ' 0 45 = σ 0 45) (k6 : σ' 0 40 6 = σ 0 40 6) (k4 : σ' 0 40 4 = σ 0 40 4) (p23 : σ' 0 23 3 = σ 0 23 3) (hrj : RJ σ') (hse : σ' 0 40 7 = σ' 0 23 10) (hin : INp σ') (hou : OUp σ') : INV σ' B' := by
  have hx : ∀ i : Int, hix σ' i = hix σ i := fun i => by unfold hix; rw [p24]
  have hb2 : ∀ i : Int, blk σ' i = blk σ i := fun i => by unfold blk; rw [p45]
  refine ⟨hR, ⟨hm, hb⟩, fun g g0 g1 => ?_, fun g g0 g1 => ?_, ⟨?_, ?_⟩, fun i i0 i1 => ?_, ⟨?_, fun hn => ?_⟩, hrj, hse, hin, hou⟩
  · by_cases e0 : g = 0
    · subst e0
      exact hm.szs
    · by_cases e : g = 1
      · subst e
        exact h1
      · rw [hg g (by omega) g1 6 (by decide), hg g (by omega) g1 12 (by decide)]
        exact h.s g g0 g1
  · by_cases e0 : g = 0
    · subst e0
      exact hm.rz
    · by_cases e : g = 1
      · subst e
        exact hz
      · intro k a b c
        rw [hg g (by omega) g1 0 (by decide)]
        exact h.z g g0 g1 k a b c
  · unfold HI
    rw [p24]
    exact h.hi
  · rw [k6, p24]
    exact h.h6
  · rw [hx, hb2]
    rw [p24] at i1
    obtain ⟨a1, a2⟩ := h.hr i i0 i1
    have r := hix_r h.hi i
    exact ⟨MR_same a1 (hg _ (by omega) (by omega)) (fun _ _ _ => rfl), a2.mono hB⟩
  · rw [k4, p23]
    exact h.sn.1
  · rw [p23] at hn
    obtain ⟨a1, a2⟩ := h.sn.2 hn
    rw [p44]
    exact ⟨MR_same a1 (hg 2 (by decide) (by decide)) (fun _ _ _ => rfl), a2.mono hB⟩
end HG
/-- the class's memory before the first command -/
noncomputable def X0 (σ : Mem) : Mem := cpMarket (cx0 (σ 0 46) (σ 0 26 1) σ) 1 0
section EX
variable {l : Launch} {D : va_G} {K : Nat → ClassId} {ad : Adr} {σ : Mem} {B : Int}
theorem X0_g {i : Int} {j : Nat} (hi : i ≠ 1) (h : ¬ (j = 26 ∨ j = 28 ∨ j = 30)) : X0 σ i j = σ i j := by
  unfold X0
  rw [cpMarket_o hi, cx0_o h]
theorem X0_261 : X0 σ 0 26 1 = 0 := by
  unfold X0
  rw [cpMarket_o (by decide), cx0_261]
theorem X0_263 : X0 σ 0 26 3 = (cAll (σ 0 46) (σ 0 26 1) 31 (st3 σ 0 26 3 0) 0).1 0 26 3 := by
  unfold X0
  rw [cpMarket_o (by decide), cx0_263]
theorem X0_30 {g : Int} {j : Nat} (h : j = 28 ∨ j = 30) : X0 σ g j = (cAll (σ 0 46) (σ 0 26 1) 31 (st3 σ 0 26 3 0) 0).1 g j := by
  unfold X0
  by_cases e : g = 1
  · rw [e, cpMarket_hi (by omega), cx0_28 (by omega)]
  · rw [cpMarket_o e, cx0_28 (by omega)]
theorem INV.c6 (h : INV σ B) : C6 σ (σ 0 46) (σ 0 26 1) := by
  have hin := h.in_
  unfold INp at hin
  obtain ⟨i1, i2, i3⟩ := hin
  exact ⟨fun k a b => (i3 k a b).1, rfl, i2, fun k a b => by have := i3 k a b; omega, h.r⟩
theorem X0_R (h : INV σ B) : Rng (X0 σ) := by
  unfold X0
  exact cpMarket_R (cx0_R h.c6)
theorem X0_m (h : INV σ B) : MR (X0 σ 1) (σ 0 41) := by
  unfold X0
  refine cpMarket_MR (by decide) (MR_same h.m (fun j hj => cx0_o (by omega)) (fun _ _ _ => rfl)) (fun k a b c => ?_)
  rw [cx0_o (by decide)]
  exact h.z 1 (by decide) (by decide) k a b c
theorem ex_rd (h : INV σ B) {ρ : Mem} (e1 : ρ 0 46 = σ 0 46) (e2 : ρ 0 40 10 = σ 0 26 1) : (cAll (σ 0 46) (σ 0 26 1) 31 (st3 σ 0 26 3 0) 0).2 = ((mParse (ρ 0 46) (ρ 0 40 10) 61 (exec0 ρ) 0 0).2.1, 1 - (mParse (ρ 0 46) (ρ 0 40 10) 61 (exec0 ρ) 0 0).2.2) ∧ ((mParse (ρ 0 46) (ρ 0 40 10) 61 (exec0 ρ) 0 0).2.2 = 0 ∨ (mParse (ρ 0 46) (ρ 0 40 10) 61 (exec0 ρ) 0 0).2.2 = 1) ∧ ((mParse (ρ 0 46) (ρ 0 40 10) 61 (exec0 ρ) 0 0).2.2 = 0 → (cAll (σ 0 46) (σ 0 26 1) 31 (st3 σ 0 26 3 0) 0).1 0 26 3 = (mParse (ρ 0 46) (ρ 0 40 10) 61 (exec0 ρ) 0 0).1 0 40 19 ∧ (1 ≤ (cAll (σ 0 46) (σ 0 26 1) 31 (st3 σ 0 26 3 0) 0).1 0 26 3 ∧ (cAll (σ 0 46) (σ 0 26 1) 31 (st3 σ 0 26 3 0) 0).1 0 26 3 ≤ 30) ∧ ∀ k : Int, 0 ≤ k → k < (cAll (σ 0 46) (σ 0 26 1) 31 (st3 σ 0 26 3 0) 0).1 0 26 3 → CM (cAll (σ 0 46) (σ 0 26 1) 31 (st3 σ 0 26 3 0) 0).1 (mParse (ρ 0 46) (ρ 0 40 10) 61 (exec0 ρ) 0 0).1 k) := by
  have hP := h.c6
  rw [e1, e2]
  exact rd_all hP.2.2.1.2 hP.2.2.2.1 31 (st3 σ 0 26 3 0) (exec0 ρ) 0 0 61 st3_self (by decide) (by decide) (by decide) hP.2.2.1.1 (by decide) (by decide) (fun k a b => absurd b (by omega))
/-- the start of both chains -/
theorem ex_start (h : INV σ B) (hw : (cAll (σ 0 46) (σ 0 26 1) 31 (st3 σ 0 26 3 0) 0).2.2 = 1) {ρ : Mem} (hR : Rng ρ) (e1 : ρ 0 46 = σ 0 46) (e2 : ρ 0 40 10 = σ 0 26 1) (e3 : ρ 0 41 = σ 0 41) : Rl (X0 σ) (q0 ρ) B 0 ∧ (mParse (ρ 0 46) (ρ 0 40 10) 61 (exec0 ρ) 0 0).2.2 = 0 ∧ ∃ n : Nat, (1 ≤ n ∧ n ≤ 30) ∧ X0 σ 0 26 3 = (n : Int) ∧ q0 ρ 0 40 19 = (n : Int) ∧ ∀ k : Nat, k < n → CM (X0 σ) (q0 ρ) (k : Int) := by
  obtain ⟨r1, r2, r3⟩ := ex_rd h e1 e2
  have hl := h.c6.2.2.1
  have w0 : (mParse (ρ 0 46) (ρ 0 40 10) 61 (exec0 ρ) 0 0).2.2 = 0 := by
    have := congrArg Prod.snd r1
    rw [hw] at this
    dsimp only at this
    omega
  obtain ⟨r4, r5, r6⟩ := r3 w0
  refine ⟨⟨?_, X0_R h, q0_R hR (by rw [e2]; exact hl), ?_, fun _ _ => rfl, fun _ _ => rfl, fun _ _ _ => rfl⟩, w0, ((cAll (σ 0 46) (σ 0 26 1) 31 (st3 σ 0 26 3 0) 0).1 0 26 3).toNat, ⟨by omega, by omega⟩, ?_, ?_, fun k hk => ?_⟩
  · show MR (X0 σ 0) (q0 ρ 0 41)
    rw [q0_o (by decide), e3]
    exact MR_same h.m (fun j hj => X0_g (by decide) (by omega)) (fun _ _ _ => rfl)
  · show BD (q0 ρ 0 41) _
    rw [q0_o (by decide), e3]
    exact h.b.mono (by omega)
  · rw [X0_263]
    omega
  · rw [q0_19, ← r4]
    omega
  · exact (r6 k (by omega) (by omega)).congr (by rw [X0_30 (by decide)]) (X0_30 (by decide)) (fun i _ _ => q0_48)
theorem INV.p0 (h : INV σ B) : 0 ≤ B := by
  have := h.m.ni.cr 12 (by decide)
  have := h.b 12 (by decide) (by decide)
  omega
/-- the input holds a fault -/
theorem ex_w (hl0 : l.stackTraces = false) (h : INV σ B) (hw : (cAll (σ 0 46) (σ 0 26 1) 31 (st3 σ 0 26 3 0) 0).2.2 = 0) : St l D K ad σ B yX8_execute (.code yX8_execute cX8_execute 4 (some .int)) 9 1 6 yX9_execute (.code yX9_execute cX9_execute 3 (some .int)) 8 [] ["java/lang/IllegalArgumentException", "java/lang/IllegalStateException", "java/lang/UnsupportedOperationException"] := by
  have r := ex_rd h (ρ := σ) rfl h.in_.1.symm
  have hp := cAll_p (f := 31) (p := 0) (h.c6.st (g := 0) (j := 26) (i := 3) (v := 0) ⟨by decide, by decide⟩ (by decide) (by decide)) (by decide) (by rw [st3_self]; decide) (by rw [st3_self]; decide)
  have hR1 : Rng (st3 (cx0 (σ 0 46) (σ 0 26 1) σ) 0 23 10 (cAll (σ 0 46) (σ 0 26 1) 31 (st3 σ 0 26 3 0) 0).2.1) := (cx0_R h.c6).st ⟨by omega, by omega⟩
  refine ⟨_, 1, 0, _, cx_exec_s hl0 σ h.r (σ 0 46) (σ 0 26 1) h.c6 hw, Or.inr ⟨0, _, rfl, rfl, rfl⟩, hR1, fun σ2 hR2 hW => ?_⟩
  have f1 : ∀ (i : Int) (j : Nat), ¬ (i = 0 ∧ j = 23) → ¬ (j = 26 ∨ j = 28 ∨ j = 30) → st3 (cx0 (σ 0 46) (σ 0 26 1) σ) 0 23 10 (cAll (σ 0 46) (σ 0 26 1) 31 (st3 σ 0 26 3 0) 0).2.1 i j = σ i j := fun i j a b => by rw [st3_oj a, cx0_o b]
  have f2 : ∀ (i : Int) (j : Nat), ¬ (i = 0 ∧ (j = 23 ∨ j = 50 ∨ j = 51)) → ¬ (j = 26 ∨ j = 28 ∨ j = 30) → σ2 i j = σ i j := fun i j a b => by rw [hW i j (by omega), f1 i j (by omega) b]
  have f23 : ∀ k : Int, σ2 0 23 k = if k = 10 then (cAll (σ 0 46) (σ 0 26 1) 31 (st3 σ 0 26 3 0) 0).2.1 else σ 0 23 k := fun k => by
    rw [hW 0 23 (by decide)]
    by_cases e : k = 10
    · rw [if_pos e, e, st3_self]
    · rw [if_neg e, st3_k e, cx0_o (by decide)]
  have e1 : σ2 0 46 = σ 0 46 := f2 0 46 (by decide) (by decide)
  have e2 : σ2 0 40 10 = σ 0 26 1 := by rw [f2 0 40 (by decide) (by decide), h.in_.1]
  have hl := h.c6.2.2.1
  obtain ⟨s1, s2, s3⟩ := ex_rd h e1 e2
  have t1 : (mParse (σ2 0 46) (σ2 0 40 10) 61 (exec0 σ2) 0 0).2.1 = (cAll (σ 0 46) (σ 0 26 1) 31 (st3 σ 0 26 3 0) 0).2.1 := (congrArg Prod.fst s1).symm
  have w1 : (mParse (σ2 0 46) (σ2 0 40 10) 61 (exec0 σ2) 0 0).2.2 = 1 := by
    have := congrArg Prod.snd s1
    rw [hw] at this
    dsimp only at this
    omega
  have hC := g_exec_w (D := D) (K := K) (ad := ad) hl0 σ2 hR2 (by rw [e2]; exact hl) w1
  rw [show qM (mParse (σ2 0 46) (σ2 0 40 10) 61 (exec0 σ2) 0 0).1 (mParse (σ2 0 46) (σ2 0 40 10) 61 (exec0 σ2) 0 0).2 = q0 σ2 from rfl, t1] at hC
  have hRq := q0_R hR2 (by rw [e2]; exact hl)
  have v : ∀ (i : Int) (j : Nat), ¬ (j = 40 ∨ j = 42 ∨ j = 48) → thrM (st3 (q0 σ2) 0 40 7 (cAll (σ 0 46) (σ 0 26 1) 31 (st3 σ 0 26 3 0) 0).2.1) 1 i j = σ2 i j := fun i j a => by
    unfold thrM
    rw [st3_oj (by omega), st3_oj (by omega), q0_o a]
  have vk : ∀ k : Int, k ≠ 7 → k ≠ 8 → k ≠ 10 → k ≠ 14 → k ≠ 19 → k ≠ 20 → k ≠ 21 → k ≠ 22 → thrM (st3 (q0 σ2) 0 40 7 (cAll (σ 0 46) (σ 0 26 1) 31 (st3 σ 0 26 3 0) 0).2.1) 1 0 40 k = σ 0 40 k := fun k a b c d e f g i => by
    unfold thrM
    rw [st3_k b, st3_k a, q0_s ⟨c, e, f, g, i⟩ b d, f2 0 40 (by decide) (by decide)]
  have v7 : thrM (st3 (q0 σ2) 0 40 7 (cAll (σ 0 46) (σ 0 26 1) 31 (st3 σ 0 26 3 0) 0).2.1) 1 0 40 7 = (cAll (σ 0 46) (σ 0 26 1) 31 (st3 σ 0 26 3 0) 0).2.1 := by
    unfold thrM
    rw [st3_k (by decide), st3_self]
  have v10 : thrM (st3 (q0 σ2) 0 40 7 (cAll (σ 0 46) (σ 0 26 1) 31 (st3 σ 0 26 3 0) 0).2.1) 1 0 40 10 = 0 := by
    unfold thrM
    rw [st3_k (by decide), st3_k (by decide), q0_10]
  have hR3 : Rng (thrM (st3 (q0 σ2) 0 40 7 (cAll (σ 0 46) (σ 0 26 1) 31 (st3 σ 0 26 3 0) 0).2.1) 1) := (hRq.st ⟨by omega, by omega⟩).st ⟨by decide, by decide⟩
  have v8 : thrM (st3 (q0 σ2) 0 40 7 (cAll (σ 0 46) (σ 0 26 1) 31 (st3 σ 0 26 3 0) 0).2.1) 1 0 40 8 = 1 := st3_self
  generalize thrM (st3 (q0 σ2) 0 40 7 (cAll (σ 0 46) (σ 0 26 1) 31 (st3 σ 0 26 3 0) 0).2.1) 1 = σ3 at hC v vk v7 v10 hR3 v8
  refine ⟨_, σ3, hC, v8, fun q => absurd q (by decide), fun j hj => v 0 j (by omega), ?_⟩
  refine h.gen (by omega) hR3 (fun g _ _ _ j hj => by rw [v g j (by omega), f2 g j (by omega) (by omega)]) ?_ ?_ (by rw [v 0 24 (by decide), f2 0 24 (by decide) (by decide)]) (fun k _ _ => by rw [v 0 41 (by decide), f2 0 41 (by decide) (by decide)]) (by rw [v 0 44 (by decide), f2 0 44 (by decide) (by decide)]) (by rw [v 0 45 (by decide), f2 0 45 (by decide) (by decide)]) (vk 6 (by decide) (by decide) (by decide) (by decide) (by decide) (by decide) (by decide) (by decide)) (vk 4 (by decide) (by decide) (by decide) (by decide) (by decide) (by decide) (by decide) (by decide)) (by rw [v 0 23 (by decide), f23, if_neg (by decide)]) ?_ ?_ ?_ ?_
  · rw [v 1 6 (by decide), v 1 12 (by decide), f2 1 6 (by decide) (by decide), f2 1 12 (by decide) (by decide)]
    exact h.s 1 (by decide) (by decide)
  · intro k a b c
    rw [v 1 0 (by decide), f2 1 0 (by decide) (by decide)]
    exact h.z 1 (by decide) (by decide) k a b c
  · unfold RJ
    rw [v 0 23 (by decide), f23, f23, f23, if_neg (by decide), if_neg (by decide), if_neg (by decide), vk 11 (by decide) (by decide) (by decide) (by decide) (by decide) (by decide) (by decide) (by decide), vk 12 (by decide) (by decide) (by decide) (by decide) (by decide) (by decide) (by decide) (by decide), vk 13 (by decide) (by decide) (by decide) (by decide) (by decide) (by decide) (by decide) (by decide)]
    exact h.rj
  · rw [v7, v 0 23 (by decide), f23, if_pos rfl]
  · have e26 : σ3 0 26 1 = 0 := by rw [v 0 26 (by decide), hW 0 26 (by decide), st3_j (by decide), cx0_261]
    unfold INp
    rw [e26, v10]
    exact ⟨rfl, by decide, fun k a b => absurd b (by omega)⟩
  · unfold OUp
    rw [v 0 31 (by decide), v 0 32 (by decide), v 0 33 (by decide), v 0 47 (by decide), f2 0 31 (by decide) (by decide), f2 0 32 (by decide) (by decide), f2 0 33 (by decide) (by decide), f2 0 47 (by decide) (by decide), vk 17 (by decide) (by decide) (by decide) (by decide) (by decide) (by decide) (by decide) (by decide)]
    exact h.ou
end EX
