/-! the whole input carried out, both sides: done, failed -/
section EY
variable {l : Launch} {D : va_G} {K : Nat → ClassId} {ad : Adr} {σ : Mem} {B : Int}
theorem ex_sz (h : INV σ B) {r0 : Mem} {k : Nat} (hR : Rl (X0 σ) r0 B k) : SZ (cT (X0 σ) k) := by
  obtain ⟨h1, h2, h3, h4, h5, h6, h7⟩ := hR
  intro g g0 g1
  by_cases e0 : g = 0
  · subst e0
    exact h1.szs
  · rw [h5 g e0]
    by_cases e1 : g = 1
    · subst e1
      exact (X0_m h).szs
    · rw [X0_g e1 (by decide), X0_g e1 (by decide)]
      exact h.s g g0 g1
theorem ex_s0 (h : INV σ B) : SZ (cx0 (σ 0 46) (σ 0 26 1) σ) := fun g g0 g1 => by
  rw [cx0_o (by decide), cx0_o (by decide)]
  exact h.s g g0 g1
/-- every command is carried out -/
theorem ex_o (hl0 : l.stackTraces = false) (h : INV σ B) (hB : B ≤ 40000000) (hw : (cAll (σ 0 46) (σ 0 26 1) 31 (st3 σ 0 26 3 0) 0).2.2 = 1) {n : Nat} (hn : 1 ≤ n ∧ n ≤ 30) (h3 : X0 σ 0 26 3 = (n : Int)) (hv : ∀ k : Nat, k < n → cmdV (cT (X0 σ) k) (k : Int) = 0) : St l D K ad σ B yX8_execute (.code yX8_execute cX8_execute 4 (some .int)) 9 1 6 yX9_execute (.code yX9_execute cX9_execute 3 (some .int)) 8 [] ["java/lang/IllegalArgumentException", "java/lang/IllegalStateException", "java/lang/UnsupportedOperationException"] := by
  have hB0 := h.p0
  have hl := h.c6.2.2.1
  have hh := h.hi
  have n0 := hh.2.1
  have n1 := hh.2.2
  -- both chains, from any memory of the reference
  have go : ∀ ρ : Mem, Rng ρ → ρ 0 46 = σ 0 46 → ρ 0 40 10 = σ 0 26 1 → ρ 0 41 = σ 0 41 → (∀ k : Nat, k ≤ n → Rl (X0 σ) (q0 ρ) B k) ∧ (∀ k : Nat, k < n → One l D K ad (cT (X0 σ) k) (rT (q0 ρ) k) (k : Int) (B + 2000 * (k : Int))) ∧ (mParse (ρ 0 46) (ρ 0 40 10) 61 (exec0 ρ) 0 0).2.2 = 0 ∧ q0 ρ 0 40 19 = (n : Int) := by
    intro ρ hR e1 e2 e3
    obtain ⟨s1, s2, m, s3, s4, s5, s6⟩ := ex_start h hw hR e1 e2 e3
    have em : m = n := by omega
    subst em
    have ra := s1.all hl0 hB hB0 D K ad m s3.2 s6 hv
    exact ⟨ra, fun k hk => (ra k (by omega)).one hl0 (by omega) hB hB0 (s6 k hk), s2, s5⟩
  obtain ⟨v1, v2, v3, v4⟩ := go σ h.r rfl h.in_.1.symm rfl
  have x23 : ∀ j : Nat, 23 ≤ j → cT (X0 σ) n 0 j = X0 σ 0 j := (v1 n (Nat.le_refl n)).2.2.2.2.2.1
  have x24 : cT (X0 σ) n 0 24 = σ 0 24 := by rw [x23 24 (by decide), X0_g (by decide) (by decide)]
  have hHn : HI (cT (X0 σ) n) := by
    unfold HI
    rw [x24]
    exact hh
  have hn0 : 0 ≤ cT (X0 σ) n 0 24 1 := by rw [x24]; exact n0
  have y0 : ∀ j : Nat, j ≠ 24 → remM (cT (X0 σ) n) 1 0 j = cT (X0 σ) n 0 j := fun j hj => remM_0j hn0 hj
  have hR1 : Rng (remM (cT (X0 σ) n) 1) := remM_R (v1 n (Nat.le_refl n)).2.1 hHn
  refine ⟨_, 0, (n : Int), _, c_exec hl0 σ h.r (σ 0 46) (σ 0 26 1) h.c6 hw (ex_s0 h) n hn.2 (cT (X0 σ)) rfl (fun k hk => ⟨?_, (v1 k hk).2.1⟩) (fun k hk => ?_) hHn (ex_sz h (v1 n (Nat.le_refl n))) ?_, Or.inl ⟨rfl, rfl⟩, hR1, fun σ2 hR2 hW => ?_⟩
  · rw [(v1 k hk).2.2.2.2.2.1 26 (by decide), h3]
  · rcases v2 k hk with ⟨-, -, q, -⟩ | ⟨p, q, -, -, -⟩ | ⟨p, d, q, -, -, -, -⟩
    · exact q
    · have := hv k hk
      omega
    · have := hv k hk
      omega
  · rw [y0 26 (by decide), x23 26 (by decide), h3]
  · have f0 : ∀ j : Nat, 23 ≤ j → ¬ (j = 24 ∨ j = 26 ∨ j = 28 ∨ j = 30) → remM (cT (X0 σ) n) 1 0 j = σ 0 j := fun j a b => by
      rw [y0 j (by omega), x23 j a, X0_g (by decide) (by omega)]
    have g0 : ∀ j : Nat, 23 ≤ j → ¬ (j = 24 ∨ j = 26 ∨ j = 28 ∨ j = 30 ∨ j = 50 ∨ j = 51) → σ2 0 j = σ 0 j := fun j a b => by
      rw [hW 0 j (by omega), f0 j a (by omega)]
    have e1 : σ2 0 46 = σ 0 46 := g0 46 (by decide) (by decide)
    have e2 : σ2 0 40 10 = σ 0 26 1 := by rw [g0 40 (by decide) (by decide), h.in_.1]
    have e3 : σ2 0 41 = σ 0 41 := g0 41 (by decide) (by decide)
    obtain ⟨w1, w2, w3, w4⟩ := go σ2 hR2 e1 e2 e3
    have rl := w1 n (Nat.le_refl n)
    have rv : ∀ (i : Int) (j : Nat), ¬ (i = 0 ∧ j = 41) → rT (q0 σ2) n i j = q0 σ2 i j := rl.2.2.2.2.2.2
    have r24 := remM_24 (σ := cT (X0 σ) n) (m := 1) hn0
    have c3 : cT (X0 σ) n (3 + σ 0 24 1) = X0 σ (3 + σ 0 24 1) := rl.2.2.2.2.1 _ (by omega)
    have sz := ex_sz h rl
    have hist := hist_gen (σ1 := remM (cT (X0 σ) n) 1) (σ2 := σ2) (τ1 := rT (q0 σ2) n) (B' := B + 60000) h (by omega) (MR_same rl.1 (fun j hj => y0 j (by omega)) (fun _ _ _ => rfl)) (rl.2.2.2.1.mono (by omega)) rl.2.2.1 hW ?_ ?_ ?_ (f0 23 (by decide) (by decide)) ⟨by rw [r24.1, x24], by rw [r24.2, x24]⟩ (f0 44 (by decide) (by decide)) (f0 45 (by decide) (by decide)) (fun j a b => f0 j (by omega) (by omega)) (f0 47 (by decide) (by decide)) ?_ (fun k _ => by rw [f0 40 (by decide) (by decide)]) ?_ (fun i j hij => by rw [rv i j (by omega), q0_o (by omega)]) (fun k hk => by rw [rv 0 40 (by decide), q0_s (by omega) (by omega) (by omega)]) (by rw [rv 0 40 (by decide), q0_8]) (fun k a b => by rw [rv 0 42 (by decide), q0_42 a b, e3])
    · obtain ⟨σ3, hC, h8, h50, hI⟩ := hist
      refine ⟨(n : Int), σ3, g_exec_o hl0 σ2 hR2 (by rw [e2]; exact hl) w3 n (by omega) (rT (q0 σ2)) rfl (fun k hk => ⟨?_, (w1 k hk).2.2.1⟩) (fun k hk => ⟨?_, ?_⟩) σ3 (hC l D K ad (n : Int) hl0), h8, fun _ => rfl, h50, hI⟩
      · rw [(w1 k hk).2.2.2.2.2.2 0 40 (by decide), w4]
      · rcases w2 k hk with ⟨-, -, -, q⟩ | ⟨p, q, -, -, -⟩ | ⟨p, d, q, -, -, -, -⟩
        · exact q
        · have := hv k hk
          omega
        · have := hv k hk
          omega
      · rw [(w1 (k + 1) (by omega)).2.2.2.2.2.2 0 40 (by decide), q0_8]
        decide
    · intro i j i2 i11 hi hj
      rw [remM_i (by omega), x24, cpMarket_o hi, rl.2.2.2.2.1 i (by omega), X0_g (by omega) (by omega)]
    · intro g a b
      by_cases c : g = 0
      · subst c
        rw [y0 6 (by decide), y0 12 (by decide)]
        exact sz 0 (by decide) (by decide)
      · rw [remM_i c, x24]
        by_cases c2 : g = 3 + σ 0 24 1
        · rw [c2]
          have s := cpMarket_sz (σ := cT (X0 σ) n) (g := 3 + σ 0 24 1) (h := 1) (by omega)
          rw [s.1, s.2.1]
          exact sz 1 (by decide) (by decide)
        · rw [cpMarket_o c2]
          exact sz g a b
    · intro g a b
      by_cases c : g = 0
      · subst c
        intro k k0 k1 k2
        rw [y0 0 (by decide)]
        exact rl.1.rz k k0 k1 k2
      · rw [remM_i c, x24]
        have zz : RZ (cT (X0 σ) n g) := by
          rw [rl.2.2.2.2.1 g c]
          by_cases c1 : g = 1
          · subst c1
            exact (X0_m h).rz
          · intro k k0 k1 k2
            rw [X0_g c1 (by decide)]
            exact h.z g a b k k0 k1 k2
        by_cases c2 : g = 3 + σ 0 24 1
        · rw [c2] at zz ⊢
          exact cpMarket_rz (by omega) zz
        · rw [cpMarket_o c2]
          exact zz
    · have e26 : remM (cT (X0 σ) n) 1 0 26 1 = 0 := by rw [y0 26 (by decide), x23 26 (by decide), X0_261]
      rw [e26, rv 0 40 (by decide), q0_10]
      exact ⟨rfl, by decide, fun k a b => absurd b (by omega)⟩
    · rw [remM_i (by omega), x24]
      refine cpMarket_MR (by omega) ?_ ?_
      · rw [rl.2.2.2.2.1 1 (by decide)]
        exact X0_m h
      · rw [c3]
        intro k k0 k1 k2
        rw [X0_g (by omega) (by decide)]
        exact h.z _ (by omega) (by omega) k k0 k1 k2
/-- behind a failing input -/
theorem ex_inv {σ1 σ2 σ3 r0 : Mem} {f : Nat} (h : INV σ B) (hf : f ≤ 30) (rl : Rl (X0 σ) r0 B f) (hR3 : Rng σ3) (hW : Wr σ1 σ2) (u1 : ∀ (i : Int) (j : Nat), ¬ (i = 0 ∧ j = 23) → σ1 i j = cpMarket (cT (X0 σ) f) 0 1 i j) (u3 : σ1 0 23 3 = σ 0 23 3 ∧ σ1 0 23 10 = σ 0 23 10)
    (w : ∀ (i : Int) (j : Nat), ¬ (j = 40 ∨ j = 41 ∨ j = 42 ∨ j = 48) → σ3 i j = σ2 i j) (w41 : ∀ k : Int, 0 ≤ k → k < 212 → σ3 0 41 k = σ 0 41 k) (w40 : ∀ k : Int, k = 4 ∨ k = 6 ∨ k = 7 ∨ k = 17 → σ3 0 40 k = σ 0 40 k) (w10 : σ3 0 40 10 = 0) (hrj : RJ σ3) : INV σ3 (B + 60000) := by
  have hB0 := h.p0
  have V : ∀ (i : Int) (j : Nat), ¬ (i = 0 ∧ j = 23) → ¬ (j = 40 ∨ j = 41 ∨ j = 42 ∨ j = 48 ∨ j = 50 ∨ j = 51) → σ3 i j = cpMarket (cT (X0 σ) f) 0 1 i j := fun i j a b => by
    rw [w i j (by omega), hW i j (by omega), u1 i j a]
  have V0 : ∀ j : Nat, 24 ≤ j → ¬ (j = 26 ∨ j = 28 ∨ j = 30 ∨ j = 40 ∨ j = 41 ∨ j = 42 ∨ j = 48 ∨ j = 50 ∨ j = 51) → σ3 0 j = σ 0 j := fun j a b => by
    rw [V 0 j (by omega) (by omega), cpMarket_hi (by omega), rl.2.2.2.2.2.1 j (by omega), X0_g (by decide) (by omega)]
  have Vg : ∀ (g : Int) (j : Nat), g ≠ 0 → j ≤ 22 → σ3 g j = X0 σ g j := fun g j a b => by
    rw [V g j (by omega) (by omega), cpMarket_o a, rl.2.2.2.2.1 g a]
  have m1 : MR (cT (X0 σ) f 1) (σ 0 41) := by
    rw [rl.2.2.2.2.1 1 (by decide)]
    exact X0_m h
  have m0 : MR (cpMarket (cT (X0 σ) f) 0 1 0) (σ 0 41) := cpMarket_MR (by decide) m1 rl.1.rz
  have v23 : ∀ k : Int, σ3 0 23 k = σ1 0 23 k := fun k => by rw [w 0 23 (by decide), hW 0 23 (by decide)]
  refine h.gen2 (by omega) hR3 (MR_same m0 (fun j hj => V 0 j (by omega) (by omega)) w41) (BD_congr (h.b.mono (by omega)) w41) (fun g a b j hj => by rw [Vg g j (by omega) hj, X0_g (by omega) (by omega)]) ?_ ?_ (V0 24 (by decide) (by decide)) (V0 44 (by decide) (by decide)) (V0 45 (by decide) (by decide)) (w40 6 (by decide)) (w40 4 (by decide)) (by rw [v23, u3.1]) hrj ?_ ?_ ?_
  · rw [Vg 1 6 (by decide) (by decide), Vg 1 12 (by decide) (by decide)]
    exact (X0_m h).szs
  · intro k a b c
    rw [Vg 1 0 (by decide) (by decide)]
    exact (X0_m h).rz k a b c
  · rw [w40 7 (by decide), v23, u3.2]
    exact h.se
  · have e26 : σ3 0 26 1 = 0 := by rw [V 0 26 (by decide) (by decide), cpMarket_hi (by decide), rl.2.2.2.2.2.1 26 (by decide), X0_261]
    unfold INp
    rw [e26, w10]
    exact ⟨rfl, by decide, fun k a b => absurd b (by omega)⟩
  · unfold OUp
    rw [V0 31 (by decide) (by decide), V0 32 (by decide) (by decide), V0 33 (by decide) (by decide), V0 47 (by decide) (by decide), w40 17 (by decide)]
    exact h.ou
/-- the reference's memories, the last one failing -/
noncomputable def rF (r0 x : Mem) (f k : Nat) : Mem := if k ≤ f then rT r0 k else x
/-- a command fails -/
theorem ex_f (hl0 : l.stackTraces = false) (h : INV σ B) (hB : B ≤ 40000000) (hw : (cAll (σ 0 46) (σ 0 26 1) 31 (st3 σ 0 26 3 0) 0).2.2 = 1) {n : Nat} (hn : 1 ≤ n ∧ n ≤ 30) (h3 : X0 σ 0 26 3 = (n : Int)) {f : Nat} (hf : f < n) (hv : ∀ k : Nat, k < f → cmdV (cT (X0 σ) k) (k : Int) = 0) (hvf : cmdV (cT (X0 σ) f) (f : Int) ≠ 0) : St l D K ad σ B yX8_execute (.code yX8_execute cX8_execute 4 (some .int)) 9 1 6 yX9_execute (.code yX9_execute cX9_execute 3 (some .int)) 8 [] ["java/lang/IllegalArgumentException", "java/lang/IllegalStateException", "java/lang/UnsupportedOperationException"] := by
  have hB0 := h.p0
  have hl := h.c6.2.2.1
  have hh := h.hi
  have go : ∀ ρ : Mem, Rng ρ → ρ 0 46 = σ 0 46 → ρ 0 40 10 = σ 0 26 1 → ρ 0 41 = σ 0 41 → (∀ k : Nat, k ≤ f → Rl (X0 σ) (q0 ρ) B k) ∧ (∀ k : Nat, k ≤ f → One l D K ad (cT (X0 σ) k) (rT (q0 ρ) k) (k : Int) (B + 2000 * (k : Int))) ∧ (mParse (ρ 0 46) (ρ 0 40 10) 61 (exec0 ρ) 0 0).2.2 = 0 ∧ q0 ρ 0 40 19 = (n : Int) := by
    intro ρ hR e1 e2 e3
    obtain ⟨s1, s2, m, s3, s4, s5, s6⟩ := ex_start h hw hR e1 e2 e3
    have em : m = n := by omega
    subst em
    have ra := s1.all hl0 hB hB0 D K ad f (by omega) (fun k hk => s6 k (by omega)) hv
    exact ⟨ra, fun k hk => (ra k (by omega)).one hl0 (by omega) hB hB0 (s6 k (by omega)), s2, s5⟩
  obtain ⟨v1, v2, v3, v4⟩ := go σ h.r rfl h.in_.1.symm rfl
  have rl := v1 f (Nat.le_refl f)
  have hRm : Rng (cpMarket (cT (X0 σ) f) 0 1) := cpMarket_R rl.2.1
  have x0 : ∀ j : Nat, 23 ≤ j → ¬ (j = 26 ∨ j = 28 ∨ j = 30) → cpMarket (cT (X0 σ) f) 0 1 0 j = σ 0 j := fun j a b => by
    rw [cpMarket_hi a, rl.2.2.2.2.2.1 j a, X0_g (by decide) (by omega)]
  -- the class's chain, with numbers past the failing command: the same memory
  have hc : ∀ k : Nat, k ≤ f → cT (X0 σ) k 0 26 3 = (n : Int) ∧ Rng (cT (X0 σ) k) := fun k hk => ⟨by rw [(v1 k hk).2.2.2.2.2.1 26 (by decide), h3], (v1 k hk).2.1⟩
  have hs : ∀ k : Nat, k < f → Cb l D K ad yX8_perform (.code yX8_perform cX8_perform 7 (some .int)) 6 0 0 (cT (X0 σ) k) [.ref (ad 0 23), .int (iN (k : Int))] (.inl (some (.int (iN 0)))) (cT (X0 σ) (k + 1)) := fun k hk => by
    rcases v2 k (by omega) with ⟨-, -, q, -⟩ | ⟨p, q, -, -, -⟩ | ⟨p, d, q, -, -, -, -⟩
    · exact q
    · have := hv k hk
      omega
    · have := hv k hk
      omega
  -- the same chain, held still behind the failing command
  have hcF : ∀ k : Nat, k ≤ n → rF (X0 σ) (cT (X0 σ) f) f k = rF (X0 σ) (cT (X0 σ) f) f k := fun _ _ => rfl
  let τ : Nat → Mem := fun k => if k ≤ f then cT (X0 σ) k else cT (X0 σ) f
  have τ1 : ∀ k : Nat, k ≤ f → τ k = cT (X0 σ) k := fun k hk => if_pos hk
  have τc : ∀ k : Nat, k ≤ n → τ k 0 26 3 = (n : Int) ∧ Rng (τ k) := fun k _ => by
    by_cases c : k ≤ f
    · rw [τ1 k c]
      exact hc k c
    · rw [show τ k = cT (X0 σ) f from if_neg c]
      exact hc f (Nat.le_refl f)
  have τs : ∀ k : Nat, k < f → Cb l D K ad yX8_perform (.code yX8_perform cX8_perform 7 (some .int)) 6 0 0 (τ k) [.ref (ad 0 23), .int (iN (k : Int))] (.inl (some (.int (iN 0)))) (τ (k + 1)) := fun k hk => by
    rw [τ1 k (by omega), τ1 (k + 1) (by omega)]
    exact hs k hk
  have τz : SZ (τ f) := by
    rw [τ1 f (Nat.le_refl f)]
    exact ex_sz h rl
  have τ0 : τ 0 = cpMarket (cx0 (σ 0 46) (σ 0 26 1) σ) 1 0 := τ1 0 (Nat.zero_le f)
  have τf : τ f = cT (X0 σ) f := τ1 f (Nat.le_refl f)
  clear_value τ
  -- the reference, up to its failing command
  have ref : ∀ σ2 : Mem, Rng σ2 → σ2 0 46 = σ 0 46 → σ2 0 40 10 = σ 0 26 1 → σ2 0 41 = σ 0 41 → ∀ (x : Mem) (p : Int), 1 ≤ p → x 0 40 8 = p → x 0 40 19 = (n : Int) → Rng x → Cb l D K ad yX9_does (.code yX9_does cX9_does 4 none) 7 0 0 (rT (q0 σ2) f) [.ref (ad 0 40), .int (iN (4 * (f : Int)))] (.inl none) x → ∀ σ3 : Mem, Cb l D K ad yX9_fails (.code yX9_fails cX9_fails 3 (some .int)) 3 0 0 x [.ref (ad 0 40), .int (iN (f : Int))] (.inl (some (.int (iN (-1))))) σ3 → Cb l D K ad yX9_execute (.code yX9_execute cX9_execute 3 (some .int)) 8 0 0 σ2 [.ref (ad 0 40)] (.inl (some (.int (iN (-1))))) σ3 := by
    intro σ2 hR2 e1 e2 e3 x p hp x8 x19 xR xC σ3 hF
    obtain ⟨w1, w2, w3, w4⟩ := go σ2 hR2 e1 e2 e3
    have p1 : ∀ k : Nat, k ≤ f → rF (q0 σ2) x f k = rT (q0 σ2) k := fun k hk => if_pos hk
    have p2 : ∀ k : Nat, ¬ k ≤ f → rF (q0 σ2) x f k = x := fun k hk => if_neg hk
    refine g_exec_f hl0 σ2 hR2 (by rw [e2]; exact hl) w3 n (by omega) (rF (q0 σ2) x f) (p1 0 (Nat.zero_le f)) (fun k hk => ?_) f hf (fun k hk => ⟨?_, trivial⟩) (fun k hk => ?_) ?_ σ3 ?_
    · by_cases c : k ≤ f
      · rw [p1 k c]
        exact ⟨by rw [(w1 k c).2.2.2.2.2.2 0 40 (by decide), w4], (w1 k c).2.2.1⟩
      · rw [p2 k c]
        exact ⟨x19, xR⟩
    · rw [p1 k hk]
      by_cases c : k < f
      · rw [p1 (k + 1) c]
        rcases w2 k hk with ⟨-, -, -, q⟩ | ⟨p, q, -, -, -⟩ | ⟨p, d, q, -, -, -, -⟩
        · exact q
        · have := hv k c
          omega
        · have := hv k c
          omega
      · rw [p2 (k + 1) (by omega), show k = f by omega]
        exact xC
    · rw [p1 (k + 1) hk, (w1 (k + 1) hk).2.2.2.2.2.2 0 40 (by decide), q0_8]
      decide
    · rw [p2 (f + 1) (by omega), x8]
      omega
    · rw [p2 (f + 1) (by omega)]
      exact hF
  have G : ∀ σ1 : Mem, (∀ (i : Int) (j : Nat), ¬ (i = 0 ∧ j = 23) → σ1 i j = cpMarket (cT (X0 σ) f) 0 1 i j) → ∀ σ2 : Mem, Wr σ1 σ2 → ∀ j : Nat, 24 ≤ j → ¬ (j = 26 ∨ j = 28 ∨ j = 30 ∨ j = 50 ∨ j = 51) → σ2 0 j = σ 0 j := fun σ1 u σ2 hW j a b => by
    rw [hW 0 j (by omega), u 0 j (by omega), x0 j (by omega) (by omega)]
  have fA : ∀ (ρ : Mem), (∀ (i : Int) (j : Nat), ¬ (i = 0 ∧ j = 41) → failA ρ i j = ρ i j) ∧ ∀ k : Int, 0 ≤ k → k < 212 → failA ρ 0 41 k = ρ 0 42 k := fun ρ => by
    unfold failA
    refine ⟨fun i j hij => ?_, fun k a b => ?_⟩
    · funext k
      exact if_neg fun q => hij ⟨q.1, q.2.1⟩
    · rw [cpy_in a (by omega), show (0 : Int) + (k - 0) = k by omega]
  rcases v2 f (Nat.le_refl f) with ⟨q, -, -, -⟩ | ⟨p, q1, q2, q3, -⟩ | ⟨p, d, q1, q2, q3, q4, -⟩
  · exact absurd q hvf
  · refine ⟨_, 2, 0, _, cx_exec_n hl0 σ h.r (σ 0 46) (σ 0 26 1) h.c6 hw (ex_s0 h) n hn.2 τ τ0 τc f hf τs _ (by rw [τf]; exact q3) τz q1, Or.inr ⟨1, _, rfl, rfl, rfl⟩, by rw [τf]; exact hRm, fun σ2 hR2 hW => ?_⟩
    rw [τf] at hW
    have g0 := G _ (fun i j _ => rfl) σ2 hW
    have e3 := g0 41 (by decide) (by decide)
    have e2 : σ2 0 40 10 = σ 0 26 1 := by rw [g0 40 (by decide) (by decide), h.in_.1]
    obtain ⟨w1, w2, w3, w4⟩ := go σ2 hR2 (g0 46 (by decide) (by decide)) e2 e3
    have rw_ := w1 f (Nat.le_refl f)
    rcases w2 f (Nat.le_refl f) with ⟨q, -, -, -⟩ | ⟨p', -, y2, -, y3⟩ | ⟨p', d', y1, -, -, -, -⟩
    · exact absurd q hvf
    · have rv : ∀ (i : Int) (j : Nat), ¬ (i = 0 ∧ (j = 40 ∨ j = 41)) → thrM (rT (q0 σ2) f) p' i j = q0 σ2 i j := fun i j hij => by
        unfold thrM
        rw [st3_oj (by omega), rw_.2.2.2.2.2.2 i j (by omega)]
      have rk : ∀ k : Int, k ≠ 8 → thrM (rT (q0 σ2) f) p' 0 40 k = q0 σ2 0 40 k := fun k hk => by
        unfold thrM
        rw [st3_k hk, rw_.2.2.2.2.2.2 0 40 (by decide)]
      have r8 : thrM (rT (q0 σ2) f) p' 0 40 8 = p' := st3_self
      have xR : Rng (thrM (rT (q0 σ2) f) p') := rw_.2.2.1.st ⟨by omega, by omega⟩
      generalize thrM (rT (q0 σ2) f) p' = x at y3 rv rk r8 xR
      have hF := f_fails0 (D := D) (K := K) (ad := ad) hl0 x xR (f : Int) (by rw [rk 14 (by decide), q0_14])
      have fv : ∀ (i : Int) (j : Nat), ¬ (i = 0 ∧ (j = 40 ∨ j = 41)) → thrM (failA x) 2 i j = x i j := fun i j hij => by
        unfold thrM
        rw [st3_oj (by omega), (fA x).1 i j (by omega)]
      have fk : ∀ k : Int, k ≠ 8 → thrM (failA x) 2 0 40 k = x 0 40 k := fun k hk => by
        unfold thrM
        rw [st3_k hk, (fA x).1 0 40 (by decide)]
      have f41 : ∀ k : Int, 0 ≤ k → k < 212 → thrM (failA x) 2 0 41 k = σ 0 41 k := fun k a b => by
        unfold thrM
        rw [st3_j (by decide), (fA x).2 k a b, rv 0 42 (by decide), q0_42 a b, e3]
      have s40 : ∀ k : Int, k ≠ 8 → k ≠ 14 → k ≠ 10 → k ≠ 19 → k ≠ 20 → k ≠ 21 → k ≠ 22 → thrM (failA x) 2 0 40 k = σ 0 40 k := fun k a b c d e g i => by
        rw [fk k a, rk k a, q0_s ⟨c, d, e, g, i⟩ a b, g0 40 (by decide) (by decide)]
      have hR3 : Rng (thrM (failA x) 2) := by
        unfold thrM failA
        exact (xR.cpy (by decide)).st ⟨by decide, by decide⟩
      refine ⟨_, _, ref σ2 hR2 (g0 46 (by decide) (by decide)) e2 e3 x p' y2.1 r8 (by rw [rk 19 (by decide), w4]) xR y3 _ hF, st3_self, fun q => absurd q (by decide), fun j hj => by rw [fv 0 j (by omega), rv 0 j (by omega), q0_o (by omega)], ?_⟩
      refine ex_inv h (by omega) rl hR3 hW (fun i j _ => rfl) ⟨by rw [x0 23 (by decide) (by decide)], by rw [x0 23 (by decide) (by decide)]⟩ (fun i j hij => by rw [fv i j (by omega), rv i j (by omega), q0_o (by omega)]) f41 (fun k hk => s40 k (by omega) (by omega) (by omega) (by omega) (by omega) (by omega) (by omega)) (by rw [fk 10 (by decide), rk 10 (by decide), q0_10]) ?_
      unfold RJ
      rw [fv 0 23 (by decide), rv 0 23 (by decide), q0_o (by decide), hW 0 23 (by decide), x0 23 (by decide) (by decide), s40 11 (by decide) (by decide) (by decide) (by decide) (by decide) (by decide) (by decide), s40 12 (by decide) (by decide) (by decide) (by decide) (by decide) (by decide) (by decide), s40 13 (by decide) (by decide) (by decide) (by decide) (by decide) (by decide) (by decide)]
      exact h.rj
    · omega
  · refine ⟨_, 3, 0, _, cx_exec_r hl0 σ h.r (σ 0 46) (σ 0 26 1) h.c6 hw (ex_s0 h) n hn.2 τ τ0 τc f hf τs _ (by rw [τf]; exact q4) τz q1, Or.inr ⟨2, _, rfl, rfl, rfl⟩, by rw [τf]; exact noteR_R hRm ⟨by decide, by decide⟩ ⟨by omega, by omega⟩ ⟨by omega, by omega⟩, fun σ2 hR2 hW => ?_⟩
    rw [τf] at hW
    have u1 : ∀ (i : Int) (j : Nat), ¬ (i = 0 ∧ j = 23) → noteR (cpMarket (cT (X0 σ) f) 0 1) 7 (f : Int) (cmdV (cT (X0 σ) f) (f : Int)) i j = cpMarket (cT (X0 σ) f) 0 1 i j := fun i j hij => by
      unfold noteR
      rw [st3_oj hij, st3_oj hij, st3_oj hij]
    have u23 : ∀ k : Int, k ≠ 7 → k ≠ 8 → k ≠ 9 → noteR (cpMarket (cT (X0 σ) f) 0 1) 7 (f : Int) (cmdV (cT (X0 σ) f) (f : Int)) 0 23 k = σ 0 23 k := fun k a b c => by
      unfold noteR
      rw [st3_k c, st3_k b, st3_k a, x0 23 (by decide) (by decide)]
    have u7 : noteR (cpMarket (cT (X0 σ) f) 0 1) 7 (f : Int) (cmdV (cT (X0 σ) f) (f : Int)) 0 23 7 = 7 := by
      unfold noteR
      rw [st3_k (by decide), st3_k (by decide), st3_self]
    have u8 : noteR (cpMarket (cT (X0 σ) f) 0 1) 7 (f : Int) (cmdV (cT (X0 σ) f) (f : Int)) 0 23 8 = (f : Int) := by
      unfold noteR
      rw [st3_k (by decide), st3_self]
    have u9 : noteR (cpMarket (cT (X0 σ) f) 0 1) 7 (f : Int) (cmdV (cT (X0 σ) f) (f : Int)) 0 23 9 = cmdV (cT (X0 σ) f) (f : Int) := st3_self
    generalize noteR (cpMarket (cT (X0 σ) f) 0 1) 7 (f : Int) (cmdV (cT (X0 σ) f) (f : Int)) = σ1 at hW u1 u23 u7 u8 u9
    have g0 := G _ u1 σ2 hW
    have e3 := g0 41 (by decide) (by decide)
    have e2 : σ2 0 40 10 = σ 0 26 1 := by rw [g0 40 (by decide) (by decide), h.in_.1]
    obtain ⟨w1, w2, w3, w4⟩ := go σ2 hR2 (g0 46 (by decide) (by decide)) e2 e3
    have rw_ := w1 f (Nat.le_refl f)
    rcases w2 f (Nat.le_refl f) with ⟨q, -, -, -⟩ | ⟨p', y1, -, -, -⟩ | ⟨p', d', -, y2, y3, -, y4⟩
    · exact absurd q hvf
    · omega
    · have rv : ∀ (i : Int) (j : Nat), ¬ (i = 0 ∧ (j = 40 ∨ j = 41)) → rjM (rT (q0 σ2) f) p' (cmdV (cT (X0 σ) f) (f : Int)) d' i j = q0 σ2 i j := fun i j hij => by
        unfold rjM
        rw [st3_oj (by omega), st3_oj (by omega), st3_oj (by omega), rw_.2.2.2.2.2.2 i j (by omega)]
      have rk : ∀ k : Int, k ≠ 8 → k ≠ 14 → k ≠ 15 → rjM (rT (q0 σ2) f) p' (cmdV (cT (X0 σ) f) (f : Int)) d' 0 40 k = q0 σ2 0 40 k := fun k a b c => by
        unfold rjM
        rw [st3_k a, st3_k c, st3_k b, rw_.2.2.2.2.2.2 0 40 (by decide)]
      have r8 : rjM (rT (q0 σ2) f) p' (cmdV (cT (X0 σ) f) (f : Int)) d' 0 40 8 = p' := st3_self
      have r14 : rjM (rT (q0 σ2) f) p' (cmdV (cT (X0 σ) f) (f : Int)) d' 0 40 14 = cmdV (cT (X0 σ) f) (f : Int) := by
        unfold rjM
        rw [st3_k (by decide), st3_k (by decide), st3_self]
      have xR : Rng (rjM (rT (q0 σ2) f) p' (cmdV (cT (X0 σ) f) (f : Int)) d') := ((rw_.2.2.1.st ⟨by omega, by omega⟩).st y3).st ⟨by omega, by omega⟩
      generalize rjM (rT (q0 σ2) f) p' (cmdV (cT (X0 σ) f) (f : Int)) d' = x at y4 rv rk r8 r14 xR
      have hF := f_fails1 (D := D) (K := K) (ad := ad) hl0 x xR (f : Int) (by rw [r14]; exact hvf) ⟨by omega, by omega⟩
      have fv : ∀ (i : Int) (j : Nat), ¬ (i = 0 ∧ (j = 40 ∨ j = 41)) → failM x (f : Int) i j = x i j := fun i j hij => by
        unfold failM
        try dsimp only
        rw [st3_oj (by omega), st3_oj (by omega), st3_oj (by omega), st3_oj (by omega), (fA x).1 i j (by omega)]
      have fk : ∀ k : Int, k ≠ 8 → k ≠ 11 → k ≠ 12 → k ≠ 13 → failM x (f : Int) 0 40 k = x 0 40 k := fun k a b c d => by
        unfold failM
        try dsimp only
        rw [st3_k a, st3_k d, st3_k c, st3_k b, (fA x).1 0 40 (by decide)]
      have f8 : failM x (f : Int) 0 40 8 = 3 := st3_self
      have f11 : failM x (f : Int) 0 40 11 = 7 := by
        unfold failM
        try dsimp only
        rw [st3_k (by decide), st3_k (by decide), st3_k (by decide), st3_self]
      have f12 : failM x (f : Int) 0 40 12 = (f : Int) := by
        unfold failM
        try dsimp only
        rw [st3_k (by decide), st3_k (by decide), st3_self]
      have f13 : failM x (f : Int) 0 40 13 = cmdV (cT (X0 σ) f) (f : Int) := by
        unfold failM
        try dsimp only
        rw [st3_k (by decide), st3_self, st3_k (by decide), st3_k (by decide), (fA x).1 0 40 (by decide), r14]
      have f41 : ∀ k : Int, 0 ≤ k → k < 212 → failM x (f : Int) 0 41 k = σ 0 41 k := fun k a b => by
        unfold failM
        try dsimp only
        rw [st3_j (by decide), st3_j (by decide), st3_j (by decide), st3_j (by decide), (fA x).2 k a b, rv 0 42 (by decide), q0_42 a b, e3]
      have s40 : ∀ k : Int, k = 4 ∨ k = 6 ∨ k = 7 ∨ k = 17 → failM x (f : Int) 0 40 k = σ 0 40 k := fun k hk => by
        rw [fk k (by omega) (by omega) (by omega) (by omega), rk k (by omega) (by omega) (by omega), q0_s (by omega) (by omega) (by omega), g0 40 (by decide) (by decide)]
      have hR3 : Rng (failM x (f : Int)) := by
        unfold failM failA
        try dsimp only
        refine ((((xR.cpy (by decide)).st ⟨by decide, by decide⟩).st ⟨by omega, by omega⟩).st ?_).st ⟨by decide, by decide⟩
        rw [st3_k (by decide), st3_k (by decide), cpy_k (by decide)]
        exact xR _ _ _ (by decide)
      refine ⟨_, _, ref σ2 hR2 (g0 46 (by decide) (by decide)) e2 e3 x p' y2.1 r8 (by rw [rk 19 (by decide) (by decide) (by decide), w4]) xR y4 _ hF, f8, fun q => absurd q (by decide), fun j hj => by rw [fv 0 j (by omega), rv 0 j (by omega), q0_o (by omega)], ?_⟩
      refine ex_inv h (by omega) rl hR3 hW u1 ⟨u23 3 (by decide) (by decide) (by decide), u23 10 (by decide) (by decide) (by decide)⟩ (fun i j hij => by rw [fv i j (by omega), rv i j (by omega), q0_o (by omega)]) f41 s40 (by rw [fk 10 (by decide) (by decide) (by decide) (by decide), rk 10 (by decide) (by decide) (by decide), q0_10]) ?_
      refine Or.inr (Or.inr ?_)
      rw [fv 0 23 (by decide), rv 0 23 (by decide), q0_o (by decide), hW 0 23 (by decide), u7, u8, u9, f11, f12, f13]
      exact ⟨rfl, rfl, rfl, rfl, q1⟩
theorem st_execute (hl0 : l.stackTraces = false) (h : INV σ B) (hB : B ≤ 40000000) : St l D K ad σ B yX8_execute (.code yX8_execute cX8_execute 4 (some .int)) 9 1 6 yX9_execute (.code yX9_execute cX9_execute 3 (some .int)) 8 [] ["java/lang/IllegalArgumentException", "java/lang/IllegalStateException", "java/lang/UnsupportedOperationException"] := by
  have r := ex_rd h (ρ := σ) rfl h.in_.1.symm
  have hp := cAll_p (f := 31) (p := 0) (h.c6.st (g := 0) (j := 26) (i := 3) (v := 0) ⟨by decide, by decide⟩ (by decide) (by decide)) (by decide) (by rw [st3_self]; decide) (by rw [st3_self]; decide)
  rcases hp.2.2.1 with hw | hw
  · exact ex_w hl0 h hw
  · obtain ⟨s1, s2, n, s3, s4, s5, s6⟩ := ex_start h hw h.r rfl h.in_.1.symm rfl
    rcases first_bad (fun k => cmdV (cT (X0 σ) k) (k : Int) = 0) n with hv | ⟨f, f1, f2, f3⟩
    · exact ex_o hl0 h hB hw s3 s4 hv
    · exact ex_f hl0 h hB hw s3 s4 f1 f2 f3
end EY
