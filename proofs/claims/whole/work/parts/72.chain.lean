/-! the commands of an input, one after another -/
theorem st3_n {σ : Mem} {g g' : Int} {j j' : Nat} {k k' v : Int} (h : ¬ (g' = g ∧ j' = j ∧ k' = k)) : st3 σ g j k v g' j' k' = σ g' j' k' := if_neg h
section CN
variable {ch : Int → Int} {len : Int}
theorem cAll_o {g : Int} {j : Nat} {k : Int} (h : ¬ (j = 26 ∨ j = 28 ∨ j = 30)) : ∀ (f : Nat) (σ : Mem) (p : Int), (cAll ch len f σ p).1 g j k = σ g j k
  | 0, σ, p => rfl
  | f + 1, σ, p => by
    have r : (cRead ch len (σ 0 26 3) σ p).1 g j k = σ g j k := cRead_o (by omega) (by omega) (by omega)
    unfold cAll
    split
    · rfl
    · split
      · exact r
      · split
        · exact (st3_j (by omega)).trans r
        · split
          · rw [cAll_o h f, st3_j (by omega), r]
          · exact r
theorem cx0_o {σ : Mem} {g : Int} {j : Nat} (h : ¬ (j = 26 ∨ j = 28 ∨ j = 30)) : cx0 ch len σ g j = σ g j := by
  funext k
  unfold cx0
  rw [st3_j (by omega), aM_j (by omega), cAll_o h, st3_j (by omega)]
theorem cx0_261 {σ : Mem} : cx0 ch len σ 0 26 1 = 0 := by
  unfold cx0
  exact st3_self
theorem cx0_263 {σ : Mem} : cx0 ch len σ 0 26 3 = (cAll ch len 31 (st3 σ 0 26 3 0) 0).1 0 26 3 := by
  unfold cx0
  rw [st3_k (by decide), aM_k (by decide)]
theorem cx0_28 {σ : Mem} {g : Int} {j : Nat} (h : j ≠ 26) : cx0 ch len σ g j = (cAll ch len 31 (st3 σ 0 26 3 0) 0).1 g j := by
  funext k
  unfold cx0
  rw [st3_j h, aM_j h]
theorem cx0_R {σ : Mem} (hP : C6 σ ch len) : Rng (cx0 ch len σ) := by
  have h0 := hP.st (g := 0) (j := 26) (i := 3) (v := 0) ⟨by decide, by decide⟩ (by decide) (by decide)
  have p := cAll_p (f := 31) (p := 0) h0 (by decide) (by rw [st3_self]; decide) (by rw [st3_self]; decide)
  unfold cx0 aM
  exact (p.1.2.2.2.2.st ⟨by omega, by omega⟩).st ⟨by decide, by decide⟩
theorem mParse_o {g : Int} {j : Nat} {k : Int} (h : ¬ j = 48) (h2 : ¬ (j = 40 ∧ k = 19)) : ∀ (f : Nat) (σ : Mem) (n p : Int), (mParse ch len f σ n p).1 g j k = σ g j k
  | 0, σ, n, p => rfl
  | f + 1, σ, n, p => by
    have r : (mCmd ch len σ n p).1 g j k = σ g j k := by
      unfold mCmd
      split
      · rfl
      · dsimp only
        rw [st3_n (fun q => h2 q.2), mArgs_o h, st3_j h]
    unfold mParse
    split
    · split
      · rw [mParse_o h h2 f, r]
      · exact r
    · exact r
end CN
section XO
variable {ρ : Mem}
theorem exec0_o {g : Int} {j : Nat} (h : ¬ (g = 0 ∧ (j = 40 ∨ j = 42))) : exec0 ρ g j = ρ g j := by
  unfold exec0
  try dsimp only
  rw [st3_oj (by omega), st3_oj (by omega), st3_oj (by omega), st3_oj (by omega), st3_oj (by omega), startM_j h]
theorem exec0_42 {k : Int} (h0 : 0 ≤ k) (h1 : k < 212) : exec0 ρ 0 42 k = ρ 0 41 k := by
  unfold exec0
  try dsimp only
  rw [st3_j (by decide), st3_j (by decide), st3_j (by decide), st3_j (by decide), st3_j (by decide), startM_42 h0 h1]
theorem exec0_k {k : Int} (h : k ≠ 10 ∧ k ≠ 19 ∧ k ≠ 20 ∧ k ≠ 21 ∧ k ≠ 22) : exec0 ρ 0 40 k = startM ρ 0 40 k := by
  unfold exec0
  try dsimp only
  rw [st3_k h.2.2.2.2, st3_k h.2.1, st3_k h.2.2.1, st3_k h.1, st3_k h.2.2.2.1]
theorem exec0_10 : exec0 ρ 0 40 10 = 0 := by
  unfold exec0
  try dsimp only
  rw [st3_k (by decide), st3_k (by decide), st3_k (by decide), st3_self]
/-- the reference's memory behind its reading of the input -/
def q0 (ρ : Mem) : Mem := qM (mParse (ρ 0 46) (ρ 0 40 10) 61 (exec0 ρ) 0 0).1 (mParse (ρ 0 46) (ρ 0 40 10) 61 (exec0 ρ) 0 0).2
theorem q0_R (hR : Rng ρ) (hl : 0 ≤ ρ 0 40 10 ∧ ρ 0 40 10 ≤ 60) : Rng (q0 ρ) := by
  have hF := mParse_q 61 (exec0 ρ) 0 0 (exec0_P hR hl.2) (by decide) (by decide) (by decide)
  exact qM_R hF.1.2.2.2 hF.2
theorem q0_o {g : Int} {j : Nat} (h : ¬ (j = 40 ∨ j = 42 ∨ j = 48)) : q0 ρ g j = ρ g j := by
  funext k
  unfold q0
  rw [qM_j (by omega), mParse_o (by omega) (by omega), exec0_o (by omega)]
theorem q0_42 {k : Int} (h0 : 0 ≤ k) (h1 : k < 212) : q0 ρ 0 42 k = ρ 0 41 k := by
  unfold q0
  rw [qM_j (by decide), mParse_o (by decide) (by omega), exec0_42 h0 h1]
theorem q0_k {k : Int} (h : k ≠ 10 ∧ k ≠ 19 ∧ k ≠ 20 ∧ k ≠ 21 ∧ k ≠ 22) : q0 ρ 0 40 k = startM ρ 0 40 k := by
  unfold q0
  rw [qM_k h.2.2.1 h.2.2.2.2, mParse_o (by decide) (fun q => h.2.1 q.2), exec0_k h]
theorem q0_8 : q0 ρ 0 40 8 = 0 := (q0_k (by decide)).trans startM_8
theorem q0_14 : q0 ρ 0 40 14 = 0 := (q0_k (by decide)).trans startM_14
theorem q0_10 : q0 ρ 0 40 10 = 0 := by
  unfold q0
  rw [qM_k (by decide) (by decide), mParse_o (by decide) (by decide), exec0_10]
theorem q0_s {k : Int} (h : k ≠ 10 ∧ k ≠ 19 ∧ k ≠ 20 ∧ k ≠ 21 ∧ k ≠ 22) (h8 : k ≠ 8) (h14 : k ≠ 14) : q0 ρ 0 40 k = ρ 0 40 k := (q0_k h).trans (startM_k h8 h14)
theorem q0_19 : q0 ρ 0 40 19 = (mParse (ρ 0 46) (ρ 0 40 10) 61 (exec0 ρ) 0 0).1 0 40 19 := by
  unfold q0
  rw [qM_k (by decide) (by decide)]
theorem q0_48 {k : Int} : q0 ρ 0 48 k = (mParse (ρ 0 46) (ρ 0 40 10) 61 (exec0 ρ) 0 0).1 0 48 k := by
  unfold q0
  rw [qM_j (by decide)]
end XO
noncomputable def cT (c0 : Mem) : Nat → Mem
  | 0 => c0
  | k + 1 => cmdM (cT c0 k) (k : Int)
noncomputable def rT (r0 : Mem) : Nat → Mem
  | 0 => r0
  | k + 1 => cmdT (rT r0 k) (k : Int)
def Rl (c0 r0 : Mem) (B : Int) (k : Nat) : Prop := MR (cT c0 k 0) (rT r0 k 0 41) ∧ Rng (cT c0 k) ∧ Rng (rT r0 k) ∧ BD (rT r0 k 0 41) (B + 2000 * (k : Int)) ∧ (∀ i : Int, i ≠ 0 → cT c0 k i = c0 i) ∧ (∀ j : Nat, 23 ≤ j → cT c0 k 0 j = c0 0 j) ∧ ∀ (i : Int) (j : Nat), ¬ (i = 0 ∧ j = 41) → rT r0 k i j = r0 i j
section RC
variable {l : Launch} {D : va_G} {K : Nat → ClassId} {ad : Adr} {c0 r0 : Mem} {B : Int}
theorem Rl.one (hl0 : l.stackTraces = false) {k : Nat} (h : Rl c0 r0 B k) (hk : k < 30) (hB : B ≤ 40000000) (hB0 : 0 ≤ B) (hC : CM c0 r0 (k : Int)) : One l D K ad (cT c0 k) (rT r0 k) (k : Int) (B + 2000 * (k : Int)) := by
  obtain ⟨h1, h2, h3, h4, h5, h6, h7⟩ := h
  refine one_all hl0 h1 h2 h3 h4 (by omega) (by omega) ⟨by omega, by omega⟩ (hC.congr (by rw [h6 28 (by decide)]) ?_ (fun i _ _ => by rw [h7 0 48 (by decide)]))
  by_cases e : (k : Int) = 0
  · rw [e, h6 30 (by decide)]
  · rw [h5 _ e]
theorem Rl.succ {k : Nat} (h : Rl c0 r0 B k) (hk : k < 30) (hB : B ≤ 40000000) (hB0 : 0 ≤ B) (hC : CM c0 r0 (k : Int)) (hO : One l D K ad (cT c0 k) (rT r0 k) (k : Int) (B + 2000 * (k : Int))) (hv : cmdV (cT c0 k) (k : Int) = 0) : Rl c0 r0 B (k + 1) := by
  obtain ⟨h1, h2, h3, h4, h5, h6, h7⟩ := h
  rcases hO with ⟨-, q, -, -⟩ | ⟨p, q, -, -, -⟩ | ⟨p, d, q, -, -, -, -⟩
  · obtain ⟨q1, q2, q3, q4, q5, q6, q7⟩ := q
    exact ⟨q1, q2, q3, q4.mono (by omega), fun i hi => (q5 i hi).trans (h5 i hi), fun j hj => (q6 j hj).trans (h6 j hj), fun i j hij => (q7 i j hij).trans (h7 i j hij)⟩
  · omega
  · omega
theorem Rl.all (hl0 : l.stackTraces = false) (h : Rl c0 r0 B 0) (hB : B ≤ 40000000) (hB0 : 0 ≤ B) (D : va_G) (K : Nat → ClassId) (ad : Adr) : ∀ f : Nat, f ≤ 30 → (∀ k : Nat, k < f → CM c0 r0 (k : Int)) → (∀ k : Nat, k < f → cmdV (cT c0 k) (k : Int) = 0) → ∀ k : Nat, k ≤ f → Rl c0 r0 B k
  | 0, _, _, _, k, hk => by
    rw [show k = 0 by omega]
    exact h
  | f + 1, hf, hC, hv, k, hk => by
    have ih := Rl.all hl0 h hB hB0 D K ad f (by omega) (fun k hk => hC k (by omega)) (fun k hk => hv k (by omega))
    by_cases e : k ≤ f
    · exact ih k e
    · rw [show k = f + 1 by omega]
      have hf2 := ih f (Nat.le_refl f)
      exact hf2.succ (by omega) hB hB0 (hC f (by omega)) (hf2.one (D := D) (K := K) (ad := ad) hl0 (by omega) hB hB0 (hC f (by omega))) (hv f (by omega))
theorem first_bad (P : Nat → Prop) : ∀ n : Nat, (∀ k : Nat, k < n → P k) ∨ ∃ f : Nat, f < n ∧ (∀ k : Nat, k < f → P k) ∧ ¬ P f
  | 0 => Or.inl fun k hk => absurd hk (Nat.not_lt_zero k)
  | n + 1 => by
    rcases first_bad P n with h | ⟨f, h1, h2, h3⟩
    · by_cases c : P n
      · exact Or.inl fun k hk => by
          by_cases e : k < n
          · exact h k e
          · rw [show k = n by omega]
            exact c
      · exact Or.inr ⟨n, by omega, h, c⟩
    · exact Or.inr ⟨f, by omega, h2, h3⟩
end RC
