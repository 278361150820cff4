/-! the two readings of the input agree: all commands -/
def CM (σ τ : Mem) (k : Int) : Prop := τ 0 48 (4 * k) = σ 0 28 k ∧ (((σ 0 28 k = 115 ∨ σ 0 28 k = 97 ∨ σ 0 28 k = 99 ∨ σ 0 28 k = 111) ∧ σ k 30 0 = τ 0 48 (4 * k + 1) ∧ σ k 30 1 = τ 0 48 (4 * k + 2)) ∨ (σ 0 28 k = 98 ∧ σ k 30 0 = τ 0 48 (4 * k + 1) ∧ σ k 30 1 = τ 0 48 (4 * k + 2) ∧ σ k 30 2 = τ 0 48 (4 * k + 3)) ∨ ((σ 0 28 k = 120 ∨ σ 0 28 k = 121 ∨ σ 0 28 k = 102) ∧ σ k 30 0 = τ 0 48 (4 * k + 1)) ∨ σ 0 28 k = 116)
theorem CM.congr {σ τ σ' τ' : Mem} {k : Int} (h : CM σ τ k) (h1 : σ' 0 28 k = σ 0 28 k) (h2 : σ' k 30 = σ k 30) (h3 : ∀ i : Int, 0 ≤ i → i < 4 → τ' 0 48 (4 * k + i) = τ 0 48 (4 * k + i)) : CM σ' τ' k := by
  have e0 := h3 0 (by decide) (by decide)
  have e1 := h3 1 (by decide) (by decide)
  have e2 := h3 2 (by decide) (by decide)
  have e3 := h3 3 (by decide) (by decide)
  simp only [Int.add_zero] at e0
  unfold CM
  rw [h1, h2, e0, e1, e2, e3]
  exact h
section RE
variable {ch : Int → Int} {len : Int}
theorem cStep_o {n c : Int} {σ : Mem} {p : Int} {g : Int} {j : Nat} {k : Int} (h : ¬ (g = n ∧ j = 30)) (h2 : ¬ (g = 0 ∧ j = 26 ∧ k = 4)) : (cStep ch len n c σ p).1 g j k = σ g j k := by
  have e : ∀ v w z : Int, st3 (st3 σ n 30 z v) 0 26 4 w g j k = σ g j k := fun v w z => by
    rw [show st3 (st3 σ n 30 z v) 0 26 4 w g j k = st3 σ n 30 z v g j k from if_neg h2]
    exact if_neg fun q => h ⟨q.1, q.2.1⟩
  unfold cStep
  split
  · split <;> rfl
  · split
    · split
      · exact e _ _ _
      · rfl
    · split
      · exact e _ _ _
      · rfl
theorem cRun_o {n : Int} {i : Nat} {g : Int} {j' : Nat} {k : Int} (h : ¬ (g = n ∧ j' = 30)) (h2 : ¬ (g = 0 ∧ j' = 26 ∧ k = 4)) : ∀ (f : Nat) (j : Int) (σ : Mem) (p : Int), (cRun ch len n i f j σ p).1 g j' k = σ g j' k
  | 0, j, σ, p => rfl
  | f + 1, j, σ, p => by
    unfold cRun
    split
    · split
      · exact cStep_o h h2
      · rw [cRun_o h h2 f, cStep_o h h2]
    · rfl
theorem cRead_o {n : Int} {σ : Mem} {p : Int} {g : Int} {j : Nat} {k : Int} (h : ¬ (g = n ∧ j = 30)) (h2 : ¬ (g = 0 ∧ j = 26 ∧ k = 4)) (h3 : ¬ (g = 0 ∧ j = 28 ∧ k = n)) : (cRead ch len n σ p).1 g j k = σ g j k := by
  unfold cRead
  split
  · rfl
  · split
    · rfl
    · rw [cRun_o h h2, show st3 (st3 σ 0 28 n (ch p)) 0 26 4 0 g j k = st3 σ 0 28 n (ch p) g j k from if_neg h2]
      exact if_neg h3
theorem cStep_l {n c : Int} {σ : Mem} {p : Int} (hc : 0 ≤ c) (hp : p ≤ len) : p ≤ (cStep ch len n c σ p).2.1 ∧ (cStep ch len n c σ p).2.1 ≤ len := by
  unfold cStep
  split
  · split
    · rename_i e
      have : p < len := by
        unfold mHere at e
        split at e
        · assumption
        · omega
      exact ⟨by dsimp only; omega, by dsimp only; omega⟩
    · exact ⟨Int.le_refl p, hp⟩
  · split
    · split
      · rename_i e
        have h1 := mNum_0.mp e
        have h3 := (mHere_d (ch := ch) (len := len) h1.1).1
        by_cases h2 : 48 ≤ mHere ch len (p + 1) ∧ mHere ch len (p + 1) ≤ 57
        · have h4 := (mHere_d (ch := ch) (len := len) h2.1).1
          rw [mNum_2 h1 h2]
          exact ⟨by dsimp only; omega, by dsimp only; omega⟩
        · rw [mNum_1 h1 h2]
          exact ⟨by dsimp only; omega, by dsimp only; omega⟩
      · exact ⟨Int.le_refl p, hp⟩
    · split
      · rename_i e
        have h1 := mDig_0.mp e
        have h3 := (mHere_d (ch := ch) (len := len) h1.1).1
        rw [mDig_v h1]
        exact ⟨by dsimp only; omega, by dsimp only; omega⟩
      · exact ⟨Int.le_refl p, hp⟩
theorem cRun_l {n : Int} {i : Nat} (hi : i < 10) : ∀ (f : Nat) (j : Int) (σ : Mem) (p : Int), 1 ≤ j → p ≤ len → p ≤ (cRun ch len n i f j σ p).2.1 ∧ (cRun ch len n i f j σ p).2.1 ≤ len
  | 0, j, σ, p, hj, hp => ⟨Int.le_refl p, hp⟩
  | f + 1, j, σ, p, hj, hp => by
    unfold cRun
    split
    · rename_i h1
      have hL := fmL_r i hi
      have hb := (fmB_ok i hi j.toNat (by omega)).2.1
      rw [Int.toNat_of_nonneg (by omega : 0 ≤ j)] at hb
      have hs := cStep_l (ch := ch) (len := len) (n := n) (c := fmB i j) (σ := σ) hb hp
      split
      · exact hs
      · have ih := cRun_l (n := n) hi f (j + 1) (cStep ch len n (fmB i j) σ p).1 (cStep ch len n (fmB i j) σ p).2.1 (by omega) hs.2
        exact ⟨by omega, ih.2⟩
    · exact ⟨Int.le_refl p, hp⟩
theorem cRun_b {n : Int} {i : Nat} : ∀ (f : Nat) (j : Int) (σ : Mem) (p : Int), (cRun ch len n i f j σ p).2.2 = 0 ∨ (cRun ch len n i f j σ p).2.2 = 1
  | 0, j, σ, p => Or.inr rfl
  | f + 1, j, σ, p => by
    unfold cRun
    split
    · split
      · rename_i h
        exact Or.inl h
      · exact cRun_b f _ _ _
    · exact Or.inr rfl
theorem mArgs_48 {τ : Mem} {z t : Int} {q : Int × Int} {k : Int} (h : k < t ∨ t + 2 < k) : (mArgs ch len τ z t q).1 0 48 k = τ 0 48 k := by
  unfold mArgs
  repeat' split
  all_goals
    dsimp only
    try rw [st3_k (by omega)]
    try rw [st3_k (by omega)]
    try rw [st3_k (by omega)]
theorem mCmd_48 {τ : Mem} {n p : Int} {k : Int} (h : k < 4 * n ∨ 4 * n + 3 < k) : (mCmd ch len τ n p).1 0 48 k = τ 0 48 k := by
  unfold mCmd
  split
  · rfl
  · dsimp only
    rw [st3_j (by decide), mArgs_48 (by omega), st3_k (by omega)]
set_option maxHeartbeats 4000000 in
/-- one command -/
theorem rd_one {σ τ : Mem} {n p : Int} (hp : 0 ≤ p ∧ p ≤ len) (hch : ∀ k : Int, 0 ≤ k → k < len → 0 ≤ ch k ∧ ch k < 128) :
    (cRead ch len n σ p).2 = ((mCmd ch len τ n p).2.1, 1 - (mCmd ch len τ n p).2.2) ∧ ((mCmd ch len τ n p).2.2 = 0 → CM (cRead ch len n σ p).1 (mCmd ch len τ n p).1 n ∧ (mCmd ch len τ n p).1 0 40 19 = n + 1) := by
  by_cases e : p = len
  · have e1 : cRead ch len n σ p = (σ, p, 0) := if_pos (by omega)
    have e2 : mCmd ch len τ n p = (τ, (p, 1)) := if_pos e
    rw [e1, e2]
    exact ⟨rfl, fun q => absurd q (show ¬ (1 : Int) = 0 by decide)⟩
  · have hH : mHere ch len p = ch p := if_pos (by omega)
    have e2 : mCmd ch len τ n p = (st3 (mArgs ch len (st3 τ 0 48 (4 * n) (ch p)) (ch p) (4 * n + 1) (p + 1, 0)).1 0 40 19 (n + 1), (mArgs ch len (st3 τ 0 48 (4 * n) (ch p)) (ch p) (4 * n + 1) (p + 1, 0)).2) := by
      unfold mCmd
      rw [if_neg e, hH]
    have e1 : cRead ch len n σ p = if fmL (fmI (ch p)) = 0 then (σ, p, 0) else cRun ch len n (fmI (ch p)) 5 1 (st3 (st3 σ 0 28 n (ch p)) 0 26 4 0) (p + 1) := if_neg (by omega)
    have hf : st3 (st3 σ 0 28 n (ch p)) 0 26 4 0 0 26 4 = 0 := st3_self
    have hc28 : ∀ (i : Nat), (cRun ch len n i 5 1 (st3 (st3 σ 0 28 n (ch p)) 0 26 4 0) (p + 1)).1 0 28 n = ch p := fun i => by
      rw [cRun_o (fun q => absurd q.2 (by decide)) (fun q => absurd q.2.1 (by decide)), st3_j (by decide), st3_self]
    have ha48 : ∀ z : Int, (mArgs ch len (st3 τ 0 48 (4 * n) (ch p)) z (4 * n + 1) (p + 1, 0)).1 0 48 (4 * n) = ch p := fun z => by
      rw [mArgs_48 (Or.inl (by omega)), st3_self]
    have s40 : ∀ (τ1 : Mem) (k : Int), st3 τ1 0 40 19 (n + 1) 0 48 k = τ1 0 48 k := fun τ1 k => st3_j (by decide)
    have s19 : ∀ (τ1 : Mem), st3 τ1 0 40 19 (n + 1) 0 40 19 = n + 1 := fun τ1 => st3_self
    rw [e1, e2]
    generalize st3 (st3 σ 0 28 n (ch p)) 0 26 4 0 = σ0 at hf hc28 ⊢
    generalize st3 τ 0 48 (4 * n) (ch p) = τ0 at ha48 ⊢
    generalize ch p = z at hc28 ha48 ⊢
    have x2 : 4 * n + 1 + 1 = 4 * n + 2 := by omega
    have x3 : 4 * n + 1 + 2 = 4 * n + 3 := by omega
    by_cases v115 : z = 115
    · subst v115
      have hi : fmI 115 = 0 := by decide
      rw [hi, if_neg (by decide)]
      obtain ⟨a1, a2⟩ := cm_s (ch := ch) (len := len) (n := n) (p := p + 1) (τ := τ0) (t := 4 * n + 1) hf
      refine ⟨a1, fun q => ⟨⟨?_, ?_⟩, by dsimp only; exact s19 _⟩⟩
      · dsimp only
        rw [s40, ha48, hc28]
      · have a3 := a2 q
        rw [x2] at a3
        dsimp only
        rw [hc28, s40 _ (4 * n + 1), s40 _ (4 * n + 2), s40 _ (4 * n + 3)]
        exact Or.inl ⟨by decide, a3⟩
    · by_cases v97 : z = 97
      · subst v97
        have hi : fmI 97 = 1 := by decide
        rw [hi, if_neg (by decide)]
        obtain ⟨a1, a2⟩ := cm_a (ch := ch) (len := len) (n := n) (p := p + 1) (τ := τ0) (t := 4 * n + 1) hf
        refine ⟨a1, fun q => ⟨⟨?_, ?_⟩, by dsimp only; exact s19 _⟩⟩
        · dsimp only
          rw [s40, ha48, hc28]
        · have a3 := a2 q
          rw [x2] at a3
          dsimp only
          rw [hc28, s40 _ (4 * n + 1), s40 _ (4 * n + 2), s40 _ (4 * n + 3)]
          exact Or.inl ⟨by decide, a3⟩
      · by_cases v99 : z = 99
        · subst v99
          have hi : fmI 99 = 2 := by decide
          rw [hi, if_neg (by decide)]
          obtain ⟨a1, a2⟩ := cm_c (ch := ch) (len := len) (n := n) (p := p + 1) (τ := τ0) (t := 4 * n + 1) hf
          refine ⟨a1, fun q => ⟨⟨?_, ?_⟩, by dsimp only; exact s19 _⟩⟩
          · dsimp only
            rw [s40, ha48, hc28]
          · have a3 := a2 q
            rw [x2] at a3
            dsimp only
            rw [hc28, s40 _ (4 * n + 1), s40 _ (4 * n + 2), s40 _ (4 * n + 3)]
            exact Or.inl ⟨by decide, a3⟩
        · by_cases v98 : z = 98
          · subst v98
            have hi : fmI 98 = 3 := by decide
            rw [hi, if_neg (by decide)]
            obtain ⟨a1, a2⟩ := cm_b (ch := ch) (len := len) (n := n) (p := p + 1) (τ := τ0) (t := 4 * n + 1) hf
            refine ⟨a1, fun q => ⟨⟨?_, ?_⟩, by dsimp only; exact s19 _⟩⟩
            · dsimp only
              rw [s40, ha48, hc28]
            · have a3 := a2 q
              rw [x2, x3] at a3
              dsimp only
              rw [hc28, s40 _ (4 * n + 1), s40 _ (4 * n + 2), s40 _ (4 * n + 3)]
              exact Or.inr (Or.inl ⟨rfl, a3⟩)
          · by_cases v111 : z = 111
            · subst v111
              have hi : fmI 111 = 4 := by decide
              rw [hi, if_neg (by decide)]
              obtain ⟨a1, a2⟩ := cm_o (ch := ch) (len := len) (n := n) (p := p + 1) (τ := τ0) (t := 4 * n + 1) hf
              refine ⟨a1, fun q => ⟨⟨?_, ?_⟩, by dsimp only; exact s19 _⟩⟩
              · dsimp only
                rw [s40, ha48, hc28]
              · have a3 := a2 q
                rw [x2] at a3
                dsimp only
                rw [hc28, s40 _ (4 * n + 1), s40 _ (4 * n + 2), s40 _ (4 * n + 3)]
                exact Or.inl ⟨by decide, a3⟩
            · by_cases v120 : z = 120
              · subst v120
                have hi : fmI 120 = 5 := by decide
                rw [hi, if_neg (by decide)]
                obtain ⟨a1, a2⟩ := cm_x (ch := ch) (len := len) (n := n) (p := p + 1) (τ := τ0) (t := 4 * n + 1) hf
                refine ⟨a1, fun q => ⟨⟨?_, ?_⟩, by dsimp only; exact s19 _⟩⟩
                · dsimp only
                  rw [s40, ha48, hc28]
                · have a3 := a2 q
                  dsimp only
                  rw [hc28, s40 _ (4 * n + 1), s40 _ (4 * n + 2), s40 _ (4 * n + 3)]
                  exact Or.inr (Or.inr (Or.inl ⟨by decide, a3⟩))
              · by_cases v121 : z = 121
                · subst v121
                  have hi : fmI 121 = 6 := by decide
                  rw [hi, if_neg (by decide)]
                  obtain ⟨a1, a2⟩ := cm_y (ch := ch) (len := len) (n := n) (p := p + 1) (τ := τ0) (t := 4 * n + 1) hf
                  refine ⟨a1, fun q => ⟨⟨?_, ?_⟩, by dsimp only; exact s19 _⟩⟩
                  · dsimp only
                    rw [s40, ha48, hc28]
                  · have a3 := a2 q
                    dsimp only
                    rw [hc28, s40 _ (4 * n + 1), s40 _ (4 * n + 2), s40 _ (4 * n + 3)]
                    exact Or.inr (Or.inr (Or.inl ⟨by decide, a3⟩))
                · by_cases v116 : z = 116
                  · subst v116
                    have hi : fmI 116 = 7 := by decide
                    rw [hi, if_neg (by decide)]
                    obtain ⟨a1, a2⟩ := cm_t (ch := ch) (len := len) (n := n) (p := p + 1) (τ := τ0) (t := 4 * n + 1) hf
                    refine ⟨a1, fun q => ⟨⟨?_, ?_⟩, by dsimp only; exact s19 _⟩⟩
                    · dsimp only
                      rw [s40, ha48, hc28]
                    · have a3 := a2 q
                      dsimp only
                      rw [hc28, s40 _ (4 * n + 1), s40 _ (4 * n + 2), s40 _ (4 * n + 3)]
                      exact Or.inr (Or.inr (Or.inr rfl))
                  · by_cases v102 : z = 102
                    · subst v102
                      have hi : fmI 102 = 8 := by decide
                      rw [hi, if_neg (by decide)]
                      obtain ⟨a1, a2⟩ := cm_f (ch := ch) (len := len) (n := n) (p := p + 1) (τ := τ0) (t := 4 * n + 1) hf
                      refine ⟨a1, fun q => ⟨⟨?_, ?_⟩, by dsimp only; exact s19 _⟩⟩
                      · dsimp only
                        rw [s40, ha48, hc28]
                      · have a3 := a2 q
                        dsimp only
                        rw [hc28, s40 _ (4 * n + 1), s40 _ (4 * n + 2), s40 _ (4 * n + 3)]
                        exact Or.inr (Or.inr (Or.inl ⟨by decide, a3⟩))
                    · have hi : fmI z = 9 := by
                        unfold fmI
                        rw [if_neg v115, if_neg v97, if_neg v99, if_neg v98, if_neg v111, if_neg v120, if_neg v121, if_neg v116, if_neg v102]
                      rw [hi, if_pos (by decide)]
                      have em : mArgs ch len τ0 z (4 * n + 1) (p + 1, 0) = (τ0, (p + 1 - 1, 1)) := by
                        unfold mArgs
                        rw [if_neg v115, if_neg v97, if_neg v99, if_neg v98, if_neg v111, if_neg v120, if_neg v121, if_neg v102, if_neg v116]
                      rw [em]
                      dsimp only
                      refine ⟨by rw [show p + 1 - 1 = p by omega]; rfl, fun q => absurd q (show ¬ (1 : Int) = 0 by decide)⟩
set_option maxHeartbeats 4000000 in
/-- all commands -/
theorem rd_all (hlen : len ≤ 60) (hch : ∀ k : Int, 0 ≤ k → k < len → 0 ≤ ch k ∧ ch k < 128) : ∀ (f : Nat) (σ τ : Mem) (n p : Int) (f' : Nat), σ 0 26 3 = n → 0 ≤ n → n ≤ 30 → 2 * n ≤ p → p ≤ len → 31 ≤ f + n → 61 ≤ f' + n → (∀ k : Int, 0 ≤ k → k < n → CM σ τ k) →
    (cAll ch len f σ p).2 = ((mParse ch len f' τ n p).2.1, 1 - (mParse ch len f' τ n p).2.2) ∧ ((mParse ch len f' τ n p).2.2 = 0 ∨ (mParse ch len f' τ n p).2.2 = 1) ∧ ((mParse ch len f' τ n p).2.2 = 0 → (cAll ch len f σ p).1 0 26 3 = (mParse ch len f' τ n p).1 0 40 19 ∧ (1 ≤ (cAll ch len f σ p).1 0 26 3 ∧ (cAll ch len f σ p).1 0 26 3 ≤ 30) ∧ ∀ k : Int, 0 ≤ k → k < (cAll ch len f σ p).1 0 26 3 → CM (cAll ch len f σ p).1 (mParse ch len f' τ n p).1 k)
  | 0, σ, τ, n, p, f', h3, hn0, hn, hnp, hp, hf, hf', hC => by omega
  | f + 1, σ, τ, n, p, 0, h3, hn0, hn, hnp, hp, hf, hf', hC => by omega
  | f + 1, σ, τ, n, p, f' + 1, h3, hn0, hn, hnp, hp, hf, hf', hC => by
    have N1 : ¬ (1 : Int) = 0 := by decide
    rw [cAll, mParse, h3]
    by_cases c1 : 30 ≤ n
    · have e2 : mCmd ch len τ n p = (τ, (p, 1)) := if_pos (by omega)
      rw [if_pos c1, e2, if_neg (fun q => N1 q.1)]
      exact ⟨rfl, Or.inr rfl, fun q => absurd q N1⟩
    · rw [if_neg c1]
      obtain ⟨r1, r2⟩ := rd_one (ch := ch) (len := len) (σ := σ) (τ := τ) (n := n) (p := p) ⟨by omega, hp⟩ hch
      have hco : ∀ k : Int, 0 ≤ k → k < n → CM (cRead ch len n σ p).1 (mCmd ch len τ n p).1 k := fun k a b => (hC k a b).congr (cRead_o (fun q => absurd q.2 (by decide)) (fun q => absurd q.2.1 (by decide)) (fun q => by omega)) (funext fun z => cRead_o (fun q => by omega) (fun q => absurd q.2.1 (by decide)) (fun q => absurd q.2.1 (by decide))) (fun i i0 i1 => mCmd_48 (Or.inl (by omega)))
      have h3' : (cRead ch len n σ p).1 0 26 3 = n := by rw [cRead_3, h3]
      have hpl : p ≤ (cRead ch len n σ p).2.1 ∧ (cRead ch len n σ p).2.1 ≤ len ∧ ((cRead ch len n σ p).2.2 ≠ 0 → p + 1 ≤ (cRead ch len n σ p).2.1) := by
        unfold cRead
        split
        · exact ⟨Int.le_refl p, hp, fun q => absurd rfl q⟩
        · split
          · exact ⟨Int.le_refl p, hp, fun q => absurd rfl q⟩
          · have := cRun_l (ch := ch) (len := len) (n := n) (i := fmI (ch p)) (fmI_r _) 5 1 (st3 (st3 σ 0 28 n (ch p)) 0 26 4 0) (p + 1) (by decide) (by omega)
            exact ⟨by omega, this.2, fun _ => this.1⟩
      have hfl := congrArg (fun x : Int × Int => x.2) r1
      have hpo := congrArg (fun x : Int × Int => x.1) r1
      dsimp only at hfl hpo
      by_cases c2 : (mCmd ch len τ n p).2.2 = 0
      · obtain ⟨m1, m2⟩ := r2 c2
        have ck : (cRead ch len n σ p).2.2 = 1 := by omega
        have hp1 := hpl.2.2 (by omega)
        rw [if_neg (by omega : ¬ (cRead ch len n σ p).2.2 = 0)]
        by_cases c3 : (cRead ch len n σ p).2.1 = len
        · rw [if_pos c3, if_neg (fun q => by have := q.2; omega)]
          dsimp only
          refine ⟨?_, Or.inl c2, fun _ => ⟨?_, ?_, fun k a b => ?_⟩⟩
          · rw [hpo, c2]
            rfl
          · rw [st3_self, m2]
          · rw [st3_self]
            omega
          · rw [st3_self] at b
            have q1 : ∀ k : Int, CM (cRead ch len n σ p).1 (mCmd ch len τ n p).1 k → CM (st3 (cRead ch len n σ p).1 0 26 3 (n + 1)) (mCmd ch len τ n p).1 k := fun k hk => hk.congr (st3_j (by decide)) (funext fun z => st3_j (by decide)) (fun _ _ _ => rfl)
            by_cases e : k = n
            · rw [e]
              exact q1 n m1
            · exact q1 k (hco k a (by omega))
        · have hlt : (mCmd ch len τ n p).2.1 < len := by omega
          rw [if_neg c3]
          have eM : (mCmd ch len τ n p).2 = ((mCmd ch len τ n p).2.1, 0) := Prod.ext rfl c2
          by_cases c4 : mHere ch len (cRead ch len n σ p).2.1 = 59
          · rw [if_pos c4, if_pos ⟨c2, hlt⟩]
            have c4' : mHere ch len (mCmd ch len τ n p).2.1 = 59 := by rw [← hpo]; exact c4
            have e9 : mExp ch len 59 (mCmd ch len τ n p).2 = ((mCmd ch len τ n p).2.1 + 1, 0) := by
              rw [eM]
              exact if_pos ⟨rfl, c4'⟩
            rw [e9, if_pos rfl, hpo]
            have q1 : ∀ k : Int, CM (cRead ch len n σ p).1 (mCmd ch len τ n p).1 k → CM (st3 (cRead ch len n σ p).1 0 26 3 (n + 1)) (mCmd ch len τ n p).1 k := fun k hk => hk.congr (st3_j (by decide)) (funext fun z => st3_j (by decide)) (fun _ _ _ => rfl)
            exact rd_all hlen hch f (st3 (cRead ch len n σ p).1 0 26 3 (n + 1)) (mCmd ch len τ n p).1 (n + 1) ((mCmd ch len τ n p).2.1 + 1) f' st3_self (by omega) (by omega) (by omega) (by omega) (by omega) (by omega) (fun k a b => by
              by_cases e : k = n
              · rw [e]
                exact q1 n m1
              · exact q1 k (hco k a (by omega)))
          · rw [if_neg c4, if_pos ⟨c2, hlt⟩]
            have c4' : ¬ mHere ch len (mCmd ch len τ n p).2.1 = 59 := by rw [← hpo]; exact c4
            have e9 : mExp ch len 59 (mCmd ch len τ n p).2 = ((mCmd ch len τ n p).2.1, 1) := by
              rw [eM]
              exact if_neg fun q => c4' q.2
            rw [e9, if_neg N1]
            dsimp only
            refine ⟨by rw [hpo]; rfl, Or.inr rfl, fun q => absurd q N1⟩
      · have hfb : (cRead ch len n σ p).2.2 = 0 ∨ (cRead ch len n σ p).2.2 = 1 := by
          unfold cRead
          split
          · exact Or.inl rfl
          · split
            · exact Or.inl rfl
            · exact cRun_b 5 1 _ _
        have ck : (cRead ch len n σ p).2.2 = 0 := by
          rcases hfb with q | q
          · exact q
          · omega
        rw [if_pos ck, if_neg (fun q => c2 q.1)]
        dsimp only
        refine ⟨?_, Or.inr (by omega), fun q => absurd q c2⟩
        rw [hpo, show (mCmd ch len τ n p).2.2 = 1 by omega]
        rfl
end RE
