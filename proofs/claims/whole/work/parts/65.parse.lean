/-! the two readings of the input agree -/
section RD
variable {ch : Int → Int} {len : Int}
theorem mDig_w {x : Int} : mDig ch len (x, 1) = (0, x, 1) := if_neg fun q => absurd q.1 (show ¬ (1 : Int) = 0 by decide)
theorem mNum_w {x : Int} : mNum ch len (x, 1) = (0, x, 1) := by
  unfold mNum
  rw [mDig_w]
  exact if_neg fun q => absurd q.1 (show ¬ (1 : Int) = 0 by decide)
theorem mExp_w {c x : Int} : mExp ch len c (x, 1) = (x, 1) := if_neg fun q => absurd q.1 (show ¬ (1 : Int) = 0 by decide)
theorem mDig_c (p : Int) : (∃ v, mDig ch len (p, 0) = (v, p + 1, 0) ∧ 0 ≤ v ∧ v ≤ 9) ∨ mDig ch len (p, 0) = (0, p, 1) := by
  by_cases h : 48 ≤ mHere ch len p ∧ mHere ch len p ≤ 57
  · exact Or.inl ⟨_, mDig_v h, by omega, by omega⟩
  · exact Or.inr (if_neg fun q => h q.2)
theorem mNum_c (p : Int) : (∃ v p', mNum ch len (p, 0) = (v, p', 0) ∧ (0 ≤ v ∧ v ≤ 99) ∧ p + 1 ≤ p') ∨ mNum ch len (p, 0) = (0, p, 1) := by
  by_cases h : 48 ≤ mHere ch len p ∧ mHere ch len p ≤ 57
  · by_cases h2 : 48 ≤ mHere ch len (p + 1) ∧ mHere ch len (p + 1) ≤ 57
    · exact Or.inl ⟨_, _, mNum_2 h h2, by omega, by omega⟩
    · exact Or.inl ⟨_, _, mNum_1 h h2, by omega, by omega⟩
  · refine Or.inr ?_
    have e : mDig ch len (p, 0) = (0, p, 1) := if_neg fun q => h q.2
    unfold mNum
    rw [e]
    exact if_neg fun q => absurd q.1 (show ¬ (1 : Int) = 0 by decide)
theorem mExp_c (c p : Int) : (mHere ch len p = c ∧ mExp ch len c (p, 0) = (p + 1, 0)) ∨ (mHere ch len p ≠ c ∧ mExp ch len c (p, 0) = (p, 1)) := by
  by_cases h : mHere ch len p = c
  · exact Or.inl ⟨h, if_pos ⟨rfl, h⟩⟩
  · exact Or.inr ⟨h, if_neg fun q => h q.2⟩
variable {n : Int} {i f : Nat} {j p : Int} {σ : Mem}
theorem cRun_E (h : ¬ j < fmL i) : cRun ch len n i f j σ p = (σ, p, 1) := by
  cases f with
  | zero => rfl
  | succ f => rw [cRun, if_neg h]
theorem cRun_N (hj : j < fmL i) (hb : fmB i j = 78) {v p' : Int} (h : mNum ch len (p, 0) = (v, p', 0)) : cRun ch len n i (f + 1) j σ p = cRun ch len n i f (j + 1) (st3 (st3 σ n 30 (σ 0 26 4) v) 0 26 4 (σ 0 26 4 + 1)) p' := by
  have e : cStep ch len n 78 σ p = (st3 (st3 σ n 30 (σ 0 26 4) v) 0 26 4 (σ 0 26 4 + 1), p', 1) := by
    unfold cStep
    rw [if_neg (by decide), if_pos rfl, h]
    rfl
  rw [cRun, if_pos hj, hb, e]
  exact if_neg (show ¬ (1 : Int) = 0 by decide)
theorem cRun_Nx (hj : j < fmL i) (hb : fmB i j = 78) (h : mNum ch len (p, 0) = (0, p, 1)) : cRun ch len n i (f + 1) j σ p = (σ, p, 0) := by
  have e : cStep ch len n 78 σ p = (σ, p, 0) := by
    unfold cStep
    rw [if_neg (by decide), if_pos rfl, h]
    rfl
  rw [cRun, if_pos hj, hb, e]
  exact if_pos rfl
theorem cRun_D (hj : j < fmL i) (hb : fmB i j = 68) {v p' : Int} (h : mDig ch len (p, 0) = (v, p', 0)) : cRun ch len n i (f + 1) j σ p = cRun ch len n i f (j + 1) (st3 (st3 σ n 30 (σ 0 26 4) v) 0 26 4 (σ 0 26 4 + 1)) p' := by
  have e : cStep ch len n 68 σ p = (st3 (st3 σ n 30 (σ 0 26 4) v) 0 26 4 (σ 0 26 4 + 1), p', 1) := by
    unfold cStep
    rw [if_neg (by decide), if_neg (by decide), h]
    rfl
  rw [cRun, if_pos hj, hb, e]
  exact if_neg (show ¬ (1 : Int) = 0 by decide)
theorem cRun_Dx (hj : j < fmL i) (hb : fmB i j = 68) (h : mDig ch len (p, 0) = (0, p, 1)) : cRun ch len n i (f + 1) j σ p = (σ, p, 0) := by
  have e : cStep ch len n 68 σ p = (σ, p, 0) := by
    unfold cStep
    rw [if_neg (by decide), if_neg (by decide), h]
    rfl
  rw [cRun, if_pos hj, hb, e]
  exact if_pos rfl
theorem cRun_S {c : Int} (hj : j < fmL i) (hb : fmB i j = c) (hc : c ≠ 78 ∧ c ≠ 68) (h : mHere ch len p = c) : cRun ch len n i (f + 1) j σ p = cRun ch len n i f (j + 1) σ (p + 1) := by
  have e : cStep ch len n c σ p = (σ, p + 1, 1) := by
    unfold cStep
    rw [if_pos hc, if_pos h]
  rw [cRun, if_pos hj, hb, e]
  exact if_neg (show ¬ (1 : Int) = 0 by decide)
theorem cRun_Sx {c : Int} (hj : j < fmL i) (hb : fmB i j = c) (hc : c ≠ 78 ∧ c ≠ 68) (h : mHere ch len p ≠ c) : cRun ch len n i (f + 1) j σ p = (σ, p, 0) := by
  have e : cStep ch len n c σ p = (σ, p, 0) := by
    unfold cStep
    rw [if_pos hc, if_neg h]
  rw [cRun, if_pos hj, hb, e]
  exact if_pos rfl
theorem mArgsE_s {τ : Mem} {t : Int} {q : Int × Int} : mArgs ch len τ 115 t q = ((st3 (st3 τ 0 48 t (mNum ch len q).1) 0 48 (t + 1) (mDig ch len (mExp ch len 47 (mNum ch len q).2)).1), (mDig ch len (mExp ch len 47 (mNum ch len q).2)).2) := by
  unfold mArgs
  rw [if_pos rfl]
theorem cm_s {τ : Mem} {t : Int} (hf : σ 0 26 4 = 0) : (cRun ch len n 0 5 1 σ p).2 = ((mArgs ch len τ 115 t (p, 0)).2.1, 1 - (mArgs ch len τ 115 t (p, 0)).2.2) ∧ ((mArgs ch len τ 115 t (p, 0)).2.2 = 0 → (cRun ch len n 0 5 1 σ p).1 n 30 0 = (mArgs ch len τ 115 t (p, 0)).1 0 48 t ∧ (cRun ch len n 0 5 1 σ p).1 n 30 1 = (mArgs ch len τ 115 t (p, 0)).1 0 48 (t + 1)) := by
  rw [mArgsE_s]
  rcases mNum_c (ch := ch) (len := len) (p) with ⟨v0, p0, h0, -, -⟩ | h0
  · rw [cRun_N (by decide) (by decide) h0, h0]
    dsimp only
    rw [hf, show (0 : Int) + 1 = 1 from rfl]
    rcases mExp_c (ch := ch) (len := len) 47 (p0) with ⟨c1, h1⟩ | ⟨c1, h1⟩
    · rw [cRun_S (c := 47) (by decide) (by decide) ⟨by decide, by decide⟩ c1, h1]
      rcases mDig_c (ch := ch) (len := len) (p0 + 1) with ⟨v2, h2, -, -⟩ | h2
      · rw [cRun_D (by decide) (by decide) h2, h2]
        dsimp only
        rw [st3_self, show (1 : Int) + 1 = 2 from rfl]
        rw [cRun_E (by decide)]
        refine ⟨rfl, fun _ => ⟨?_, ?_⟩⟩
        · dsimp only
          rw [st3_j (by decide), st3_k (by decide), st3_j (by decide), st3_self, st3_k (by omega), st3_self]
        · dsimp only
          rw [st3_j (by decide), st3_self, st3_self]
      · rw [cRun_Dx (by decide) (by decide) h2, h2]
        dsimp only
        exact ⟨rfl, fun q => absurd q (by decide)⟩
    · rw [cRun_Sx (c := 47) (by decide) (by decide) ⟨by decide, by decide⟩ c1, h1]
      dsimp only
      rw [mDig_w]
      try dsimp only
      exact ⟨rfl, fun q => absurd q (by decide)⟩
  · rw [cRun_Nx (by decide) (by decide) h0, h0]
    dsimp only
    rw [mExp_w]
    try dsimp only
    rw [mDig_w]
    try dsimp only
    exact ⟨rfl, fun q => absurd q (by decide)⟩
theorem mArgsE_a {τ : Mem} {t : Int} {q : Int × Int} : mArgs ch len τ 97 t q = ((st3 (st3 τ 0 48 t (mDig ch len q).1) 0 48 (t + 1) (mDig ch len (mDig ch len q).2).1), (mDig ch len (mDig ch len q).2).2) := by
  unfold mArgs
  rw [if_neg (by decide), if_pos rfl]
theorem cm_a {τ : Mem} {t : Int} (hf : σ 0 26 4 = 0) : (cRun ch len n 1 5 1 σ p).2 = ((mArgs ch len τ 97 t (p, 0)).2.1, 1 - (mArgs ch len τ 97 t (p, 0)).2.2) ∧ ((mArgs ch len τ 97 t (p, 0)).2.2 = 0 → (cRun ch len n 1 5 1 σ p).1 n 30 0 = (mArgs ch len τ 97 t (p, 0)).1 0 48 t ∧ (cRun ch len n 1 5 1 σ p).1 n 30 1 = (mArgs ch len τ 97 t (p, 0)).1 0 48 (t + 1)) := by
  rw [mArgsE_a]
  rcases mDig_c (ch := ch) (len := len) (p) with ⟨v0, h0, -, -⟩ | h0
  · rw [cRun_D (by decide) (by decide) h0, h0]
    dsimp only
    rw [hf, show (0 : Int) + 1 = 1 from rfl]
    rcases mDig_c (ch := ch) (len := len) (p + 1) with ⟨v1, h1, -, -⟩ | h1
    · rw [cRun_D (by decide) (by decide) h1, h1]
      dsimp only
      rw [st3_self, show (1 : Int) + 1 = 2 from rfl]
      rw [cRun_E (by decide)]
      refine ⟨rfl, fun _ => ⟨?_, ?_⟩⟩
      · dsimp only
        rw [st3_j (by decide), st3_k (by decide), st3_j (by decide), st3_self, st3_k (by omega), st3_self]
      · dsimp only
        rw [st3_j (by decide), st3_self, st3_self]
    · rw [cRun_Dx (by decide) (by decide) h1, h1]
      dsimp only
      exact ⟨rfl, fun q => absurd q (by decide)⟩
  · rw [cRun_Dx (by decide) (by decide) h0, h0]
    dsimp only
    rw [mDig_w]
    try dsimp only
    exact ⟨rfl, fun q => absurd q (by decide)⟩
theorem mArgsE_c {τ : Mem} {t : Int} {q : Int × Int} : mArgs ch len τ 99 t q = ((st3 (st3 τ 0 48 t (mDig ch len q).1) 0 48 (t + 1) (mNum ch len (mExp ch len 43 (mDig ch len q).2)).1), (mNum ch len (mExp ch len 43 (mDig ch len q).2)).2) := by
  unfold mArgs
  try unfold mNB
  rw [if_neg (by decide), if_neg (by decide), if_pos rfl]
theorem cm_c {τ : Mem} {t : Int} (hf : σ 0 26 4 = 0) : (cRun ch len n 2 5 1 σ p).2 = ((mArgs ch len τ 99 t (p, 0)).2.1, 1 - (mArgs ch len τ 99 t (p, 0)).2.2) ∧ ((mArgs ch len τ 99 t (p, 0)).2.2 = 0 → (cRun ch len n 2 5 1 σ p).1 n 30 0 = (mArgs ch len τ 99 t (p, 0)).1 0 48 t ∧ (cRun ch len n 2 5 1 σ p).1 n 30 1 = (mArgs ch len τ 99 t (p, 0)).1 0 48 (t + 1)) := by
  rw [mArgsE_c]
  rcases mDig_c (ch := ch) (len := len) (p) with ⟨v0, h0, -, -⟩ | h0
  · rw [cRun_D (by decide) (by decide) h0, h0]
    dsimp only
    rw [hf, show (0 : Int) + 1 = 1 from rfl]
    rcases mExp_c (ch := ch) (len := len) 43 (p + 1) with ⟨c1, h1⟩ | ⟨c1, h1⟩
    · rw [cRun_S (c := 43) (by decide) (by decide) ⟨by decide, by decide⟩ c1, h1]
      rcases mNum_c (ch := ch) (len := len) (p + 1 + 1) with ⟨v2, p2, h2, -, -⟩ | h2
      · rw [cRun_N (by decide) (by decide) h2, h2]
        dsimp only
        rw [st3_self, show (1 : Int) + 1 = 2 from rfl]
        rw [cRun_E (by decide)]
        refine ⟨rfl, fun _ => ⟨?_, ?_⟩⟩
        · dsimp only
          rw [st3_j (by decide), st3_k (by decide), st3_j (by decide), st3_self, st3_k (by omega), st3_self]
        · dsimp only
          rw [st3_j (by decide), st3_self, st3_self]
      · rw [cRun_Nx (by decide) (by decide) h2, h2]
        dsimp only
        exact ⟨rfl, fun q => absurd q (by decide)⟩
    · rw [cRun_Sx (c := 43) (by decide) (by decide) ⟨by decide, by decide⟩ c1, h1]
      dsimp only
      rw [mNum_w]
      try dsimp only
      exact ⟨rfl, fun q => absurd q (by decide)⟩
  · rw [cRun_Dx (by decide) (by decide) h0, h0]
    dsimp only
    rw [mExp_w]
    try dsimp only
    rw [mNum_w]
    try dsimp only
    exact ⟨rfl, fun q => absurd q (by decide)⟩
theorem mArgsE_b {τ : Mem} {t : Int} {q : Int × Int} : mArgs ch len τ 98 t q = ((st3 (st3 (st3 τ 0 48 t (mDig ch len q).1) 0 48 (t + 1) (mDig ch len (mDig ch len q).2).1) 0 48 (t + 2) (mNum ch len (mExp ch len 64 (mDig ch len (mDig ch len q).2).2)).1), (mNum ch len (mExp ch len 64 (mDig ch len (mDig ch len q).2).2)).2) := by
  unfold mArgs
  try unfold mNB
  rw [if_neg (by decide), if_neg (by decide), if_neg (by decide), if_pos rfl]
theorem cm_b {τ : Mem} {t : Int} (hf : σ 0 26 4 = 0) : (cRun ch len n 3 5 1 σ p).2 = ((mArgs ch len τ 98 t (p, 0)).2.1, 1 - (mArgs ch len τ 98 t (p, 0)).2.2) ∧ ((mArgs ch len τ 98 t (p, 0)).2.2 = 0 → (cRun ch len n 3 5 1 σ p).1 n 30 0 = (mArgs ch len τ 98 t (p, 0)).1 0 48 t ∧ (cRun ch len n 3 5 1 σ p).1 n 30 1 = (mArgs ch len τ 98 t (p, 0)).1 0 48 (t + 1) ∧ (cRun ch len n 3 5 1 σ p).1 n 30 2 = (mArgs ch len τ 98 t (p, 0)).1 0 48 (t + 2)) := by
  rw [mArgsE_b]
  rcases mDig_c (ch := ch) (len := len) (p) with ⟨v0, h0, -, -⟩ | h0
  · rw [cRun_D (by decide) (by decide) h0, h0]
    dsimp only
    rw [hf, show (0 : Int) + 1 = 1 from rfl]
    rcases mDig_c (ch := ch) (len := len) (p + 1) with ⟨v1, h1, -, -⟩ | h1
    · rw [cRun_D (by decide) (by decide) h1, h1]
      dsimp only
      rw [st3_self, show (1 : Int) + 1 = 2 from rfl]
      rcases mExp_c (ch := ch) (len := len) 64 (p + 1 + 1) with ⟨c2, h2⟩ | ⟨c2, h2⟩
      · rw [cRun_S (c := 64) (by decide) (by decide) ⟨by decide, by decide⟩ c2, h2]
        rcases mNum_c (ch := ch) (len := len) (p + 1 + 1 + 1) with ⟨v3, p3, h3, -, -⟩ | h3
        · rw [cRun_N (by decide) (by decide) h3, h3]
          dsimp only
          rw [st3_self, show (2 : Int) + 1 = 3 from rfl]
          rw [cRun_E (by decide)]
          refine ⟨rfl, fun _ => ⟨?_, ?_, ?_⟩⟩
          · dsimp only
            rw [st3_j (by decide), st3_k (by decide), st3_j (by decide), st3_k (by decide), st3_j (by decide), st3_self, st3_k (by omega), st3_k (by omega), st3_self]
          · dsimp only
            rw [st3_j (by decide), st3_k (by decide), st3_j (by decide), st3_self, st3_k (by omega), st3_self]
          · dsimp only
            rw [st3_j (by decide), st3_self, st3_self]
        · rw [cRun_Nx (by decide) (by decide) h3, h3]
          dsimp only
          exact ⟨rfl, fun q => absurd q (by decide)⟩
      · rw [cRun_Sx (c := 64) (by decide) (by decide) ⟨by decide, by decide⟩ c2, h2]
        dsimp only
        rw [mNum_w]
        try dsimp only
        exact ⟨rfl, fun q => absurd q (by decide)⟩
    · rw [cRun_Dx (by decide) (by decide) h1, h1]
      dsimp only
      rw [mExp_w]
      try dsimp only
      rw [mNum_w]
      try dsimp only
      exact ⟨rfl, fun q => absurd q (by decide)⟩
  · rw [cRun_Dx (by decide) (by decide) h0, h0]
    dsimp only
    rw [mDig_w]
    try dsimp only
    rw [mExp_w]
    try dsimp only
    rw [mNum_w]
    try dsimp only
    exact ⟨rfl, fun q => absurd q (by decide)⟩
theorem mArgsE_o {τ : Mem} {t : Int} {q : Int × Int} : mArgs ch len τ 111 t q = ((st3 (st3 τ 0 48 t (mNum ch len q).1) 0 48 (t + 1) (mNum ch len (mExp ch len 64 (mNum ch len q).2)).1), (mNum ch len (mExp ch len 64 (mNum ch len q).2)).2) := by
  unfold mArgs
  try unfold mNB
  rw [if_neg (by decide), if_neg (by decide), if_neg (by decide), if_neg (by decide), if_pos rfl]
theorem cm_o {τ : Mem} {t : Int} (hf : σ 0 26 4 = 0) : (cRun ch len n 4 5 1 σ p).2 = ((mArgs ch len τ 111 t (p, 0)).2.1, 1 - (mArgs ch len τ 111 t (p, 0)).2.2) ∧ ((mArgs ch len τ 111 t (p, 0)).2.2 = 0 → (cRun ch len n 4 5 1 σ p).1 n 30 0 = (mArgs ch len τ 111 t (p, 0)).1 0 48 t ∧ (cRun ch len n 4 5 1 σ p).1 n 30 1 = (mArgs ch len τ 111 t (p, 0)).1 0 48 (t + 1)) := by
  rw [mArgsE_o]
  rcases mNum_c (ch := ch) (len := len) (p) with ⟨v0, p0, h0, -, -⟩ | h0
  · rw [cRun_N (by decide) (by decide) h0, h0]
    dsimp only
    rw [hf, show (0 : Int) + 1 = 1 from rfl]
    rcases mExp_c (ch := ch) (len := len) 64 (p0) with ⟨c1, h1⟩ | ⟨c1, h1⟩
    · rw [cRun_S (c := 64) (by decide) (by decide) ⟨by decide, by decide⟩ c1, h1]
      rcases mNum_c (ch := ch) (len := len) (p0 + 1) with ⟨v2, p2, h2, -, -⟩ | h2
      · rw [cRun_N (by decide) (by decide) h2, h2]
        dsimp only
        rw [st3_self, show (1 : Int) + 1 = 2 from rfl]
        rw [cRun_E (by decide)]
        refine ⟨rfl, fun _ => ⟨?_, ?_⟩⟩
        · dsimp only
          rw [st3_j (by decide), st3_k (by decide), st3_j (by decide), st3_self, st3_k (by omega), st3_self]
        · dsimp only
          rw [st3_j (by decide), st3_self, st3_self]
      · rw [cRun_Nx (by decide) (by decide) h2, h2]
        dsimp only
        exact ⟨rfl, fun q => absurd q (by decide)⟩
    · rw [cRun_Sx (c := 64) (by decide) (by decide) ⟨by decide, by decide⟩ c1, h1]
      dsimp only
      rw [mNum_w]
      try dsimp only
      exact ⟨rfl, fun q => absurd q (by decide)⟩
  · rw [cRun_Nx (by decide) (by decide) h0, h0]
    dsimp only
    rw [mExp_w]
    try dsimp only
    rw [mNum_w]
    try dsimp only
    exact ⟨rfl, fun q => absurd q (by decide)⟩
theorem mArgsE_x {τ : Mem} {t : Int} {q : Int × Int} : mArgs ch len τ 120 t q = ((st3 τ 0 48 t (mNum ch len q).1), (mNum ch len q).2) := by
  unfold mArgs
  rw [if_neg (by decide), if_neg (by decide), if_neg (by decide), if_neg (by decide), if_neg (by decide), if_pos rfl]
theorem cm_x {τ : Mem} {t : Int} (hf : σ 0 26 4 = 0) : (cRun ch len n 5 5 1 σ p).2 = ((mArgs ch len τ 120 t (p, 0)).2.1, 1 - (mArgs ch len τ 120 t (p, 0)).2.2) ∧ ((mArgs ch len τ 120 t (p, 0)).2.2 = 0 → (cRun ch len n 5 5 1 σ p).1 n 30 0 = (mArgs ch len τ 120 t (p, 0)).1 0 48 t) := by
  rw [mArgsE_x]
  rcases mNum_c (ch := ch) (len := len) (p) with ⟨v0, p0, h0, -, -⟩ | h0
  · rw [cRun_N (by decide) (by decide) h0, h0]
    dsimp only
    rw [hf, show (0 : Int) + 1 = 1 from rfl]
    rw [cRun_E (by decide)]
    refine ⟨rfl, fun _ => ?_⟩
    · dsimp only
      rw [st3_j (by decide), st3_self, st3_self]
  · rw [cRun_Nx (by decide) (by decide) h0, h0]
    dsimp only
    exact ⟨rfl, fun q => absurd q (by decide)⟩
theorem mArgsE_y {τ : Mem} {t : Int} {q : Int × Int} : mArgs ch len τ 121 t q = ((st3 τ 0 48 t (mNum ch len q).1), (mNum ch len q).2) := by
  unfold mArgs
  rw [if_neg (by decide), if_neg (by decide), if_neg (by decide), if_neg (by decide), if_neg (by decide), if_neg (by decide), if_pos rfl]
theorem cm_y {τ : Mem} {t : Int} (hf : σ 0 26 4 = 0) : (cRun ch len n 6 5 1 σ p).2 = ((mArgs ch len τ 121 t (p, 0)).2.1, 1 - (mArgs ch len τ 121 t (p, 0)).2.2) ∧ ((mArgs ch len τ 121 t (p, 0)).2.2 = 0 → (cRun ch len n 6 5 1 σ p).1 n 30 0 = (mArgs ch len τ 121 t (p, 0)).1 0 48 t) := by
  rw [mArgsE_y]
  rcases mNum_c (ch := ch) (len := len) (p) with ⟨v0, p0, h0, -, -⟩ | h0
  · rw [cRun_N (by decide) (by decide) h0, h0]
    dsimp only
    rw [hf, show (0 : Int) + 1 = 1 from rfl]
    rw [cRun_E (by decide)]
    refine ⟨rfl, fun _ => ?_⟩
    · dsimp only
      rw [st3_j (by decide), st3_self, st3_self]
  · rw [cRun_Nx (by decide) (by decide) h0, h0]
    dsimp only
    exact ⟨rfl, fun q => absurd q (by decide)⟩
theorem mArgsE_f {τ : Mem} {t : Int} {q : Int × Int} : mArgs ch len τ 102 t q = ((st3 τ 0 48 t (mDig ch len q).1), (mDig ch len q).2) := by
  unfold mArgs
  rw [if_neg (by decide), if_neg (by decide), if_neg (by decide), if_neg (by decide), if_neg (by decide), if_neg (by decide), if_neg (by decide), if_pos rfl]
theorem cm_f {τ : Mem} {t : Int} (hf : σ 0 26 4 = 0) : (cRun ch len n 8 5 1 σ p).2 = ((mArgs ch len τ 102 t (p, 0)).2.1, 1 - (mArgs ch len τ 102 t (p, 0)).2.2) ∧ ((mArgs ch len τ 102 t (p, 0)).2.2 = 0 → (cRun ch len n 8 5 1 σ p).1 n 30 0 = (mArgs ch len τ 102 t (p, 0)).1 0 48 t) := by
  rw [mArgsE_f]
  rcases mDig_c (ch := ch) (len := len) (p) with ⟨v0, h0, -, -⟩ | h0
  · rw [cRun_D (by decide) (by decide) h0, h0]
    dsimp only
    rw [hf, show (0 : Int) + 1 = 1 from rfl]
    rw [cRun_E (by decide)]
    refine ⟨rfl, fun _ => ?_⟩
    · dsimp only
      rw [st3_j (by decide), st3_self, st3_self]
  · rw [cRun_Dx (by decide) (by decide) h0, h0]
    dsimp only
    exact ⟨rfl, fun q => absurd q (by decide)⟩
theorem mArgsE_t {τ : Mem} {t : Int} {q : Int × Int} : mArgs ch len τ 116 t q = (τ, q) := by
  unfold mArgs
  rw [if_neg (by decide), if_neg (by decide), if_neg (by decide), if_neg (by decide), if_neg (by decide), if_neg (by decide), if_neg (by decide), if_neg (by decide), if_pos rfl]
theorem cm_t {τ : Mem} {t : Int} (hf : σ 0 26 4 = 0) : (cRun ch len n 7 5 1 σ p).2 = ((mArgs ch len τ 116 t (p, 0)).2.1, 1 - (mArgs ch len τ 116 t (p, 0)).2.2) ∧ ((mArgs ch len τ 116 t (p, 0)).2.2 = 0 → True) := by
  rw [mArgsE_t]
  rw [cRun_E (by decide)]
  exact ⟨rfl, fun _ => trivial⟩
end RD
