/-! what the changes do to a market's memory and to the block -/
def pm (μ : MM) (j : Nat) (k v : Int) : MM := fun j' k' => if j' = j ∧ k' = k then v else μ j' k'
def pn (ν : Int → Int) (i v : Int) : Int → Int := fun k => if k = i then v else ν k
theorem pm_self {μ : MM} {j : Nat} {k v : Int} : pm μ j k v j k = v := if_pos ⟨rfl, rfl⟩
theorem pm_j {μ : MM} {j j' : Nat} {k v : Int} (h : ¬ j' = j) : pm μ j k v j' = μ j' := by
  funext k'
  exact if_neg fun q => h q.1
theorem pm_k {μ : MM} {j : Nat} {k k' v : Int} (h : ¬ k' = k) : pm μ j k v j k' = μ j k' := if_neg fun q => h q.2
theorem pn_self {ν : Int → Int} {i v : Int} : pn ν i v i = v := if_pos rfl
theorem pn_ne {ν : Int → Int} {i v k : Int} (h : ¬ k = i) : pn ν i v k = ν k := if_neg h
theorem st3_pm {σ : Mem} {g : Int} {j : Nat} {k v : Int} : st3 σ g j k v g = pm (σ g) j k v := by
  funext j' k'
  simp [st3, pm]
theorem st3_pn {σ : Mem} {g : Int} {j : Nat} {k v : Int} : st3 σ g j k v g j = pn (σ g j) k v := by
  funext k'
  simp [st3, pn]
theorem st3_o {σ : Mem} {g i : Int} {j : Nat} {k v : Int} (h : ¬ i = g) : st3 σ g j k v i = σ i := by
  funext j' k'
  exact st3_g h
def gRow (μ : MM) (p : Nat) (k : Int) : Row := (μ (p+1) k, μ (p+2) k, μ (p+3) k, μ (p+4) k, μ (p+5) k)
theorem gRow_6 {μ : MM} : gRow μ 6 = bRow μ := rfl
theorem gRow_12 {μ : MM} : gRow μ 12 = oRow μ := rfl
theorem moveM_row {σ : Mem} {g : Int} {p : Nat} {f t n k : Int} : gRow (moveM σ g p f t n g) p k = if t ≤ k ∧ k < t + n then gRow (σ g) p (f + (k - t)) else gRow (σ g) p k := by
  by_cases h : t ≤ k ∧ k < t + n
  · rw [if_pos h]
    simp [gRow, moveM, cpy, h]
  · rw [if_neg h]
    simp [gRow, moveM, cpy, h]
theorem moveM_p {σ : Mem} {g : Int} {p j : Nat} {f t n : Int} (h : ¬ (p + 1 ≤ j ∧ j ≤ p + 5)) : moveM σ g p f t n g j = σ g j := by
  funext k
  simp only [moveM, cpy]
  repeat rw [if_neg (by omega)]
theorem moveM_o {σ : Mem} {g i : Int} {p : Nat} {f t n : Int} (h : ¬ i = g) : moveM σ g p f t n i = σ i := by
  funext j k
  simp only [moveM, cpy]
  repeat rw [if_neg (fun q => h q.1)]
theorem gRow_pm {μ : MM} {p j : Nat} {i v k : Int} (h : ¬ (p + 1 ≤ j ∧ j ≤ p + 5)) : gRow (pm μ j i v) p k = gRow μ p k := by
  unfold gRow
  rw [pm_j (by omega), pm_j (by omega), pm_j (by omega), pm_j (by omega), pm_j (by omega)]
/-- an order comes in at r -/
theorem enterM_row {σ : Mem} {g : Int} {p : Nat} {r o a b : Int} {k : Int} : gRow (enterM σ g p r o a b g) p k = if k = r then (σ g p 1, o, a, b, 0) else if r < k ∧ k ≤ σ g p 0 then gRow (σ g) p (k - 1) else gRow (σ g) p k := by
  have hm := moveM_row (σ := σ) (g := g) (p := p) (f := r) (t := r + 1) (n := σ g p 0 - r) (k := k)
  have h1 : moveM σ g p r (r + 1) (σ g p 0 - r) g p = σ g p := moveM_p (by omega)
  simp only [enterM, st3_pm]
  generalize hμ : moveM σ g p r (r + 1) (σ g p 0 - r) g = μ1 at hm h1 ⊢
  by_cases h : k = r
  · subst h
    rw [if_pos rfl]
    simp [gRow, pm, h1]
  · rw [if_neg h]
    have e : gRow (pm (pm (pm (pm (pm (pm (pm μ1 p 0 (μ1 p 0 + 1)) (p + 1) r (pm μ1 p 0 (μ1 p 0 + 1) p 1)) (p + 2) r o) (p + 3) r a) (p + 4) r b) (p + 5) r 0) p 1 (pm (pm (pm (pm (pm (pm μ1 p 0 (μ1 p 0 + 1)) (p + 1) r (pm μ1 p 0 (μ1 p 0 + 1) p 1)) (p + 2) r o) (p + 3) r a) (p + 4) r b) (p + 5) r 0 p 1 + 1)) p k = gRow μ1 p k := by
      simp [gRow, pm, h]
    rw [e, hm]
    by_cases h2 : r < k ∧ k ≤ σ g p 0
    · rw [if_pos (by omega), if_pos h2, show r + (k - (r + 1)) = k - 1 by omega]
    · rw [if_neg (by omega), if_neg h2]
theorem enterM_p0 {σ : Mem} {g : Int} {p : Nat} {r o a b : Int} : enterM σ g p r o a b g p 0 = σ g p 0 + 1 := by
  have h1 : moveM σ g p r (r + 1) (σ g p 0 - r) g p = σ g p := moveM_p (by omega)
  simp only [enterM, st3_pm]
  generalize moveM σ g p r (r + 1) (σ g p 0 - r) g = μ1 at h1 ⊢
  simp [pm, h1]
theorem enterM_p1 {σ : Mem} {g : Int} {p : Nat} {r o a b : Int} : enterM σ g p r o a b g p 1 = σ g p 1 + 1 := by
  have h1 : moveM σ g p r (r + 1) (σ g p 0 - r) g p = σ g p := moveM_p (by omega)
  simp only [enterM, st3_pm]
  generalize moveM σ g p r (r + 1) (σ g p 0 - r) g = μ1 at h1 ⊢
  simp [pm, h1]
theorem enterM_j {σ : Mem} {g : Int} {p j : Nat} {r o a b : Int} (h : ¬ (p ≤ j ∧ j ≤ p + 5)) : enterM σ g p r o a b g j = σ g j := by
  have h1 : moveM σ g p r (r + 1) (σ g p 0 - r) g j = σ g j := moveM_p (by omega)
  simp only [enterM, st3_pm]
  rw [pm_j (by omega), pm_j (by omega), pm_j (by omega), pm_j (by omega), pm_j (by omega), pm_j (by omega), pm_j (by omega), h1]
theorem enterM_o {σ : Mem} {g i : Int} {p : Nat} {r o a b : Int} (h : ¬ i = g) : enterM σ g p r o a b i = σ i := by
  simp only [enterM]
  rw [st3_o h, st3_o h, st3_o h, st3_o h, st3_o h, st3_o h, st3_o h, moveM_o h]
/-- the order at r goes -/
theorem removeM_row {σ : Mem} {g : Int} {p : Nat} {r k : Int} : gRow (removeM σ g p r g) p k = if r ≤ k ∧ k < σ g p 0 - 1 then gRow (σ g) p (k + 1) else gRow (σ g) p k := by
  have e0 : st3 σ g p 0 (σ g p 0 - 1) g p 0 = σ g p 0 - 1 := st3_self
  simp only [removeM]
  rw [moveM_row, e0, st3_pm]
  by_cases h : r ≤ k ∧ k < σ g p 0 - 1
  · rw [if_pos (by omega), if_pos h, show r + 1 + (k - r) = k + 1 by omega, gRow_pm (by omega)]
  · rw [if_neg (by omega), if_neg h, gRow_pm (by omega)]
theorem removeM_p1 {σ : Mem} {g : Int} {p : Nat} {r : Int} : removeM σ g p r g p 1 = σ g p 1 := by
  simp only [removeM]
  rw [moveM_p (by omega), st3_k (by decide)]
theorem removeM_js {σ : Mem} {g : Int} {p j : Nat} {r : Int} (h : ¬ (p ≤ j ∧ j ≤ p + 5)) : removeM σ g p r g j = σ g j := by
  simp only [removeM]
  rw [moveM_p (by omega), st3_pm, pm_j (by omega)]
theorem removeM_o {σ : Mem} {g i : Int} {p : Nat} {r : Int} (h : ¬ i = g) : removeM σ g p r i = σ i := by
  simp only [removeM]
  rw [moveM_o h, st3_o h]
/-! the reference's rows -/
theorem closeM_v {σ : Mem} {w a s e k : Int} (hw : ¬ k = w) : closeM σ w a s e 0 41 k = if e - s ≤ k ∧ k < e then 0 else if a ≤ k ∧ k < e - s then σ 0 41 (k + s) else σ 0 41 k := by
  simp only [closeM]
  rw [st3_k hw]
  simp only [fill]
  by_cases h1 : e - s ≤ k ∧ k < e
  · rw [if_pos ⟨trivial, trivial, by omega, by omega⟩, if_pos h1]
  · rw [if_neg (by omega), if_neg h1]
    simp only [cpy]
    by_cases h2 : a ≤ k ∧ k < e - s
    · rw [if_pos ⟨trivial, trivial, by omega, by omega⟩, if_pos h2, show a + s + (k - a) = k + s by omega]
    · rw [if_neg (by omega), if_neg h2]
