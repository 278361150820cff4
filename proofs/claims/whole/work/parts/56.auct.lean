/-! the auction on both sides -/
def BD (ν : Int → Int) (B : Int) : Prop := ∀ k : Int, 4 ≤ k → k < 13 → ν k ≤ B
theorem BD.mono {ν : Int → Int} {B C : Int} (h : BD ν B) (hBC : B ≤ C) : BD ν C := fun k a b => Int.le_trans (h k a b) hBC
/-- what a trade does to a market of the class -/
theorem cpy_in {σ : Mem} {g1 : Int} {j1 : Nat} {sp g2 : Int} {j2 : Nat} {dp n k : Int} (h0 : dp ≤ k) (h1 : k < dp + n) : cpy σ g1 j1 sp g2 j2 dp n g2 j2 k = σ g1 j1 (sp + (k - dp)) := if_pos ⟨rfl, rfl, h0, h1⟩
theorem cpy_out {σ : Mem} {g1 : Int} {j1 : Nat} {sp g2 : Int} {j2 : Nat} {dp n g k : Int} {j : Nat} (h : ¬ (dp ≤ k ∧ k < dp + n)) : cpy σ g1 j1 sp g2 j2 dp n g j k = σ g j k := if_neg fun q => h q.2.2
theorem cpy_o {σ : Mem} {g1 : Int} {j1 : Nat} {sp g2 : Int} {j2 : Nat} {dp n g : Int} (h : ¬ g = g2) : cpy σ g1 j1 sp g2 j2 dp n g = σ g := by
  funext j k
  exact if_neg fun q => h q.1
theorem tradeM_lo {σ : Mem} {g b o y k s p x : Int} (hy : σ g 8 b = y) (hk : σ g 14 o = k) (hs : σ g 5 k = s) (hp : (σ g 10 b + σ g 16 o) / 2 = p) (hx : (if p < σ g 0 4 then p else σ g 0 4) = x) {j : Nat} (hj : j < 18) (z : Int) : tradeM σ g b o g j z = pm (pm (pm (pm (σ g) 2 y (σ g 2 y - p)) 2 s (pm (σ g) 2 y (σ g 2 y - p) 2 s + (p - x))) 0 7 (σ g 0 7 + x)) 5 k y j z := by
  subst hy hk hs hp hx
  have e : tradeM σ g b o = noteM (tradeM4 σ g b o) g (σ g 8 b) (σ g 5 (σ g 14 o)) (σ g 14 o) ((σ g 10 b + σ g 16 o) / 2) := rfl
  rw [e, noteM_0 hj]
  simp only [tradeM4, st3_pm]
  generalize (σ g 10 b + σ g 16 o) / 2 = p
  generalize (if p < σ g 0 4 then p else σ g 0 4) = x
  have v : pm (pm (σ g) 2 (σ g 8 b) (σ g 2 (σ g 8 b) - p)) 2 (σ g 5 (σ g 14 o)) (pm (σ g) 2 (σ g 8 b) (σ g 2 (σ g 8 b) - p) 2 (σ g 5 (σ g 14 o)) + (p - x)) 0 7 = σ g 0 7 := by rw [pm_j (by decide), pm_j (by decide)]
  rw [v]
theorem tradeM_0z {σ : Mem} {g b o z : Int} : tradeM σ g b o g 0 z = if z = 7 then σ g 0 7 + (if (σ g 10 b + σ g 16 o) / 2 < σ g 0 4 then (σ g 10 b + σ g 16 o) / 2 else σ g 0 4) else σ g 0 z := by
  rw [tradeM_lo rfl rfl rfl rfl rfl (by decide), pm_j (by decide)]
  by_cases h : z = 7
  · rw [if_pos h, h, pm_self]
  · rw [if_neg h, pm_k h, pm_j (by decide), pm_j (by decide)]
theorem tradeM_2z {σ : Mem} {g b o z : Int} (hne : σ g 5 (σ g 14 o) ≠ σ g 8 b) : tradeM σ g b o g 2 z = if z = σ g 8 b then σ g 2 z - (σ g 10 b + σ g 16 o) / 2 else if z = σ g 5 (σ g 14 o) then σ g 2 z + ((σ g 10 b + σ g 16 o) / 2 - (if (σ g 10 b + σ g 16 o) / 2 < σ g 0 4 then (σ g 10 b + σ g 16 o) / 2 else σ g 0 4)) else σ g 2 z := by
  rw [tradeM_lo rfl rfl rfl rfl rfl (by decide), pm_j (by decide), pm_j (by decide)]
  by_cases h : z = σ g 8 b
  · rw [if_pos h, h, pm_k (fun q => hne q.symm), pm_self]
  · rw [if_neg h]
    by_cases h2 : z = σ g 5 (σ g 14 o)
    · rw [if_pos h2, h2, pm_self, pm_k hne]
    · rw [if_neg h2, pm_k h2, pm_k h]
theorem tradeM_5z {σ : Mem} {g b o z : Int} : tradeM σ g b o g 5 z = if z = σ g 14 o then σ g 8 b else σ g 5 z := by
  rw [tradeM_lo rfl rfl rfl rfl rfl (by decide)]
  by_cases h : z = σ g 14 o
  · rw [if_pos h, h, pm_self]
  · rw [if_neg h, pm_k h, pm_j (by decide), pm_j (by decide), pm_j (by decide)]
theorem tradeM4_hi {σ : Mem} {g b o : Int} {j : Nat} (h0 : j ≠ 0) (h2 : j ≠ 2) (h5 : j ≠ 5) : tradeM4 σ g b o g j = σ g j := by
  simp only [tradeM4, st3_pm]
  rw [pm_j h5, pm_j h0, pm_j h2, pm_j h2]
theorem noteM_18 {σ : Mem} {g y s k p : Int} : noteM σ g y s k p g 18 0 = σ g 18 0 + 1 ∧ noteM σ g y s k p g 18 1 = σ g 18 1 + p := by
  simp only [noteM]
  constructor
  · rw [st3_k (by decide), st3_self, st3_j (by decide), st3_j (by decide), st3_j (by decide), st3_j (by decide), cpy_k (by decide), cpy_k (by decide), cpy_k (by decide), cpy_k (by decide)]
  · rw [st3_self, st3_k (by decide), st3_j (by decide), st3_j (by decide), st3_j (by decide), st3_j (by decide), cpy_k (by decide), cpy_k (by decide), cpy_k (by decide), cpy_k (by decide)]
theorem noteM_t {σ : Mem} {g y s k p z : Int} (z0 : 0 ≤ z) (z1 : z < 10) : noteM σ g y s k p g 19 z = (if z = 0 then y else σ g 19 (z - 1)) ∧ noteM σ g y s k p g 20 z = (if z = 0 then s else σ g 20 (z - 1)) ∧ noteM σ g y s k p g 21 z = (if z = 0 then k else σ g 21 (z - 1)) ∧ noteM σ g y s k p g 22 z = (if z = 0 then p else σ g 22 (z - 1)) := by
  have e : (0 : Int) + (z - 1) = z - 1 := by omega
  simp only [noteM]
  refine ⟨?_, ?_, ?_, ?_⟩
  · rw [st3_j (by decide), st3_j (by decide), st3_j (by decide), st3_j (by decide), st3_j (by decide), st3_if]
    by_cases h : z = 0
    · rw [if_pos h, if_pos h]
    · rw [if_neg h, if_neg h, cpy_k (by decide), cpy_k (by decide), cpy_k (by decide), cpy_in (by omega) (by omega), e]
  · rw [st3_j (by decide), st3_j (by decide), st3_j (by decide), st3_j (by decide), st3_if]
    by_cases h : z = 0
    · rw [if_pos h, if_pos h]
    · rw [if_neg h, if_neg h, st3_j (by decide), cpy_k (by decide), cpy_k (by decide), cpy_in (by omega) (by omega), cpy_k (by decide), e]
  · rw [st3_j (by decide), st3_j (by decide), st3_j (by decide), st3_if]
    by_cases h : z = 0
    · rw [if_pos h, if_pos h]
    · rw [if_neg h, if_neg h, st3_j (by decide), st3_j (by decide), cpy_k (by decide), cpy_in (by omega) (by omega), cpy_k (by decide), cpy_k (by decide), e]
  · rw [st3_j (by decide), st3_j (by decide), st3_if]
    by_cases h : z = 0
    · rw [if_pos h, if_pos h]
    · rw [if_neg h, if_neg h, st3_j (by decide), st3_j (by decide), st3_j (by decide), cpy_in (by omega) (by omega), cpy_k (by decide), cpy_k (by decide), cpy_k (by decide), e]
theorem tradeM_18 {σ : Mem} {g b o : Int} : tradeM σ g b o g 18 0 = σ g 18 0 + 1 ∧ tradeM σ g b o g 18 1 = σ g 18 1 + (σ g 10 b + σ g 16 o) / 2 := by
  have e : tradeM σ g b o = noteM (tradeM4 σ g b o) g (σ g 8 b) (σ g 5 (σ g 14 o)) (σ g 14 o) ((σ g 10 b + σ g 16 o) / 2) := rfl
  rw [e, noteM_18.1, noteM_18.2, tradeM4_hi (by decide) (by decide) (by decide)]
  exact ⟨rfl, rfl⟩
theorem tradeM_t {σ : Mem} {g b o z : Int} (z0 : 0 ≤ z) (z1 : z < 10) : tradeM σ g b o g 19 z = (if z = 0 then σ g 8 b else σ g 19 (z - 1)) ∧ tradeM σ g b o g 20 z = (if z = 0 then σ g 5 (σ g 14 o) else σ g 20 (z - 1)) ∧ tradeM σ g b o g 21 z = (if z = 0 then σ g 14 o else σ g 21 (z - 1)) ∧ tradeM σ g b o g 22 z = (if z = 0 then (σ g 10 b + σ g 16 o) / 2 else σ g 22 (z - 1)) := by
  have e : tradeM σ g b o = noteM (tradeM4 σ g b o) g (σ g 8 b) (σ g 5 (σ g 14 o)) (σ g 14 o) ((σ g 10 b + σ g 16 o) / 2) := rfl
  have t := noteM_t (σ := tradeM4 σ g b o) (g := g) (y := σ g 8 b) (s := σ g 5 (σ g 14 o)) (k := σ g 14 o) (p := (σ g 10 b + σ g 16 o) / 2) z0 z1
  rw [tradeM4_hi (by decide) (by decide) (by decide), tradeM4_hi (by decide) (by decide) (by decide), tradeM4_hi (by decide) (by decide) (by decide), tradeM4_hi (by decide) (by decide) (by decide)] at t
  rw [e]
  exact t
theorem noteM_hi {σ : Mem} {g y s k p : Int} {j : Nat} (h : 23 ≤ j) : noteM σ g y s k p g j = σ g j := by
  funext z
  simp only [noteM]
  rw [st3_j (by omega), st3_j (by omega), st3_j (by omega), st3_j (by omega), st3_j (by omega), st3_j (by omega), cpy_k (by omega), cpy_k (by omega), cpy_k (by omega), cpy_k (by omega)]
theorem tradeM_j {σ : Mem} {g b o : Int} {j : Nat} (h0 : j ≠ 0) (h2 : j ≠ 2) (h5 : j ≠ 5) (h18 : ¬ (18 ≤ j ∧ j ≤ 22)) : tradeM σ g b o g j = σ g j := by
  have e : tradeM σ g b o = noteM (tradeM4 σ g b o) g (σ g 8 b) (σ g 5 (σ g 14 o)) (σ g 14 o) ((σ g 10 b + σ g 16 o) / 2) := rfl
  rw [e]
  by_cases hj : j < 18
  · funext z
    rw [noteM_0 hj, tradeM4_hi h0 h2 h5]
  · rw [noteM_hi (by omega), tradeM4_hi h0 h2 h5]
theorem tradeM_o {σ : Mem} {g i b o : Int} (h : ¬ i = g) : tradeM σ g b o i = σ i := by
  simp only [tradeM, noteM]
  rw [st3_o h, st3_o h, st3_o h, st3_o h, st3_o h, st3_o h, cpy_o h, cpy_o h, cpy_o h, cpy_o h, st3_o h, st3_o h, st3_o h, st3_o h]
theorem aucStep_o {σ : Mem} {g i b : Int} (h : ¬ i = g) : aucStep g σ b i = σ i := by
  unfold aucStep
  rw [removeM_o h, removeM_o h, tradeM_o h]
theorem aucStep_j {σ : Mem} {g b : Int} {j : Nat} (hj : ¬ (6 ≤ j ∧ j ≤ 17)) : aucStep g σ b g j = tradeM σ g b (matchO (σ g) b) g j := by
  unfold aucStep
  rw [removeM_js (by omega), removeM_js (by omega)]
theorem aucStep_b {σ : Mem} {g b z : Int} : bRow (aucStep g σ b g) z = if b ≤ z ∧ z < σ g 6 0 - 1 then bRow (σ g) (z + 1) else bRow (σ g) z := by
  have t : ∀ j : Nat, 6 ≤ j → j ≤ 17 → tradeM σ g b (matchO (σ g) b) g j = σ g j := fun j a c => tradeM_j (by omega) (by omega) (by omega) (by omega)
  have e : bRow (aucStep g σ b g) z = gRow (removeM (tradeM σ g b (matchO (σ g) b)) g 6 b g) 6 z := by
    unfold aucStep
    generalize removeM (tradeM σ g b (matchO (σ g) b)) g 6 b = σ1
    unfold bRow gRow
    rw [removeM_js (j := 7) (by decide), removeM_js (j := 8) (by decide), removeM_js (j := 9) (by decide), removeM_js (j := 10) (by decide), removeM_js (j := 11) (by decide)]
  have e2 : ∀ z, gRow (tradeM σ g b (matchO (σ g) b) g) 6 z = bRow (σ g) z := fun z => by
    unfold bRow gRow
    rw [t 7 (by decide) (by decide), t 8 (by decide) (by decide), t 9 (by decide) (by decide), t 10 (by decide) (by decide), t 11 (by decide) (by decide)]
  rw [e, removeM_row, e2, e2, t 6 (by decide) (by decide)]
theorem aucStep_r {σ : Mem} {g b z : Int} : oRow (aucStep g σ b g) z = if matchO (σ g) b ≤ z ∧ z < σ g 12 0 - 1 then oRow (σ g) (z + 1) else oRow (σ g) z := by
  have t : ∀ j : Nat, 12 ≤ j → j ≤ 17 → removeM (tradeM σ g b (matchO (σ g) b)) g 6 b g j = σ g j := fun j a c => by
    rw [removeM_js (by omega)]
    exact tradeM_j (by omega) (by omega) (by omega) (by omega)
  have e : oRow (aucStep g σ b g) z = gRow (removeM (removeM (tradeM σ g b (matchO (σ g) b)) g 6 b) g 12 (matchO (σ g) b) g) 12 z := rfl
  have e2 : ∀ z, gRow (removeM (tradeM σ g b (matchO (σ g) b)) g 6 b g) 12 z = oRow (σ g) z := fun z => by
    unfold oRow gRow
    rw [t 13 (by decide) (by decide), t 14 (by decide) (by decide), t 15 (by decide) (by decide), t 16 (by decide) (by decide), t 17 (by decide) (by decide)]
  rw [e, removeM_row, e2, e2, t 12 (by decide) (by decide)]
theorem aucStep_s {σ : Mem} {g b : Int} : aucStep g σ b g 6 0 = σ g 6 0 - 1 ∧ aucStep g σ b g 6 1 = σ g 6 1 ∧ aucStep g σ b g 12 0 = σ g 12 0 - 1 ∧ aucStep g σ b g 12 1 = σ g 12 1 := by
  have t : ∀ j : Nat, 6 ≤ j → j ≤ 17 → tradeM σ g b (matchO (σ g) b) g j = σ g j := fun j a c => tradeM_j (by omega) (by omega) (by omega) (by omega)
  refine ⟨?_, ?_, ?_, ?_⟩
  · unfold aucStep
    rw [removeM_js (by decide), removeM_0, t 6 (by decide) (by decide)]
  · unfold aucStep
    rw [removeM_js (by decide), removeM_p1, t 6 (by decide) (by decide)]
  · unfold aucStep
    rw [removeM_0, removeM_js (by decide), t 12 (by decide) (by decide)]
  · unfold aucStep
    rw [removeM_p1, removeM_js (by decide), t 12 (by decide) (by decide)]
/-- what a trade does to the reference's block -/
theorem rememM_v {σ : Mem} {y s b p z : Int} : rememM σ y s b p 0 41 z = if z = 13 then (if σ 0 41 13 + 1 < 10 then σ 0 41 13 + 1 else 10) else if z = 172 then y else if z = 173 then s else if z = 174 then b else if z = 175 then p else if 176 ≤ z ∧ z < 212 then σ 0 41 (z - 4) else σ 0 41 z := by
  have v13 : st3 (st3 (st3 (st3 (cpy σ 0 41 172 0 41 176 36) 0 41 172 y) 0 41 173 s) 0 41 174 b) 0 41 175 p 0 41 13 = σ 0 41 13 := by
    rw [st3_k (by decide), st3_k (by decide), st3_k (by decide), st3_k (by decide), cpy_out (by decide)]
  simp only [rememM]
  rw [v13]
  by_cases h0 : z = 13
  · rw [if_pos h0, h0, st3_self]
  · rw [if_neg h0, st3_k h0]
    by_cases h1 : z = 172
    · rw [if_pos h1, h1, st3_k (by decide), st3_k (by decide), st3_k (by decide), st3_self]
    · rw [if_neg h1]
      by_cases h2 : z = 173
      · rw [if_pos h2, h2, st3_k (by decide), st3_k (by decide), st3_self]
      · rw [if_neg h2]
        by_cases h3 : z = 174
        · rw [if_pos h3, h3, st3_k (by decide), st3_self]
        · rw [if_neg h3]
          by_cases h4 : z = 175
          · rw [if_pos h4, h4, st3_self]
          · rw [if_neg h4, st3_k h4, st3_k h3, st3_k h2, st3_k h1]
            by_cases h5 : 176 ≤ z ∧ z < 212
            · rw [if_pos h5, cpy_in h5.1 (by omega)]
              congr 1
              omega
            · rw [if_neg h5, cpy_out (by omega)]
theorem mtradeA_v {σ : Mem} {x w z y s k p f : Int} (hy : y = σ 0 41 (58 + 5 * x + 1)) (hk : k = σ 0 41 (108 + 4 * w + 1)) (hs : s = σ 0 41 (26 + 2 * k)) (hp : p = (σ 0 41 (58 + 5 * x + 3) + σ 0 41 (108 + 4 * w + 2)) / 2) (hf : f = if p < σ 0 41 6 then p else σ 0 41 6) (yr : 0 ≤ y ∧ y < 6) (sr : 0 ≤ s ∧ s < 6) (kr : 0 ≤ k ∧ k < 16) (hne : s ≠ y) :
    mtradeA σ x w 0 41 z = if z = 9 then σ 0 41 9 + p else if z = 8 then σ 0 41 8 + 1 else if z = 26 + 2 * k then y else if z = 10 then σ 0 41 10 + f else if z = 14 + 2 * s then σ 0 41 (14 + 2 * s) + (p - f) else if z = 14 + 2 * y then σ 0 41 (14 + 2 * y) - p else σ 0 41 z := by
  simp only [mtradeA]
  rw [← hk, ← hs, ← hy, ← hp, ← hf]
  simp only [st3_pn]
  rw [show pn (σ 0 41) (14 + 2 * y) (σ 0 41 (14 + 2 * y) - p) (14 + 2 * s) = σ 0 41 (14 + 2 * s) from pn_ne (by omega)]
  rw [show pn (pn (σ 0 41) (14 + 2 * y) (σ 0 41 (14 + 2 * y) - p)) (14 + 2 * s) (σ 0 41 (14 + 2 * s) + (p - f)) 10 = σ 0 41 10 by rw [pn_ne (by omega), pn_ne (by omega)]]
  rw [show pn (pn (pn (pn (σ 0 41) (14 + 2 * y) (σ 0 41 (14 + 2 * y) - p)) (14 + 2 * s) (σ 0 41 (14 + 2 * s) + (p - f))) 10 (σ 0 41 10 + f)) (26 + 2 * k) y 8 = σ 0 41 8 by rw [pn_ne (by omega), pn_ne (by omega), pn_ne (by omega), pn_ne (by omega)]]
  rw [show pn (pn (pn (pn (pn (σ 0 41) (14 + 2 * y) (σ 0 41 (14 + 2 * y) - p)) (14 + 2 * s) (σ 0 41 (14 + 2 * s) + (p - f))) 10 (σ 0 41 10 + f)) (26 + 2 * k) y) 8 (σ 0 41 8 + 1) 9 = σ 0 41 9 by rw [pn_ne (by omega), pn_ne (by omega), pn_ne (by omega), pn_ne (by omega), pn_ne (by omega)]]
  rfl
