/-! undo, the snapshot, the trial tide, the input: both sides -/
section UN
variable {l : Launch} {D : va_G} {K : Nat → ClassId} {ad : Adr} {σ : Mem} {B : Int}
theorem backM_v (hh : HI σ) (hd : 1 ≤ σ 0 24 0) : (∀ j : Nat, 23 ≤ j → j ≠ 24 → backM σ 0 0 j = σ 0 j) ∧ backM σ 0 0 24 0 = σ 0 24 0 - 1 ∧ backM σ 0 0 24 1 = (σ 0 24 1 + 7) % 8 ∧ (∀ i : Int, i ≠ 0 → backM σ 0 i = σ i) ∧ (∀ ν : Int → Int, MR (σ (hix σ (σ 0 24 0 - 1))) ν → RZ (σ 0) → MR (backM σ 0 0) ν) := by
  have n0 := hh.2.1
  have n1 := hh.2.2
  have e1 : st3 (st3 σ 0 24 1 ((σ 0 24 1 + 8 - 1) % 8)) 0 24 0 (st3 σ 0 24 1 ((σ 0 24 1 + 8 - 1) % 8) 0 24 0 - 1) 0 24 1 = (σ 0 24 1 + 7) % 8 := by
    rw [st3_k (by decide), st3_self]
    omega
  have e0 : st3 (st3 σ 0 24 1 ((σ 0 24 1 + 8 - 1) % 8)) 0 24 0 (st3 σ 0 24 1 ((σ 0 24 1 + 8 - 1) % 8) 0 24 0 - 1) 0 24 0 = σ 0 24 0 - 1 := by
    rw [st3_self, st3_k (by decide)]
  have ej : ∀ (i : Int) (j : Nat), ¬ (i = 0 ∧ j = 24) → st3 (st3 σ 0 24 1 ((σ 0 24 1 + 8 - 1) % 8)) 0 24 0 (st3 σ 0 24 1 ((σ 0 24 1 + 8 - 1) % 8) 0 24 0 - 1) i j = σ i j := fun i j hij => by
    rw [st3_oj hij, st3_oj hij]
  unfold backM
  try dsimp only
  rw [e1]
  generalize st3 (st3 σ 0 24 1 ((σ 0 24 1 + 8 - 1) % 8)) 0 24 0 (st3 σ 0 24 1 ((σ 0 24 1 + 8 - 1) % 8) 0 24 0 - 1) = ρ at e1 e0 ej ⊢
  have hx : hix σ (σ 0 24 0 - 1) = 3 + (σ 0 24 1 + 7) % 8 := by
    unfold hix
    omega
  refine ⟨fun j a b => ?_, ?_, ?_, fun i hi => ?_, fun ν hm hz => ?_⟩
  · rw [cpMarket_hi a, ej 0 j (by omega)]
  · rw [cpMarket_hi (by decide), e0]
  · rw [cpMarket_hi (by decide), e1]
  · rw [cpMarket_o hi]
    funext j
    exact ej i j (by omega)
  · have q : ρ (3 + (σ 0 24 1 + 7) % 8) = σ (3 + (σ 0 24 1 + 7) % 8) := funext fun j => ej _ j (by omega)
    have q0 : ∀ j : Nat, j ≠ 24 → ρ 0 j = σ 0 j := fun j hj => ej 0 j (by omega)
    refine cpMarket_MR (by omega) ?_ ?_
    · rw [q, ← hx]
      exact hm
    · intro k a b c
      rw [q0 0 (by decide)]
      exact hz k a b c
theorem MR.szs {μ : MM} {ν : Int → Int} (h : MR μ ν) : (0 ≤ μ 6 0 ∧ μ 6 0 ≤ 10) ∧ 0 ≤ μ 12 0 ∧ μ 12 0 ≤ 16 := by
  have s2 := h.sc.2.2.1
  have s3 := h.sc.2.2.2.1
  have n2 := h.ni.n2
  have n3 := h.ni.n3
  omega

set_option maxHeartbeats 4000000 in
theorem st_undo (hl0 : l.stackTraces = false) (h : INV σ B) (hB : B ≤ 40000000) : St l D K ad σ B yX8_undo (.code yX8_undo cX8_undo 1 (some .int)) 9 1 6 yX9_undo (.code yX9_undo cX9_undo 2 (some .int)) 6 [] ["java/lang/IllegalStateException"] := by
  have hh := h.hi
  have h6 := h.h6
  by_cases hk : σ 0 24 0 = 0
  · refine ⟨_, 1, 0, σ, cx_undo hl0 σ h.r hk, Or.inr ⟨0, _, rfl, rfl, rfl⟩, h.r, fun σ2 hR2 hW => ?_⟩
    have hI := INV_w h (Int.le_refl B) hR2 hW
    have e40 := hW.e (j := 40) (by decide)
    exact ⟨_, _, fx_undo hl0 σ2 hR2 (by rw [e40]; omega), st3_self, fun q => absurd q (by decide), fun j hj => (st3_50 j hj).trans (st3_50 j hj), INV_o (INV_o hI (Int.le_refl B) ⟨by decide, by decide⟩) (by omega) ⟨by decide, by decide⟩⟩
  · have d := hh.1
    obtain ⟨b1, b2, b3, b4, b5⟩ := backM_v hh (by omega)
    obtain ⟨m1, m2⟩ := h.hr (σ 0 24 0 - 1) (by omega) (by omega)
    have hm := b5 _ m1 (h.z 0 (by decide) (by decide))
    have hR1 : Rng (backM σ 0) := by
      unfold backM
      try dsimp only
      exact cpMarket_R ((h.r.st ⟨by omega, by omega⟩).st (by rw [st3_k (by decide)]; exact ⟨by omega, by omega⟩))
    refine ⟨_, 0, _, backM σ 0, c_undo hl0 σ h.r hh h.s hk, Or.inl ⟨rfl, rfl⟩, hR1, fun σ2 hR2 hW => ?_⟩
    have e40 : σ2 0 40 = σ 0 40 := by rw [hW 0 40 (by decide), b1 40 (by decide) (by decide)]
    have w : ∀ j : Nat, 23 ≤ j → j ≠ 24 → j ≤ 49 → σ2 0 j = σ 0 j := fun j a b c => by rw [hW 0 j (by omega), b1 j a b]
    have u6 : undoA σ2 0 40 6 = σ 0 24 0 - 1 := by
      unfold undoA
      try dsimp only
      rw [st3_self, st3_k (by decide), e40, h6]
    have uj : ∀ (i : Int) (j : Nat), ¬ (i = 0 ∧ j = 40) → undoA σ2 i j = σ2 i j := fun i j hij => by
      unfold undoA
      try dsimp only
      rw [st3_oj hij, st3_oj hij]
    have uk : ∀ k : Int, k ≠ 6 → k ≠ 8 → undoA σ2 0 40 k = σ2 0 40 k := fun k a b => by
      unfold undoA
      try dsimp only
      rw [st3_k a, st3_k b]
    have u8 : undoA σ2 0 40 8 = 0 := by
      unfold undoA
      try dsimp only
      rw [st3_k (by decide), st3_self]
    have hRA : Rng (undoA σ2) := by
      unfold undoA
      try dsimp only
      exact (hR2.st ⟨by decide, by decide⟩).st (by rw [st3_k (by decide), e40]; exact ⟨by omega, by omega⟩)
    have v : ∀ (i : Int) (j : Nat), ¬ (i = 0 ∧ (j = 40 ∨ j = 41)) → undoM σ2 i j = σ2 i j := fun i j hij => by
      unfold undoM
      rw [show cpy (undoA σ2) 0 45 (212 * undoA σ2 0 40 6) 0 41 0 212 i j = undoA σ2 i j from funext fun k => if_neg fun q => hij ⟨q.1, Or.inr q.2.1⟩, uj i j (by omega)]
    have v40 : undoM σ2 0 40 = undoA σ2 0 40 := by
      unfold undoM
      funext k
      rw [cpy_k (by decide)]
    have v41 : ∀ k : Int, 0 ≤ k → k < 212 → undoM σ2 0 41 k = blk σ (σ 0 24 0 - 1) k := fun k a b => by
      unfold undoM
      rw [cpy_in a (by omega), u6, uj 0 45 (by decide), w 45 (by decide) (by decide) (by decide)]
      unfold blk
      congr 1
      omega
    have hR3 : Rng (undoM σ2) := hRA.cpy (by decide)
    refine ⟨_, undoM σ2, f_undo hl0 σ2 hR2 (by rw [e40]; omega), by rw [v40, u8], fun _ => by rw [v40, u6, b2], fun j hj => v 0 j (by omega), ?_⟩
    have g0 : ∀ i : Int, i ≠ 0 → ∀ j : Nat, j ≤ 22 → undoM σ2 i j = σ i j := fun i a j b => by rw [v i j (by omega), hW i j (by omega), b4 i a]
    have g00 : ∀ j : Nat, j ≤ 24 → undoM σ2 0 j = backM σ 0 0 j := fun j b => by rw [v 0 j (by omega), hW 0 j (by omega)]
    have x : ∀ j : Nat, 23 ≤ j → j ≠ 24 → j ≠ 40 → j ≠ 41 → j ≤ 49 → undoM σ2 0 j = σ 0 j := fun j a b c e f => by rw [v 0 j (by omega), w j a b f]
    have xk : ∀ k : Int, k ≠ 6 → k ≠ 8 → undoM σ2 0 40 k = σ 0 40 k := fun k a b => by rw [v40, uk k a b, e40]
    have hm' : MR (undoM σ2 0) (undoM σ2 0 41) := MR_same hm (fun j hj => g00 j (by omega)) v41
    refine ⟨hR3, ⟨hm', BD_congr (m2.mono (by omega)) v41⟩, fun g a b => ?_, fun g a b => ?_, ⟨⟨?_, ?_⟩, ?_⟩, fun i i0 i1 => ?_, ⟨?_, fun hn => ?_⟩, ?_, ?_, ?_, ?_⟩
    · by_cases c : g = 0
      · rw [c]
        exact hm'.szs
      · rw [g0 g c 6 (by decide), g0 g c 12 (by decide)]
        exact h.s g a b
    · by_cases c : g = 0
      · rw [c]
        exact hm'.rz
      · intro k k0 k1 k2
        rw [g0 g c 0 (by decide)]
        exact h.z g a b k k0 k1 k2
    · rw [g00 24 (by decide), b2]
      omega
    · rw [g00 24 (by decide), b3]
      omega
    · rw [v40, u6, g00 24 (by decide), b2]
    · rw [g00 24 (by decide), b2] at i1
      obtain ⟨a1, a2⟩ := h.hr i i0 (by omega)
      have hx : hix (undoM σ2) i = hix σ i := by
        unfold hix
        rw [g00 24 (by decide), b2, b3]
        omega
      have r := hix_r hh i
      rw [hx]
      exact ⟨MR_same a1 (g0 _ (by omega)) (fun k _ _ => by unfold blk; rw [x 45 (by decide) (by decide) (by decide) (by decide) (by decide)]), BD_congr (a2.mono (by omega)) (fun k _ _ => by unfold blk; rw [x 45 (by decide) (by decide) (by decide) (by decide) (by decide)])⟩
    · rw [xk 4 (by decide) (by decide), x 23 (by decide) (by decide) (by decide) (by decide) (by decide)]
      exact h.sn.1
    · rw [x 23 (by decide) (by decide) (by decide) (by decide) (by decide)] at hn
      obtain ⟨a1, a2⟩ := h.sn.2 hn
      rw [x 44 (by decide) (by decide) (by decide) (by decide) (by decide)]
      exact ⟨MR_same a1 (g0 2 (by decide)) (fun _ _ _ => rfl), a2.mono (by omega)⟩
    · unfold RJ
      rw [x 23 (by decide) (by decide) (by decide) (by decide) (by decide), xk 11 (by decide) (by decide), xk 12 (by decide) (by decide), xk 13 (by decide) (by decide)]
      exact h.rj
    · rw [x 23 (by decide) (by decide) (by decide) (by decide) (by decide), xk 7 (by decide) (by decide)]
      exact h.se
    · unfold INp
      rw [x 26 (by decide) (by decide) (by decide) (by decide) (by decide), x 27 (by decide) (by decide) (by decide) (by decide) (by decide), x 46 (by decide) (by decide) (by decide) (by decide) (by decide), xk 10 (by decide) (by decide)]
      exact h.in_
    · unfold OUp
      rw [x 31 (by decide) (by decide) (by decide) (by decide) (by decide), x 32 (by decide) (by decide) (by decide) (by decide) (by decide), x 33 (by decide) (by decide) (by decide) (by decide) (by decide), x 47 (by decide) (by decide) (by decide) (by decide) (by decide), xk 17 (by decide) (by decide)]
      exact h.ou
set_option maxHeartbeats 4000000 in
theorem st_saveSnapshot (hl0 : l.stackTraces = false) (h : INV σ B) (hB : B ≤ 40000000) : St l D K ad σ B yX8_saveSnapshot (.code yX8_saveSnapshot cX8_saveSnapshot 1 (some .int)) 9 1 6 yX9_saveSnapshot (.code yX9_saveSnapshot cX9_saveSnapshot 2 (some .int)) 6 [] [] := by
  have m := h.m
  have hR1 : Rng (st3 (cpMarket σ 2 0) 0 23 3 1) := (cpMarket_R h.r).st ⟨by decide, by decide⟩
  have hcm := cpMarket_MR (σ := σ) (g := 2) (h := 0) (by decide) m (h.z 2 (by decide) (by decide))
  have c0 : ∀ i : Int, i ≠ 2 → cpMarket σ 2 0 i = σ i := fun i hi => cpMarket_o hi
  have s1 : ∀ (i : Int) (j : Nat), ¬ (i = 0 ∧ j = 23) → st3 (cpMarket σ 2 0) 0 23 3 1 i j = cpMarket σ 2 0 i j := fun i j hij => st3_oj hij
  refine ⟨_, 0, _, _, c_save hl0 σ h.r h.s, Or.inl ⟨rfl, rfl⟩, hR1, fun σ2 hR2 hW => ?_⟩
  have w : ∀ j : Nat, j ≠ 23 → j ≤ 49 → σ2 0 j = σ 0 j := fun j a b => by rw [hW 0 j (by omega), s1 0 j (by omega), c0 0 (by decide)]
  have v : ∀ (i : Int) (j : Nat), ¬ (i = 0 ∧ (j = 40 ∨ j = 44)) → msaveM σ2 i j = σ2 i j := fun i j hij => by
    unfold msaveM
    rw [st3_oj (by omega), show cpy (st3 σ2 0 40 8 0) 0 41 0 0 44 0 212 i j = st3 σ2 0 40 8 0 i j from funext fun k => if_neg fun q => hij ⟨q.1, Or.inr q.2.1⟩, st3_oj (by omega)]
  have v4 : msaveM σ2 0 40 4 = 1 := st3_self
  have v8 : msaveM σ2 0 40 8 = 0 := by
    unfold msaveM
    rw [st3_k (by decide), cpy_k (by decide), st3_self]
  have vk : ∀ k : Int, k ≠ 4 → k ≠ 8 → msaveM σ2 0 40 k = σ 0 40 k := fun k a b => by
    unfold msaveM
    rw [st3_k a, cpy_k (by decide), st3_k b, w 40 (by decide) (by decide)]
  have v44 : ∀ k : Int, 0 ≤ k → k < 212 → msaveM σ2 0 44 k = σ 0 41 k := fun k a b => by
    unfold msaveM
    rw [st3_j (by decide), cpy_in a (by omega), st3_oj (by decide), w 41 (by decide) (by decide), show (0 : Int) + (k - 0) = k by omega]
  have hR3 : Rng (msaveM σ2) := ((hR2.st ⟨by decide, by decide⟩).cpy (by decide)).st ⟨by decide, by decide⟩
  have x : ∀ j : Nat, j ≠ 23 → j ≠ 40 → j ≠ 44 → j ≤ 49 → msaveM σ2 0 j = σ 0 j := fun j a b c d => by rw [v 0 j (by omega), w j a d]
  have x23 : ∀ k : Int, msaveM σ2 0 23 k = if k = 3 then 1 else σ 0 23 k := fun k => by
    rw [v 0 23 (by decide), hW 0 23 (by decide), st3_if, c0 0 (by decide)]
  have y23 : ∀ k : Int, k ≠ 3 → msaveM σ2 0 23 k = σ 0 23 k := fun k hk => by rw [x23, if_neg hk]
  have g0 : ∀ i : Int, i ≠ 2 → ∀ j : Nat, j ≤ 22 → msaveM σ2 i j = σ i j := fun i a j b => by rw [v i j (by omega), hW i j (by omega), s1 i j (by omega), c0 i a]
  have g2 : ∀ j : Nat, msaveM σ2 2 j = cpMarket σ 2 0 2 j := fun j => by rw [v 2 j (by omega), hW 2 j (by omega), s1 2 j (by omega)]
  have hm2 : MR (msaveM σ2 2) (msaveM σ2 0 44) := MR_same hcm (fun j _ => g2 j) v44
  refine ⟨_, msaveM σ2, f_save hl0 σ2 hR2, v8, fun _ => ?_, fun j hj => v 0 j (by omega), ?_⟩
  · rw [x 41 (by decide) (by decide) (by decide) (by decide), s1 0 1 (by decide), c0 0 (by decide)]
    exact m.sc.1.symm
  · refine ⟨hR3, ⟨?_, ?_⟩, fun g a b => ?_, fun g a b => ?_, ⟨?_, ?_⟩, fun i i0 i1 => ?_, ⟨?_, fun _ => ⟨hm2, BD_congr (h.b.mono (by omega)) v44⟩⟩, ?_, ?_, ?_, ?_⟩
    · rw [x 41 (by decide) (by decide) (by decide) (by decide)]
      exact MR_same m (g0 0 (by decide)) (fun _ _ _ => rfl)
    · rw [x 41 (by decide) (by decide) (by decide) (by decide)]
      exact h.b.mono (by omega)
    · by_cases c : g = 2
      · rw [c]
        exact hm2.szs
      · rw [g0 g c 6 (by decide), g0 g c 12 (by decide)]
        exact h.s g a b
    · by_cases c : g = 2
      · rw [c]
        exact hm2.rz
      · intro k k0 k1 k2
        rw [g0 g c 0 (by decide)]
        exact h.z g a b k k0 k1 k2
    · unfold HI
      rw [x 24 (by decide) (by decide) (by decide) (by decide)]
      exact h.hi
    · rw [vk 6 (by decide) (by decide), x 24 (by decide) (by decide) (by decide) (by decide)]
      exact h.h6
    · rw [x 24 (by decide) (by decide) (by decide) (by decide)] at i1
      obtain ⟨a1, a2⟩ := h.hr i i0 i1
      have hx : hix (msaveM σ2) i = hix σ i := by
        unfold hix
        rw [x 24 (by decide) (by decide) (by decide) (by decide)]
      have hb : blk (msaveM σ2) i = blk σ i := by
        unfold blk
        rw [x 45 (by decide) (by decide) (by decide) (by decide)]
      have r := hix_r h.hi i
      rw [hx, hb]
      exact ⟨MR_same a1 (g0 _ (by omega)) (fun _ _ _ => rfl), a2.mono (by omega)⟩
    · rw [v4, x23, if_pos rfl]
    · unfold RJ
      rw [y23 7 (by decide), y23 8 (by decide), y23 9 (by decide), vk 11 (by decide) (by decide), vk 12 (by decide) (by decide), vk 13 (by decide) (by decide)]
      exact h.rj
    · rw [y23 10 (by decide), vk 7 (by decide) (by decide)]
      exact h.se
    · unfold INp
      rw [x 26 (by decide) (by decide) (by decide) (by decide), x 27 (by decide) (by decide) (by decide) (by decide), x 46 (by decide) (by decide) (by decide) (by decide), vk 10 (by decide) (by decide)]
      exact h.in_
    · unfold OUp
      rw [x 31 (by decide) (by decide) (by decide) (by decide), x 32 (by decide) (by decide) (by decide) (by decide), x 33 (by decide) (by decide) (by decide) (by decide), x 47 (by decide) (by decide) (by decide) (by decide), vk 17 (by decide) (by decide)]
      exact h.ou
set_option maxHeartbeats 4000000 in
theorem st_restoreSnapshot (hl0 : l.stackTraces = false) (h : INV σ B) (hB : B ≤ 40000000) : St l D K ad σ B yX8_restoreSnapshot (.code yX8_restoreSnapshot cX8_restoreSnapshot 1 (some .int)) 9 1 6 yX9_restoreSnapshot (.code yX9_restoreSnapshot cX9_restoreSnapshot 2 (some .int)) 6 [] ["java/lang/IllegalStateException"] := by
  have hsn := h.sn
  by_cases hk : σ 0 23 3 = 0
  · refine ⟨_, 1, 0, σ, cx_restore hl0 σ h.r hk, Or.inr ⟨0, _, rfl, rfl, rfl⟩, h.r, fun σ2 hR2 hW => ?_⟩
    have hI := INV_w h (Int.le_refl B) hR2 hW
    have e40 := hW.e (j := 40) (by decide)
    exact ⟨_, _, fx_restore hl0 σ2 hR2 (by rw [e40]; omega), st3_self, fun q => absurd q (by decide), fun j hj => (st3_50 j hj).trans (st3_50 j hj), INV_o (INV_o hI (Int.le_refl B) ⟨by decide, by decide⟩) (by omega) ⟨by decide, by decide⟩⟩
  · obtain ⟨m1, m2⟩ := hsn.2 hk
    have hR1 : Rng (st3 (cpMarket σ 0 2) 0 24 0 0) := (cpMarket_R h.r).st ⟨by decide, by decide⟩
    have hcm := cpMarket_MR (σ := σ) (g := 0) (h := 2) (by decide) m1 (h.z 0 (by decide) (by decide))
    have c0 : ∀ i : Int, i ≠ 0 → cpMarket σ 0 2 i = σ i := fun i hi => cpMarket_o hi
    have s1 : ∀ (i : Int) (j : Nat), ¬ (i = 0 ∧ j = 24) → st3 (cpMarket σ 0 2) 0 24 0 0 i j = cpMarket σ 0 2 i j := fun i j hij => st3_oj hij
    refine ⟨_, 0, _, _, c_restore hl0 σ h.r h.s hk, Or.inl ⟨rfl, rfl⟩, hR1, fun σ2 hR2 hW => ?_⟩
    have w : ∀ j : Nat, 23 ≤ j → j ≠ 24 → j ≤ 49 → σ2 0 j = σ 0 j := fun j a b c => by rw [hW 0 j (by omega), s1 0 j (by omega), cpMarket_hi a]
    have e40 := w 40 (by decide) (by decide) (by decide)
    have v : ∀ (i : Int) (j : Nat), ¬ (i = 0 ∧ (j = 40 ∨ j = 41)) → mrestM σ2 i j = σ2 i j := fun i j hij => by
      unfold mrestM
      rw [st3_oj (by omega), show cpy (st3 σ2 0 40 8 0) 0 44 0 0 41 0 212 i j = st3 σ2 0 40 8 0 i j from funext fun k => if_neg fun q => hij ⟨q.1, Or.inr q.2.1⟩, st3_oj (by omega)]
    have v6 : mrestM σ2 0 40 6 = 0 := st3_self
    have v8 : mrestM σ2 0 40 8 = 0 := by
      unfold mrestM
      rw [st3_k (by decide), cpy_k (by decide), st3_self]
    have vk : ∀ k : Int, k ≠ 6 → k ≠ 8 → mrestM σ2 0 40 k = σ 0 40 k := fun k a b => by
      unfold mrestM
      rw [st3_k a, cpy_k (by decide), st3_k b, e40]
    have v41 : ∀ k : Int, 0 ≤ k → k < 212 → mrestM σ2 0 41 k = σ 0 44 k := fun k a b => by
      unfold mrestM
      rw [st3_j (by decide), cpy_in a (by omega), st3_oj (by decide), w 44 (by decide) (by decide) (by decide), show (0 : Int) + (k - 0) = k by omega]
    have hR3 : Rng (mrestM σ2) := ((hR2.st ⟨by decide, by decide⟩).cpy (by decide)).st ⟨by decide, by decide⟩
    have x : ∀ j : Nat, 23 ≤ j → j ≠ 24 → j ≠ 40 → j ≠ 41 → j ≤ 49 → mrestM σ2 0 j = σ 0 j := fun j a b c d e => by rw [v 0 j (by omega), w j a b e]
    have x24 : ∀ k : Int, mrestM σ2 0 24 k = if k = 0 then 0 else σ 0 24 k := fun k => by
      rw [v 0 24 (by decide), hW 0 24 (by decide), st3_if, cpMarket_hi (by decide)]
    have g0 : ∀ i : Int, i ≠ 0 → ∀ j : Nat, j ≤ 22 → mrestM σ2 i j = σ i j := fun i a j b => by rw [v i j (by omega), hW i j (by omega), s1 i j (by omega), c0 i a]
    have g00 : ∀ j : Nat, j ≤ 22 → mrestM σ2 0 j = cpMarket σ 0 2 0 j := fun j a => by rw [v 0 j (by omega), hW 0 j (by omega), s1 0 j (by omega)]
    have hm' : MR (mrestM σ2 0) (mrestM σ2 0 41) := MR_same hcm g00 v41
    have hh := h.hi
    refine ⟨_, mrestM σ2, f_restore hl0 σ2 hR2 (by rw [e40, hsn.1]; exact hk), v8, fun _ => ?_, fun j hj => v 0 j (by omega), ?_⟩
    · rw [s1 0 1 (by decide), ← g00 1 (by decide)]
      exact hm'.sc.1.symm
    · refine ⟨hR3, ⟨hm', BD_congr (m2.mono (by omega)) v41⟩, fun g a b => ?_, fun g a b => ?_, ⟨⟨?_, ?_⟩, ?_⟩, fun i i0 i1 => ?_, ⟨?_, fun hn => ?_⟩, ?_, ?_, ?_, ?_⟩
      · by_cases c : g = 0
        · rw [c]
          exact hm'.szs
        · rw [g0 g c 6 (by decide), g0 g c 12 (by decide)]
          exact h.s g a b
      · by_cases c : g = 0
        · rw [c]
          exact hm'.rz
        · intro k k0 k1 k2
          rw [g0 g c 0 (by decide)]
          exact h.z g a b k k0 k1 k2
      · rw [x24, if_pos rfl]
        decide
      · rw [x24, if_neg (by decide)]
        exact hh.2
      · rw [v6, x24, if_pos rfl]
      · rw [x24, if_pos rfl] at i1
        omega
      · rw [vk 4 (by decide) (by decide), x 23 (by decide) (by decide) (by decide) (by decide) (by decide)]
        exact hsn.1
      · rw [x 44 (by decide) (by decide) (by decide) (by decide) (by decide)]
        exact ⟨MR_same m1 (g0 2 (by decide)) (fun _ _ _ => rfl), m2.mono (by omega)⟩
      · unfold RJ
        rw [x 23 (by decide) (by decide) (by decide) (by decide) (by decide), vk 11 (by decide) (by decide), vk 12 (by decide) (by decide), vk 13 (by decide) (by decide)]
        exact h.rj
      · rw [x 23 (by decide) (by decide) (by decide) (by decide) (by decide), vk 7 (by decide) (by decide)]
        exact h.se
      · unfold INp
        rw [x 26 (by decide) (by decide) (by decide) (by decide) (by decide), x 27 (by decide) (by decide) (by decide) (by decide) (by decide), x 46 (by decide) (by decide) (by decide) (by decide) (by decide), vk 10 (by decide) (by decide)]
        exact h.in_
      · unfold OUp
        rw [x 31 (by decide) (by decide) (by decide) (by decide) (by decide), x 32 (by decide) (by decide) (by decide) (by decide) (by decide), x 33 (by decide) (by decide) (by decide) (by decide) (by decide), x 47 (by decide) (by decide) (by decide) (by decide) (by decide), vk 17 (by decide) (by decide)]
        exact h.ou
set_option maxHeartbeats 4000000 in
theorem st_wouldTrade (hl0 : l.stackTraces = false) (h : INV σ B) (hB : B ≤ 40000000) : St l D K ad σ B yX8_wouldTrade (.code yX8_wouldTrade cX8_wouldTrade 1 (some .int)) 9 1 6 yX9_wouldTrade (.code yX9_wouldTrade cX9_wouldTrade 3 (some .int)) 6 [] [] := by
  have m := h.m
  have hR0 : Rng (cpMarket σ 1 0) := cpMarket_R h.r
  have hcm := cpMarket_MR (σ := σ) (g := 1) (h := 0) (by decide) m (h.z 1 (by decide) (by decide))
  obtain ⟨t1, t2, t3, t4, t5, t6, t7, t8, t9, t10⟩ := tide_both (σ := cpMarket σ 1 0) (τ := σ) (g := 1) hcm hR0 h.r h.b (by omega)
  refine ⟨_, 0, _, _, c_would hl0 σ h.r h.s t1, Or.inl ⟨rfl, rfl⟩, t4, fun σ2 hR2 hW => ?_⟩
  have w : ∀ (i : Int) (j : Nat), i ≠ 1 → ¬ (i = 0 ∧ (j = 50 ∨ j = 51)) → σ2 i j = σ i j := fun i j a b => by rw [hW i j b, t8 i a, cpMarket_o a]
  have aj : ∀ (i : Int) (j : Nat), ¬ (i = 0 ∧ (j = 40 ∨ j = 43)) → wouldA σ2 i j = σ2 i j := fun i j hij => by
    unfold wouldA
    rw [show cpy (st3 σ2 0 40 8 0) 0 41 0 0 43 0 212 i j = st3 σ2 0 40 8 0 i j from funext fun k => if_neg fun q => hij ⟨q.1, Or.inr q.2.1⟩, st3_oj (by omega)]
  have a41 : wouldA σ2 0 41 = σ 0 41 := by rw [aj 0 41 (by decide), w 0 41 (by decide) (by decide)]
  have a43 : ∀ k : Int, 0 ≤ k → k < 212 → wouldA σ2 0 43 k = σ 0 41 k := fun k a b => by
    unfold wouldA
    rw [cpy_in a (by omega), st3_oj (by decide), w 0 41 (by decide) (by decide), show (0 : Int) + (k - 0) = k by omega]
  have a8 : wouldA σ2 0 40 8 = 0 := by
    unfold wouldA
    rw [cpy_k (by decide), st3_self]
  have ak : ∀ k : Int, k ≠ 8 → wouldA σ2 0 40 k = σ2 0 40 k := fun k a => by
    unfold wouldA
    rw [cpy_k (by decide), st3_k a]
  have hRA : Rng (wouldA σ2) := (hR2.st ⟨by decide, by decide⟩).cpy (by decide)
  have n2 := m.ni.n2
  have ha := auc_both (g := 1) (wouldA σ2 0 41 2).toNat (cpMarket σ 1 0) (wouldA σ2) 0 0 B (by rw [a41]; exact hcm) hR0 hRA (by decide) (by rw [a41]; omega) (by rw [a41]; exact h.b) (by rw [a41]; omega)
  have hb := auc_both (g := 1) (σ 0 41 2).toNat (cpMarket σ 1 0) σ 0 0 B hcm hR0 h.r (by decide) (by omega) h.b (by omega)
  obtain ⟨p1, p2, p3, p4, p5, p6, p7, p8, p9, p10⟩ := ha
  obtain ⟨q1, q2, q3, q4, q5, q6, q7, q8, q9, q10⟩ := hb
  have hv : (maucR (wouldA σ2 0 41 2).toNat (wouldA σ2) 0 0).2 = (mtide1 σ).2 := by
    have e : (mtide1 σ).2 = (maucR (σ 0 41 2).toNat σ 0 0).2 := rfl
    rw [e]
    rw [a41] at p6 ⊢
    omega
  have v : ∀ (i : Int) (j : Nat), ¬ (i = 0 ∧ (j = 40 ∨ j = 41 ∨ j = 43)) → wouldM σ2 i j = σ2 i j := fun i j hij => by
    unfold wouldM
    rw [show ∀ τ : Mem, cpy τ 0 43 0 0 41 0 212 i j = τ i j from fun τ => funext fun k => if_neg fun q => hij ⟨q.1, Or.inr (Or.inl q.2.1)⟩, p10 i j (by omega), aj i j (by omega)]
  have v40 : wouldM σ2 0 40 = wouldA σ2 0 40 := by
    unfold wouldM
    rw [show ∀ τ : Mem, cpy τ 0 43 0 0 41 0 212 0 40 = τ 0 40 from fun τ => funext fun k => cpy_k (by decide), p10 0 40 (by decide)]
  have v41 : ∀ k : Int, 0 ≤ k → k < 212 → wouldM σ2 0 41 k = σ 0 41 k := fun k a b => by
    unfold wouldM
    rw [cpy_in a (by omega), show (0 : Int) + (k - 0) = k by omega, p10 0 43 (by decide), a43 k a b]
  refine ⟨_, wouldM σ2, f_would hl0 σ2 hR2 (by rw [a41]; exact n2) p2, by rw [v40, a8], fun _ => by rw [hv]; exact t7.symm, fun j hj => v 0 j (by omega), ?_⟩
  have x : ∀ j : Nat, j ≠ 40 → j ≠ 41 → j ≠ 43 → j ≤ 49 → wouldM σ2 0 j = σ 0 j := fun j a b c d => by rw [v 0 j (by omega), w 0 j (by decide) (by omega)]
  have xk : ∀ k : Int, k ≠ 8 → wouldM σ2 0 40 k = σ 0 40 k := fun k a => by rw [v40, ak k a, w 0 40 (by decide) (by decide)]
  have g1 : ∀ j : Nat, wouldM σ2 1 j = tideM 1 (cpMarket σ 1 0) 1 j := fun j => by rw [v 1 j (by omega), hW 1 j (by omega)]
  refine h.gen (by omega) (p5.cpy (by decide)) (fun g _ _ c j hj => by rw [v g j (by omega), w g j c (by omega)]) ?_ ?_ (x 24 (by decide) (by decide) (by decide) (by decide)) v41 (x 44 (by decide) (by decide) (by decide) (by decide)) (x 45 (by decide) (by decide) (by decide) (by decide)) (xk 6 (by decide)) (xk 4 (by decide)) (by rw [x 23 (by decide) (by decide) (by decide) (by decide)]) ?_ ?_ ?_ ?_
  · rw [g1 6, g1 12]
    exact t3.szs
  · intro k a b c
    rw [g1 0]
    exact t3.rz k a b c
  · unfold RJ
    rw [x 23 (by decide) (by decide) (by decide) (by decide), xk 11 (by decide), xk 12 (by decide), xk 13 (by decide)]
    exact h.rj
  · rw [x 23 (by decide) (by decide) (by decide) (by decide), xk 7 (by decide)]
    exact h.se
  · unfold INp
    rw [x 26 (by decide) (by decide) (by decide) (by decide), x 27 (by decide) (by decide) (by decide) (by decide), x 46 (by decide) (by decide) (by decide) (by decide), xk 10 (by decide)]
    exact h.in_
  · unfold OUp
    rw [x 31 (by decide) (by decide) (by decide) (by decide), x 32 (by decide) (by decide) (by decide) (by decide), x 33 (by decide) (by decide) (by decide) (by decide), x 47 (by decide) (by decide) (by decide) (by decide), xk 17 (by decide)]
    exact h.ou
theorem st_appendInput (hl0 : l.stackTraces = false) (h : INV σ B) (hB : B ≤ 40000000) (c : Int) (hc : 0 ≤ c ∧ c < 65536) : St l D K ad σ B yX8_appendInput (.code yX8_appendInput cX8_appendInput 2 (some .int)) 9 1 6 yX9_appendInput (.code yX9_appendInput cX9_appendInput 2 (some .int)) 6 [.int (iN c)] ["java/lang/IllegalArgumentException", "java/lang/IllegalStateException"] := by
  have hin := h.in_
  obtain ⟨i1, i2, i3⟩ := h.in_
  have bad : ∀ (σ2 : Mem) (p : Int), 1 ≤ p ∧ p ≤ 2 → Rng σ2 → Wr σ σ2 → thrM (st3 σ2 0 40 8 0) p 0 40 8 = p ∧ (∀ j : Nat, j = 50 ∨ j = 51 → thrM (st3 σ2 0 40 8 0) p 0 j = σ2 0 j) ∧ INV (thrM (st3 σ2 0 40 8 0) p) (B + 60000) := fun σ2 p hp hR2 hW => ⟨st3_self, fun j hj => (st3_50 j hj).trans (st3_50 j hj), INV_o (INV_o (INV_w h (Int.le_refl B) hR2 hW) (Int.le_refl B) ⟨by decide, by decide⟩) (by omega) ⟨by omega, by omega⟩⟩
  by_cases hk : 32 ≤ c ∧ c ≤ 126
  · by_cases h6 : σ 0 26 1 = 60
    · refine ⟨_, 2, 0, σ, cx_app2 hl0 σ h.r c hc i2 hk h6, Or.inr ⟨1, _, rfl, rfl, rfl⟩, h.r, fun σ2 hR2 hW => ?_⟩
      have e40 := hW.e (j := 40) (by decide)
      obtain ⟨z1, z2, z3⟩ := bad σ2 2 ⟨by decide, by decide⟩ hR2 hW
      exact ⟨_, _, gx_app2 hl0 σ2 hR2 c hc (by rw [e40]; omega) hk (by rw [e40]; omega), z1, fun q => absurd q (by decide), z2, z3⟩
    · have hR1 : Rng (cappM σ c) := (h.r.st ⟨by omega, by omega⟩).st (by rw [st3_j (by decide)]; exact ⟨by omega, by omega⟩)
      have cj : ∀ (i : Int) (j : Nat), ¬ (i = 0 ∧ (j = 26 ∨ j = 27)) → cappM σ c i j = σ i j := fun i j hij => by
        unfold cappM
        try dsimp only
        rw [st3_oj (by omega), st3_oj (by omega)]
      have c1 : cappM σ c 0 26 1 = σ 0 26 1 + 1 := by
        unfold cappM
        try dsimp only
        rw [st3_self, st3_j (by decide)]
      have c27 : ∀ k : Int, cappM σ c 0 27 k = if k = σ 0 26 1 then c else σ 0 27 k := fun k => by
        unfold cappM
        try dsimp only
        rw [st3_j (by decide), st3_if]
      refine ⟨_, 0, _, cappM σ c, c_app hl0 σ h.r c hc i2 hk (by omega), Or.inl ⟨rfl, rfl⟩, hR1, fun σ2 hR2 hW => ?_⟩
      have w : ∀ j : Nat, j ≠ 26 → j ≠ 27 → j ≤ 49 → σ2 0 j = σ 0 j := fun j a b d => by rw [hW 0 j (by omega), cj 0 j (by omega)]
      have e40 := w 40 (by decide) (by decide) (by decide)
      have mj : ∀ (i : Int) (j : Nat), ¬ (i = 0 ∧ (j = 40 ∨ j = 46)) → mappM σ2 c i j = σ2 i j := fun i j hij => by
        unfold mappM
        try dsimp only
        rw [st3_oj (by omega), st3_oj (by omega), st3_oj (by omega)]
      have m10 : mappM σ2 c 0 40 10 = σ 0 40 10 + 1 := by
        unfold mappM
        try dsimp only
        rw [st3_self, st3_j (by decide), st3_k (by decide), e40]
      have m8 : mappM σ2 c 0 40 8 = 0 := by
        unfold mappM
        try dsimp only
        rw [st3_k (by decide), st3_j (by decide), st3_self]
      have mk : ∀ k : Int, k ≠ 8 → k ≠ 10 → mappM σ2 c 0 40 k = σ 0 40 k := fun k a b => by
        unfold mappM
        try dsimp only
        rw [st3_k b, st3_j (by decide), st3_k a, e40]
      have m46 : ∀ k : Int, mappM σ2 c 0 46 k = if k = σ 0 40 10 then c else σ 0 46 k := fun k => by
        unfold mappM
        try dsimp only
        rw [st3_j (by decide), st3_if, st3_k (by decide), e40, st3_oj (by decide), w 46 (by decide) (by decide) (by decide)]
      have hR3 : Rng (mappM σ2 c) := by
        unfold mappM
        try dsimp only
        exact ((hR2.st ⟨by decide, by decide⟩).st ⟨by omega, by omega⟩).st (by rw [st3_j (by decide), st3_k (by decide), e40]; exact ⟨by omega, by omega⟩)
      refine ⟨_, mappM σ2 c, g_app hl0 σ2 hR2 c hc (by rw [e40]; omega) hk (by rw [e40]; omega), m8, fun _ => by rw [m10, c1, i1], fun j hj => mj 0 j (by omega), ?_⟩
      have x : ∀ j : Nat, j ≠ 26 → j ≠ 27 → j ≠ 40 → j ≠ 46 → j ≤ 49 → mappM σ2 c 0 j = σ 0 j := fun j a b d e f => by rw [mj 0 j (by omega), w j a b f]
      refine h.gen (by omega) hR3 (fun g _ _ _ j hj => by rw [mj g j (by omega), hW g j (by omega), cj g j (by omega)]) ?_ ?_ (x 24 (by decide) (by decide) (by decide) (by decide) (by decide)) (fun k _ _ => by rw [x 41 (by decide) (by decide) (by decide) (by decide) (by decide)]) (x 44 (by decide) (by decide) (by decide) (by decide) (by decide)) (x 45 (by decide) (by decide) (by decide) (by decide) (by decide)) (mk 6 (by decide) (by decide)) (mk 4 (by decide) (by decide)) (by rw [x 23 (by decide) (by decide) (by decide) (by decide) (by decide)]) ?_ ?_ ?_ ?_
      · rw [mj 1 6 (by decide), mj 1 12 (by decide), hW 1 6 (by decide), hW 1 12 (by decide), cj 1 6 (by decide), cj 1 12 (by decide)]
        exact h.s 1 (by decide) (by decide)
      · intro k a b d
        rw [mj 1 0 (by decide), hW 1 0 (by decide), cj 1 0 (by decide)]
        exact h.z 1 (by decide) (by decide) k a b d
      · unfold RJ
        rw [x 23 (by decide) (by decide) (by decide) (by decide) (by decide), mk 11 (by decide) (by decide), mk 12 (by decide) (by decide), mk 13 (by decide) (by decide)]
        exact h.rj
      · rw [x 23 (by decide) (by decide) (by decide) (by decide) (by decide), mk 7 (by decide) (by decide)]
        exact h.se
      · have y26 : mappM σ2 c 0 26 1 = σ 0 26 1 + 1 := by rw [mj 0 26 (by decide), hW 0 26 (by decide), c1]
        have y27 : ∀ k : Int, mappM σ2 c 0 27 k = if k = σ 0 26 1 then c else σ 0 27 k := fun k => by rw [mj 0 27 (by decide), hW 0 27 (by decide), c27]
        unfold INp
        rw [y26, m10]
        refine ⟨by omega, by omega, fun k a b => ?_⟩
        rw [y27, m46, ← i1]
        by_cases e : k = σ 0 26 1
        · rw [if_pos e, if_pos e]
          exact ⟨rfl, hk⟩
        · rw [if_neg e, if_neg e]
          exact i3 k a (by omega)
      · unfold OUp
        rw [x 31 (by decide) (by decide) (by decide) (by decide) (by decide), x 32 (by decide) (by decide) (by decide) (by decide) (by decide), x 33 (by decide) (by decide) (by decide) (by decide) (by decide), x 47 (by decide) (by decide) (by decide) (by decide) (by decide), mk 17 (by decide) (by decide)]
        exact h.ou
  · refine ⟨_, 1, 0, σ, cx_app1 hl0 σ h.r c hc i2 hk, Or.inr ⟨0, _, rfl, rfl, rfl⟩, h.r, fun σ2 hR2 hW => ?_⟩
    have e40 := hW.e (j := 40) (by decide)
    obtain ⟨z1, z2, z3⟩ := bad σ2 1 ⟨by decide, by decide⟩ hR2 hW
    exact ⟨_, _, gx_app1 hl0 σ2 hR2 c hc (by rw [e40]; omega) hk, z1, fun q => absurd q (by decide), z2, z3⟩
end UN
