/-! the memory: group, place, slot ↦ number; and the cells that it stands for -/
abbrev Mem : Type := Int → Nat → Int → Int
def st3 (σ : Mem) (g : Int) (j : Nat) (k v : Int) : Mem := fun g' j' k' => if g' = g ∧ j' = j ∧ k' = k then v else σ g' j' k'
theorem st3_self {σ : Mem} {g : Int} {j : Nat} {k v : Int} : st3 σ g j k v g j k = v := if_pos ⟨rfl, rfl, rfl⟩
theorem st3_j {σ : Mem} {g g' : Int} {j j' : Nat} {k k' v : Int} (h : ¬ j' = j) : st3 σ g j k v g' j' k' = σ g' j' k' := if_neg fun q => h q.2.1
theorem st3_g {σ : Mem} {g g' : Int} {j j' : Nat} {k k' v : Int} (h : ¬ g' = g) : st3 σ g j k v g' j' k' = σ g' j' k' := if_neg fun q => h q.1
theorem st3_k {σ : Mem} {g : Int} {j : Nat} {k k' v : Int} (h : ¬ k' = k) : st3 σ g j k v g j k' = σ g j k' := if_neg fun q => h q.2.2
theorem st3_if {σ : Mem} {g : Int} {j : Nat} {k k' v : Int} : st3 σ g j k v g j k' = if k' = k then v else σ g j k' := by
  by_cases h : k' = k
  · rw [if_pos h, h, st3_self]
  · rw [if_neg h, st3_k h]
theorem st3_twice {σ : Mem} {g : Int} {j : Nat} {k v w : Int} : st3 (st3 σ g j k v) g j k w = st3 σ g j k w := by
  funext a b d
  unfold st3
  split <;> rfl

def gnL : List Int := [11, 11, 11, 11, 11, 11, 11, 11, 11, 11, 11, 11, 11, 11, 11, 11, 11, 11, 11, 11, 11, 11, 11, 1, 1, 1, 1, 1, 1, 1, 30, 1, 1, 0, 0, 0, 0, 0, 0, 0, 1, 1, 1, 1, 1, 1, 1, 1, 1, 0, 1, 1]
abbrev lvp (g : Int) (j : Nat) : Prop := 0 ≤ g ∧ g < gnL.getD j 0
def cE (ad : Adr) (K : Nat → ClassId) (σ : Mem) (g : Int) (j : Nat) : va_E := match j with
  | 0 => .inr (7, [.ref (ad g 1), .ref (ad g 6), .ref (ad g 12), .ref (ad g 18), .int (iN (σ g 0 4)), .int (iN (σ g 0 5)), .int (iN (σ g 0 6)), .int (iN (σ g 0 7)), .int (iN (σ g 0 8))])
  | 1 => .inr (5, [.int (iN (σ g 1 0)), .ref (ad g 2), .ref (ad g 3), .int (iN (σ g 1 3)), .ref (ad g 4), .ref (ad g 5)])
  | 2 => .inl (K 0, 6, .inl (fun i => iN (σ g 2 (i : Int))))
  | 3 => .inl (K 0, 6, .inl (fun i => iN (σ g 3 (i : Int))))
  | 4 => .inl (K 0, 16, .inl (fun i => iN (σ g 4 (i : Int))))
  | 5 => .inl (K 0, 16, .inl (fun i => iN (σ g 5 (i : Int))))
  | 6 => .inr (4, [.int (iN (σ g 6 0)), .int (iN (σ g 6 1)), .ref (ad g 7), .ref (ad g 8), .ref (ad g 9), .ref (ad g 10), .ref (ad g 11)])
  | 7 => .inl (K 0, 10, .inl (fun i => iN (σ g 7 (i : Int))))
  | 8 => .inl (K 0, 10, .inl (fun i => iN (σ g 8 (i : Int))))
  | 9 => .inl (K 0, 10, .inl (fun i => iN (σ g 9 (i : Int))))
  | 10 => .inl (K 0, 10, .inl (fun i => iN (σ g 10 (i : Int))))
  | 11 => .inl (K 0, 10, .inl (fun i => iN (σ g 11 (i : Int))))
  | 12 => .inr (8, [.int (iN (σ g 12 0)), .int (iN (σ g 12 1)), .ref (ad g 13), .ref (ad g 14), .ref (ad g 15), .ref (ad g 16), .ref (ad g 17)])
  | 13 => .inl (K 0, 16, .inl (fun i => iN (σ g 13 (i : Int))))
  | 14 => .inl (K 0, 16, .inl (fun i => iN (σ g 14 (i : Int))))
  | 15 => .inl (K 0, 16, .inl (fun i => iN (σ g 15 (i : Int))))
  | 16 => .inl (K 0, 16, .inl (fun i => iN (σ g 16 (i : Int))))
  | 17 => .inl (K 0, 16, .inl (fun i => iN (σ g 17 (i : Int))))
  | 18 => .inr (10, [.int (iN (σ g 18 0)), .int (iN (σ g 18 1)), .ref (ad g 19), .ref (ad g 20), .ref (ad g 21), .ref (ad g 22)])
  | 19 => .inl (K 0, 10, .inl (fun i => iN (σ g 19 (i : Int))))
  | 20 => .inl (K 0, 10, .inl (fun i => iN (σ g 20 (i : Int))))
  | 21 => .inl (K 0, 10, .inl (fun i => iN (σ g 21 (i : Int))))
  | 22 => .inl (K 0, 10, .inl (fun i => iN (σ g 22 (i : Int))))
  | 23 => .inr (11, [.ref (ad 0 0), .ref (ad 1 0), .ref (ad 2 0), .int (iN (σ g 23 3)), .ref (ad 0 24), .ref (ad 0 26), .ref (ad 0 31), .int (iN (σ g 23 7)), .int (iN (σ g 23 8)), .int (iN (σ g 23 9)), .int (iN (σ g 23 10))])
  | 24 => .inr (6, [.int (iN (σ g 24 0)), .int (iN (σ g 24 1)), .ref (ad 0 25)])
  | 25 => .inl (K 5, 8, .inr (.inr (.inr (.inr (fun i => some (ad (3 + (i : Int)) 0))))))
  | 26 => .inr (9, [.ref (ad 0 27), .int (iN (σ g 26 1)), .int (iN (σ g 26 2)), .int (iN (σ g 26 3)), .int (iN (σ g 26 4)), .ref (ad 0 28), .ref (ad 0 29)])
  | 27 => .inl (K 1, 60, .inl (fun i => iN (σ g 27 (i : Int))))
  | 28 => .inl (K 1, 30, .inl (fun i => iN (σ g 28 (i : Int))))
  | 29 => .inl (K 6, 30, .inr (.inr (.inr (.inr (fun i => some (ad (i : Int) 30))))))
  | 30 => .inl (K 0, 3, .inl (fun i => iN (σ g 30 (i : Int))))
  | 31 => .inr (1, [.ref (ad 0 32), .int (iN (σ g 31 1)), .int (iN (σ g 31 2)), .int (iN (σ g 31 3))])
  | 32 => .inl (K 4, (σ g 33 0).toNat, .inl (fun i => iN (σ g 32 (i : Int))))
  | 40 => .inr (12, [.ref (ad 0 41), .ref (ad 0 42), .ref (ad 0 43), .ref (ad 0 44), .int (iN (σ g 40 4)), .ref (ad 0 45), .int (iN (σ g 40 6)), .int (iN (σ g 40 7)), .int (iN (σ g 40 8)), .ref (ad 0 46), .int (iN (σ g 40 10)), .int (iN (σ g 40 11)), .int (iN (σ g 40 12)), .int (iN (σ g 40 13)), .int (iN (σ g 40 14)), .int (iN (σ g 40 15)), .ref (ad 0 47), .int (iN (σ g 40 17)), .ref (ad 0 48), .int (iN (σ g 40 19)), .int (iN (σ g 40 20)), .int (iN (σ g 40 21)), .int (iN (σ g 40 22))])
  | 41 => .inl (K 0, 212, .inl (fun i => iN (σ g 41 (i : Int))))
  | 42 => .inl (K 0, 212, .inl (fun i => iN (σ g 42 (i : Int))))
  | 43 => .inl (K 0, 212, .inl (fun i => iN (σ g 43 (i : Int))))
  | 44 => .inl (K 0, 212, .inl (fun i => iN (σ g 44 (i : Int))))
  | 45 => .inl (K 0, 1696, .inl (fun i => iN (σ g 45 (i : Int))))
  | 46 => .inl (K 0, 60, .inl (fun i => iN (σ g 46 (i : Int))))
  | 47 => .inl (K 0, 160, .inl (fun i => iN (σ g 47 (i : Int))))
  | 48 => .inl (K 0, 244, .inl (fun i => iN (σ g 48 (i : Int))))
  | 50 => .inl (K 2, 1, .inr (.inl (fun i => Int64.ofInt (σ g 50 (i : Int)))))
  | 51 => .inl (K 3, 1, .inr (.inr (.inr (.inl (fun i => UInt64.ofNat (σ g 51 (i : Int)).toNat)))))
  | _ => .inr (0, [])
def Es (ad : Adr) (K : Nat → ClassId) (σ : Mem) : Dic := fun g j => if lvp g j then some (cE ad K σ g j) else none
theorem Es_at {ad : Adr} {K : Nat → ClassId} {σ : Mem} {g : Int} {j : Nat} (h : lvp g j) : Es ad K σ g j = some (cE ad K σ g j) := if_pos h
theorem Es_lv {ad : Adr} {K : Nat → ClassId} {σ : Mem} {g : Int} {j : Nat} {e : va_E} (h : Es ad K σ g j = some e) : lvp g j := by
  by_cases q : lvp g j
  · exact q
  · rw [show Es ad K σ g j = none from if_neg q] at h
    cases h
theorem cE_congr {ad : Adr} {K : Nat → ClassId} {σ τ : Mem} {g : Int} {j : Nat} (h : σ g j = τ g j) (h2 : j = 32 → σ g 33 = τ g 33) : cE ad K σ g j = cE ad K τ g j := by
  unfold cE
  split
  all_goals first | rfl | (simp only [h]; done) | (simp only [h, h2 rfl]; done)
theorem Es_set {ad : Adr} {K : Nat → ClassId} {σ : Mem} {g : Int} {j : Nat} {k v : Int} {e : va_E} (h : lvp g j) (hj : ¬ j = 33) (he : cE ad K (st3 σ g j k v) g j = e) : eset (Es ad K σ) g j e = Es ad K (st3 σ g j k v) := by
  funext g' j'
  by_cases q : g' = g ∧ j' = j
  · obtain ⟨rfl, rfl⟩ := q
    rw [eset_self, Es_at h, he]
  · rw [eset_ne q]
    unfold Es
    rw [cE_congr (σ := st3 σ g j k v) (τ := σ)]
    · funext k'
      exact if_neg fun z => q ⟨z.1, z.2.1⟩
    · intro _
      funext k'
      exact if_neg fun z => hj z.2.1.symm

theorem cs_0_4 (ad : Adr) (K : Nat → ClassId) (σ : Mem) (g v : Int) : cE ad K (st3 σ g 0 4 v) g 0 = .inr (7, ([.ref (ad g 1), .ref (ad g 6), .ref (ad g 12), .ref (ad g 18), .int (iN (σ g 0 4)), .int (iN (σ g 0 5)), .int (iN (σ g 0 6)), .int (iN (σ g 0 7)), .int (iN (σ g 0 8))]).set 4 (.int (iN v))) := by
  simp [cE, st3, List.set]
theorem cs_0_5 (ad : Adr) (K : Nat → ClassId) (σ : Mem) (g v : Int) : cE ad K (st3 σ g 0 5 v) g 0 = .inr (7, ([.ref (ad g 1), .ref (ad g 6), .ref (ad g 12), .ref (ad g 18), .int (iN (σ g 0 4)), .int (iN (σ g 0 5)), .int (iN (σ g 0 6)), .int (iN (σ g 0 7)), .int (iN (σ g 0 8))]).set 5 (.int (iN v))) := by
  simp [cE, st3, List.set]
theorem cs_0_6 (ad : Adr) (K : Nat → ClassId) (σ : Mem) (g v : Int) : cE ad K (st3 σ g 0 6 v) g 0 = .inr (7, ([.ref (ad g 1), .ref (ad g 6), .ref (ad g 12), .ref (ad g 18), .int (iN (σ g 0 4)), .int (iN (σ g 0 5)), .int (iN (σ g 0 6)), .int (iN (σ g 0 7)), .int (iN (σ g 0 8))]).set 6 (.int (iN v))) := by
  simp [cE, st3, List.set]
theorem cs_0_7 (ad : Adr) (K : Nat → ClassId) (σ : Mem) (g v : Int) : cE ad K (st3 σ g 0 7 v) g 0 = .inr (7, ([.ref (ad g 1), .ref (ad g 6), .ref (ad g 12), .ref (ad g 18), .int (iN (σ g 0 4)), .int (iN (σ g 0 5)), .int (iN (σ g 0 6)), .int (iN (σ g 0 7)), .int (iN (σ g 0 8))]).set 7 (.int (iN v))) := by
  simp [cE, st3, List.set]
theorem cs_0_8 (ad : Adr) (K : Nat → ClassId) (σ : Mem) (g v : Int) : cE ad K (st3 σ g 0 8 v) g 0 = .inr (7, ([.ref (ad g 1), .ref (ad g 6), .ref (ad g 12), .ref (ad g 18), .int (iN (σ g 0 4)), .int (iN (σ g 0 5)), .int (iN (σ g 0 6)), .int (iN (σ g 0 7)), .int (iN (σ g 0 8))]).set 8 (.int (iN v))) := by
  simp [cE, st3, List.set]
theorem cs_1_0 (ad : Adr) (K : Nat → ClassId) (σ : Mem) (g v : Int) : cE ad K (st3 σ g 1 0 v) g 1 = .inr (5, ([.int (iN (σ g 1 0)), .ref (ad g 2), .ref (ad g 3), .int (iN (σ g 1 3)), .ref (ad g 4), .ref (ad g 5)]).set 0 (.int (iN v))) := by
  simp [cE, st3, List.set]
theorem cs_1_3 (ad : Adr) (K : Nat → ClassId) (σ : Mem) (g v : Int) : cE ad K (st3 σ g 1 3 v) g 1 = .inr (5, ([.int (iN (σ g 1 0)), .ref (ad g 2), .ref (ad g 3), .int (iN (σ g 1 3)), .ref (ad g 4), .ref (ad g 5)]).set 3 (.int (iN v))) := by
  simp [cE, st3, List.set]
theorem cs_6_0 (ad : Adr) (K : Nat → ClassId) (σ : Mem) (g v : Int) : cE ad K (st3 σ g 6 0 v) g 6 = .inr (4, ([.int (iN (σ g 6 0)), .int (iN (σ g 6 1)), .ref (ad g 7), .ref (ad g 8), .ref (ad g 9), .ref (ad g 10), .ref (ad g 11)]).set 0 (.int (iN v))) := by
  simp [cE, st3, List.set]
theorem cs_6_1 (ad : Adr) (K : Nat → ClassId) (σ : Mem) (g v : Int) : cE ad K (st3 σ g 6 1 v) g 6 = .inr (4, ([.int (iN (σ g 6 0)), .int (iN (σ g 6 1)), .ref (ad g 7), .ref (ad g 8), .ref (ad g 9), .ref (ad g 10), .ref (ad g 11)]).set 1 (.int (iN v))) := by
  simp [cE, st3, List.set]
theorem cs_12_0 (ad : Adr) (K : Nat → ClassId) (σ : Mem) (g v : Int) : cE ad K (st3 σ g 12 0 v) g 12 = .inr (8, ([.int (iN (σ g 12 0)), .int (iN (σ g 12 1)), .ref (ad g 13), .ref (ad g 14), .ref (ad g 15), .ref (ad g 16), .ref (ad g 17)]).set 0 (.int (iN v))) := by
  simp [cE, st3, List.set]
theorem cs_12_1 (ad : Adr) (K : Nat → ClassId) (σ : Mem) (g v : Int) : cE ad K (st3 σ g 12 1 v) g 12 = .inr (8, ([.int (iN (σ g 12 0)), .int (iN (σ g 12 1)), .ref (ad g 13), .ref (ad g 14), .ref (ad g 15), .ref (ad g 16), .ref (ad g 17)]).set 1 (.int (iN v))) := by
  simp [cE, st3, List.set]
theorem cs_18_0 (ad : Adr) (K : Nat → ClassId) (σ : Mem) (g v : Int) : cE ad K (st3 σ g 18 0 v) g 18 = .inr (10, ([.int (iN (σ g 18 0)), .int (iN (σ g 18 1)), .ref (ad g 19), .ref (ad g 20), .ref (ad g 21), .ref (ad g 22)]).set 0 (.int (iN v))) := by
  simp [cE, st3, List.set]
theorem cs_18_1 (ad : Adr) (K : Nat → ClassId) (σ : Mem) (g v : Int) : cE ad K (st3 σ g 18 1 v) g 18 = .inr (10, ([.int (iN (σ g 18 0)), .int (iN (σ g 18 1)), .ref (ad g 19), .ref (ad g 20), .ref (ad g 21), .ref (ad g 22)]).set 1 (.int (iN v))) := by
  simp [cE, st3, List.set]
theorem cs_23_3 (ad : Adr) (K : Nat → ClassId) (σ : Mem) (g v : Int) : cE ad K (st3 σ g 23 3 v) g 23 = .inr (11, ([.ref (ad 0 0), .ref (ad 1 0), .ref (ad 2 0), .int (iN (σ g 23 3)), .ref (ad 0 24), .ref (ad 0 26), .ref (ad 0 31), .int (iN (σ g 23 7)), .int (iN (σ g 23 8)), .int (iN (σ g 23 9)), .int (iN (σ g 23 10))]).set 3 (.int (iN v))) := by
  simp [cE, st3, List.set]
theorem cs_23_7 (ad : Adr) (K : Nat → ClassId) (σ : Mem) (g v : Int) : cE ad K (st3 σ g 23 7 v) g 23 = .inr (11, ([.ref (ad 0 0), .ref (ad 1 0), .ref (ad 2 0), .int (iN (σ g 23 3)), .ref (ad 0 24), .ref (ad 0 26), .ref (ad 0 31), .int (iN (σ g 23 7)), .int (iN (σ g 23 8)), .int (iN (σ g 23 9)), .int (iN (σ g 23 10))]).set 7 (.int (iN v))) := by
  simp [cE, st3, List.set]
theorem cs_23_8 (ad : Adr) (K : Nat → ClassId) (σ : Mem) (g v : Int) : cE ad K (st3 σ g 23 8 v) g 23 = .inr (11, ([.ref (ad 0 0), .ref (ad 1 0), .ref (ad 2 0), .int (iN (σ g 23 3)), .ref (ad 0 24), .ref (ad 0 26), .ref (ad 0 31), .int (iN (σ g 23 7)), .int (iN (σ g 23 8)), .int (iN (σ g 23 9)), .int (iN (σ g 23 10))]).set 8 (.int (iN v))) := by
  simp [cE, st3, List.set]
theorem cs_23_9 (ad : Adr) (K : Nat → ClassId) (σ : Mem) (g v : Int) : cE ad K (st3 σ g 23 9 v) g 23 = .inr (11, ([.ref (ad 0 0), .ref (ad 1 0), .ref (ad 2 0), .int (iN (σ g 23 3)), .ref (ad 0 24), .ref (ad 0 26), .ref (ad 0 31), .int (iN (σ g 23 7)), .int (iN (σ g 23 8)), .int (iN (σ g 23 9)), .int (iN (σ g 23 10))]).set 9 (.int (iN v))) := by
  simp [cE, st3, List.set]
theorem cs_23_10 (ad : Adr) (K : Nat → ClassId) (σ : Mem) (g v : Int) : cE ad K (st3 σ g 23 10 v) g 23 = .inr (11, ([.ref (ad 0 0), .ref (ad 1 0), .ref (ad 2 0), .int (iN (σ g 23 3)), .ref (ad 0 24), .ref (ad 0 26), .ref (ad 0 31), .int (iN (σ g 23 7)), .int (iN (σ g 23 8)), .int (iN (σ g 23 9)), .int (iN (σ g 23 10))]).set 10 (.int (iN v))) := by
  simp [cE, st3, List.set]
theorem cs_24_0 (ad : Adr) (K : Nat → ClassId) (σ : Mem) (g v : Int) : cE ad K (st3 σ g 24 0 v) g 24 = .inr (6, ([.int (iN (σ g 24 0)), .int (iN (σ g 24 1)), .ref (ad 0 25)]).set 0 (.int (iN v))) := by
  simp [cE, st3, List.set]
theorem cs_24_1 (ad : Adr) (K : Nat → ClassId) (σ : Mem) (g v : Int) : cE ad K (st3 σ g 24 1 v) g 24 = .inr (6, ([.int (iN (σ g 24 0)), .int (iN (σ g 24 1)), .ref (ad 0 25)]).set 1 (.int (iN v))) := by
  simp [cE, st3, List.set]
theorem cs_26_1 (ad : Adr) (K : Nat → ClassId) (σ : Mem) (g v : Int) : cE ad K (st3 σ g 26 1 v) g 26 = .inr (9, ([.ref (ad 0 27), .int (iN (σ g 26 1)), .int (iN (σ g 26 2)), .int (iN (σ g 26 3)), .int (iN (σ g 26 4)), .ref (ad 0 28), .ref (ad 0 29)]).set 1 (.int (iN v))) := by
  simp [cE, st3, List.set]
theorem cs_26_2 (ad : Adr) (K : Nat → ClassId) (σ : Mem) (g v : Int) : cE ad K (st3 σ g 26 2 v) g 26 = .inr (9, ([.ref (ad 0 27), .int (iN (σ g 26 1)), .int (iN (σ g 26 2)), .int (iN (σ g 26 3)), .int (iN (σ g 26 4)), .ref (ad 0 28), .ref (ad 0 29)]).set 2 (.int (iN v))) := by
  simp [cE, st3, List.set]
theorem cs_26_3 (ad : Adr) (K : Nat → ClassId) (σ : Mem) (g v : Int) : cE ad K (st3 σ g 26 3 v) g 26 = .inr (9, ([.ref (ad 0 27), .int (iN (σ g 26 1)), .int (iN (σ g 26 2)), .int (iN (σ g 26 3)), .int (iN (σ g 26 4)), .ref (ad 0 28), .ref (ad 0 29)]).set 3 (.int (iN v))) := by
  simp [cE, st3, List.set]
theorem cs_26_4 (ad : Adr) (K : Nat → ClassId) (σ : Mem) (g v : Int) : cE ad K (st3 σ g 26 4 v) g 26 = .inr (9, ([.ref (ad 0 27), .int (iN (σ g 26 1)), .int (iN (σ g 26 2)), .int (iN (σ g 26 3)), .int (iN (σ g 26 4)), .ref (ad 0 28), .ref (ad 0 29)]).set 4 (.int (iN v))) := by
  simp [cE, st3, List.set]
theorem cs_31_1 (ad : Adr) (K : Nat → ClassId) (σ : Mem) (g v : Int) : cE ad K (st3 σ g 31 1 v) g 31 = .inr (1, ([.ref (ad 0 32), .int (iN (σ g 31 1)), .int (iN (σ g 31 2)), .int (iN (σ g 31 3))]).set 1 (.int (iN v))) := by
  simp [cE, st3, List.set]
theorem cs_31_2 (ad : Adr) (K : Nat → ClassId) (σ : Mem) (g v : Int) : cE ad K (st3 σ g 31 2 v) g 31 = .inr (1, ([.ref (ad 0 32), .int (iN (σ g 31 1)), .int (iN (σ g 31 2)), .int (iN (σ g 31 3))]).set 2 (.int (iN v))) := by
  simp [cE, st3, List.set]
theorem cs_31_3 (ad : Adr) (K : Nat → ClassId) (σ : Mem) (g v : Int) : cE ad K (st3 σ g 31 3 v) g 31 = .inr (1, ([.ref (ad 0 32), .int (iN (σ g 31 1)), .int (iN (σ g 31 2)), .int (iN (σ g 31 3))]).set 3 (.int (iN v))) := by
  simp [cE, st3, List.set]
theorem cs_40_4 (ad : Adr) (K : Nat → ClassId) (σ : Mem) (g v : Int) : cE ad K (st3 σ g 40 4 v) g 40 = .inr (12, ([.ref (ad 0 41), .ref (ad 0 42), .ref (ad 0 43), .ref (ad 0 44), .int (iN (σ g 40 4)), .ref (ad 0 45), .int (iN (σ g 40 6)), .int (iN (σ g 40 7)), .int (iN (σ g 40 8)), .ref (ad 0 46), .int (iN (σ g 40 10)), .int (iN (σ g 40 11)), .int (iN (σ g 40 12)), .int (iN (σ g 40 13)), .int (iN (σ g 40 14)), .int (iN (σ g 40 15)), .ref (ad 0 47), .int (iN (σ g 40 17)), .ref (ad 0 48), .int (iN (σ g 40 19)), .int (iN (σ g 40 20)), .int (iN (σ g 40 21)), .int (iN (σ g 40 22))]).set 4 (.int (iN v))) := by
  simp [cE, st3, List.set]
theorem cs_40_6 (ad : Adr) (K : Nat → ClassId) (σ : Mem) (g v : Int) : cE ad K (st3 σ g 40 6 v) g 40 = .inr (12, ([.ref (ad 0 41), .ref (ad 0 42), .ref (ad 0 43), .ref (ad 0 44), .int (iN (σ g 40 4)), .ref (ad 0 45), .int (iN (σ g 40 6)), .int (iN (σ g 40 7)), .int (iN (σ g 40 8)), .ref (ad 0 46), .int (iN (σ g 40 10)), .int (iN (σ g 40 11)), .int (iN (σ g 40 12)), .int (iN (σ g 40 13)), .int (iN (σ g 40 14)), .int (iN (σ g 40 15)), .ref (ad 0 47), .int (iN (σ g 40 17)), .ref (ad 0 48), .int (iN (σ g 40 19)), .int (iN (σ g 40 20)), .int (iN (σ g 40 21)), .int (iN (σ g 40 22))]).set 6 (.int (iN v))) := by
  simp [cE, st3, List.set]
theorem cs_40_7 (ad : Adr) (K : Nat → ClassId) (σ : Mem) (g v : Int) : cE ad K (st3 σ g 40 7 v) g 40 = .inr (12, ([.ref (ad 0 41), .ref (ad 0 42), .ref (ad 0 43), .ref (ad 0 44), .int (iN (σ g 40 4)), .ref (ad 0 45), .int (iN (σ g 40 6)), .int (iN (σ g 40 7)), .int (iN (σ g 40 8)), .ref (ad 0 46), .int (iN (σ g 40 10)), .int (iN (σ g 40 11)), .int (iN (σ g 40 12)), .int (iN (σ g 40 13)), .int (iN (σ g 40 14)), .int (iN (σ g 40 15)), .ref (ad 0 47), .int (iN (σ g 40 17)), .ref (ad 0 48), .int (iN (σ g 40 19)), .int (iN (σ g 40 20)), .int (iN (σ g 40 21)), .int (iN (σ g 40 22))]).set 7 (.int (iN v))) := by
  simp [cE, st3, List.set]
theorem cs_40_8 (ad : Adr) (K : Nat → ClassId) (σ : Mem) (g v : Int) : cE ad K (st3 σ g 40 8 v) g 40 = .inr (12, ([.ref (ad 0 41), .ref (ad 0 42), .ref (ad 0 43), .ref (ad 0 44), .int (iN (σ g 40 4)), .ref (ad 0 45), .int (iN (σ g 40 6)), .int (iN (σ g 40 7)), .int (iN (σ g 40 8)), .ref (ad 0 46), .int (iN (σ g 40 10)), .int (iN (σ g 40 11)), .int (iN (σ g 40 12)), .int (iN (σ g 40 13)), .int (iN (σ g 40 14)), .int (iN (σ g 40 15)), .ref (ad 0 47), .int (iN (σ g 40 17)), .ref (ad 0 48), .int (iN (σ g 40 19)), .int (iN (σ g 40 20)), .int (iN (σ g 40 21)), .int (iN (σ g 40 22))]).set 8 (.int (iN v))) := by
  simp [cE, st3, List.set]
theorem cs_40_10 (ad : Adr) (K : Nat → ClassId) (σ : Mem) (g v : Int) : cE ad K (st3 σ g 40 10 v) g 40 = .inr (12, ([.ref (ad 0 41), .ref (ad 0 42), .ref (ad 0 43), .ref (ad 0 44), .int (iN (σ g 40 4)), .ref (ad 0 45), .int (iN (σ g 40 6)), .int (iN (σ g 40 7)), .int (iN (σ g 40 8)), .ref (ad 0 46), .int (iN (σ g 40 10)), .int (iN (σ g 40 11)), .int (iN (σ g 40 12)), .int (iN (σ g 40 13)), .int (iN (σ g 40 14)), .int (iN (σ g 40 15)), .ref (ad 0 47), .int (iN (σ g 40 17)), .ref (ad 0 48), .int (iN (σ g 40 19)), .int (iN (σ g 40 20)), .int (iN (σ g 40 21)), .int (iN (σ g 40 22))]).set 10 (.int (iN v))) := by
  simp [cE, st3, List.set]
theorem cs_40_11 (ad : Adr) (K : Nat → ClassId) (σ : Mem) (g v : Int) : cE ad K (st3 σ g 40 11 v) g 40 = .inr (12, ([.ref (ad 0 41), .ref (ad 0 42), .ref (ad 0 43), .ref (ad 0 44), .int (iN (σ g 40 4)), .ref (ad 0 45), .int (iN (σ g 40 6)), .int (iN (σ g 40 7)), .int (iN (σ g 40 8)), .ref (ad 0 46), .int (iN (σ g 40 10)), .int (iN (σ g 40 11)), .int (iN (σ g 40 12)), .int (iN (σ g 40 13)), .int (iN (σ g 40 14)), .int (iN (σ g 40 15)), .ref (ad 0 47), .int (iN (σ g 40 17)), .ref (ad 0 48), .int (iN (σ g 40 19)), .int (iN (σ g 40 20)), .int (iN (σ g 40 21)), .int (iN (σ g 40 22))]).set 11 (.int (iN v))) := by
  simp [cE, st3, List.set]
theorem cs_40_12 (ad : Adr) (K : Nat → ClassId) (σ : Mem) (g v : Int) : cE ad K (st3 σ g 40 12 v) g 40 = .inr (12, ([.ref (ad 0 41), .ref (ad 0 42), .ref (ad 0 43), .ref (ad 0 44), .int (iN (σ g 40 4)), .ref (ad 0 45), .int (iN (σ g 40 6)), .int (iN (σ g 40 7)), .int (iN (σ g 40 8)), .ref (ad 0 46), .int (iN (σ g 40 10)), .int (iN (σ g 40 11)), .int (iN (σ g 40 12)), .int (iN (σ g 40 13)), .int (iN (σ g 40 14)), .int (iN (σ g 40 15)), .ref (ad 0 47), .int (iN (σ g 40 17)), .ref (ad 0 48), .int (iN (σ g 40 19)), .int (iN (σ g 40 20)), .int (iN (σ g 40 21)), .int (iN (σ g 40 22))]).set 12 (.int (iN v))) := by
  simp [cE, st3, List.set]
theorem cs_40_13 (ad : Adr) (K : Nat → ClassId) (σ : Mem) (g v : Int) : cE ad K (st3 σ g 40 13 v) g 40 = .inr (12, ([.ref (ad 0 41), .ref (ad 0 42), .ref (ad 0 43), .ref (ad 0 44), .int (iN (σ g 40 4)), .ref (ad 0 45), .int (iN (σ g 40 6)), .int (iN (σ g 40 7)), .int (iN (σ g 40 8)), .ref (ad 0 46), .int (iN (σ g 40 10)), .int (iN (σ g 40 11)), .int (iN (σ g 40 12)), .int (iN (σ g 40 13)), .int (iN (σ g 40 14)), .int (iN (σ g 40 15)), .ref (ad 0 47), .int (iN (σ g 40 17)), .ref (ad 0 48), .int (iN (σ g 40 19)), .int (iN (σ g 40 20)), .int (iN (σ g 40 21)), .int (iN (σ g 40 22))]).set 13 (.int (iN v))) := by
  simp [cE, st3, List.set]
theorem cs_40_14 (ad : Adr) (K : Nat → ClassId) (σ : Mem) (g v : Int) : cE ad K (st3 σ g 40 14 v) g 40 = .inr (12, ([.ref (ad 0 41), .ref (ad 0 42), .ref (ad 0 43), .ref (ad 0 44), .int (iN (σ g 40 4)), .ref (ad 0 45), .int (iN (σ g 40 6)), .int (iN (σ g 40 7)), .int (iN (σ g 40 8)), .ref (ad 0 46), .int (iN (σ g 40 10)), .int (iN (σ g 40 11)), .int (iN (σ g 40 12)), .int (iN (σ g 40 13)), .int (iN (σ g 40 14)), .int (iN (σ g 40 15)), .ref (ad 0 47), .int (iN (σ g 40 17)), .ref (ad 0 48), .int (iN (σ g 40 19)), .int (iN (σ g 40 20)), .int (iN (σ g 40 21)), .int (iN (σ g 40 22))]).set 14 (.int (iN v))) := by
  simp [cE, st3, List.set]
theorem cs_40_15 (ad : Adr) (K : Nat → ClassId) (σ : Mem) (g v : Int) : cE ad K (st3 σ g 40 15 v) g 40 = .inr (12, ([.ref (ad 0 41), .ref (ad 0 42), .ref (ad 0 43), .ref (ad 0 44), .int (iN (σ g 40 4)), .ref (ad 0 45), .int (iN (σ g 40 6)), .int (iN (σ g 40 7)), .int (iN (σ g 40 8)), .ref (ad 0 46), .int (iN (σ g 40 10)), .int (iN (σ g 40 11)), .int (iN (σ g 40 12)), .int (iN (σ g 40 13)), .int (iN (σ g 40 14)), .int (iN (σ g 40 15)), .ref (ad 0 47), .int (iN (σ g 40 17)), .ref (ad 0 48), .int (iN (σ g 40 19)), .int (iN (σ g 40 20)), .int (iN (σ g 40 21)), .int (iN (σ g 40 22))]).set 15 (.int (iN v))) := by
  simp [cE, st3, List.set]
theorem cs_40_17 (ad : Adr) (K : Nat → ClassId) (σ : Mem) (g v : Int) : cE ad K (st3 σ g 40 17 v) g 40 = .inr (12, ([.ref (ad 0 41), .ref (ad 0 42), .ref (ad 0 43), .ref (ad 0 44), .int (iN (σ g 40 4)), .ref (ad 0 45), .int (iN (σ g 40 6)), .int (iN (σ g 40 7)), .int (iN (σ g 40 8)), .ref (ad 0 46), .int (iN (σ g 40 10)), .int (iN (σ g 40 11)), .int (iN (σ g 40 12)), .int (iN (σ g 40 13)), .int (iN (σ g 40 14)), .int (iN (σ g 40 15)), .ref (ad 0 47), .int (iN (σ g 40 17)), .ref (ad 0 48), .int (iN (σ g 40 19)), .int (iN (σ g 40 20)), .int (iN (σ g 40 21)), .int (iN (σ g 40 22))]).set 17 (.int (iN v))) := by
  simp [cE, st3, List.set]
theorem cs_40_19 (ad : Adr) (K : Nat → ClassId) (σ : Mem) (g v : Int) : cE ad K (st3 σ g 40 19 v) g 40 = .inr (12, ([.ref (ad 0 41), .ref (ad 0 42), .ref (ad 0 43), .ref (ad 0 44), .int (iN (σ g 40 4)), .ref (ad 0 45), .int (iN (σ g 40 6)), .int (iN (σ g 40 7)), .int (iN (σ g 40 8)), .ref (ad 0 46), .int (iN (σ g 40 10)), .int (iN (σ g 40 11)), .int (iN (σ g 40 12)), .int (iN (σ g 40 13)), .int (iN (σ g 40 14)), .int (iN (σ g 40 15)), .ref (ad 0 47), .int (iN (σ g 40 17)), .ref (ad 0 48), .int (iN (σ g 40 19)), .int (iN (σ g 40 20)), .int (iN (σ g 40 21)), .int (iN (σ g 40 22))]).set 19 (.int (iN v))) := by
  simp [cE, st3, List.set]
theorem cs_40_20 (ad : Adr) (K : Nat → ClassId) (σ : Mem) (g v : Int) : cE ad K (st3 σ g 40 20 v) g 40 = .inr (12, ([.ref (ad 0 41), .ref (ad 0 42), .ref (ad 0 43), .ref (ad 0 44), .int (iN (σ g 40 4)), .ref (ad 0 45), .int (iN (σ g 40 6)), .int (iN (σ g 40 7)), .int (iN (σ g 40 8)), .ref (ad 0 46), .int (iN (σ g 40 10)), .int (iN (σ g 40 11)), .int (iN (σ g 40 12)), .int (iN (σ g 40 13)), .int (iN (σ g 40 14)), .int (iN (σ g 40 15)), .ref (ad 0 47), .int (iN (σ g 40 17)), .ref (ad 0 48), .int (iN (σ g 40 19)), .int (iN (σ g 40 20)), .int (iN (σ g 40 21)), .int (iN (σ g 40 22))]).set 20 (.int (iN v))) := by
  simp [cE, st3, List.set]
theorem cs_40_21 (ad : Adr) (K : Nat → ClassId) (σ : Mem) (g v : Int) : cE ad K (st3 σ g 40 21 v) g 40 = .inr (12, ([.ref (ad 0 41), .ref (ad 0 42), .ref (ad 0 43), .ref (ad 0 44), .int (iN (σ g 40 4)), .ref (ad 0 45), .int (iN (σ g 40 6)), .int (iN (σ g 40 7)), .int (iN (σ g 40 8)), .ref (ad 0 46), .int (iN (σ g 40 10)), .int (iN (σ g 40 11)), .int (iN (σ g 40 12)), .int (iN (σ g 40 13)), .int (iN (σ g 40 14)), .int (iN (σ g 40 15)), .ref (ad 0 47), .int (iN (σ g 40 17)), .ref (ad 0 48), .int (iN (σ g 40 19)), .int (iN (σ g 40 20)), .int (iN (σ g 40 21)), .int (iN (σ g 40 22))]).set 21 (.int (iN v))) := by
  simp [cE, st3, List.set]
theorem cs_40_22 (ad : Adr) (K : Nat → ClassId) (σ : Mem) (g v : Int) : cE ad K (st3 σ g 40 22 v) g 40 = .inr (12, ([.ref (ad 0 41), .ref (ad 0 42), .ref (ad 0 43), .ref (ad 0 44), .int (iN (σ g 40 4)), .ref (ad 0 45), .int (iN (σ g 40 6)), .int (iN (σ g 40 7)), .int (iN (σ g 40 8)), .ref (ad 0 46), .int (iN (σ g 40 10)), .int (iN (σ g 40 11)), .int (iN (σ g 40 12)), .int (iN (σ g 40 13)), .int (iN (σ g 40 14)), .int (iN (σ g 40 15)), .ref (ad 0 47), .int (iN (σ g 40 17)), .ref (ad 0 48), .int (iN (σ g 40 19)), .int (iN (σ g 40 20)), .int (iN (σ g 40 21)), .int (iN (σ g 40 22))]).set 22 (.int (iN v))) := by
  simp [cE, st3, List.set]
theorem up_st3 {σ : Mem} {g : Int} {j : Nat} {i v : Int} (h0 : 0 ≤ i) : (fun q : Nat => iN (st3 σ g j i v g j (q : Int))) = upd (fun q : Nat => iN (σ g j (q : Int))) i.toNat (iN v) := by
  funext q
  unfold upd
  by_cases h : q = i.toNat
  · rw [if_pos h, show ((q : Nat) : Int) = i by omega, st3_self]
  · rw [if_neg h, st3_k (by omega)]
