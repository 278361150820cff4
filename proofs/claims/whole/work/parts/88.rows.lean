/-! constructors: rows of rows, equal cells -/
theorem arrV_ext {c : ClassId} {n : Nat} {f g : Nat → Value} (h : ∀ j : Nat, j < n → f j = g j) : arrV c n f = arrV c n g := by
  unfold arrV
  congr 1
  congr 1
  funext j
  exact h j.1 j.2
def P29 (g : Int) (j : Nat) : Prop := (g = 0 ∧ j = 29) ∨ (0 ≤ g ∧ g < 30 ∧ j = 30)
theorem cE_mk {ad ad' : Adr} {K : Nat → ClassId} {σ : Mem} {g : Int} {j : Nat} (hj : j ≤ 22) (h : ∀ j' : Nat, j' ≤ 22 → ad' g j' = ad g j') : cE ad' K σ g j = cE ad K σ g j := by
  by_cases e : j = 0
  · subst e
    simp only [cE, h 1 (by decide), h 6 (by decide), h 12 (by decide), h 18 (by decide)]
  · exact cE_ad ⟨by omega, hj⟩ (fun _ x _ _ => h x (by omega)) (fun _ x _ _ => h x (by omega)) (fun _ x _ _ => h x (by omega)) (fun _ x _ _ => h x (by omega))
section VM3
variable {X : Cx} {own : String} {cc : ByteArray} {nL : Nat} {rm : Room} {ad : Adr} {E : Dic} {pc : Nat} {ls : Ls} {st : List Value} {cs ss : Nat}
theorem V_cell {g : Int} {j : Nat} {c : ClassId} {x x' : vp_A} (hE : E g j = some (.inl (c, x))) (h : vp_cell c x = vp_cell c x') (kk : V X ad (eset E g j (.inl (c, x'))) pc ls st cs ss) : V X ad E pc ls st cs ss := by
  obtain ⟨p, l, e, R, s, m, args, below, meth, cd, Q, D, K, ad0, E0⟩ := X
  intro H locs la hR hI hN hS hl
  refine kk H locs la ?_ (hI.set hE) (hN.set hE) hS hl
  intro g' j' e' he
  by_cases q : g' = g ∧ j' = j
  · obtain ⟨rfl, rfl⟩ := q
    rw [eset_self] at he
    cases he
    have z := hR g' j' _ hE
    show H[_]? = some (vp_cell c x')
    rw [← h]
    exact z
  · rw [eset_ne q] at he
    exact hR g' j' e' he
theorem V_multi (hf : Cf X own cc nL rm) {index : Nat} (hcl : Cond.classLink own index "[[I" ∈ lw_good) (hE : ∀ (g : Int) (j : Nat), P29 g j → E g j = none) (hrm : cs + 31 ≤ rm.cells ∧ ss + 120 ≤ rm.slots) (hdg : decode cc pc = .ok (.multianewarray index 2, 4))
    (kk : ∀ (ad' : Adr) (E' : Dic), (∀ (g : Int) (j : Nat), ¬ P29 g j → ad' g j = ad g j ∧ E' g j = E g j) → E' 0 29 = some (.inl (xK X 6, 30, .inr (.inr (.inr (.inr (fun i : Nat => some (ad' (i : Int) 30))))))) → (∀ i : Int, 0 ≤ i → i < 30 → E' i 30 = some (.inl (xK X 0, 3, .inl (fun _ => iN 0)))) → V X ad' E' (pc + 4) ls (.ref (ad' 0 29) :: st) (cs + 31) (ss + 120)) : V X ad E pc ls (.int (iN 3) :: .int (iN 30) :: st) cs ss := by
  obtain ⟨p, l, e, R, s, m, args, below, meth, c, Q, D, K, ad0, E0⟩ := X
  obtain ⟨hx, hb, hml, hown, hts, hK, hl0, hlk, hR0, hEv⟩ := hf
  subst hR0
  intro H locs la hR hI hN hS hl
  obtain ⟨kA, hkA, hA⟩ := hEv.2.2.2.2.2.2.2.2.2.2.2.2.2
  have hfA : s.vm.findClass "[[I" = some (K 6) := by
    have h := (hK.2 6 _ rfl).2
    have e1 : "[" ++ (FieldType.array .int).toString = "[[I" := by decide +kernel
    have h2 : s.vm.findClass ("[" ++ (FieldType.array .int).toString) = some (K 6) := h
    rw [e1] at h2
    exact h2
  obtain ⟨-, kI, hkI, c0, hI0⟩ := (hK.2 0 _ rfl).1 0 (fun _ => .null)
  have e3 : iN 3 = 3 := by decide +kernel
  have e30 : iN 30 = 30 := by decide +kernel
  rw [e3, e30]
  refine W_multi hx hb hown (hts _ hcl) hfA hkA hA hkI hI0 hrm.1 hrm.2 hdg (fun H1 L hL hz h29 hold h30 => ?_)
  have z0 := kk (fun g j => if g = 0 ∧ j = 29 then H.size else if 0 ≤ g ∧ g < 30 ∧ j = 30 then H.size + 1 + g.toNat else ad g j)
    (fun g j => if g = 0 ∧ j = 29 then some (.inl (K 6, 30, .inr (.inr (.inr (.inr (fun i : Nat => some (if (i : Int) = 0 ∧ 30 = 29 then H.size else if 0 ≤ (i : Int) ∧ (i : Int) < 30 ∧ 30 = 30 then H.size + 1 + (i : Int).toNat else ad (i : Int) 30))))))) else if 0 ≤ g ∧ g < 30 ∧ j = 30 then some (.inl (K 0, 3, .inl (fun _ => iN 0))) else E g j)
    (fun g j q => ⟨by rw [if_neg (fun z => q (Or.inl z)), if_neg (fun z => q (Or.inr z))], by rw [if_neg (fun z => q (Or.inl z)), if_neg (fun z => q (Or.inr z))]⟩) (if_pos ⟨rfl, rfl⟩) (fun i i0 i1 => by rw [if_neg (fun z => absurd z.2 (by decide)), if_pos ⟨i0, i1, rfl⟩]; rfl)
  have ea : (if (0 : Int) = 0 ∧ (29 : Nat) = 29 then H.size else if 0 ≤ (0 : Int) ∧ (0 : Int) < 30 ∧ (29 : Nat) = 30 then H.size + 1 + Int.toNat 0 else ad 0 29) = H.size := if_pos ⟨rfl, rfl⟩
  rw [ea] at z0
  refine z0 H1 (locs ++ L) la ?_ ?_ ?_ ⟨Nat.le_trans hS.1 (by omega), fun x h1 h2 => (hold x (Nat.lt_of_lt_of_le h1 hS.1)).trans (hS.2.1 x h1 h2), fun q hq => ?_⟩ hl
  · intro g j e' he
    dsimp only at he ⊢
    by_cases q1 : g = 0 ∧ j = 29
    · rw [if_pos q1] at he
      cases he
      rw [if_pos q1]
      show H1[H.size]? = some (vp_cell (K 6) _)
      rw [h29, vp_cell_q]
      congr 1
    · rw [if_neg q1] at he
      by_cases q2 : 0 ≤ g ∧ g < 30 ∧ j = 30
      · rw [if_pos q2] at he
        cases he
        rw [if_neg q1, if_pos q2]
        show H1[H.size + 1 + g.toNat]? = some (vp_cell (K 0) _)
        rw [h30 g.toNat (by omega), vp_cell_i, iN_0]
        rfl
      · rw [if_neg q2] at he
        rw [if_neg q1, if_neg q2]
        exact (hR g j e' he).kept (hold _ (hR g j e' he).lt)
  · intro g1 j1 g2 j2 e1 e2 h1 h2 z
    dsimp only at h1 h2 z
    by_cases a1 : g1 = 0 ∧ j1 = 29
    · rw [if_pos a1] at z
      by_cases a2 : g2 = 0 ∧ j2 = 29
      · exact ⟨a1.1.trans a2.1.symm, a1.2.trans a2.2.symm⟩
      · rw [if_neg a2] at z h2
        by_cases b2 : 0 ≤ g2 ∧ g2 < 30 ∧ j2 = 30
        · rw [if_pos b2] at z
          omega
        · rw [if_neg b2] at z h2
          have := (hR g2 j2 e2 h2).lt
          omega
    · rw [if_neg a1] at z h1
      by_cases b1 : 0 ≤ g1 ∧ g1 < 30 ∧ j1 = 30
      · rw [if_pos b1] at z
        by_cases a2 : g2 = 0 ∧ j2 = 29
        · rw [if_pos a2] at z
          omega
        · rw [if_neg a2] at z h2
          by_cases b2 : 0 ≤ g2 ∧ g2 < 30 ∧ j2 = 30
          · rw [if_pos b2] at z
            exact ⟨by omega, b1.2.2.trans b2.2.2.symm⟩
          · rw [if_neg b2] at z h2
            have := (hR g2 j2 e2 h2).lt
            omega
      · rw [if_neg b1] at z h1
        have l1 := (hR g1 j1 e1 h1).lt
        by_cases a2 : g2 = 0 ∧ j2 = 29
        · rw [if_pos a2] at z
          omega
        · rw [if_neg a2] at z h2
          by_cases b2 : 0 ≤ g2 ∧ g2 < 30 ∧ j2 = 30
          · rw [if_pos b2] at z
            omega
          · rw [if_neg b2] at z h2
            exact hI _ _ _ _ _ _ h1 h2 z
  · intro g j e' he
    dsimp only at he ⊢
    have hs1 : s.heap.size ≤ H.size := hS.1
    by_cases q1 : g = 0 ∧ j = 29
    · rw [if_pos q1]
      exact Or.inr hs1
    · rw [if_neg q1] at he ⊢
      by_cases q2 : 0 ≤ g ∧ g < 30 ∧ j = 30
      · rw [if_pos q2]
        exact Or.inr (by omega)
      · rw [if_neg q2] at he ⊢
        exact hN g j e' he
  · rcases List.mem_append.mp hq with z | z
    · exact hS.2.2 q z
    · rw [hL q z]
      exact Or.inr hS.1
end VM3
