/-! bags: two rows of numbered things hold the same things -/
abbrev Row : Type := Int × Int × Int × Int × Int
theorem sumI_nn {f : Int → Int} {n : Int} (h : n ≤ 0) : sumI f n = 0 := by
  unfold sumI
  rw [show n.toNat = 0 by omega]
  rfl
theorem sumI_p (f : Int → Int) {n : Int} (h : 0 < n) : sumI f n = sumI f (n - 1) + f (n - 1) := by
  have := sumI_s f (n := n - 1) (by omega)
  rw [show n - 1 + 1 = n by omega] at this
  exact this
theorem int_up {P : Int → Prop} (a : Int) (h0 : P a) (hs : ∀ k : Int, a ≤ k → P k → P (k + 1)) : ∀ n : Int, a ≤ n → P n := by
  have key : ∀ m : Nat, P (a + m) := by
    intro m
    induction m with
    | zero => simpa using h0
    | succ m ih =>
      have := hs (a + m) (by omega) ih
      rw [show a + (m : Int) + 1 = a + ((m + 1 : Nat) : Int) by omega] at this
      exact this
  intro n hn
  have := key (n - a).toNat
  rw [show a + ((n - a).toNat : Int) = n by omega] at this
  exact this
/-- a sum with one more put in at r -/
theorem sumI_ins {g g' : Int → Int} {n r v : Int} (h0 : 0 ≤ r) (h1 : r ≤ n) (hl : ∀ k : Int, 0 ≤ k → k < r → g' k = g k) (hr : g' r = v) (hu : ∀ k : Int, r < k → k ≤ n → g' k = g (k - 1)) : sumI g' (n + 1) = sumI g n + v := by
  have key : ∀ m : Int, r ≤ m → (m ≤ n → sumI g' (m + 1) = sumI g m + v) := by
    refine int_up r ?_ ?_
    · intro _
      rw [sumI_s _ h0, hr, sumI_congr hl]
    · intro k hk ih hkn
      rw [sumI_s _ (by omega), ih (by omega), sumI_s g (by omega : 0 ≤ k), hu (k + 1) (by omega) hkn, show k + 1 - 1 = k by omega]
      omega
  exact key n h1 (Int.le_refl n)
theorem sumI_rem {g g' : Int → Int} {n r : Int} (h0 : 0 ≤ r) (h1 : r < n) (hl : ∀ k : Int, 0 ≤ k → k < r → g' k = g k) (hu : ∀ k : Int, r ≤ k → k < n - 1 → g' k = g (k + 1)) : sumI g n = sumI g' (n - 1) + g r := by
  have := sumI_ins (g := g') (g' := g) (n := n - 1) (r := r) (v := g r) h0 (by omega) (fun k a b => (hl k a b).symm) rfl (fun k a b => by rw [hu (k - 1) (by omega) (by omega), show k - 1 + 1 = k by omega])
  rw [show n - 1 + 1 = n by omega] at this
  exact this
theorem sumI_ge0 {f : Int → Int} (h : ∀ k : Int, 0 ≤ f k) : ∀ n : Int, 0 ≤ sumI f n := by
  intro n
  by_cases hn : n ≤ 0
  · rw [sumI_nn hn]
    exact Int.le_refl 0
  · refine int_up (P := fun n => 0 ≤ sumI f n) 0 (by rw [sumI_0]; exact Int.le_refl 0) ?_ n (by omega)
    intro k hk ih
    rw [sumI_s _ hk]
    have := h k
    omega
theorem sumI_ge {f : Int → Int} (h : ∀ k : Int, 0 ≤ f k) {n k : Int} (h0 : 0 ≤ k) (h1 : k < n) : f k ≤ sumI f n := by
  refine int_up (P := fun n => f k ≤ sumI f n) (k + 1) ?_ ?_ n (by omega)
  · rw [sumI_s _ h0]
    have := sumI_ge0 h k
    omega
  · intro m hm ih
    rw [sumI_s _ (by omega)]
    have := h m
    omega
theorem sumI_ge0r {f : Int → Int} {n : Int} (h : ∀ k : Int, 0 ≤ k → k < n → 0 ≤ f k) : 0 ≤ sumI f n := by
  have e : sumI f n = sumI (fun k => if 0 ≤ k ∧ k < n then f k else 0) n := sumI_congr fun k a b => by rw [if_pos ⟨a, b⟩]
  rw [e]
  refine sumI_ge0 (fun k => ?_) n
  split
  · rename_i q
    exact h k q.1 q.2
  · exact Int.le_refl 0
theorem sumI_ger {f : Int → Int} {n k : Int} (h : ∀ k : Int, 0 ≤ k → k < n → 0 ≤ f k) (h0 : 0 ≤ k) (h1 : k < n) : f k ≤ sumI f n := by
  have e : sumI f n = sumI (fun k => if 0 ≤ k ∧ k < n then f k else 0) n := sumI_congr fun k a b => by rw [if_pos ⟨a, b⟩]
  have := sumI_ge (f := fun k => if 0 ≤ k ∧ k < n then f k else 0) (fun k => by
    show 0 ≤ if 0 ≤ k ∧ k < n then f k else 0
    split
    · rename_i q
      exact h k q.1 q.2
    · exact Int.le_refl 0) h0 h1
  rw [if_pos ⟨h0, h1⟩] at this
  omega
theorem sumI_ex {f : Int → Int} {n : Int} (h : sumI f n ≠ 0) : ∃ k : Int, 0 ≤ k ∧ k < n ∧ f k ≠ 0 := by
  apply Classical.byContradiction
  intro hc
  apply h
  have e : sumI f n = sumI (fun _ => 0) n := sumI_congr fun k a b => by
    apply Classical.byContradiction
    intro q
    exact hc ⟨k, a, b, q⟩
  rw [e]
  by_cases hn : n ≤ 0
  · exact sumI_nn hn
  · exact int_up (P := fun n => sumI (fun _ => 0) n = 0) 0 (sumI_0 _) (fun k hk ih => by rw [sumI_s _ hk, ih]; rfl) n (by omega)
theorem sumI_add {f g h : Int → Int} {n : Int} (e : ∀ k : Int, 0 ≤ k → k < n → f k = g k + h k) : sumI f n = sumI g n + sumI h n := by
  by_cases hn : n ≤ 0
  · rw [sumI_nn hn, sumI_nn hn, sumI_nn hn]
    rfl
  · have key : ∀ m : Int, 0 ≤ m → (m ≤ n → sumI f m = sumI g m + sumI h m) := by
      refine int_up 0 (fun _ => by rw [sumI_0, sumI_0, sumI_0]; rfl) ?_
      intro k hk ih hkn
      rw [sumI_s _ hk, sumI_s _ hk, sumI_s _ hk, ih (by omega), e k hk (by omega)]
      omega
    exact key n (by omega) (Int.le_refl n)
/-- a sum of which one place changed -/
theorem sumI_one {f g : Int → Int} {n i d : Int} (h0 : 0 ≤ i) (h1 : i < n) (he : ∀ k : Int, 0 ≤ k → k < n → k ≠ i → f k = g k) (hi : f i = g i + d) : sumI f n = sumI g n + d := by
  have key : ∀ m : Int, i + 1 ≤ m → (m ≤ n → sumI f m = sumI g m + d) := by
    refine int_up (i + 1) ?_ ?_
    · intro _
      rw [sumI_s _ h0, sumI_s _ h0, hi, sumI_congr (f := f) (g := g) (fun k a b => he k a (by omega) (by omega))]
      omega
    · intro k hk ih hkn
      rw [sumI_s _ (by omega), sumI_s _ (by omega), ih (by omega), he k (by omega) (by omega) (by omega)]
      omega
  exact key n (by omega) (Int.le_refl n)
/-- the same bag -/
def Bag (f h : Int → Row) (n : Int) : Prop := ∀ φ : Row → Int, sumI (fun k => φ (f k)) n = sumI (fun k => φ (h k)) n
theorem Bag.symm {f h : Int → Row} {n : Int} (b : Bag f h n) : Bag h f n := fun φ => (b φ).symm
theorem bag_rfl {f : Int → Row} {n : Int} : Bag f f n := fun _ => Eq.refl _
theorem Bag.mem {f h : Int → Row} {n k : Int} (b : Bag f h n) (h0 : 0 ≤ k) (h1 : k < n) : ∃ j : Int, 0 ≤ j ∧ j < n ∧ h j = f k := by
  have e := b (fun x => if x = f k then 1 else 0)
  have p := sumI_ge (f := fun j => if f j = f k then (1 : Int) else 0) (fun j => by
    show (0 : Int) ≤ if f j = f k then 1 else 0
    split <;> decide) h0 h1
  rw [if_pos (Eq.refl (f k))] at p
  have q : sumI (fun j => if h j = f k then (1 : Int) else 0) n ≠ 0 := by
    have e' : sumI (fun j => if f j = f k then (1 : Int) else 0) n = sumI (fun j => if h j = f k then (1 : Int) else 0) n := e
    omega
  obtain ⟨j, a, c, d⟩ := sumI_ex q
  refine ⟨j, a, c, ?_⟩
  apply Classical.byContradiction
  intro z
  exact d (if_neg z)
/-- one more in both -/
theorem Bag.ins {f f' h h' : Int → Row} {n r t : Int} (b : Bag f h n) (r0 : 0 ≤ r) (r1 : r ≤ n) (t0 : 0 ≤ t) (t1 : t ≤ n) (fl : ∀ k : Int, 0 ≤ k → k < r → f' k = f k) (fu : ∀ k : Int, r < k → k ≤ n → f' k = f (k - 1)) (hl : ∀ k : Int, 0 ≤ k → k < t → h' k = h k) (hu : ∀ k : Int, t < k → k ≤ n → h' k = h (k - 1)) (he : f' r = h' t) : Bag f' h' (n + 1) := by
  intro φ
  rw [sumI_ins (g := fun k => φ (f k)) (g' := fun k => φ (f' k)) (v := φ (f' r)) r0 r1 (fun k a c => by rw [fl k a c]) (Eq.refl _) (fun k a c => by rw [fu k a c]),
    sumI_ins (g := fun k => φ (h k)) (g' := fun k => φ (h' k)) (v := φ (h' t)) t0 t1 (fun k a c => by rw [hl k a c]) (Eq.refl _) (fun k a c => by rw [hu k a c]), b φ, he]
/-- one less in both -/
theorem Bag.rem {f f' h h' : Int → Row} {n r t : Int} (b : Bag f h n) (r0 : 0 ≤ r) (r1 : r < n) (t0 : 0 ≤ t) (t1 : t < n) (fl : ∀ k : Int, 0 ≤ k → k < r → f' k = f k) (fu : ∀ k : Int, r ≤ k → k < n - 1 → f' k = f (k + 1)) (hl : ∀ k : Int, 0 ≤ k → k < t → h' k = h k) (hu : ∀ k : Int, t ≤ k → k < n - 1 → h' k = h (k + 1)) (he : f r = h t) : Bag f' h' (n - 1) := by
  intro φ
  have e1 := sumI_rem (g := fun k => φ (f k)) (g' := fun k => φ (f' k)) r0 r1 (fun k a c => by rw [fl k a c]) (fun k a c => by rw [fu k a c])
  have e2 := sumI_rem (g := fun k => φ (h k)) (g' := fun k => φ (h' k)) t0 t1 (fun k a c => by rw [hl k a c]) (fun k a c => by rw [hu k a c])
  have e3 := b φ
  rw [he] at e1
  omega
/-- the first place with P, in both: none, or rows alike -/
theorem bag_fst_no {f h : Int → Row} {n : Int} (b : Bag f h n) {P : Row → Prop} : fst (fun k => P (f k)) n = -1 ↔ fst (fun k => P (h k)) n = -1 := by
  have key : ∀ {f h : Int → Row}, Bag f h n → fst (fun k => P (f k)) n = -1 → fst (fun k => P (h k)) n = -1 := by
    intro f h b hf
    refine fst_no fun k k0 k1 hp => ?_
    obtain ⟨j, j0, j1, e⟩ := b.symm.mem k0 k1
    rcases fst_cases (fun k => P (f k)) n with q | q
    · exact q.2 j j0 j1 (by show P (f j); rw [e]; exact hp)
    · omega
  exact ⟨key b, key b.symm⟩
theorem fst_in {P : Int → Prop} {n : Int} (h : fst P n ≠ -1) : 0 ≤ fst P n ∧ fst P n < n ∧ P (fst P n) ∧ ∀ j : Int, 0 ≤ j → j < fst P n → ¬ P j := (fst_cases P n).resolve_left fun q => h q.1
theorem fst_nn {P : Int → Prop} {n : Int} (h : fst P n = -1) : ∀ k : Int, 0 ≤ k → k < n → ¬ P k := by
  rcases fst_cases P n with q | q
  · exact q.2
  · omega
theorem bag_fst_eq {f h : Int → Row} {n : Int} (b : Bag f h n) {P : Row → Prop} (hu : ∀ i j : Int, 0 ≤ i → i < n → 0 ≤ j → j < n → P (f i) → P (f j) → f i = f j) (hn : fst (fun k => P (f k)) n ≠ -1) : f (fst (fun k => P (f k)) n) = h (fst (fun k => P (h k)) n) := by
  have a := fst_in hn
  have c := fst_in (fun q => hn ((bag_fst_no b).mpr q))
  obtain ⟨j, j0, j1, e⟩ := b.symm.mem c.1 c.2.1
  rw [← e]
  refine hu _ _ a.1 a.2.1 j0 j1 a.2.2.1 ?_
  rw [e]
  exact c.2.2.1
/-- rank: in a sorted row the one at r has r ahead of it -/
theorem rank_of {f h : Int → Row} {n : Int} (b : Bag f h n) {A : Row → Row → Prop} [DecidableRel A] (hs : ∀ i j : Int, 0 ≤ i → i < j → j < n → A (f i) (f j)) (ha : ∀ x y : Row, A x y → ¬ A y x) {r k : Int} (r0 : 0 ≤ r) (r1 : r < n) (e : h k = f r) : sumI (fun x => if A (h x) (h k) then (1 : Int) else 0) n = r := by
  rw [e]
  have e1 : sumI (fun x => if A (f x) (f r) then (1 : Int) else 0) n = sumI (fun x => if A (h x) (f r) then (1 : Int) else 0) n := b (fun x => if A x (f r) then (1 : Int) else 0)
  rw [← e1]
  have e2 : ∀ m : Int, 0 ≤ m → (m ≤ n → sumI (fun x => if A (f x) (f r) then (1 : Int) else 0) m = if m ≤ r then m else r) := by
    refine int_up 0 (fun _ => by rw [sumI_0, if_pos r0]) ?_
    intro m hm ih hmn
    rw [sumI_s _ hm, ih (by omega)]
    by_cases h1 : m < r
    · rw [if_pos (by omega), if_pos (hs m r hm h1 r1), if_pos (by omega)]
    · have h2 : ¬ A (f m) (f r) := by
        by_cases h3 : m = r
        · rw [h3]
          exact fun z => ha _ _ z z
        · exact ha _ _ (hs r m r0 (by omega) (by omega))
      rw [if_neg h2, if_neg (by omega : ¬ m + 1 ≤ r)]
      split <;> omega
  rw [e2 n (by omega) (Int.le_refl n), if_neg (by omega)]
/-- the place of rank r holds the row that the sorted ones have at r -/
theorem rank_at {f h : Int → Row} {n : Int} (b : Bag f h n) {A : Row → Row → Prop} [DecidableRel A] (hs : ∀ i j : Int, 0 ≤ i → i < j → j < n → A (f i) (f j)) (ha : ∀ x y : Row, A x y → ¬ A y x) {r : Int} (r0 : 0 ≤ r) (r1 : r < n) : fst (fun k => sumI (fun x => if A (h x) (h k) then (1 : Int) else 0) n = r) n ≠ -1 ∧ h (fst (fun k => sumI (fun x => if A (h x) (h k) then (1 : Int) else 0) n = r) n) = f r := by
  obtain ⟨k, k0, k1, e⟩ := b.mem r0 r1
  have hr := rank_of b hs ha r0 r1 e
  have hne : fst (fun k => sumI (fun x => if A (h x) (h k) then (1 : Int) else 0) n = r) n ≠ -1 := fun q => fst_nn q k k0 k1 hr
  refine ⟨hne, ?_⟩
  obtain ⟨a1, a2, a3, -⟩ := fst_in hne
  generalize fst (fun k => sumI (fun x => if A (h x) (h k) then (1 : Int) else 0) n = r) n = q at a1 a2 a3 ⊢
  obtain ⟨j, j0, j1, ej⟩ := b.symm.mem a1 a2
  have hj := rank_of b hs ha j0 j1 ej.symm
  have : j = r := by
    rw [← hj]
    exact a3
  rw [← ej, this]
theorem rank_none {f h : Int → Row} {n : Int} (b : Bag f h n) {A : Row → Row → Prop} [DecidableRel A] (hs : ∀ i j : Int, 0 ≤ i → i < j → j < n → A (f i) (f j)) (ha : ∀ x y : Row, A x y → ¬ A y x) {r : Int} (hr : ¬ (0 ≤ r ∧ r < n)) : fst (fun k => sumI (fun x => if A (h x) (h k) then (1 : Int) else 0) n = r) n = -1 := by
  refine fst_no fun k k0 k1 hp => ?_
  obtain ⟨j, j0, j1, e⟩ := b.symm.mem k0 k1
  have := rank_of b hs ha j0 j1 e.symm
  omega
