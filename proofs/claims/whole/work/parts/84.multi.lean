/-! thirty rows of three: new int[30][3] -/
def rowC (cA : ClassId) (h i : Nat) : Cell := arrV cA 30 (fun j => if j < i then .ref (h + 1 + j) else .null)
def rowI (cI : ClassId) : Cell := arrV cI 3 (fun _ => .int 0)
def rowS (S : State) (cA cI : ClassId) : Nat → State
  | 0 => S.pushCell (rowC cA S.heap.size 0)
  | i + 1 => ((rowS S cA cI i).pushCell (rowI cI)).setCell S.heap.size (rowC cA S.heap.size (i + 1))
theorem rowC_set {cA : ClassId} {h i : Nat} : (rowC cA h i).setSlot i (.ref (h + 1 + i)) = rowC cA h (i + 1) := by
  unfold rowC
  rw [arrV_store]
  congr 1
  funext j
  unfold updV
  by_cases e : j = i
  · subst e
    rw [if_pos rfl, if_pos (by omega)]
  · rw [if_neg e]
    dsimp only
    by_cases q : j < i
    · rw [if_pos q, if_pos (by omega)]
    · rw [if_neg q, if_neg (by omega)]
theorem rowC_z {cA : ClassId} {h i : Nat} : (rowC cA h i).slots.size = 30 := arrV_size _ _ _
theorem rowI_z {cI : ClassId} : (rowI cI).slots.size = 3 := arrV_size _ _ _
theorem rowS_f (S : State) (cA cI : ClassId) : ∀ i : Nat, (rowS S cA cI i).heap.size = S.heap.size + 1 + i ∧ (rowS S cA cI i).heap[S.heap.size]? = some (rowC cA S.heap.size i) ∧ (rowS S cA cI i).vm = S.vm ∧ (rowS S cA cI i).slotsUsed = S.slotsUsed + 30 + i * 3 ∧ (∀ q : Nat, q < S.heap.size → (rowS S cA cI i).heap[q]? = S.heap[q]?) ∧ ∀ j : Nat, j < i → (rowS S cA cI i).heap[S.heap.size + 1 + j]? = some (rowI cI)
  | 0 => by
    have hp : (rowS S cA cI 0).heap = S.heap.push (rowC cA S.heap.size 0) := rfl
    refine ⟨by rw [hp, Array.size_push], by rw [hp, Array.getElem?_push, if_pos rfl], rfl, ?_, fun q hq => by rw [hp, Array.getElem?_push, if_neg (by omega)], fun j hj => absurd hj (Nat.not_lt_zero j)⟩
    show S.slotsUsed + (rowC cA S.heap.size 0).slots.size = _
    rw [rowC_z]
  | i + 1 => by
    obtain ⟨a, b, d, u, o, r⟩ := rowS_f S cA cI i
    have hp : (rowS S cA cI (i + 1)).heap = ((rowS S cA cI i).heap.push (rowI cI)).setIfInBounds S.heap.size (rowC cA S.heap.size (i + 1)) := rfl
    refine ⟨?_, ?_, d, ?_, fun q hq => ?_, fun j hj => ?_⟩
    · rw [hp, Array.size_setIfInBounds, Array.size_push, a]
      omega
    · rw [hp, Array.getElem?_setIfInBounds, if_pos rfl, if_pos (by rw [Array.size_push, a]; omega)]
    · show (rowS S cA cI i).slotsUsed + (rowI cI).slots.size = _
      rw [u, rowI_z]
      omega
    · rw [hp, Array.getElem?_setIfInBounds, if_neg (by omega), Array.getElem?_push, if_neg (by omega), o q hq]
    · rw [hp, Array.getElem?_setIfInBounds, if_neg (by omega), Array.getElem?_push]
      by_cases e : j = i
      · rw [if_pos (by omega)]
      · rw [if_neg (by omega), r j (by omega)]
theorem rowS_top (S : State) (f : JFrame) (cA cI : ClassId) : ∀ i : Nat, rowS (S.setTop f) cA cI i = (rowS S cA cI i).setTop f
  | 0 => rfl
  | i + 1 => by simp only [rowS, rowS_top S f cA cI i, State.heap_setTop, State.pushCell_setTop, State.setCell_setTop]
section MU
variable {p : Program} {l : Launch} {e : Env} {R : Room} {s : State} {m : MethodId} {args : Array Value} {below : List Frame} {meth : Method} {c : Code}
theorem rowS_X {T : State} {locs : List Loc} {cells slots : Nat} (X : Stand p l e R s m args below meth c T locs cells slots) (cA cI : ClassId) : ∀ i : Nat, ∃ L : List Loc, (∀ q ∈ L, q.base = T.heap.size) ∧ Stand p l e R s m args below meth c (rowS T cA cI i) (locs ++ L) (cells + 1 + i) (slots + 30 + i * 3)
  | 0 => by
    refine ⟨[], fun q hq => absurd hq List.not_mem_nil, ?_⟩
    have h := X.pushed (rowC cA T.heap.size 0)
    rw [rowC_z] at h
    rw [List.append_nil]
    exact h
  | i + 1 => by
    obtain ⟨L, hL, Xi⟩ := rowS_X X cA cI i
    obtain ⟨f1, f2, -, -, -, -⟩ := rowS_f T cA cI i
    have hcell : ((rowS T cA cI i).pushCell (rowI cI)).heap[T.heap.size]? = some (rowC cA T.heap.size i) := by
      show ((rowS T cA cI i).heap.push (rowI cI))[T.heap.size]? = _
      rw [Array.getElem?_push, if_neg (by omega), f2]
    have h := (Xi.pushed (rowI cI)).stored hcell i (.ref (T.heap.size + 1 + i))
    rw [rowC_set, rowI_z] at h
    refine ⟨L ++ [⟨T.heap.size, i⟩], fun q hq => ?_, ?_⟩
    · rcases List.mem_append.mp hq with z | z
      · exact hL q z
      · rw [List.mem_singleton.mp z]
    · rw [← List.append_assoc, show slots + 30 + (i + 1) * 3 = slots + 30 + i * 3 + 3 by omega]
      exact h
section
variable {E : CtlPost} {d : Bool} {acts : List Action} {S : State}
theorem wp_row {cI cc : ClassId} {kI : Class} (hk : S.vm.classes[cI]? = some kI) (hkind : kI.kind = .array cc .int) (hl : 30 ≤ e.platform.arrayLengthLimit) (hh : 200 ≤ e.platform.maxHeapBytes) (h1 : S.heap.size < e.platform.maxCells) (h2 : S.slotsUsed + 3 ≤ e.platform.maxSlots) {Q : Addr → Pre} (hq : ∀ acts', Q S.heap.size d acts' (S.pushCell (rowI cI))) :
    wp (multianewarray.make cI [3]) Q E e d acts S := by
  have hn : ¬ ((3 : Int32) < 0) := by decide
  rw [multianewarray.make]
  simp only [wp_bind', W.ite, hn, if_false, wp_pure', W.theClass, hk, hkind, Option.some.injEq, exists_eq_left']
  refine W.newArray_of hk hkind (by show ¬ 3 > _; omega) (by show ¬ 3 * 4 > _; omega) h1 h2 rfl (fun acts' => ?_)
  have := hq acts'
  rw [show rowI cI = { cls := cI, slots := Array.replicate 3 (.int 0), vm := .none } from (arrV_new cI 3 (.int 0)).symm] at this
  exact this
theorem wp_rows {cA cI cc : ClassId} {kA kI : Class} (hkA : S.vm.classes[cA]? = some kA) (hA : kA.kind = .array cI (.array .int)) (hkI : S.vm.classes[cI]? = some kI) (hI : kI.kind = .array cc .int) (hl : 30 ≤ e.platform.arrayLengthLimit) (hh : 200 ≤ e.platform.maxHeapBytes) (h1 : S.heap.size + 31 ≤ e.platform.maxCells) (h2 : S.slotsUsed + 120 ≤ e.platform.maxSlots) {Q : Addr → Pre} (hq : ∀ d' acts', Q S.heap.size d' acts' (rowS S cA cI 30)) :
    wp (multianewarray.make cA [30, 3]) Q E e d acts S := by
  have hn : ¬ ((30 : Int32) < 0) := by decide
  have hfind : ([(3 : Int32)].find? (· < 0)) = none := by decide
  have h30 : (30 : Int32).toNatClampNeg = 30 := by decide
  rw [multianewarray.make]
  simp only [wp_bind', W.ite, hn, if_false, wp_pure', W.theClass, hkA, hA, Option.some.injEq, exists_eq_left']
  refine W.newArray_of hkA hA (by rw [h30]; omega) (by rw [h30]; show ¬ 30 * 4 > _; omega) (by omega) (by rw [h30]; omega) rfl (fun acts0 => ?_)
  simp only [hfind]
  rw [ite_self, wp_bind', Std.Legacy.Range.forIn_eq_forIn_range']
  have hsz : ([:(30 : Int32).toNatClampNeg] : Std.Legacy.Range).size = 30 := by simp [Std.Legacy.Range.size, h30]
  rw [hsz, h30]
  show wp (forIn (List.range' 0 30 1) PUnit.unit _) _ E e d acts0 _
  have e0 : S.pushCell { cls := cA, slots := Array.replicate 30 .null } = rowS S cA cI 0 := by
    show _ = S.pushCell (rowC cA S.heap.size 0)
    rw [show rowC cA S.heap.size 0 = { cls := cA, slots := Array.replicate 30 .null, vm := .none } from ?_]
    rw [arrV_new]
    unfold rowC
    congr 1
  refine wp_forIn_inv (fun rest s' => ∃ i, i ≤ 30 ∧ rest = List.range' i (30 - i) ∧ s' = rowS S cA cI i) _ _ ⟨0, Nat.zero_le _, rfl, e0⟩ ?_ ?_
  · rintro x rest s' d' acts' Q' ⟨i, hi, hlr, rfl⟩ hnext
    have hlt : i < 30 := by
      rcases Nat.lt_or_ge i 30 with h | h
      · exact h
      · rw [show 30 - i = 0 from by omega] at hlr
        cases hlr
    obtain ⟨rfl, hrest⟩ : x = i ∧ rest = List.range' (i + 1) (30 - (i + 1)) := by
      rw [show 30 - i = (30 - (i + 1)) + 1 from by omega, List.range'_succ] at hlr
      exact ⟨(List.cons.inj hlr).1, (List.cons.inj hlr).2⟩
    obtain ⟨f1, f2, f3, f4, -, -⟩ := rowS_f S cA cI x
    simp only [wp_bind']
    refine wp_row (by rw [f3]; exact hkI) hI hl hh (by rw [f1]; omega) (by rw [f4]; omega) (fun acts1 => ?_)
    simp only [wp_bind', W.writeLoc, wp_pure']
    refine ⟨rowC cA S.heap.size x, ?_, (fun z => by cases z), by rw [rowC_z]; exact hlt, ?_, hnext _ _ _ ⟨x + 1, hlt, hrest, ?_⟩⟩
    · show ((rowS S cA cI x).heap.push (rowI cI))[S.heap.size]? = _
      rw [Array.getElem?_push, if_neg (by omega), f2]
    · show State.fitsSlot _ cA .none _ _ = true
      simp [State.fitsSlot, State.slotType?, f3, hkA, hA, fits]
    · rw [f1, rowC_set]
      rfl
  · rintro s' d' acts' ⟨i, hi, hlr, rfl⟩
    have hiN : i = 30 := by
      rcases Nat.lt_or_ge i 30 with h | h
      · rw [show 30 - i = (30 - (i + 1)) + 1 from by omega, List.range'_succ] at hlr
        cases hlr
      · omega
    subst hiN
    simp only [wp_pure']
    exact hq _ _
end
theorem W_multi {H : Heap} {locs : List Loc} {cells slots : Nat} {Q : State → Prop} {cc : ByteArray} {pc : Nat} {ls : Array Slot} {rest : List Value} (hexec : p.tables.exec = Jvm.exec) (hb : c.code = cc) {own : String} {index : Nat} (hown : s.vm.findClass own = some m.cls) (hclink : (Cond.classLink own index "[[I").before args s = true)
    {cA cI c0 : ClassId} {kA kI : Class} (hfA : s.vm.findClass "[[I" = some cA) (hkA : s.vm.classes[cA]? = some kA) (hA : kA.kind = .array cI (.array .int)) (hkI : s.vm.classes[cI]? = some kI) (hI : kI.kind = .array c0 .int) (hcells : cells + 31 ≤ R.cells) (hslots : slots + 120 ≤ R.slots) (hdg : decode cc pc = .ok (.multianewarray index 2, 4))
    (kk : ∀ (H1 : Heap) (L : List Loc), (∀ q ∈ L, q.base = H.size) → H1.size = H.size + 31 → H1[H.size]? = some (rowC cA H.size 30) → (∀ q : Nat, q < H.size → H1[q]? = H[q]?) → (∀ j : Nat, j < 30 → H1[H.size + 1 + j]? = some (rowI cI)) → W p l e R s m args below meth c H1 (locs ++ L) (cells + 31) (slots + 120) Q (F0 m (pc + 4) ls (.ref H.size :: rest))) :
    W p l e R s m args below meth c H locs cells slots Q (F0 m pc ls (.int 3 :: .int 30 :: rest)) := by
  intro T hT X
  subst hb
  generalize hg0 : F0 m pc ls (.int 3 :: .int 30 :: rest) = g
  have hgm : g.method = m := by rw [← hg0]
  have hgs : g.stack = .int 3 :: .int 30 :: rest := by rw [← hg0]
  have hgp : g.pc = pc := by rw [← hg0]
  have hdg2 : decode c.code g.pc = .ok (.multianewarray index 2, 4) := by rw [hgp]; exact hdg
  have hpl : e.platform.magicAccessors = ({} : Platform).magicAccessors := by rw [X.admits.platform]
  subst hgm
  obtain ⟨c1, hfc, hcl⟩ := Cond.classLink_spec hown hclink e.platform hpl
  cases hfA.symm.trans hfc
  obtain ⟨hg₁, hwarm₁, hready₁⟩ := State.classEntry (e := e) X.warmed hcl
  generalize T.vm.noted g.method.cls index (.cls cA) = vm₁ at hg₁ hwarm₁ hready₁
  have hal : s.vm.Alike vm₁ := hwarm₁.alike
  obtain ⟨kA₁, hkA₁, heA⟩ := hal.2.2 _ _ hkA
  obtain ⟨kI₁, hkI₁, heI⟩ := hal.2.2 _ _ hkI
  have hA₁ : kA₁.kind = .array cI (.array .int) := by rw [heA]; exact hA
  have hI₁ : kI₁.kind = .array c0 .int := by rw [heI]; exact hI
  have X₁ := X.noted hwarm₁
  obtain ⟨hr1, hr2⟩ := X.roomAbove hcells hslots
  have hl1 : 30 ≤ e.platform.arrayLengthLimit := by rw [Launch.admits_arrayLengthLimit X.admits]; decide
  have hh1 : 200 ≤ e.platform.maxHeapBytes := by rw [Launch.admits_maxHeapBytes X.admits]; decide
  obtain ⟨L, hL, XF⟩ := rowS_X X₁ cA cI 30
  obtain ⟨f1, f2, f3, f4, f5, f6⟩ := rowS_f (T.setVm vm₁) cA cI 30
  have hsz : (T.setVm vm₁).heap.size = H.size := by rw [← hT]; rfl
  rw [hsz] at f1 f2 f5 f6 hL
  obtain ⟨t, a1, b1⟩ := kk (rowS (T.setVm vm₁) cA cI 30).heap L hL (by omega) f2 (fun q hq => (f5 q hq).trans (by rw [← hT]; rfl)) f6 (rowS (T.setVm vm₁) cA cI 30) rfl XF
  refine ⟨t, ?_, b1⟩
  jvm_step X.here [hexec, hdg2]
  simp only [multianewarray.sem, wp_bind', W.resolveClassAt_links (State.method?_setTop g X.here.top) hg₁]
  rw [W.popN, if_neg (by decide)]
  refine ⟨g, State.topJava?_setTop' (s := T.setVm vm₁) g X.here.top, [.int 30, .int 3], rest, rfl, hgs, ?_⟩
  simp only [List.mapM_cons, List.mapM_nil, wp_bind', wp_pure']
  refine wp_rows (kA := kA₁) (kI := kI₁) (cI := cI) (cc := c0) hkA₁ hA₁ hkI₁ hI₁ hl1 hh1 (by show T.heap.size + 31 ≤ _; omega) (by show T.slotsUsed + 120 ≤ _; omega) (fun d' acts' => ?_)
  have eS : ((T.setTop g).setVm vm₁).setTop { g with stack := rest } = (T.setVm vm₁).setTop { g with stack := rest } := by
    show ((T.setVm vm₁).setTop g).setTop _ = _
    rw [State.setTop_setTop]
  rw [eS, rowS_top]
  simp only [wp_bind', W.mark, W.pushRef, State.topJava?_setTop' _ XF.here.top, Option.some.injEq, exists_eq_left', State.setTop_setTop, State.heap_setTop]
  intro acts
  simp [jvm, XF.here.top]
  rw [← hg0, hT] at *
  exact a1
end MU
