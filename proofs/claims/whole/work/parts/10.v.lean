/-! THE LAYER V: a method is walked over a dictionary of cells (group, place) ↦ contents, addresses by a function; all numbers are integers -/
def iN (z : Int) : Int32 := Int32.ofInt z
abbrev inR (z : Int) : Prop := -2147483648 ≤ z ∧ z ≤ 2147483647
theorem iN_toInt {z : Int} (h : inR z) : (iN z).toInt = z := Int32.toInt_ofInt_of_le (by have := h.1; omega) (by have := h.2; omega)
theorem iN_of (x : Int32) : iN x.toInt = x := Int32.ofInt_toInt x
theorem inR_of (x : Int32) : inR x.toInt := ⟨by have := Int32.le_toInt x; omega, by have := Int32.toInt_lt x; omega⟩
theorem iN_add (a b : Int) : iN a + iN b = iN (a + b) := (Int32.ofInt_add a b).symm
theorem iN_sub (a b : Int) : iN a - iN b = iN (a - b) := (Int32.ofInt_sub a b).symm
theorem iN_mul (a b : Int) : iN a * iN b = iN (a * b) := (Int32.ofInt_mul a b).symm
theorem iN_neg (a : Int) : - iN a = iN (- a) := (Int32.ofInt_neg a).symm
theorem iN_lt {a b : Int} (ha : inR a) (hb : inR b) : iN a < iN b ↔ a < b := by rw [Int32.lt_iff_toInt_lt, iN_toInt ha, iN_toInt hb]
theorem iN_le {a b : Int} (ha : inR a) (hb : inR b) : iN a ≤ iN b ↔ a ≤ b := by rw [Int32.le_iff_toInt_le, iN_toInt ha, iN_toInt hb]
theorem iN_eq {a b : Int} (ha : inR a) (hb : inR b) : iN a = iN b ↔ a = b := by rw [← Int32.toInt_inj, iN_toInt ha, iN_toInt hb]
theorem iN_0 : iN 0 = 0 := by decide +kernel
theorem iN_cl {z : Int} (h : inR z) : (iN z).toNatClampNeg = z.toNat := by
  show (iN z).toInt.toNat = z.toNat
  rw [iN_toInt h]
theorem iN_ng {z : Int} (h : inR z) (h0 : 0 ≤ z) : ¬ iN z < 0 := by
  rw [← iN_0, iN_lt h ⟨by decide, by decide⟩]; omega
theorem iN_in {z : Int} {n : Nat} (h : inR z) (h0 : 0 ≤ z) (h1 : z < n) : vp_in (iN z) n := by
  intro q
  rcases q with q | q
  · exact iN_ng h h0 q
  · rw [iN_cl h] at q; omega
theorem iN_nI {z : Int} (h0 : 0 ≤ z) : iN z = nI z.toNat := by
  show Int32.ofInt z = Int32.ofNat z.toNat
  obtain ⟨n, rfl⟩ := Int.eq_ofNat_of_zero_le h0
  rfl
/-! locals by position -/
abbrev Ls : Type := List (Option Value)
def lvl : Nat → Ls → List (Nat × Value)
  | _, [] => []
  | i, none :: t => lvl (i + 1) t
  | i, some v :: t => (i, v) :: lvl (i + 1) t
theorem lvl_mem : ∀ (ls : Ls) (k i : Nat) (v : Value), ls[i]? = some (some v) → (k + i, v) ∈ lvl k ls
  | [], k, i, v, h => by simp at h
  | none :: t, k, 0, v, h => by simp at h
  | some w :: t, k, 0, v, h => by
    simp at h
    subst h
    exact List.mem_cons_self
  | none :: t, k, i + 1, v, h => by
    have := lvl_mem t (k + 1) i v (by simpa using h)
    rw [show k + (i + 1) = k + 1 + i by omega]
    exact this
  | some w :: t, k, i + 1, v, h => by
    have := lvl_mem t (k + 1) i v (by simpa using h)
    rw [show k + (i + 1) = k + 1 + i by omega]
    exact List.mem_cons_of_mem _ this
theorem lvl_of : ∀ (ls : Ls) (k : Nat) (q : Nat × Value), q ∈ lvl k ls → ∃ i, q.1 = k + i ∧ ls[i]? = some (some q.2)
  | [], k, q, h => by cases h
  | none :: t, k, q, h => by
    obtain ⟨i, h1, h2⟩ := lvl_of t (k + 1) q h
    exact ⟨i + 1, by omega, by simpa using h2⟩
  | some w :: t, k, q, h => by
    rcases List.mem_cons.mp h with rfl | h
    · exact ⟨0, rfl, rfl⟩
    · obtain ⟨i, h1, h2⟩ := lvl_of t (k + 1) q h
      exact ⟨i + 1, by omega, by simpa using h2⟩
theorem lvl_sub {la : Array Slot} {n : Nat} {l l' : List (Nat × Value)} (h : lv_has la n l) (hs : ∀ q ∈ l', q ∈ l) : lv_has la n l' := ⟨h.1, h.2.1, fun q hq => h.2.2 q (hs q hq)⟩
theorem lvl_at {la : Array Slot} {n i : Nat} {ls : Ls} {v : Value} (h : lv_has la n (lvl 0 ls)) (hi : ls[i]? = some (some v)) : la[i]? = some (.val v) := by
  have := h.2.2 _ (lvl_mem ls 0 i v hi)
  simpa using this
/-- no value of two words ends at i -/
def lok (ls : Ls) (i : Nat) : Bool := match i with
  | 0 => true
  | j + 1 => match ls[j]? with
    | some (some w) => w.category != 2
    | _ => true
theorem lok_ne {ls : Ls} {i j : Nat} {w : Value} (h : lok ls i = true) (hj : ls[j]? = some (some w)) (e : j + 1 = i) : ¬ w.category = 2 := by
  subst e
  simp only [lok, hj, bne_iff_ne, ne_eq] at h
  exact h
theorem lvl_st1 {ls : Ls} {i : Nat} {v : Value} (h : lok ls i = true) : ∀ q ∈ lvl 0 (ls.set i (some v)), q ∈ (i, v) :: (lvl 0 ls).filter (fun q => !(q.1 == i) && !(q.1 + 1 == i && q.2.category == 2)) := by
  intro q hq
  obtain ⟨j, h1, h2⟩ := lvl_of _ 0 q hq
  by_cases hj : i = j
  · subst hj
    have hlt : i < ls.length := by
      have := (List.getElem?_eq_some_iff.mp h2).1
      simpa using this
    rw [List.getElem?_set_self hlt] at h2
    have : q = (i, v) := Prod.ext (by omega) (by simpa using h2.symm)
    rw [this]
    exact List.mem_cons_self
  · rw [List.getElem?_set_ne hj] at h2
    refine List.mem_cons_of_mem _ (List.mem_filter.mpr ⟨?_, ?_⟩)
    · have := lvl_mem ls 0 j q.2 h2
      rw [← h1] at this
      exact this
    · have a1 : ¬ q.1 = i := by omega
      have a2 : ¬ (q.1 + 1 = i ∧ q.2.category = 2) := fun z => lok_ne h h2 (by omega) z.2
      simp only [Bool.and_eq_true, Bool.not_eq_true', beq_eq_false_iff_ne, ne_eq, Bool.and_eq_false_iff]
      refine ⟨a1, ?_⟩
      by_cases b : q.1 + 1 = i
      · exact Or.inr fun z => a2 ⟨b, z⟩
      · exact Or.inl b
/-! the world -/
abbrev Adr : Type := Int → Nat → Nat
abbrev Dic : Type := Int → Nat → Option va_E
def Rp (D : va_G) (ad : Adr) (E : Dic) (H : Heap) : Prop := ∀ (g : Int) (j : Nat) (e : va_E), E g j = some e → va_at D vwCl (ad g j, e) H
def Ij (ad : Adr) (E : Dic) : Prop := ∀ (g : Int) (j : Nat) (g' : Int) (j' : Nat) (e e' : va_E), E g j = some e → E g' j' = some e' → ad g j = ad g' j' → g = g' ∧ j = j'
def AA (ad : Adr) (E : Dic) (sz : Nat) : Nat → Prop := fun q => (∃ (g : Int) (j : Nat) (e : va_E), E g j = some e ∧ ad g j = q) ∨ sz ≤ q
/-- the String constants: class, entry, text -/
def lw_strs : List (String × Nat × String) := [("BarnacleExchange", 317, "there is no such ship or barnacle"), ("BarnacleExchange", 319, "an argument is out of range"), ("BarnacleExchange", 321, "there is no open order with this id"), ("BarnacleExchange", 332, "the call is rejected"), ("BarnacleExchange", 350, "there is no such ship"), ("BarnacleExchange", 106, "the ship has no barnacle at this position"), ("BarnacleExchange", 355, "there is no such barnacle"), ("BarnacleExchange", 367, "there is no open order at this position"), ("BarnacleExchange", 372, "no offer fits the bid"), ("BarnacleExchange", 158, "there are no open bids, or no open offers"), ("BarnacleExchange", 360, "there is no such trade among the latest ones"), ("BarnacleExchange", 214, "there is no ship at this position"), ("BarnacleExchange", 218, "there were no trades"), ("BarnacleExchange", 221, "there are no barnacles"), ("BarnacleExchange", 248, "the output has no character at this index"), ("BarnacleExchange", 261, "the code of the character is out of range"), ("BarnacleExchange", 268, "the input is full"), ("BarnacleExchange", 278, "the input has a syntax error"), ("BarnacleExchange", 342, "a command fails"), ("BarnacleExchange", 344, "a command is rejected"), ("BarnacleExchange", 291, "there was no syntax error"), ("BarnacleExchange", 362, "no call was rejected"), ("BarnacleExchange", 296, "the latest rejection is not one of a command"), ("BarnacleExchange", 301, "there is no change to undo"), ("BarnacleExchange", 306, "there is no snapshot")]
def lw_nests : List (String × Nat × MethodName × String) := [("BarnacleExchange", 9, yX3_init, "BarnacleExchange"), ("BarnacleExchange$Market", 11, yX1_init, "BarnacleExchange"), ("BarnacleExchange$Market", 33, yX7_init, "BarnacleExchange"), ("BarnacleExchange$History", 22, yX3_init, "BarnacleExchange"), ("BarnacleExchange", 35, yX6_init, "BarnacleExchange"), ("BarnacleExchange$Market", 87, yX8_isWithin, "BarnacleExchange")]
def lw_ncs : List (String × String) := [("BarnacleExchange", "java/lang/IllegalArgumentException"), ("BarnacleExchange$Market", "java/lang/IllegalArgumentException"), ("BarnacleExchange$Fleet", "java/lang/IllegalArgumentException"), ("BarnacleExchange$BidBook", "java/lang/IllegalArgumentException"), ("BarnacleExchange$OfferBook", "java/lang/IllegalArgumentException"), ("BarnacleExchange$TradeLog", "java/lang/IllegalArgumentException"), ("BarnacleExchange$History", "java/lang/IllegalArgumentException"), ("BarnacleExchange$Script", "java/lang/IllegalArgumentException"), ("java/lang/StringBuilder", "java/lang/IllegalArgumentException"), ("BarnacleExchangeModel", "java/lang/IllegalArgumentException"), ("java/lang/IndexOutOfBoundsException", "java/lang/IllegalArgumentException"), ("java/util/NoSuchElementException", "java/lang/IllegalArgumentException"), ("java/lang/UnsupportedOperationException", "java/lang/IllegalArgumentException"), ("java/lang/ArrayIndexOutOfBoundsException", "java/lang/IllegalArgumentException"), ("java/lang/ArithmeticException", "java/lang/IllegalArgumentException"), ("java/lang/StringIndexOutOfBoundsException", "java/lang/IllegalArgumentException"), ("java/lang/String", "java/lang/IllegalArgumentException"), ("java/lang/IllegalStateException", "java/lang/IllegalArgumentException"), ("BarnacleExchange", "java/lang/UnsupportedOperationException"), ("BarnacleExchange$Market", "java/lang/UnsupportedOperationException"), ("BarnacleExchange$Fleet", "java/lang/UnsupportedOperationException"), ("BarnacleExchange$BidBook", "java/lang/UnsupportedOperationException"), ("BarnacleExchange$OfferBook", "java/lang/UnsupportedOperationException"), ("BarnacleExchange$TradeLog", "java/lang/UnsupportedOperationException"), ("BarnacleExchange$History", "java/lang/UnsupportedOperationException"), ("BarnacleExchange$Script", "java/lang/UnsupportedOperationException"), ("java/lang/StringBuilder", "java/lang/UnsupportedOperationException"), ("BarnacleExchangeModel", "java/lang/UnsupportedOperationException"), ("java/lang/IndexOutOfBoundsException", "java/lang/UnsupportedOperationException"), ("java/lang/IllegalArgumentException", "java/lang/UnsupportedOperationException"), ("java/util/NoSuchElementException", "java/lang/UnsupportedOperationException"), ("java/lang/ArrayIndexOutOfBoundsException", "java/lang/UnsupportedOperationException"), ("java/lang/ArithmeticException", "java/lang/UnsupportedOperationException"), ("java/lang/StringIndexOutOfBoundsException", "java/lang/UnsupportedOperationException"), ("java/lang/String", "java/lang/UnsupportedOperationException"), ("java/lang/IllegalStateException", "java/lang/UnsupportedOperationException"), ("BarnacleExchange", "java/lang/IndexOutOfBoundsException"), ("BarnacleExchange$Market", "java/lang/IndexOutOfBoundsException"), ("BarnacleExchange$Fleet", "java/lang/IndexOutOfBoundsException"), ("BarnacleExchange$BidBook", "java/lang/IndexOutOfBoundsException"), ("BarnacleExchange$OfferBook", "java/lang/IndexOutOfBoundsException"), ("BarnacleExchange$TradeLog", "java/lang/IndexOutOfBoundsException"), ("BarnacleExchange$History", "java/lang/IndexOutOfBoundsException"), ("BarnacleExchange$Script", "java/lang/IndexOutOfBoundsException"), ("java/lang/StringBuilder", "java/lang/IndexOutOfBoundsException"), ("BarnacleExchangeModel", "java/lang/IndexOutOfBoundsException"), ("java/lang/IllegalArgumentException", "java/lang/IndexOutOfBoundsException"), ("java/util/NoSuchElementException", "java/lang/IndexOutOfBoundsException"), ("java/lang/UnsupportedOperationException", "java/lang/IndexOutOfBoundsException"), ("java/lang/ArithmeticException", "java/lang/IndexOutOfBoundsException"), ("java/lang/String", "java/lang/IndexOutOfBoundsException"), ("java/lang/IllegalStateException", "java/lang/IndexOutOfBoundsException"), ("BarnacleExchange", "java/util/NoSuchElementException"), ("BarnacleExchange$Market", "java/util/NoSuchElementException"), ("BarnacleExchange$Fleet", "java/util/NoSuchElementException"), ("BarnacleExchange$BidBook", "java/util/NoSuchElementException"), ("BarnacleExchange$OfferBook", "java/util/NoSuchElementException"), ("BarnacleExchange$TradeLog", "java/util/NoSuchElementException"), ("BarnacleExchange$History", "java/util/NoSuchElementException"), ("BarnacleExchange$Script", "java/util/NoSuchElementException"), ("java/lang/StringBuilder", "java/util/NoSuchElementException"), ("BarnacleExchangeModel", "java/util/NoSuchElementException"), ("java/lang/IndexOutOfBoundsException", "java/util/NoSuchElementException"), ("java/lang/IllegalArgumentException", "java/util/NoSuchElementException"), ("java/lang/UnsupportedOperationException", "java/util/NoSuchElementException"), ("java/lang/ArrayIndexOutOfBoundsException", "java/util/NoSuchElementException"), ("java/lang/ArithmeticException", "java/util/NoSuchElementException"), ("java/lang/StringIndexOutOfBoundsException", "java/util/NoSuchElementException"), ("java/lang/String", "java/util/NoSuchElementException"), ("java/lang/IllegalStateException", "java/util/NoSuchElementException"), ("BarnacleExchange", "java/lang/ArithmeticException"), ("BarnacleExchange$Market", "java/lang/ArithmeticException"), ("BarnacleExchange$Fleet", "java/lang/ArithmeticException"), ("BarnacleExchange$BidBook", "java/lang/ArithmeticException"), ("BarnacleExchange$OfferBook", "java/lang/ArithmeticException"), ("BarnacleExchange$TradeLog", "java/lang/ArithmeticException"), ("BarnacleExchange$History", "java/lang/ArithmeticException"), ("BarnacleExchange$Script", "java/lang/ArithmeticException"), ("java/lang/StringBuilder", "java/lang/ArithmeticException"), ("BarnacleExchangeModel", "java/lang/ArithmeticException"), ("java/lang/IndexOutOfBoundsException", "java/lang/ArithmeticException"), ("java/lang/IllegalArgumentException", "java/lang/ArithmeticException"), ("java/util/NoSuchElementException", "java/lang/ArithmeticException"), ("java/lang/UnsupportedOperationException", "java/lang/ArithmeticException"), ("java/lang/ArrayIndexOutOfBoundsException", "java/lang/ArithmeticException"), ("java/lang/StringIndexOutOfBoundsException", "java/lang/ArithmeticException"), ("java/lang/String", "java/lang/ArithmeticException"), ("java/lang/IllegalStateException", "java/lang/ArithmeticException"), ("BarnacleExchange", "java/lang/IllegalStateException"), ("BarnacleExchange$Market", "java/lang/IllegalStateException"), ("BarnacleExchange$Fleet", "java/lang/IllegalStateException"), ("BarnacleExchange$BidBook", "java/lang/IllegalStateException"), ("BarnacleExchange$OfferBook", "java/lang/IllegalStateException"), ("BarnacleExchange$TradeLog", "java/lang/IllegalStateException"), ("BarnacleExchange$History", "java/lang/IllegalStateException"), ("BarnacleExchange$Script", "java/lang/IllegalStateException"), ("java/lang/StringBuilder", "java/lang/IllegalStateException"), ("BarnacleExchangeModel", "java/lang/IllegalStateException"), ("java/lang/IndexOutOfBoundsException", "java/lang/IllegalStateException"), ("java/lang/IllegalArgumentException", "java/lang/IllegalStateException"), ("java/util/NoSuchElementException", "java/lang/IllegalStateException"), ("java/lang/UnsupportedOperationException", "java/lang/IllegalStateException"), ("java/lang/ArrayIndexOutOfBoundsException", "java/lang/IllegalStateException"), ("java/lang/ArithmeticException", "java/lang/IllegalStateException"), ("java/lang/StringIndexOutOfBoundsException", "java/lang/IllegalStateException"), ("java/lang/String", "java/lang/IllegalStateException")]
def fm_idx : List Nat := [65, 67, 69, 71, 73, 75, 77, 79, 81, 83]
def fm_txt : List String := ["sN/D", "aDD", "cD+N", "bDD@N", "oN@N", "xN", "yN", "t", "fD", ""]
def fm_len : List Nat := [4, 3, 4, 5, 4, 2, 2, 1, 2, 0]
def fm_byt : List (List Int32) := [[115, 78, 47, 68], [97, 68, 68], [99, 68, 43, 78], [98, 68, 68, 64, 78], [111, 78, 64, 78], [120, 78], [121, 78], [116], [102, 68], []]
/-- rows of rows of ints: the class and its rows' class -/
def KrI (K : Nat → ClassId) (U : State) : Prop := ∃ kA : Class, U.vm.classes[K 6]? = some kA ∧ kA.kind = .array (K 0) (.array .int)
theorem KrI.moved {K : Nat → ClassId} {u U : State} (hvm : u.vm.Alike U.vm) (h : KrI K u) : KrI K U := by
  obtain ⟨kA, h1, h2⟩ := h
  obtain ⟨k', hk', he⟩ := hvm.2.2 _ _ h1
  exact ⟨k', hk', by rw [he]; exact h2⟩
/-- what stays of the surroundings all through a run -/
def Ev (K : Nat → ClassId) (A : Nat → Prop) (U : State) (H : Heap) : Prop := vx_Zq Bundle.tN "UNASSIGNED_STACK" Bundle.steD A U H ∧ vx_Zq Bundle.tN "SUPPRESSED_SENTINEL" Bundle.listD A U H ∧ (∀ q ∈ lw_strs, ∃ a, vk_R q.1 q.2.1 q.2.2 a U) ∧ (∀ q ∈ lw_nests, va_Nw (.methodLinkNest q.1 q.2.1 q.2.2.1 q.2.2.2) U) ∧ (∀ q ∈ lw_ncs, va_Nc q.1 q.2 U) ∧ (∀ q ∈ lw_casts, va_Nw (.castable q.1 q.2) U) ∧ (∀ x ∈ lw_decls, va_Nw (.declares x) U) ∧
  (vk_S 10 fm_len fm_byt (fun i => K (100 + i)) (fun i => K (200 + i)) A U H ∧ ∀ i : Nat, i < 10 → vk_R RX6 (fm_idx.getD i 0) (fm_txt.getD i "") (K (100 + i)) U) ∧
  va_Z "java/lang/String" "COMPACT_STRINGS" "Z" (.int 1) A U H ∧
  (va_Z "java/lang/Integer" "DigitOnes" "[B" (.ref (K 98)) A U H ∧ va_T .byte (K 98) 100 (fun j => .int (Int32.ofNat (48 + j % 10))) A U H) ∧
  (va_Z "java/lang/Integer" "DigitTens" "[B" (.ref (K 99)) A U H ∧ va_T .byte (K 99) 100 (fun j => .int (Int32.ofNat (48 + j / 10))) A U H) ∧
  (va_Zq "jdk/internal/util/Preconditions" "SIOOBE_FORMATTER" "Ljava/util/function/BiFunction;" A U H ∧ va_AO RX3 U ∧ KrI K U)
def tysOf (K : Nat → ClassId) : List (ClassId × FieldType) := [(K 0, .int), (K 1, .char), (K 2, .long), (K 3, .double), (K 4, .byte), (K 5, .object RX3), (K 6, .array .int)]
def Wd (D : va_G) (K : Nat → ClassId) (ad : Adr) (E : Dic) (U : State) : Prop := Rp D ad E U.heap ∧ Ij ad E ∧ va_K D vwCl (tysOf K) U ∧ Ev K (AA ad E U.heap.size) U U.heap
def Nw (ad : Adr) (E : Dic) (sz : Nat) (ad' : Adr) (E' : Dic) : Prop := ∀ (g : Int) (j : Nat) (e' : va_E), E' g j = some e' → (∃ e, E g j = some e ∧ ad' g j = ad g j) ∨ sz ≤ ad' g j
abbrev Out : Type := Option Value ⊕ String
def Qf (D : va_G) (ad : Adr) (E : Dic) (sz : Nat) (post : Out → Adr → Dic → Prop) : Array Value → State → Outcome → State → Prop := fun _ st oc t =>
  ∃ (r : Option Value) (ad' : Adr) (E' : Dic), oc = .returned r ∧ post (.inl r) ad' E' ∧ Rp D ad' E' t.heap ∧ Ij ad' E' ∧ Nw ad E sz ad' E' ∧ va_F (AA ad E sz) st t
def Xf (D : va_G) (ad : Adr) (E : Dic) (sz : Nat) (post : Out → Adr → Dic → Prop) : String → State → State → Prop := fun En st t =>
  ∃ (ad' : Adr) (E' : Dic), post (.inr En) ad' E' ∧ Rp D ad' E' t.heap ∧ Ij ad' E' ∧ Nw ad E sz ad' E' ∧ va_F (AA ad E sz) st t
/-- a method's contract: from the world (ad, E), called with as, what comes -/
def Ctr (l : Launch) (y : MethodName) (cd : Cond) (rm : Room) (mc ms : Nat) (D : va_G) (K : Nat → ClassId) (ad : Adr) (E : Dic) (as : List Value) (post : Out → Adr → Dic → Prop) : Prop :=
  ∀ sz : Nat, vx_Met l y (cd :: lw_good) rm (va_Pc as (fun U => U.heap.size = sz ∧ Wd D K ad E U)) (Qf D ad E sz post) (Xf D ad E sz post) mc ms (AA ad E sz)
theorem Ev.moved {K : Nat → ClassId} {A : Nat → Prop} {u U : State} {H : Heap} (hW : u.WarmedH U.vm) (h : Ev K A u H) : Ev K A U H := by
  obtain ⟨h1, h2, h3, h4, h5, h5c, h5d, ⟨h6, h6'⟩, h7, ⟨h8, h8'⟩, ⟨h9, h9'⟩, hs⟩ := h
  exact ⟨vx_Zq.moved hW.alike h1, vx_Zq.moved hW.alike h2, fun q hq => by obtain ⟨a, ha⟩ := h3 q hq; exact ⟨a, ha.warm hW⟩, fun q hq => va_Nw.warmM hW (h4 q hq), fun q hq => (h5 q hq).moved hW.alike, fun q hq => va_Nw.warmC hW (h5c q hq), fun x hx => va_Nw.warmD hW (h5d x hx), ⟨h6.moved hW.alike, fun i hi => (h6' i hi).warm hW⟩, h7.moved hW.alike, ⟨h8.moved hW.alike, h8'.moved hW.alike⟩, ⟨h9.moved hW.alike, h9'.moved hW.alike⟩, ⟨hs.1.moved hW.alike, hs.2.1.moved hW.alike, hs.2.2.moved hW.alike⟩⟩
theorem Ev.kept {K : Nat → ClassId} {A : Nat → Prop} {U : State} {H H1 : Heap} (h : Ev K A U H) (hq : ∀ a : Nat, a < H.size → ¬ A a → H1[a]? = H[a]?) : Ev K A U H1 := by
  obtain ⟨h1, h2, h3, h4, h5, h5c, h5d, ⟨h6, h6'⟩, h7, ⟨h8, h8'⟩, ⟨h9, h9'⟩, hs⟩ := h
  exact ⟨vx_Zq.kept h1 hq, vx_Zq.kept h2 hq, h3, h4, h5, h5c, h5d, ⟨h6.kept hq, h6'⟩, h7.kept hq, ⟨h8.kept hq, h8'.kept hq⟩, ⟨h9.kept hq, h9'.kept hq⟩, ⟨hs.1.kept hq, hs.2⟩⟩
theorem Ev.narrow {K : Nat → ClassId} {A B : Nat → Prop} {U : State} {H : Heap} (h : Ev K A U H) (hAB : ∀ q, B q → A q) : Ev K B U H := by
  obtain ⟨h1, h2, h3, h4, h5, h5c, h5d, ⟨h6, h6'⟩, h7, ⟨h8, h8'⟩, ⟨h9, h9'⟩, hs⟩ := h
  exact ⟨vx_Zq.narrow h1 hAB, vx_Zq.narrow h2 hAB, h3, h4, h5, h5c, h5d, ⟨h6.narrow hAB, h6'⟩, h7.narrow hAB, ⟨h8.narrow hAB, h8'.narrow hAB⟩, ⟨h9.narrow hAB, h9'.narrow hAB⟩, ⟨hs.1.narrow hAB, hs.2⟩⟩
theorem Wd.blind {as : List Value} {D : va_G} {K : Nat → ClassId} {ad : Adr} {E : Dic} {sz : Nat} : FrameBlind (va_Pc as (fun U => U.heap.size = sz ∧ Wd D K ad E U)) := fun a U g mk q => by
  obtain ⟨q0, q1, qR, qI, qK, qE⟩ := q
  exact ⟨q0, q1, qR, qI, va_K.moved (u := U) (U := U.calling g mk a) (Vm.Alike.refl U.vm) qK, Ev.moved (u := U) (U := U.calling g mk a) (State.WarmedH.refl U) qE⟩
theorem P1 {D : va_G} {ad : Adr} {E : Dic} {H : Heap} {g : Int} {j : Nat} {e : va_E} (hR : Rp D ad E H) (h : E g j = some e) : va_P D vwCl [(ad g j, e)] H := fun k q hq => by
  match k, hq with
  | 0, hq => cases hq; exact hR g j e h
  | k + 1, hq => simp at hq

abbrev Cx : Type := Program × Launch × Env × Room × State × MethodId × Array Value × List Frame × Method × Code × (State → Prop) × va_G × (Nat → ClassId) × Adr × Dic
def xl (X : Cx) : Launch := X.2.1
def xD (X : Cx) : va_G := X.2.2.2.2.2.2.2.2.2.2.2.1
def xK (X : Cx) : Nat → ClassId := X.2.2.2.2.2.2.2.2.2.2.2.2.1
/-- the machine at pc, over the world (ad, E) -/
def V (X : Cx) (ad : Adr) (E : Dic) (pc : Nat) (ls : Ls) (st : List Value) (cs ss : Nat) : Prop := match X with
  | (p, l, e, R, s, m, args, below, meth, c, Q, D, K, ad0, E0) => ∀ (H : Heap) (locs : List Loc) (la : Array Slot), Rp D ad E H → Ij ad E → Nw ad0 E0 s.heap.size ad E → va_S (AA ad0 E0 s.heap.size) s.heap H locs → lv_has la c.maxLocals (lvl 0 ls) → W p l e R s m args below meth c H locs cs ss Q (F0 m pc la st)
/-- an exception of the class En in flight at pc -/
def VX (X : Cx) (ad : Adr) (E : Dic) (pc : Nat) (En : String) (ls : Ls) (rest : List Value) (cs ss : Nat) : Prop := match X with
  | (p, l, e, R, s, m, args, below, meth, c, Q, D, K, ad0, E0) => ∀ (H : Heap) (locs : List Loc) (la : Array Slot) (q : Addr) (ce : Cell), Rp D ad E H → Ij ad E → Nw ad0 E0 s.heap.size ad E → va_S (AA ad0 E0 s.heap.size) s.heap H locs → lv_has la c.maxLocals (lvl 0 ls) → H[q]? = some ce → ce.vm = .none → s.vm.findClass En = some ce.cls → vx_W p l e R s m args below meth c H locs cs ss Q (F0 m pc la rest) q
/-- what holds all through a method's walk -/
def Cf (X : Cx) (own : String) (cc : ByteArray) (nL : Nat) (rm : Room) : Prop := match X with
  | (p, l, e, R, s, m, args, below, meth, c, Q, D, K, ad0, E0) => p.tables.exec = Jvm.exec ∧ c.code = cc ∧ c.maxLocals = nL ∧ s.vm.findClass own = some m.cls ∧ (∀ w ∈ lw_good, w.before args s = true) ∧ va_K D vwCl (tysOf K) s ∧ l.stackTraces = false ∧ meth.locks = false ∧ R = rm ∧ Ev K (AA ad0 E0 s.heap.size) s s.heap
/-- what its end owes -/
def Ce (X : Cx) (ret : Option FieldType) (post : Out → Adr → Dic → Prop) (mc ms : Nat) : Prop := match X with
  | (p, l, e, R, s, m, args, below, meth, c, Q, D, K, ad0, E0) => meth.sig.returnType = ret ∧ Q = vx_MQ below (Qf D ad0 E0 s.heap.size post) (Xf D ad0 E0 s.heap.size post) args s mc ms (AA ad0 E0 s.heap.size)
/-- a constructor -/
def Ci (X : Cx) : Prop := match X with
  | (p, l, e, R, s, m, args, below, meth, c, Q, D, K, ad0, E0) => meth.name = "<init>"
/-- no handler -/
def Ch (X : Cx) : Prop := match X with
  | (p, l, e, R, s, m, args, below, meth, c, Q, D, K, ad0, E0) => ∀ x ∈ c.exceptionTable.toList, False

theorem V_iconst {X : Cx} {own : String} {cc : ByteArray} {nL : Nat} {rm : Room} (hf : Cf X own cc nL rm) {ad : Adr} {E : Dic} {pc : Nat} {ls : Ls} {st : List Value} {cs ss : Nat} {n : Int} (hdg : decode cc pc = .ok (.iconst n, 1)) (k : V X ad E (pc + 1) ls (.int (iN n) :: st) cs ss) : V X ad E pc ls st cs ss := by
  obtain ⟨p, l, e, R, s, m, args, below, meth, c, Q, D, K, ad0, E0⟩ := X
  obtain ⟨hx, hb, hml, hown, hts, hK, hl0, hlk, hR0, hEv⟩ := hf
  intro H locs la hR hI hN hS hl
  exact lv_iconst hx hb hdg rfl (k H locs la hR hI hN hS hl)

theorem V_bipush {X : Cx} {own : String} {cc : ByteArray} {nL : Nat} {rm : Room} (hf : Cf X own cc nL rm) {ad : Adr} {E : Dic} {pc : Nat} {ls : Ls} {st : List Value} {cs ss : Nat} {n : Int} (hdg : decode cc pc = .ok (.bipush n, 2)) (hv : (Int8.ofInt n).toInt32 = iN n) (k : V X ad E (pc + 2) ls (.int (iN n) :: st) cs ss) : V X ad E pc ls st cs ss := by
  obtain ⟨p, l, e, R, s, m, args, below, meth, c, Q, D, K, ad0, E0⟩ := X
  obtain ⟨hx, hb, hml, hown, hts, hK, hl0, hlk, hR0, hEv⟩ := hf
  intro H locs la hR hI hN hS hl
  exact lv_bipush hx hb hdg hv (k H locs la hR hI hN hS hl)

theorem V_sipush {X : Cx} {own : String} {cc : ByteArray} {nL : Nat} {rm : Room} (hf : Cf X own cc nL rm) {ad : Adr} {E : Dic} {pc : Nat} {ls : Ls} {st : List Value} {cs ss : Nat} {n : Int} (hdg : decode cc pc = .ok (.sipush n, 3)) (hv : (Int16.ofInt n).toInt32 = iN n) (k : V X ad E (pc + 3) ls (.int (iN n) :: st) cs ss) : V X ad E pc ls st cs ss := by
  obtain ⟨p, l, e, R, s, m, args, below, meth, c, Q, D, K, ad0, E0⟩ := X
  obtain ⟨hx, hb, hml, hown, hts, hK, hl0, hlk, hR0, hEv⟩ := hf
  intro H locs la hR hI hN hS hl
  exact lv_sipush hx hb hdg hv (k H locs la hR hI hN hS hl)

theorem V_iload_n {X : Cx} {own : String} {cc : ByteArray} {nL : Nat} {rm : Room} (hf : Cf X own cc nL rm) {ad : Adr} {E : Dic} {pc : Nat} {ls : Ls} {st : List Value} {cs ss : Nat} {k : Fin 4} {i : Nat} {x : Int32} (hdg : decode cc pc = .ok (.iload_n k, 1)) (hi : (k : Nat) = i) (hv : ls[i]? = some (some (.int x))) (kk : V X ad E (pc + 1) ls (.int x :: st) cs ss) : V X ad E pc ls st cs ss := by
  obtain ⟨p, l, e, R, s, m, args, below, meth, c, Q, D, K, ad0, E0⟩ := X
  obtain ⟨hx, hb, hml, hown, hts, hK, hl0, hlk, hR0, hEv⟩ := hf
  intro H locs la hR hI hN hS hl
  exact lv_iload_n hx hb hdg hi (lvl_at hl hv) (kk H locs la hR hI hN hS hl)

theorem V_iload {X : Cx} {own : String} {cc : ByteArray} {nL : Nat} {rm : Room} (hf : Cf X own cc nL rm) {ad : Adr} {E : Dic} {pc : Nat} {ls : Ls} {st : List Value} {cs ss : Nat} {i : Nat} {x : Int32} (hdg : decode cc pc = .ok (.iload i, 2)) (hv : ls[i]? = some (some (.int x))) (kk : V X ad E (pc + 2) ls (.int x :: st) cs ss) : V X ad E pc ls st cs ss := by
  obtain ⟨p, l, e, R, s, m, args, below, meth, c, Q, D, K, ad0, E0⟩ := X
  obtain ⟨hx, hb, hml, hown, hts, hK, hl0, hlk, hR0, hEv⟩ := hf
  intro H locs la hR hI hN hS hl
  exact lv_iload hx hb hdg (lvl_at hl hv) (kk H locs la hR hI hN hS hl)

theorem V_aload_n {X : Cx} {own : String} {cc : ByteArray} {nL : Nat} {rm : Room} (hf : Cf X own cc nL rm) {ad : Adr} {E : Dic} {pc : Nat} {ls : Ls} {st : List Value} {cs ss : Nat} {k : Fin 4} {i : Nat} {x : Nat} (hdg : decode cc pc = .ok (.aload_n k, 1)) (hi : (k : Nat) = i) (hv : ls[i]? = some (some (.ref x))) (kk : V X ad E (pc + 1) ls (.ref x :: st) cs ss) : V X ad E pc ls st cs ss := by
  obtain ⟨p, l, e, R, s, m, args, below, meth, c, Q, D, K, ad0, E0⟩ := X
  obtain ⟨hx, hb, hml, hown, hts, hK, hl0, hlk, hR0, hEv⟩ := hf
  intro H locs la hR hI hN hS hl
  exact lv_aload_n hx hb hdg hi (lvl_at hl hv) (kk H locs la hR hI hN hS hl)

theorem V_aload {X : Cx} {own : String} {cc : ByteArray} {nL : Nat} {rm : Room} (hf : Cf X own cc nL rm) {ad : Adr} {E : Dic} {pc : Nat} {ls : Ls} {st : List Value} {cs ss : Nat} {i : Nat} {x : Nat} (hdg : decode cc pc = .ok (.aload i, 2)) (hv : ls[i]? = some (some (.ref x))) (kk : V X ad E (pc + 2) ls (.ref x :: st) cs ss) : V X ad E pc ls st cs ss := by
  obtain ⟨p, l, e, R, s, m, args, below, meth, c, Q, D, K, ad0, E0⟩ := X
  obtain ⟨hx, hb, hml, hown, hts, hK, hl0, hlk, hR0, hEv⟩ := hf
  intro H locs la hR hI hN hS hl
  exact lv_aload hx hb hdg (lvl_at hl hv) (kk H locs la hR hI hN hS hl)

theorem V_lload_n {X : Cx} {own : String} {cc : ByteArray} {nL : Nat} {rm : Room} (hf : Cf X own cc nL rm) {ad : Adr} {E : Dic} {pc : Nat} {ls : Ls} {st : List Value} {cs ss : Nat} {k : Fin 4} {i : Nat} {x : Int64} (hdg : decode cc pc = .ok (.lload_n k, 1)) (hi : (k : Nat) = i) (hv : ls[i]? = some (some (.long x))) (kk : V X ad E (pc + 1) ls (.long x :: st) cs ss) : V X ad E pc ls st cs ss := by
  obtain ⟨p, l, e, R, s, m, args, below, meth, c, Q, D, K, ad0, E0⟩ := X
  obtain ⟨hx, hb, hml, hown, hts, hK, hl0, hlk, hR0, hEv⟩ := hf
  intro H locs la hR hI hN hS hl
  exact lv_lload_n hx hb hdg hi (lvl_at hl hv) (kk H locs la hR hI hN hS hl)

theorem V_lload {X : Cx} {own : String} {cc : ByteArray} {nL : Nat} {rm : Room} (hf : Cf X own cc nL rm) {ad : Adr} {E : Dic} {pc : Nat} {ls : Ls} {st : List Value} {cs ss : Nat} {i : Nat} {x : Int64} (hdg : decode cc pc = .ok (.lload i, 2)) (hv : ls[i]? = some (some (.long x))) (kk : V X ad E (pc + 2) ls (.long x :: st) cs ss) : V X ad E pc ls st cs ss := by
  obtain ⟨p, l, e, R, s, m, args, below, meth, c, Q, D, K, ad0, E0⟩ := X
  obtain ⟨hx, hb, hml, hown, hts, hK, hl0, hlk, hR0, hEv⟩ := hf
  intro H locs la hR hI hN hS hl
  exact lv_lload hx hb hdg (lvl_at hl hv) (kk H locs la hR hI hN hS hl)

theorem V_fload_n {X : Cx} {own : String} {cc : ByteArray} {nL : Nat} {rm : Room} (hf : Cf X own cc nL rm) {ad : Adr} {E : Dic} {pc : Nat} {ls : Ls} {st : List Value} {cs ss : Nat} {k : Fin 4} {i : Nat} {x : UInt32} (hdg : decode cc pc = .ok (.fload_n k, 1)) (hi : (k : Nat) = i) (hv : ls[i]? = some (some (.float x))) (kk : V X ad E (pc + 1) ls (.float x :: st) cs ss) : V X ad E pc ls st cs ss := by
  obtain ⟨p, l, e, R, s, m, args, below, meth, c, Q, D, K, ad0, E0⟩ := X
  obtain ⟨hx, hb, hml, hown, hts, hK, hl0, hlk, hR0, hEv⟩ := hf
  intro H locs la hR hI hN hS hl
  exact lv_fload_n hx hb hdg hi (lvl_at hl hv) (kk H locs la hR hI hN hS hl)

theorem V_fload {X : Cx} {own : String} {cc : ByteArray} {nL : Nat} {rm : Room} (hf : Cf X own cc nL rm) {ad : Adr} {E : Dic} {pc : Nat} {ls : Ls} {st : List Value} {cs ss : Nat} {i : Nat} {x : UInt32} (hdg : decode cc pc = .ok (.fload i, 2)) (hv : ls[i]? = some (some (.float x))) (kk : V X ad E (pc + 2) ls (.float x :: st) cs ss) : V X ad E pc ls st cs ss := by
  obtain ⟨p, l, e, R, s, m, args, below, meth, c, Q, D, K, ad0, E0⟩ := X
  obtain ⟨hx, hb, hml, hown, hts, hK, hl0, hlk, hR0, hEv⟩ := hf
  intro H locs la hR hI hN hS hl
  exact lv_fload hx hb hdg (lvl_at hl hv) (kk H locs la hR hI hN hS hl)

theorem V_dload_n {X : Cx} {own : String} {cc : ByteArray} {nL : Nat} {rm : Room} (hf : Cf X own cc nL rm) {ad : Adr} {E : Dic} {pc : Nat} {ls : Ls} {st : List Value} {cs ss : Nat} {k : Fin 4} {i : Nat} {x : UInt64} (hdg : decode cc pc = .ok (.dload_n k, 1)) (hi : (k : Nat) = i) (hv : ls[i]? = some (some (.double x))) (kk : V X ad E (pc + 1) ls (.double x :: st) cs ss) : V X ad E pc ls st cs ss := by
  obtain ⟨p, l, e, R, s, m, args, below, meth, c, Q, D, K, ad0, E0⟩ := X
  obtain ⟨hx, hb, hml, hown, hts, hK, hl0, hlk, hR0, hEv⟩ := hf
  intro H locs la hR hI hN hS hl
  exact lv_dload_n hx hb hdg hi (lvl_at hl hv) (kk H locs la hR hI hN hS hl)

theorem V_dload {X : Cx} {own : String} {cc : ByteArray} {nL : Nat} {rm : Room} (hf : Cf X own cc nL rm) {ad : Adr} {E : Dic} {pc : Nat} {ls : Ls} {st : List Value} {cs ss : Nat} {i : Nat} {x : UInt64} (hdg : decode cc pc = .ok (.dload i, 2)) (hv : ls[i]? = some (some (.double x))) (kk : V X ad E (pc + 2) ls (.double x :: st) cs ss) : V X ad E pc ls st cs ss := by
  obtain ⟨p, l, e, R, s, m, args, below, meth, c, Q, D, K, ad0, E0⟩ := X
  obtain ⟨hx, hb, hml, hown, hts, hK, hl0, hlk, hR0, hEv⟩ := hf
  intro H locs la hR hI hN hS hl
  exact lv_dload hx hb hdg (lvl_at hl hv) (kk H locs la hR hI hN hS hl)

theorem V_istore_n {X : Cx} {own : String} {cc : ByteArray} {nL : Nat} {rm : Room} (hf : Cf X own cc nL rm) {ad : Adr} {E : Dic} {pc : Nat} {ls : Ls} {st : List Value} {cs ss : Nat} {k : Fin 4} {i : Nat} {x : Int32} {ls2 : Ls} (hdg : decode cc pc = .ok (.istore_n k, 1)) (hi : (k : Nat) = i) (hn : i < nL) (hok : lok ls i = true) (he : ls.set i (some (.int x)) = ls2) (kk : V X ad E (pc + 1) ls2 st cs ss) : V X ad E pc ls (.int x :: st) cs ss := by
  obtain ⟨p, l, e, R, s, m, args, below, meth, c, Q, D, K, ad0, E0⟩ := X
  obtain ⟨hx, hb, hml, hown, hts, hK, hl0, hlk, hR0, hEv⟩ := hf
  intro H locs la hR hI hN hS hl
  subst he
  exact lv_istore_n hx hb hdg hi hl (by rw [hml]; exact hn) rfl (fun la2 hl2 => kk H locs la2 hR hI hN hS (lvl_sub hl2 (lvl_st1 hok)))

theorem V_istore {X : Cx} {own : String} {cc : ByteArray} {nL : Nat} {rm : Room} (hf : Cf X own cc nL rm) {ad : Adr} {E : Dic} {pc : Nat} {ls : Ls} {st : List Value} {cs ss : Nat} {i : Nat} {x : Int32} {ls2 : Ls} (hdg : decode cc pc = .ok (.istore i, 2)) (hn : i < nL) (hok : lok ls i = true) (he : ls.set i (some (.int x)) = ls2) (kk : V X ad E (pc + 2) ls2 st cs ss) : V X ad E pc ls (.int x :: st) cs ss := by
  obtain ⟨p, l, e, R, s, m, args, below, meth, c, Q, D, K, ad0, E0⟩ := X
  obtain ⟨hx, hb, hml, hown, hts, hK, hl0, hlk, hR0, hEv⟩ := hf
  intro H locs la hR hI hN hS hl
  subst he
  exact lv_istore hx hb hdg hl (by rw [hml]; exact hn) rfl (fun la2 hl2 => kk H locs la2 hR hI hN hS (lvl_sub hl2 (lvl_st1 hok)))

theorem V_astore_n {X : Cx} {own : String} {cc : ByteArray} {nL : Nat} {rm : Room} (hf : Cf X own cc nL rm) {ad : Adr} {E : Dic} {pc : Nat} {ls : Ls} {st : List Value} {cs ss : Nat} {k : Fin 4} {i : Nat} {x : Nat} {ls2 : Ls} (hdg : decode cc pc = .ok (.astore_n k, 1)) (hi : (k : Nat) = i) (hn : i < nL) (hok : lok ls i = true) (he : ls.set i (some (.ref x)) = ls2) (kk : V X ad E (pc + 1) ls2 st cs ss) : V X ad E pc ls (.ref x :: st) cs ss := by
  obtain ⟨p, l, e, R, s, m, args, below, meth, c, Q, D, K, ad0, E0⟩ := X
  obtain ⟨hx, hb, hml, hown, hts, hK, hl0, hlk, hR0, hEv⟩ := hf
  intro H locs la hR hI hN hS hl
  subst he
  exact lv_astore_n hx hb hdg hi hl (by rw [hml]; exact hn) rfl (fun la2 hl2 => kk H locs la2 hR hI hN hS (lvl_sub hl2 (lvl_st1 hok)))

theorem V_astore {X : Cx} {own : String} {cc : ByteArray} {nL : Nat} {rm : Room} (hf : Cf X own cc nL rm) {ad : Adr} {E : Dic} {pc : Nat} {ls : Ls} {st : List Value} {cs ss : Nat} {i : Nat} {x : Nat} {ls2 : Ls} (hdg : decode cc pc = .ok (.astore i, 2)) (hn : i < nL) (hok : lok ls i = true) (he : ls.set i (some (.ref x)) = ls2) (kk : V X ad E (pc + 2) ls2 st cs ss) : V X ad E pc ls (.ref x :: st) cs ss := by
  obtain ⟨p, l, e, R, s, m, args, below, meth, c, Q, D, K, ad0, E0⟩ := X
  obtain ⟨hx, hb, hml, hown, hts, hK, hl0, hlk, hR0, hEv⟩ := hf
  intro H locs la hR hI hN hS hl
  subst he
  exact lv_astore hx hb hdg hl (by rw [hml]; exact hn) rfl (fun la2 hl2 => kk H locs la2 hR hI hN hS (lvl_sub hl2 (lvl_st1 hok)))

theorem V_fstore_n {X : Cx} {own : String} {cc : ByteArray} {nL : Nat} {rm : Room} (hf : Cf X own cc nL rm) {ad : Adr} {E : Dic} {pc : Nat} {ls : Ls} {st : List Value} {cs ss : Nat} {k : Fin 4} {i : Nat} {x : UInt32} {ls2 : Ls} (hdg : decode cc pc = .ok (.fstore_n k, 1)) (hi : (k : Nat) = i) (hn : i < nL) (hok : lok ls i = true) (he : ls.set i (some (.float x)) = ls2) (kk : V X ad E (pc + 1) ls2 st cs ss) : V X ad E pc ls (.float x :: st) cs ss := by
  obtain ⟨p, l, e, R, s, m, args, below, meth, c, Q, D, K, ad0, E0⟩ := X
  obtain ⟨hx, hb, hml, hown, hts, hK, hl0, hlk, hR0, hEv⟩ := hf
  intro H locs la hR hI hN hS hl
  subst he
  exact lv_fstore_n hx hb hdg hi hl (by rw [hml]; exact hn) rfl (fun la2 hl2 => kk H locs la2 hR hI hN hS (lvl_sub hl2 (lvl_st1 hok)))

theorem V_fstore {X : Cx} {own : String} {cc : ByteArray} {nL : Nat} {rm : Room} (hf : Cf X own cc nL rm) {ad : Adr} {E : Dic} {pc : Nat} {ls : Ls} {st : List Value} {cs ss : Nat} {i : Nat} {x : UInt32} {ls2 : Ls} (hdg : decode cc pc = .ok (.fstore i, 2)) (hn : i < nL) (hok : lok ls i = true) (he : ls.set i (some (.float x)) = ls2) (kk : V X ad E (pc + 2) ls2 st cs ss) : V X ad E pc ls (.float x :: st) cs ss := by
  obtain ⟨p, l, e, R, s, m, args, below, meth, c, Q, D, K, ad0, E0⟩ := X
  obtain ⟨hx, hb, hml, hown, hts, hK, hl0, hlk, hR0, hEv⟩ := hf
  intro H locs la hR hI hN hS hl
  subst he
  exact lv_fstore hx hb hdg hl (by rw [hml]; exact hn) rfl (fun la2 hl2 => kk H locs la2 hR hI hN hS (lvl_sub hl2 (lvl_st1 hok)))

theorem lv_iinc0 {p : Program} {l : Launch} {e : Env} {R : Room} {s : State} {m : MethodId} {args : Array Value} {below : List Frame} {meth : Method} {c : Code} {H : Heap} {locs : List Loc} {cells slots : Nat} {Q : State → Prop} {cc : ByteArray} {pc : Nat} {ls : Array Slot} {rest : List Value} (hexec : p.tables.exec = Jvm.exec) (hb : c.code = cc) {i nL : Nat} {n : Int} {x v : Int32} {lv : List (Nat × Value)} (hdg : decode cc pc = .ok (.iinc i n, 3)) (h : lv_has ls nL lv) (hm : (i, Value.int x) ∈ lv) (hv : x + Int32.ofInt n = v) (hn : i < nL)
    (kk : ∀ ls' : Array Slot, lv_has ls' nL ((i, Value.int v) :: lv.filter (fun q => !(q.1 == i) && !(q.1 + 1 == i && q.2.category == 2))) → W p l e R s m args below meth c H locs cells slots Q (F0 m (pc + 3) ls' rest)) : W p l e R s m args below meth c H locs cells slots Q (F0 m pc ls rest) := by
  obtain ⟨k, hk⟩ := List.getElem?_of_mem hm
  exact lv_iinc hexec hb hdg h hk hv hn rfl kk

theorem V_iinc {X : Cx} {own : String} {cc : ByteArray} {nL : Nat} {rm : Room} (hf : Cf X own cc nL rm) {ad : Adr} {E : Dic} {pc : Nat} {ls : Ls} {st : List Value} {cs ss : Nat} {i : Nat} {n z : Int} {ls2 : Ls} (hdg : decode cc pc = .ok (.iinc i n, 3)) (hn : i < nL) (hv : ls[i]? = some (some (.int (iN z)))) (hok : lok ls i = true) (he : ls.set i (some (.int (iN (z + n)))) = ls2) (kk : V X ad E (pc + 3) ls2 st cs ss) : V X ad E pc ls st cs ss := by
  obtain ⟨p, l, e, R, s, m, args, below, meth, c, Q, D, K, ad0, E0⟩ := X
  obtain ⟨hx, hb, hml, hown, hts, hK, hl0, hlk, hR0, hEv⟩ := hf
  intro H locs la hR hI hN hS hl
  subst he
  have hm := lvl_mem ls 0 i _ hv
  rw [Nat.zero_add] at hm
  exact lv_iinc0 hx hb hdg hl hm (iN_add z n) (by rw [hml]; exact hn) (fun la2 hl2 => kk H locs la2 hR hI hN hS (lvl_sub hl2 (lvl_st1 hok)))

theorem iN_div {a b : Int} (ha : inR a) (ha0 : 0 ≤ a) (hb0 : 0 < b) (hb : inR b) : iN a / iN b = iN (a / b) := by
  obtain ⟨n, rfl⟩ := Int.eq_ofNat_of_zero_le ha0
  obtain ⟨m, rfl⟩ := Int.eq_ofNat_of_zero_le (Int.le_of_lt hb0)
  have h1 : n < 2 ^ 31 := by have := ha.2; omega
  have h2 : m < 2 ^ 31 := by have := hb.2; omega
  have h := pk_div (a := n) (d := m) h1 (by omega) h2
  exact h
theorem iN_rem {a b : Int} (ha : inR a) (ha0 : 0 ≤ a) (hb0 : 0 < b) (hb : inR b) : iN a - iN a / iN b * iN b = iN (a % b) := by
  rw [iN_div ha ha0 hb0 hb, iN_mul, iN_sub]
  congr 1
  have := Int.mul_ediv_add_emod a b
  rw [Int.mul_comm] at this
  omega

theorem V_iadd {X : Cx} {own : String} {cc : ByteArray} {nL : Nat} {rm : Room} (hf : Cf X own cc nL rm) {ad : Adr} {E : Dic} {pc : Nat} {ls : Ls} {st : List Value} {cs ss : Nat} {a b : Int} (hdg : decode cc pc = .ok (.iadd, 1)) (kk : V X ad E (pc + 1) ls (.int (iN (a + b)) :: st) cs ss) : V X ad E pc ls (.int (iN b) :: .int (iN a) :: st) cs ss := by
  obtain ⟨p, l, e, R, s, m, args, below, meth, c, Q, D, K, ad0, E0⟩ := X
  obtain ⟨hx, hb, hml, hown, hts, hK, hl0, hlk, hR0, hEv⟩ := hf
  intro H locs la hR hI hN hS hl
  refine lv_iadd hx hb hdg ?_
  rw [iN_add]
  exact kk H locs la hR hI hN hS hl

theorem V_isub {X : Cx} {own : String} {cc : ByteArray} {nL : Nat} {rm : Room} (hf : Cf X own cc nL rm) {ad : Adr} {E : Dic} {pc : Nat} {ls : Ls} {st : List Value} {cs ss : Nat} {a b : Int} (hdg : decode cc pc = .ok (.isub, 1)) (kk : V X ad E (pc + 1) ls (.int (iN (a - b)) :: st) cs ss) : V X ad E pc ls (.int (iN b) :: .int (iN a) :: st) cs ss := by
  obtain ⟨p, l, e, R, s, m, args, below, meth, c, Q, D, K, ad0, E0⟩ := X
  obtain ⟨hx, hb, hml, hown, hts, hK, hl0, hlk, hR0, hEv⟩ := hf
  intro H locs la hR hI hN hS hl
  refine lv_isub hx hb hdg ?_
  rw [iN_sub]
  exact kk H locs la hR hI hN hS hl

theorem V_imul {X : Cx} {own : String} {cc : ByteArray} {nL : Nat} {rm : Room} (hf : Cf X own cc nL rm) {ad : Adr} {E : Dic} {pc : Nat} {ls : Ls} {st : List Value} {cs ss : Nat} {a b : Int} (hdg : decode cc pc = .ok (.imul, 1)) (kk : V X ad E (pc + 1) ls (.int (iN (a * b)) :: st) cs ss) : V X ad E pc ls (.int (iN b) :: .int (iN a) :: st) cs ss := by
  obtain ⟨p, l, e, R, s, m, args, below, meth, c, Q, D, K, ad0, E0⟩ := X
  obtain ⟨hx, hb, hml, hown, hts, hK, hl0, hlk, hR0, hEv⟩ := hf
  intro H locs la hR hI hN hS hl
  refine lv_imul hx hb hdg ?_
  rw [iN_mul]
  exact kk H locs la hR hI hN hS hl

theorem V_ineg {X : Cx} {own : String} {cc : ByteArray} {nL : Nat} {rm : Room} (hf : Cf X own cc nL rm) {ad : Adr} {E : Dic} {pc : Nat} {ls : Ls} {st : List Value} {cs ss : Nat} {a : Int} (hdg : decode cc pc = .ok (.ineg, 1)) (kk : V X ad E (pc + 1) ls (.int (iN (-a)) :: st) cs ss) : V X ad E pc ls (.int (iN a) :: st) cs ss := by
  obtain ⟨p, l, e, R, s, m, args, below, meth, c, Q, D, K, ad0, E0⟩ := X
  obtain ⟨hx, hb, hml, hown, hts, hK, hl0, hlk, hR0, hEv⟩ := hf
  intro H locs la hR hI hN hS hl
  refine lv_ineg hx hb hdg ?_
  rw [iN_neg]
  exact kk H locs la hR hI hN hS hl

theorem V_idiv {X : Cx} {own : String} {cc : ByteArray} {nL : Nat} {rm : Room} (hf : Cf X own cc nL rm) {ad : Adr} {E : Dic} {pc : Nat} {ls : Ls} {st : List Value} {cs ss : Nat} {a b : Int} (ha : inR a) (ha0 : 0 ≤ a) (hb0 : 0 < b) (hbR : inR b) (hdg : decode cc pc = .ok (.idiv, 1)) (kk : V X ad E (pc + 1) ls (.int (iN (a / b)) :: st) cs ss) : V X ad E pc ls (.int (iN b) :: .int (iN a) :: st) cs ss := by
  obtain ⟨p, l, e, R, s, m, args, below, meth, c, Q, D, K, ad0, E0⟩ := X
  obtain ⟨hx, hb, hml, hown, hts, hK, hl0, hlk, hR0, hEv⟩ := hf
  intro H locs la hR hI hN hS hl
  refine lv_idiv hx hb hdg (fun q => by rw [← iN_0, iN_eq hbR ⟨by decide, by decide⟩] at q; omega) ?_
  rw [iN_div ha ha0 hb0 hbR]
  exact kk H locs la hR hI hN hS hl

theorem V_irem {X : Cx} {own : String} {cc : ByteArray} {nL : Nat} {rm : Room} (hf : Cf X own cc nL rm) {ad : Adr} {E : Dic} {pc : Nat} {ls : Ls} {st : List Value} {cs ss : Nat} {a b : Int} (ha : inR a) (ha0 : 0 ≤ a) (hb0 : 0 < b) (hbR : inR b) (hdg : decode cc pc = .ok (.irem, 1)) (kk : V X ad E (pc + 1) ls (.int (iN (a % b)) :: st) cs ss) : V X ad E pc ls (.int (iN b) :: .int (iN a) :: st) cs ss := by
  obtain ⟨p, l, e, R, s, m, args, below, meth, c, Q, D, K, ad0, E0⟩ := X
  obtain ⟨hx, hb, hml, hown, hts, hK, hl0, hlk, hR0, hEv⟩ := hf
  intro H locs la hR hI hN hS hl
  refine lv_irem hx hb hdg (fun q => by rw [← iN_0, iN_eq hbR ⟨by decide, by decide⟩] at q; omega) ?_
  rw [iN_rem ha ha0 hb0 hbR]
  exact kk H locs la hR hI hN hS hl

theorem V_dup {X : Cx} {own : String} {cc : ByteArray} {nL : Nat} {rm : Room} (hf : Cf X own cc nL rm) {ad : Adr} {E : Dic} {pc : Nat} {ls : Ls} {st : List Value} {cs ss : Nat} {v : Value} (hdg : decode cc pc = .ok (.dup, 1)) (hv : v.category = 1) (kk : V X ad E (pc + 1) ls (v :: v :: st) cs ss) : V X ad E pc ls (v :: st) cs ss := by
  obtain ⟨p, l, e, R, s, m, args, below, meth, c, Q, D, K, ad0, E0⟩ := X
  obtain ⟨hx, hb, hml, hown, hts, hK, hl0, hlk, hR0, hEv⟩ := hf
  intro H locs la hR hI hN hS hl
  exact lv_dup hx hb hdg hv (kk H locs la hR hI hN hS hl)

theorem V_pop {X : Cx} {own : String} {cc : ByteArray} {nL : Nat} {rm : Room} (hf : Cf X own cc nL rm) {ad : Adr} {E : Dic} {pc : Nat} {ls : Ls} {st : List Value} {cs ss : Nat} {v : Value} (hdg : decode cc pc = .ok (.pop, 1)) (hv : v.category = 1) (kk : V X ad E (pc + 1) ls st cs ss) : V X ad E pc ls (v :: st) cs ss := by
  obtain ⟨p, l, e, R, s, m, args, below, meth, c, Q, D, K, ad0, E0⟩ := X
  obtain ⟨hx, hb, hml, hown, hts, hK, hl0, hlk, hR0, hEv⟩ := hf
  intro H locs la hR hI hN hS hl
  exact lv_pop hx hb hdg hv (kk H locs la hR hI hN hS hl)

theorem V_dup_x1 {X : Cx} {own : String} {cc : ByteArray} {nL : Nat} {rm : Room} (hf : Cf X own cc nL rm) {ad : Adr} {E : Dic} {pc : Nat} {ls : Ls} {st : List Value} {cs ss : Nat} {v w : Value} (hdg : decode cc pc = .ok (.dup_x1, 1)) (hv : v.category = 1) (hw : w.category = 1) (kk : V X ad E (pc + 1) ls (v :: w :: v :: st) cs ss) : V X ad E pc ls (v :: w :: st) cs ss := by
  obtain ⟨p, l, e, R, s, m, args, below, meth, c, Q, D, K, ad0, E0⟩ := X
  obtain ⟨hx, hb, hml, hown, hts, hK, hl0, hlk, hR0, hEv⟩ := hf
  intro H locs la hR hI hN hS hl
  exact lv_dup_x1 hx hb hdg hv hw (kk H locs la hR hI hN hS hl)

theorem V_dup_x2 {X : Cx} {own : String} {cc : ByteArray} {nL : Nat} {rm : Room} (hf : Cf X own cc nL rm) {ad : Adr} {E : Dic} {pc : Nat} {ls : Ls} {st : List Value} {cs ss : Nat} {v w u : Value} (hdg : decode cc pc = .ok (.dup_x2, 1)) (hv : v.category = 1) (hw : w.category = 1) (hu : u.category = 1) (kk : V X ad E (pc + 1) ls (v :: w :: u :: v :: st) cs ss) : V X ad E pc ls (v :: w :: u :: st) cs ss := by
  obtain ⟨p, l, e, R, s, m, args, below, meth, c, Q, D, K, ad0, E0⟩ := X
  obtain ⟨hx, hb, hml, hown, hts, hK, hl0, hlk, hR0, hEv⟩ := hf
  intro H locs la hR hI hN hS hl
  exact lv_dup_x2 hx hb hdg hv hw hu (kk H locs la hR hI hN hS hl)

theorem V_dup2 {X : Cx} {own : String} {cc : ByteArray} {nL : Nat} {rm : Room} (hf : Cf X own cc nL rm) {ad : Adr} {E : Dic} {pc : Nat} {ls : Ls} {st : List Value} {cs ss : Nat} {v w : Value} (hdg : decode cc pc = .ok (.dup2, 1)) (hv : v.category = 1) (hw : w.category = 1) (kk : V X ad E (pc + 1) ls (v :: w :: v :: w :: st) cs ss) : V X ad E pc ls (v :: w :: st) cs ss := by
  obtain ⟨p, l, e, R, s, m, args, below, meth, c, Q, D, K, ad0, E0⟩ := X
  obtain ⟨hx, hb, hml, hown, hts, hK, hl0, hlk, hR0, hEv⟩ := hf
  intro H locs la hR hI hN hS hl
  exact lv_dup2_11 hx hb hdg hv hw (kk H locs la hR hI hN hS hl)

theorem V_icmp_eq {X : Cx} {own : String} {cc : ByteArray} {nL : Nat} {rm : Room} (hf : Cf X own cc nL rm) {ad : Adr} {E : Dic} {pc : Nat} {ls : Ls} {st : List Value} {cs ss : Nat} {a b off : Int} {tgt : Nat} (ha : inR a) (hbR : inR b) (hdg : decode cc pc = .ok (.if_icmp .eq off, 3)) (ht : (pc : Int) + off = (tgt : Int)) (kt : a = b → V X ad E tgt ls st cs ss) (kf : ¬ a = b → V X ad E (pc + 3) ls st cs ss) : V X ad E pc ls (.int (iN b) :: .int (iN a) :: st) cs ss := by
  obtain ⟨p, l, e, R, s, m, args, below, meth, c, Q, D, K, ad0, E0⟩ := X
  obtain ⟨hx, hb, hml, hown, hts, hK, hl0, hlk, hR0, hEv⟩ := hf
  intro H locs la hR hI hN hS hl
  refine lv_icmp_eq hx hb hdg ht (fun q => kt (by have q2 := q; simp only [iN_eq ha hbR, Int32.not_lt, Int32.not_le, ge_iff_le, gt_iff_lt, iN_lt ha hbR, iN_le ha hbR, iN_lt hbR ha, iN_le hbR ha, Decidable.not_not] at q2; omega) H locs la hR hI hN hS hl) (fun q => kf (by have q2 := q; simp only [iN_eq ha hbR, Int32.not_lt, Int32.not_le, ge_iff_le, gt_iff_lt, iN_lt ha hbR, iN_le ha hbR, iN_lt hbR ha, iN_le hbR ha, Decidable.not_not] at q2; omega) H locs la hR hI hN hS hl)

theorem V_if_eq {X : Cx} {own : String} {cc : ByteArray} {nL : Nat} {rm : Room} (hf : Cf X own cc nL rm) {ad : Adr} {E : Dic} {pc : Nat} {ls : Ls} {st : List Value} {cs ss : Nat} {a off : Int} {tgt : Nat} (ha : inR a) (hdg : decode cc pc = .ok (.ifCond .eq off, 3)) (ht : (pc : Int) + off = (tgt : Int)) (kt : a = 0 → V X ad E tgt ls st cs ss) (kf : ¬ a = 0 → V X ad E (pc + 3) ls st cs ss) : V X ad E pc ls (.int (iN a) :: st) cs ss := by
  obtain ⟨p, l, e, R, s, m, args, below, meth, c, Q, D, K, ad0, E0⟩ := X
  obtain ⟨hx, hb, hml, hown, hts, hK, hl0, hlk, hR0, hEv⟩ := hf
  intro H locs la hR hI hN hS hl
  have hbR : inR (0 : Int) := ⟨by decide, by decide⟩
  refine lv_if_eq hx hb hdg ht (fun q => kt (by have q2 := q; simp only [← iN_0, iN_eq ha hbR, Int32.not_lt, Int32.not_le, ge_iff_le, gt_iff_lt, iN_lt ha hbR, iN_le ha hbR, iN_lt hbR ha, iN_le hbR ha, Decidable.not_not] at q2; omega) H locs la hR hI hN hS hl) (fun q => kf (by have q2 := q; simp only [← iN_0, iN_eq ha hbR, Int32.not_lt, Int32.not_le, ge_iff_le, gt_iff_lt, iN_lt ha hbR, iN_le ha hbR, iN_lt hbR ha, iN_le hbR ha, Decidable.not_not] at q2; omega) H locs la hR hI hN hS hl)

theorem V_icmp_ne {X : Cx} {own : String} {cc : ByteArray} {nL : Nat} {rm : Room} (hf : Cf X own cc nL rm) {ad : Adr} {E : Dic} {pc : Nat} {ls : Ls} {st : List Value} {cs ss : Nat} {a b off : Int} {tgt : Nat} (ha : inR a) (hbR : inR b) (hdg : decode cc pc = .ok (.if_icmp .ne off, 3)) (ht : (pc : Int) + off = (tgt : Int)) (kt : ¬ a = b → V X ad E tgt ls st cs ss) (kf : a = b → V X ad E (pc + 3) ls st cs ss) : V X ad E pc ls (.int (iN b) :: .int (iN a) :: st) cs ss := by
  obtain ⟨p, l, e, R, s, m, args, below, meth, c, Q, D, K, ad0, E0⟩ := X
  obtain ⟨hx, hb, hml, hown, hts, hK, hl0, hlk, hR0, hEv⟩ := hf
  intro H locs la hR hI hN hS hl
  refine lv_icmp_ne hx hb hdg ht (fun q => kt (by have q2 := q; simp only [iN_eq ha hbR, Int32.not_lt, Int32.not_le, ge_iff_le, gt_iff_lt, iN_lt ha hbR, iN_le ha hbR, iN_lt hbR ha, iN_le hbR ha, Decidable.not_not] at q2; omega) H locs la hR hI hN hS hl) (fun q => kf (by have q2 := q; simp only [iN_eq ha hbR, Int32.not_lt, Int32.not_le, ge_iff_le, gt_iff_lt, iN_lt ha hbR, iN_le ha hbR, iN_lt hbR ha, iN_le hbR ha, Decidable.not_not] at q2; omega) H locs la hR hI hN hS hl)

theorem V_if_ne {X : Cx} {own : String} {cc : ByteArray} {nL : Nat} {rm : Room} (hf : Cf X own cc nL rm) {ad : Adr} {E : Dic} {pc : Nat} {ls : Ls} {st : List Value} {cs ss : Nat} {a off : Int} {tgt : Nat} (ha : inR a) (hdg : decode cc pc = .ok (.ifCond .ne off, 3)) (ht : (pc : Int) + off = (tgt : Int)) (kt : ¬ a = 0 → V X ad E tgt ls st cs ss) (kf : a = 0 → V X ad E (pc + 3) ls st cs ss) : V X ad E pc ls (.int (iN a) :: st) cs ss := by
  obtain ⟨p, l, e, R, s, m, args, below, meth, c, Q, D, K, ad0, E0⟩ := X
  obtain ⟨hx, hb, hml, hown, hts, hK, hl0, hlk, hR0, hEv⟩ := hf
  intro H locs la hR hI hN hS hl
  have hbR : inR (0 : Int) := ⟨by decide, by decide⟩
  refine lv_if_ne hx hb hdg ht (fun q => kt (by have q2 := q; simp only [← iN_0, iN_eq ha hbR, Int32.not_lt, Int32.not_le, ge_iff_le, gt_iff_lt, iN_lt ha hbR, iN_le ha hbR, iN_lt hbR ha, iN_le hbR ha, Decidable.not_not] at q2; omega) H locs la hR hI hN hS hl) (fun q => kf (by have q2 := q; simp only [← iN_0, iN_eq ha hbR, Int32.not_lt, Int32.not_le, ge_iff_le, gt_iff_lt, iN_lt ha hbR, iN_le ha hbR, iN_lt hbR ha, iN_le hbR ha, Decidable.not_not] at q2; omega) H locs la hR hI hN hS hl)

theorem V_icmp_lt {X : Cx} {own : String} {cc : ByteArray} {nL : Nat} {rm : Room} (hf : Cf X own cc nL rm) {ad : Adr} {E : Dic} {pc : Nat} {ls : Ls} {st : List Value} {cs ss : Nat} {a b off : Int} {tgt : Nat} (ha : inR a) (hbR : inR b) (hdg : decode cc pc = .ok (.if_icmp .lt off, 3)) (ht : (pc : Int) + off = (tgt : Int)) (kt : a < b → V X ad E tgt ls st cs ss) (kf : b ≤ a → V X ad E (pc + 3) ls st cs ss) : V X ad E pc ls (.int (iN b) :: .int (iN a) :: st) cs ss := by
  obtain ⟨p, l, e, R, s, m, args, below, meth, c, Q, D, K, ad0, E0⟩ := X
  obtain ⟨hx, hb, hml, hown, hts, hK, hl0, hlk, hR0, hEv⟩ := hf
  intro H locs la hR hI hN hS hl
  refine lv_icmp_lt hx hb hdg ht (fun q => kt (by have q2 := q; simp only [iN_eq ha hbR, Int32.not_lt, Int32.not_le, ge_iff_le, gt_iff_lt, iN_lt ha hbR, iN_le ha hbR, iN_lt hbR ha, iN_le hbR ha, Decidable.not_not] at q2; omega) H locs la hR hI hN hS hl) (fun q => kf (by have q2 := q; simp only [iN_eq ha hbR, Int32.not_lt, Int32.not_le, ge_iff_le, gt_iff_lt, iN_lt ha hbR, iN_le ha hbR, iN_lt hbR ha, iN_le hbR ha, Decidable.not_not] at q2; omega) H locs la hR hI hN hS hl)

theorem V_if_lt {X : Cx} {own : String} {cc : ByteArray} {nL : Nat} {rm : Room} (hf : Cf X own cc nL rm) {ad : Adr} {E : Dic} {pc : Nat} {ls : Ls} {st : List Value} {cs ss : Nat} {a off : Int} {tgt : Nat} (ha : inR a) (hdg : decode cc pc = .ok (.ifCond .lt off, 3)) (ht : (pc : Int) + off = (tgt : Int)) (kt : a < 0 → V X ad E tgt ls st cs ss) (kf : 0 ≤ a → V X ad E (pc + 3) ls st cs ss) : V X ad E pc ls (.int (iN a) :: st) cs ss := by
  obtain ⟨p, l, e, R, s, m, args, below, meth, c, Q, D, K, ad0, E0⟩ := X
  obtain ⟨hx, hb, hml, hown, hts, hK, hl0, hlk, hR0, hEv⟩ := hf
  intro H locs la hR hI hN hS hl
  have hbR : inR (0 : Int) := ⟨by decide, by decide⟩
  refine lv_if_lt hx hb hdg ht (fun q => kt (by have q2 := q; simp only [← iN_0, iN_eq ha hbR, Int32.not_lt, Int32.not_le, ge_iff_le, gt_iff_lt, iN_lt ha hbR, iN_le ha hbR, iN_lt hbR ha, iN_le hbR ha, Decidable.not_not] at q2; omega) H locs la hR hI hN hS hl) (fun q => kf (by have q2 := q; simp only [← iN_0, iN_eq ha hbR, Int32.not_lt, Int32.not_le, ge_iff_le, gt_iff_lt, iN_lt ha hbR, iN_le ha hbR, iN_lt hbR ha, iN_le hbR ha, Decidable.not_not] at q2; omega) H locs la hR hI hN hS hl)

theorem V_icmp_ge {X : Cx} {own : String} {cc : ByteArray} {nL : Nat} {rm : Room} (hf : Cf X own cc nL rm) {ad : Adr} {E : Dic} {pc : Nat} {ls : Ls} {st : List Value} {cs ss : Nat} {a b off : Int} {tgt : Nat} (ha : inR a) (hbR : inR b) (hdg : decode cc pc = .ok (.if_icmp .ge off, 3)) (ht : (pc : Int) + off = (tgt : Int)) (kt : b ≤ a → V X ad E tgt ls st cs ss) (kf : a < b → V X ad E (pc + 3) ls st cs ss) : V X ad E pc ls (.int (iN b) :: .int (iN a) :: st) cs ss := by
  obtain ⟨p, l, e, R, s, m, args, below, meth, c, Q, D, K, ad0, E0⟩ := X
  obtain ⟨hx, hb, hml, hown, hts, hK, hl0, hlk, hR0, hEv⟩ := hf
  intro H locs la hR hI hN hS hl
  refine lv_icmp_ge hx hb hdg ht (fun q => kt (by have q2 := q; simp only [iN_eq ha hbR, Int32.not_lt, Int32.not_le, ge_iff_le, gt_iff_lt, iN_lt ha hbR, iN_le ha hbR, iN_lt hbR ha, iN_le hbR ha, Decidable.not_not] at q2; omega) H locs la hR hI hN hS hl) (fun q => kf (by have q2 := q; simp only [iN_eq ha hbR, Int32.not_lt, Int32.not_le, ge_iff_le, gt_iff_lt, iN_lt ha hbR, iN_le ha hbR, iN_lt hbR ha, iN_le hbR ha, Decidable.not_not] at q2; omega) H locs la hR hI hN hS hl)

theorem V_if_ge {X : Cx} {own : String} {cc : ByteArray} {nL : Nat} {rm : Room} (hf : Cf X own cc nL rm) {ad : Adr} {E : Dic} {pc : Nat} {ls : Ls} {st : List Value} {cs ss : Nat} {a off : Int} {tgt : Nat} (ha : inR a) (hdg : decode cc pc = .ok (.ifCond .ge off, 3)) (ht : (pc : Int) + off = (tgt : Int)) (kt : 0 ≤ a → V X ad E tgt ls st cs ss) (kf : a < 0 → V X ad E (pc + 3) ls st cs ss) : V X ad E pc ls (.int (iN a) :: st) cs ss := by
  obtain ⟨p, l, e, R, s, m, args, below, meth, c, Q, D, K, ad0, E0⟩ := X
  obtain ⟨hx, hb, hml, hown, hts, hK, hl0, hlk, hR0, hEv⟩ := hf
  intro H locs la hR hI hN hS hl
  have hbR : inR (0 : Int) := ⟨by decide, by decide⟩
  refine lv_if_ge hx hb hdg ht (fun q => kt (by have q2 := q; simp only [← iN_0, iN_eq ha hbR, Int32.not_lt, Int32.not_le, ge_iff_le, gt_iff_lt, iN_lt ha hbR, iN_le ha hbR, iN_lt hbR ha, iN_le hbR ha, Decidable.not_not] at q2; omega) H locs la hR hI hN hS hl) (fun q => kf (by have q2 := q; simp only [← iN_0, iN_eq ha hbR, Int32.not_lt, Int32.not_le, ge_iff_le, gt_iff_lt, iN_lt ha hbR, iN_le ha hbR, iN_lt hbR ha, iN_le hbR ha, Decidable.not_not] at q2; omega) H locs la hR hI hN hS hl)

theorem V_icmp_gt {X : Cx} {own : String} {cc : ByteArray} {nL : Nat} {rm : Room} (hf : Cf X own cc nL rm) {ad : Adr} {E : Dic} {pc : Nat} {ls : Ls} {st : List Value} {cs ss : Nat} {a b off : Int} {tgt : Nat} (ha : inR a) (hbR : inR b) (hdg : decode cc pc = .ok (.if_icmp .gt off, 3)) (ht : (pc : Int) + off = (tgt : Int)) (kt : b < a → V X ad E tgt ls st cs ss) (kf : a ≤ b → V X ad E (pc + 3) ls st cs ss) : V X ad E pc ls (.int (iN b) :: .int (iN a) :: st) cs ss := by
  obtain ⟨p, l, e, R, s, m, args, below, meth, c, Q, D, K, ad0, E0⟩ := X
  obtain ⟨hx, hb, hml, hown, hts, hK, hl0, hlk, hR0, hEv⟩ := hf
  intro H locs la hR hI hN hS hl
  refine lv_icmp_gt hx hb hdg ht (fun q => kt (by have q2 := q; simp only [iN_eq ha hbR, Int32.not_lt, Int32.not_le, ge_iff_le, gt_iff_lt, iN_lt ha hbR, iN_le ha hbR, iN_lt hbR ha, iN_le hbR ha, Decidable.not_not] at q2; omega) H locs la hR hI hN hS hl) (fun q => kf (by have q2 := q; simp only [iN_eq ha hbR, Int32.not_lt, Int32.not_le, ge_iff_le, gt_iff_lt, iN_lt ha hbR, iN_le ha hbR, iN_lt hbR ha, iN_le hbR ha, Decidable.not_not] at q2; omega) H locs la hR hI hN hS hl)

theorem V_if_gt {X : Cx} {own : String} {cc : ByteArray} {nL : Nat} {rm : Room} (hf : Cf X own cc nL rm) {ad : Adr} {E : Dic} {pc : Nat} {ls : Ls} {st : List Value} {cs ss : Nat} {a off : Int} {tgt : Nat} (ha : inR a) (hdg : decode cc pc = .ok (.ifCond .gt off, 3)) (ht : (pc : Int) + off = (tgt : Int)) (kt : 0 < a → V X ad E tgt ls st cs ss) (kf : a ≤ 0 → V X ad E (pc + 3) ls st cs ss) : V X ad E pc ls (.int (iN a) :: st) cs ss := by
  obtain ⟨p, l, e, R, s, m, args, below, meth, c, Q, D, K, ad0, E0⟩ := X
  obtain ⟨hx, hb, hml, hown, hts, hK, hl0, hlk, hR0, hEv⟩ := hf
  intro H locs la hR hI hN hS hl
  have hbR : inR (0 : Int) := ⟨by decide, by decide⟩
  refine lv_if_gt hx hb hdg ht (fun q => kt (by have q2 := q; simp only [← iN_0, iN_eq ha hbR, Int32.not_lt, Int32.not_le, ge_iff_le, gt_iff_lt, iN_lt ha hbR, iN_le ha hbR, iN_lt hbR ha, iN_le hbR ha, Decidable.not_not] at q2; omega) H locs la hR hI hN hS hl) (fun q => kf (by have q2 := q; simp only [← iN_0, iN_eq ha hbR, Int32.not_lt, Int32.not_le, ge_iff_le, gt_iff_lt, iN_lt ha hbR, iN_le ha hbR, iN_lt hbR ha, iN_le hbR ha, Decidable.not_not] at q2; omega) H locs la hR hI hN hS hl)

theorem V_icmp_le {X : Cx} {own : String} {cc : ByteArray} {nL : Nat} {rm : Room} (hf : Cf X own cc nL rm) {ad : Adr} {E : Dic} {pc : Nat} {ls : Ls} {st : List Value} {cs ss : Nat} {a b off : Int} {tgt : Nat} (ha : inR a) (hbR : inR b) (hdg : decode cc pc = .ok (.if_icmp .le off, 3)) (ht : (pc : Int) + off = (tgt : Int)) (kt : a ≤ b → V X ad E tgt ls st cs ss) (kf : b < a → V X ad E (pc + 3) ls st cs ss) : V X ad E pc ls (.int (iN b) :: .int (iN a) :: st) cs ss := by
  obtain ⟨p, l, e, R, s, m, args, below, meth, c, Q, D, K, ad0, E0⟩ := X
  obtain ⟨hx, hb, hml, hown, hts, hK, hl0, hlk, hR0, hEv⟩ := hf
  intro H locs la hR hI hN hS hl
  refine lv_icmp_le hx hb hdg ht (fun q => kt (by have q2 := q; simp only [iN_eq ha hbR, Int32.not_lt, Int32.not_le, ge_iff_le, gt_iff_lt, iN_lt ha hbR, iN_le ha hbR, iN_lt hbR ha, iN_le hbR ha, Decidable.not_not] at q2; omega) H locs la hR hI hN hS hl) (fun q => kf (by have q2 := q; simp only [iN_eq ha hbR, Int32.not_lt, Int32.not_le, ge_iff_le, gt_iff_lt, iN_lt ha hbR, iN_le ha hbR, iN_lt hbR ha, iN_le hbR ha, Decidable.not_not] at q2; omega) H locs la hR hI hN hS hl)

theorem V_if_le {X : Cx} {own : String} {cc : ByteArray} {nL : Nat} {rm : Room} (hf : Cf X own cc nL rm) {ad : Adr} {E : Dic} {pc : Nat} {ls : Ls} {st : List Value} {cs ss : Nat} {a off : Int} {tgt : Nat} (ha : inR a) (hdg : decode cc pc = .ok (.ifCond .le off, 3)) (ht : (pc : Int) + off = (tgt : Int)) (kt : a ≤ 0 → V X ad E tgt ls st cs ss) (kf : 0 < a → V X ad E (pc + 3) ls st cs ss) : V X ad E pc ls (.int (iN a) :: st) cs ss := by
  obtain ⟨p, l, e, R, s, m, args, below, meth, c, Q, D, K, ad0, E0⟩ := X
  obtain ⟨hx, hb, hml, hown, hts, hK, hl0, hlk, hR0, hEv⟩ := hf
  intro H locs la hR hI hN hS hl
  have hbR : inR (0 : Int) := ⟨by decide, by decide⟩
  refine lv_if_le hx hb hdg ht (fun q => kt (by have q2 := q; simp only [← iN_0, iN_eq ha hbR, Int32.not_lt, Int32.not_le, ge_iff_le, gt_iff_lt, iN_lt ha hbR, iN_le ha hbR, iN_lt hbR ha, iN_le hbR ha, Decidable.not_not] at q2; omega) H locs la hR hI hN hS hl) (fun q => kf (by have q2 := q; simp only [← iN_0, iN_eq ha hbR, Int32.not_lt, Int32.not_le, ge_iff_le, gt_iff_lt, iN_lt ha hbR, iN_le ha hbR, iN_lt hbR ha, iN_le hbR ha, Decidable.not_not] at q2; omega) H locs la hR hI hN hS hl)

theorem V_goto {X : Cx} {own : String} {cc : ByteArray} {nL : Nat} {rm : Room} (hf : Cf X own cc nL rm) {ad : Adr} {E : Dic} {pc : Nat} {ls : Ls} {st : List Value} {cs ss : Nat} {off : Int} {tgt : Nat} (hdg : decode cc pc = .ok (.goto off, 3)) (ht : (pc : Int) + off = (tgt : Int)) (kk : V X ad E tgt ls st cs ss) : V X ad E pc ls st cs ss := by
  obtain ⟨p, l, e, R, s, m, args, below, meth, c, Q, D, K, ad0, E0⟩ := X
  obtain ⟨hx, hb, hml, hown, hts, hK, hl0, hlk, hR0, hEv⟩ := hf
  intro H locs la hR hI hN hS hl
  exact lv_goto hx hb hdg ht (kk H locs la hR hI hN hS hl)
/-! cells: reading, writing -/
def eset (E : Dic) (g : Int) (j : Nat) (e : va_E) : Dic := fun g' j' => if g' = g ∧ j' = j then some e else E g' j'
theorem eset_self {E : Dic} {g : Int} {j : Nat} {e : va_E} : eset E g j e g j = some e := if_pos ⟨rfl, rfl⟩
theorem eset_ne {E : Dic} {g g' : Int} {j j' : Nat} {e : va_E} (h : ¬ (g' = g ∧ j' = j)) : eset E g j e g' j' = E g' j' := if_neg h
theorem eset_some {E : Dic} {g : Int} {j : Nat} {e e0 : va_E} (h0 : E g j = some e0) {g' : Int} {j' : Nat} {x : va_E} (h : eset E g j e g' j' = some x) : ∃ y, E g' j' = some y := by
  by_cases q : g' = g ∧ j' = j
  · obtain ⟨rfl, rfl⟩ := q
    exact ⟨e0, h0⟩
  · rw [eset_ne q] at h
    exact ⟨x, h⟩
theorem Rp.set {D : va_G} {ad : Adr} {E : Dic} {H H1 : Heap} {g : Int} {j : Nat} {e e' : va_E} (hR : Rp D ad E H) (hI : Ij ad E) (hE : E g j = some e) (h1 : va_at D vwCl (ad g j, e') H1) (oq : ∀ q : Nat, q ≠ ad g j → H1[q]? = H[q]?) : Rp D ad (eset E g j e') H1 := by
  intro g' j' x hx
  by_cases q : g' = g ∧ j' = j
  · obtain ⟨rfl, rfl⟩ := q
    rw [eset_self] at hx
    cases hx
    exact h1
  · rw [eset_ne q] at hx
    exact (hR g' j' x hx).kept (oq _ fun z => q (hI _ _ _ _ _ _ hx hE z))
theorem Ij.set {ad : Adr} {E : Dic} {g : Int} {j : Nat} {e e' : va_E} (hI : Ij ad E) (hE : E g j = some e) : Ij ad (eset E g j e') := by
  intro g1 j1 g2 j2 e1 e2 h1 h2 z
  obtain ⟨y1, k1⟩ := eset_some hE h1
  obtain ⟨y2, k2⟩ := eset_some hE h2
  exact hI _ _ _ _ _ _ k1 k2 z
theorem Nw.set {ad0 : Adr} {E0 : Dic} {sz : Nat} {ad : Adr} {E : Dic} {g : Int} {j : Nat} {e e' : va_E} (hN : Nw ad0 E0 sz ad E) (hE : E g j = some e) : Nw ad0 E0 sz ad (eset E g j e') := by
  intro g' j' x hx
  obtain ⟨y, k⟩ := eset_some hE hx
  exact hN _ _ _ k
theorem Nw.mem {ad0 : Adr} {E0 : Dic} {sz : Nat} {ad : Adr} {E : Dic} (hN : Nw ad0 E0 sz ad E) {g : Int} {j : Nat} {e : va_E} (hE : E g j = some e) : AA ad0 E0 sz (ad g j) := by
  rcases hN g j e hE with ⟨e0, h1, h2⟩ | h
  · exact Or.inl ⟨g, j, e0, h1, h2.symm⟩
  · exact Or.inr h
theorem Nw.rf {ad : Adr} {E : Dic} {sz : Nat} : Nw ad E sz ad E := fun _ _ e h => Or.inl ⟨e, h, rfl⟩
theorem Nw.sub {ad0 : Adr} {E0 : Dic} {sz sz' : Nat} {ad : Adr} {E : Dic} (hN : Nw ad0 E0 sz ad E) (h : sz ≤ sz') : ∀ q, AA ad E sz' q → AA ad0 E0 sz q := by
  intro q hq
  rcases hq with ⟨g, j, e, h1, rfl⟩ | h1
  · exact hN.mem h1
  · exact Or.inr (Nat.le_trans h h1)
theorem Nw.trans {ad0 ad ad' : Adr} {E0 E E' : Dic} {sz sz' : Nat} (hN : Nw ad0 E0 sz ad E) (h : sz ≤ sz') (hN' : Nw ad E sz' ad' E') : Nw ad0 E0 sz ad' E' := by
  intro g j e' h1
  rcases hN' g j e' h1 with ⟨e, h2, h3⟩ | h2
  · rcases hN g j e h2 with ⟨e0, h4, h5⟩ | h4
    · exact Or.inl ⟨e0, h4, h3.trans h5⟩
    · exact Or.inr (h3 ▸ h4)
  · exact Or.inr (Nat.le_trans h h2)
section VH
variable {X : Cx} {own : String} {cc : ByteArray} {nL : Nat} {rm : Room} {ad : Adr} {E : Dic} {pc : Nat} {ls : Ls} {st : List Value} {cs ss : Nat}
theorem V_get (hf : Cf X own cc nL rm) {g : Int} {j ci k idx : Nat} {fs : List Value} {v : Value} (hE : E g j = some (.inr (ci, fs))) (hF : FL own idx ci k) (hv : fs[k]? = some v) (hdg : decode cc pc = .ok (.getfield idx, 3)) (kk : V X ad E (pc + 3) ls (v :: st) cs ss) : V X ad E pc ls (.ref (ad g j) :: st) cs ss := by
  obtain ⟨p, l, e, R, s, m, args, below, meth, c, Q, D, K, ad0, E0⟩ := X
  obtain ⟨hx, hb, hml, hown, hts, hK, hl0, hlk, hR0, hEv⟩ := hf
  obtain ⟨ref, C, T, N, hc, hk, hin, hlink, hsame⟩ := hF
  intro H locs la hR hI hN hS hl
  exact va_get hx hb hts hin hown hK (P1 hR hE) 0 rfl hc k hk (hts _ hlink) (by
    rcases hsame with rfl | h
    · exact fun x h9 => h9
    · exact u_same (hts _ h)) hv hdg (kk H locs la hR hI hN hS hl)
theorem V_put (hf : Cf X own cc nL rm) {g : Int} {j ci k idx : Nat} {fs : List Value} {v : Value} {ty : FieldType} (hE : E g j = some (.inr (ci, fs))) (hF : FP own idx ci k false ty) (hn : narrow ty v = v) (hfit : fits ty v = true) (hlen : k < fs.length) (hdg : decode cc pc = .ok (.putfield idx, 3)) (kk : V X ad (eset E g j (.inr (ci, fs.set k v))) (pc + 3) ls st cs ss) : V X ad E pc ls (v :: .ref (ad g j) :: st) cs ss := by
  obtain ⟨p, l, e, R, s, m, args, below, meth, c, Q, D, K, ad0, E0⟩ := X
  obtain ⟨hx, hb, hml, hown, hts, hK, hl0, hlk, hR0, hEv⟩ := hf
  obtain ⟨ref, C, T, N, ty0, hc, hk, hin, hlink, hsame, hty, hnm, hfin, hd, -⟩ := hF
  intro H locs la hR hI hN hS hl
  have hap := va_apart (own := own) hts hin ty0 hty hnm hK hc
  obtain ⟨r, h1, cell, q1, q2, q3, q4⟩ := hR g j _ hE
  have hr : r = (C, T, N) := Option.some.inj (h1.symm.trans hc)
  subst hr
  obtain ⟨hSl, hfc, kC, hkC, hkind⟩ := hK.1 ci _ hc
  obtain ⟨cf, kf, fi, f, hi, hsl⟩ := hSl k hk
  have hlay := hts _ (hin _ (u_in_lay hk))
  unfold u_lay at hlay
  rw [if_neg (by rw [hfin]; decide)] at hlay
  have hst := (u_facts hfc hkC (u_lays hts hin hk) hi).1
  have h6 := u_store hfc hkC hkind hlay hi hd hn hfit
  have hsm : ∀ x, s.fieldFound? (T k).1 (T k).2.1 (T k).2.2.1 = some x → s.fieldFound? ref (T k).2.1 (T k).2.2.1 = some x := by
    rcases hsame with rfl | h
    · exact fun x h9 => h9
    · exact u_same (hts _ h)
  refine W.putK hx hb (f := f) ⟨hown, hts _ hlink, ⟨_, _, _, hsm _ hi⟩, hst⟩ (by rw [q2]; exact h6) q1 q3 (by rw [hsl]; exact k2_hasslot (q4 k hk)) rfl rfl hdg fun H' e1 e2 e3 => ?_
  rw [hsl] at e1 ⊢
  refine kk H' _ la (hR.set hI hE ⟨_, hc, t_OB.to (V := updV (vp_V fs) k v) ⟨_, e1, q2, q3, t_set q4 hap hk v⟩ (fun j _ => vp_updV_set hlen v j)⟩ e3) (hI.set hE) (hN.set hE) (hS.put e2 e3 (hN.mem hE)) hl
theorem V_putF (hf : Cf X own cc nL rm) (hci : Ci X) {g : Int} {j ci k idx : Nat} {fs : List Value} {v : Value} {ty : FieldType} (hE : E g j = some (.inr (ci, fs))) (hF : FP own idx ci k true ty) (hn : narrow ty v = v) (hfit : fits ty v = true) (hlen : k < fs.length) (hdg : decode cc pc = .ok (.putfield idx, 3)) (kk : V X ad (eset E g j (.inr (ci, fs.set k v))) (pc + 3) ls st cs ss) : V X ad E pc ls (v :: .ref (ad g j) :: st) cs ss := by
  obtain ⟨p, l, e, R, s, m, args, below, meth, c, Q, D, K, ad0, E0⟩ := X
  obtain ⟨hx, hb, hml, hown, hts, hK, hl0, hlk, hR0, hEv⟩ := hf
  obtain ⟨ref, C, T, N, ty0, hc, hk, hin, hlink, hsame, hty, hnm, hfin, hd, hdecl⟩ := hF
  have hci : meth.name = "<init>" := hci
  intro H locs la hR hI hN hS hl
  have hap := va_apart (own := own) hts hin ty0 hty hnm hK hc
  obtain ⟨r, h1, cell, q1, q2, q3, q4⟩ := hR g j _ hE
  have hr : r = (C, T, N) := Option.some.inj (h1.symm.trans hc)
  subst hr
  obtain ⟨hSl, hfc, kC, hkC, hkind⟩ := hK.1 ci _ hc
  obtain ⟨cf, kf, fi, f, hi, hsl⟩ := hSl k hk
  have hlay := hts _ (hin _ (u_in_lay hk))
  unfold u_lay at hlay
  rw [if_pos hfin] at hlay
  have hst := (u_facts hfc hkC (u_lays hts hin hk) hi).1
  have hcf : m.cls = cf := by
    obtain ⟨_, _, c', _, _, _, -, -, hf', -, -, -, hown2, -⟩ := Cond.laysFinal_spec hlay
    have e1 : c' = cf := by have := hi.symm.trans hf'; simp at this; exact this.1.symm
    rw [hdecl rfl] at hown2
    rw [← e1]; exact Option.some.inj (hown.symm.trans hown2)
  have h6 := u_fits hfc hkC hkind (Or.inr hlay) hi hd hn hfit
  have hsm : ∀ x, s.fieldFound? (T k).1 (T k).2.1 (T k).2.2.1 = some x → s.fieldFound? ref (T k).2.1 (T k).2.2.1 = some x := by
    rcases hsame with rfl | h
    · exact fun x h9 => h9
    · exact u_same (hts _ h)
  refine W.putFinK hx hb hown (hts _ hlink) (hsm _ hi) hst hcf hci (by rw [q2]; exact h6) q1 q3 (by rw [hsl]; exact k2_hasslot (q4 k hk)) rfl rfl hdg fun H' e1 e2 e3 => ?_
  rw [hsl] at e1 ⊢
  refine kk H' _ la (hR.set hI hE ⟨_, hc, t_OB.to (V := updV (vp_V fs) k v) ⟨_, e1, q2, q3, t_set q4 hap hk v⟩ (fun j _ => vp_updV_set hlen v j)⟩ e3) (hI.set hE) (hN.set hE) (hS.put e2 e3 (hN.mem hE)) hl
theorem V_iald (hf : Cf X own cc nL rm) {g : Int} {j n t0 : Nat} {f : Nat → Int32} {i : Int} (hE : E g j = some (.inl (xK X 0, n, .inl f))) (hiR : inR i) (h0 : 0 ≤ i) (h1 : i < n) (hdg : decode cc pc = .ok (.iaload, 1)) (kk : V X ad E (pc + 1) ls (.int (f i.toNat) :: st) cs ss) : V X ad E pc ls (.int (iN i) :: .ref (ad g j) :: st) cs ss := by
  obtain ⟨p, l, e, R, s, m, args, below, meth, c, Q, D, K, ad0, E0⟩ := X
  obtain ⟨hx, hb, hml, hown, hts, hK, hl0, hlk, hR0, hEv⟩ := hf
  intro H locs la hR hI hN hS hl
  refine va_iald hx hb hK (P1 hR hE) 0 0 rfl rfl (iN_in hiR h0 h1) hdg ?_
  rw [iN_cl hiR]
  exact kk H locs la hR hI hN hS hl
theorem V_cald (hf : Cf X own cc nL rm) {g : Int} {j n t0 : Nat} {f : Nat → Int32} {i : Int} (hE : E g j = some (.inl (xK X 1, n, .inl f))) (hiR : inR i) (h0 : 0 ≤ i) (h1 : i < n) (hdg : decode cc pc = .ok (.caload, 1)) (kk : V X ad E (pc + 1) ls (.int (f i.toNat) :: st) cs ss) : V X ad E pc ls (.int (iN i) :: .ref (ad g j) :: st) cs ss := by
  obtain ⟨p, l, e, R, s, m, args, below, meth, c, Q, D, K, ad0, E0⟩ := X
  obtain ⟨hx, hb, hml, hown, hts, hK, hl0, hlk, hR0, hEv⟩ := hf
  intro H locs la hR hI hN hS hl
  refine va_cald hx hb hK (P1 hR hE) 0 1 rfl rfl (iN_in hiR h0 h1) hdg ?_
  rw [iN_cl hiR]
  exact kk H locs la hR hI hN hS hl
theorem V_aald (hf : Cf X own cc nL rm) {g : Int} {j n t0 : Nat} {C : String} {f : Nat → Option Nat} {i : Int} (hE : E g j = some (.inl (xK X t0, n, .inr (.inr (.inr (.inr f)))))) (ht : (tysOf (xK X))[t0]? = some (xK X t0, .object C)) (hiR : inR i) (h0 : 0 ≤ i) (h1 : i < n) (hdg : decode cc pc = .ok (.aaload, 1)) (kk : V X ad E (pc + 1) ls (va_rf (f i.toNat) :: st) cs ss) : V X ad E pc ls (.int (iN i) :: .ref (ad g j) :: st) cs ss := by
  obtain ⟨p, l, e, R, s, m, args, below, meth, c, Q, D, K, ad0, E0⟩ := X
  obtain ⟨hx, hb, hml, hown, hts, hK, hl0, hlk, hR0, hEv⟩ := hf
  intro H locs la hR hI hN hS hl
  refine va_aldq hx hb hK (P1 hR hE) 0 t0 rfl ht (iN_in hiR h0 h1) hdg ?_
  rw [iN_cl hiR]
  exact kk H locs la hR hI hN hS hl
theorem V_iast (hf : Cf X own cc nL rm) {g : Int} {j n : Nat} {f : Nat → Int32} {i : Int} {x : Int32} (hE : E g j = some (.inl (xK X 0, n, .inl f))) (hiR : inR i) (h0 : 0 ≤ i) (h1 : i < n) (hdg : decode cc pc = .ok (.iastore, 1)) (kk : V X ad (eset E g j (.inl (xK X 0, n, .inl (upd f i.toNat x)))) (pc + 1) ls st cs ss) : V X ad E pc ls (.int x :: .int (iN i) :: .ref (ad g j) :: st) cs ss := by
  obtain ⟨p, l, e, R, s, m, args, below, meth, c, Q, D, K, ad0, E0⟩ := X
  obtain ⟨hx, hb, hml, hown, hts, hK, hl0, hlk, hR0, hEv⟩ := hf
  intro H locs la hR hI hN hS hl
  refine W.iast hx hb (hR g j _ hE) ((hK.2 0 _ rfl).1 n (fun j => .int (f j))) (fun q => by cases q) (by show ¬ (iN i < 0 ∨ (arrV _ _ _).slots.size ≤ _); rw [arrV_size]; exact iN_in hiR h0 h1) rfl rfl hdg fun H1 e z oq => ?_
  refine kk H1 _ la (hR.set hI hE ?_ oq) (hI.set hE) (hN.set hE) (hS.put z oq (hN.mem hE)) hl
  show H1[_]? = some (vp_cell _ _)
  rw [e, iN_cl hiR]
  rw [vp_cell_i, vp_cell_i, arrV_store]
  congr 2
  funext q
  by_cases hq : q = i.toNat
  · subst hq
    simp [updV, upd]
  · simp [updV, upd, hq]
theorem V_cast (hf : Cf X own cc nL rm) {g : Int} {j n : Nat} {f : Nat → Int32} {i : Int} {x : Int32} (hE : E g j = some (.inl (xK X 1, n, .inl f))) (hiR : inR i) (h0 : 0 ≤ i) (h1 : i < n) (hdg : decode cc pc = .ok (.castore, 1)) (kk : V X ad (eset E g j (.inl (xK X 1, n, .inl (upd f i.toNat (vp_nar .char x))))) (pc + 1) ls st cs ss) : V X ad E pc ls (.int x :: .int (iN i) :: .ref (ad g j) :: st) cs ss := by
  obtain ⟨p, l, e, R, s, m, args, below, meth, c, Q, D, K, ad0, E0⟩ := X
  obtain ⟨hx, hb, hml, hown, hts, hK, hl0, hlk, hR0, hEv⟩ := hf
  intro H locs la hR hI hN hS hl
  refine W.cast hx hb (hR g j _ hE) ((hK.2 1 _ rfl).1 n (fun j => .int (f j))) (fun q => by cases q) (by show ¬ (iN i < 0 ∨ (arrV _ _ _).slots.size ≤ _); rw [arrV_size]; exact iN_in hiR h0 h1) rfl rfl hdg fun H1 e z oq => ?_
  refine kk H1 _ la (hR.set hI hE ?_ oq) (hI.set hE) (hN.set hE) (hS.put z oq (hN.mem hE)) hl
  show H1[_]? = some (vp_cell _ _)
  rw [e, iN_cl hiR]
  rw [vp_cell_i, vp_cell_i, arrV_store]
  congr 2
  funext q
  by_cases hq : q = i.toNat
  · subst hq
    simp [updV, upd, vp_nar]
    try rfl
  · simp [updV, upd, hq]
/-! the ends -/
theorem V_iret (hf : Cf X own cc nL rm) {ty : FieldType} {post : Out → Adr → Dic → Prop} {mc ms : Nat} (he : Ce X (some ty) post mc ms) {v : Int32} (hn : narrow ty (.int v) = .int v) (hdg : decode cc pc = .ok (.ireturn, 1)) (hc : cs ≤ mc) (hs : ss ≤ ms) (hp : post (.inl (some (.int v))) ad E) : V X ad E pc ls [.int v] cs ss := by
  obtain ⟨p, l, e, R, s, m, args, below, meth, c, Q, D, K, ad0, E0⟩ := X
  obtain ⟨hx, hb, hml, hown, hts, hK, hl0, hlk, hR0, hEv⟩ := hf
  obtain ⟨hr, rfl⟩ := he
  intro H locs la hR hI hN hS hl
  refine vx_ret (W.widen hc hs ?_)
  exact W.zret hx hb hr hn (fun t ht hW => ⟨_, ad, E, rfl, hp, by rw [ht]; exact hR, hI, hN, hS.F ht⟩) hS.2.2 hdg hlk
theorem V_vret (hf : Cf X own cc nL rm) {post : Out → Adr → Dic → Prop} {mc ms : Nat} (he : Ce X none post mc ms) (hdg : decode cc pc = .ok (.return_, 1)) (hc : cs ≤ mc) (hs : ss ≤ ms) (hp : post (.inl none) ad E) : V X ad E pc ls [] cs ss := by
  obtain ⟨p, l, e, R, s, m, args, below, meth, c, Q, D, K, ad0, E0⟩ := X
  obtain ⟨hx, hb, hml, hown, hts, hK, hl0, hlk, hR0, hEv⟩ := hf
  obtain ⟨hr, rfl⟩ := he
  intro H locs la hR hI hN hS hl
  refine vx_ret (W.widen hc hs ?_)
  exact W.vret hx hb hr (fun t ht hW => ⟨_, ad, E, rfl, hp, by rw [ht]; exact hR, hI, hN, hS.F ht⟩) hS.2.2 hdg hlk
theorem V_aret (hf : Cf X own cc nL rm) {rt : FieldType} {post : Out → Adr → Dic → Prop} {mc ms : Nat} (he : Ce X (some rt) post mc ms) {a : Nat} (hrt : (∃ n, rt = .object n) ∨ ∃ t, rt = .array t) (hdg : decode cc pc = .ok (.areturn, 1)) (hc : cs ≤ mc) (hs : ss ≤ ms) (hp : post (.inl (some (.ref a))) ad E) : V X ad E pc ls [.ref a] cs ss := by
  obtain ⟨p, l, e, R, s, m, args, below, meth, c, Q, D, K, ad0, E0⟩ := X
  obtain ⟨hx, hb, hml, hown, hts, hK, hl0, hlk, hR0, hEv⟩ := hf
  obtain ⟨hr, rfl⟩ := he
  intro H locs la hR hI hN hS hl
  refine vx_ret (W.widen hc hs ?_)
  exact W.aret hx hb hr hrt (Or.inr ⟨a, rfl⟩) (fun t ht hW => ⟨_, ad, E, rfl, hp, by rw [ht]; exact hR, hI, hN, hS.F ht⟩) hS.2.2 hdg hlk
/-! calls -/
def rmd (d mc ms : Nat) : Room := { frames := d, cells := mc, slots := ms, locals := 64 * d }
theorem V_back {l : Launch} {mc ms : Nat} {p : Program} {e : Env} {R : Room} {s : State} {m : MethodId} {args : Array Value} {below : List Frame} {meth : Method} {c : Code} {Q : State → Prop} {D : va_G} {K : Nat → ClassId} {ad0 : Adr} {E0 : Dic}
    {post : Out → Adr → Dic → Prop} {H : Heap} {locs : List Loc} {la : Array Slot} {rest : List Value} {st0 : List Value} {a : Array Value}
    (hN : Nw ad0 E0 s.heap.size ad E) (hS : va_S (AA ad0 E0 s.heap.size) s.heap H locs) (hl : lv_has la c.maxLocals (lvl 0 ls))
    (hr : vx_Run p l e R s m args below meth c H locs cs ss mc ms (F0 m pc la st0) rest (Qf D ad E H.size post a) (Xf D ad E H.size post) (AA ad E H.size))
    (kk : ∀ (r : Option Value) (ad' : Adr) (E' : Dic), post (.inl r) ad' E' → V (p, l, e, R, s, m, args, below, meth, c, Q, D, K, ad0, E0) ad' E' (pc + 3) ls (r.toList ++ rest) (cs + mc) (ss + ms))
    (kx : ∀ (En : String) (ad' : Adr) (E' : Dic), post (.inr En) ad' E' → VX (p, l, e, R, s, m, args, below, meth, c, Q, D, K, ad0, E0) ad' E' pc En ls rest (cs + mc) (ss + ms)) :
    W p l e R s m args below meth c H locs cs ss Q (F0 m pc la st0) := by
  intro T hT X0
  have hsz : s.heap.size ≤ H.size := hS.1
  rcases hr T hT X0 with ⟨v, st₀, t, T', L, h0, X', hL, e1, e2, ⟨r, ad', E', hv, hpost, hR', hI', hN', hF⟩, hg⟩ | ⟨q, st₀, t, T', L, En, ce, h0, X', hL, e1, e2, ⟨ad', E', hpost, hR', hI', hN', hF⟩, hce, hcv, hcl, hg⟩
  · cases hv
    have k3 := vx_keep h0 e1 hS (fun q _ hq => hN.sub hsz q hq) (fun q hq => hN.sub hsz q hq) hL hF
    obtain ⟨t2, a1, b1⟩ := kk v ad' E' hpost T'.heap (locs ++ L) la (by rw [e1]; exact hR') hI' (hN.trans hsz hN') k3.2.2 hl T' rfl X'
    exact ⟨t2, hg t2 a1, b1⟩
  · have k3 := vx_keep h0 e1 hS (fun q _ hq => hN.sub hsz q hq) (fun q hq => hN.sub hsz q hq) hL hF
    obtain ⟨t2, a1, b1⟩ := kx En ad' E' hpost T'.heap (locs ++ L) la q ce (by rw [e1]; exact hR') hI' (hN.trans hsz hN') k3.2.2 hl (by rw [e1]; exact hce) hcv hcl T' rfl X'
    exact ⟨t2, hg.trans a1, b1⟩
theorem V_pre {s : State} {args : Array Value} {D : va_G} {K : Nat → ClassId} {ad0 : Adr} {E0 : Dic} {H : Heap} {locs : List Loc} {as : List Value} (hK : va_K D vwCl (tysOf K) s) (hEv : Ev K (AA ad0 E0 s.heap.size) s s.heap) (hR : Rp D ad E H) (hI : Ij ad E) (hN : Nw ad0 E0 s.heap.size ad E) (hS : va_S (AA ad0 E0 s.heap.size) s.heap H locs) : ∀ U : State, U.heap = H → s.WarmedH U.vm → va_Pc as (fun U => U.heap.size = H.size ∧ Wd D K ad E U) as.toArray U := by
  intro U hU hW
  refine ⟨rfl, by rw [hU], by rw [hU]; exact hR, hI, va_K.moved hW.alike hK, ?_⟩
  rw [hU]
  exact (Ev.moved hW (hEv.kept hS.2.1)).narrow (hN.sub hS.1)
theorem V_callV (hf : Cf X own cc nL rm) {C : String} {index : Nat} {y : MethodName} {bytes : ByteArray} {maxL mc ms n ci : Nat} {ret : Option FieldType} {rm2 : Room} {g : Int} {j : Nat} {fs : List Value} {As : List Value} {post : Out → Adr → Dic → Prop} {q : vw_C}
    (hM : Ctr (xl X) y (.code y bytes maxL ret) rm2 mc ms (xD X) (xK X) ad E (.ref (ad g j) :: As) post)
    (hw1 : Cond.methodLink own index y ∈ lw_good) (hw2 : Cond.instanceMethod y ∈ lw_good) (hw3 : Cond.selects C y y ∈ lw_good) (hw4 : Cond.initialized C ∈ lw_good) (hw5 : Cond.code y bytes maxL ret ∈ lw_good)
    (hd : y.cls = C ∧ y.cls ≠ "java/lang/invoke/MethodHandle" ∧ y.cls ≠ "java/lang/invoke/VarHandle" ∧ (parseMethodDescriptor y.desc).map (fun d => d.parameters.length) = some n)
    (hrm : rm2.cells = mc ∧ rm2.slots = ms ∧ rm2.frames + 1 ≤ rm.frames ∧ 8 + (maxL + 11) + rm2.locals ≤ rm.locals ∧ cs + mc ≤ rm.cells ∧ ss + ms ≤ rm.slots)
    (hE : E g j = some (.inr (ci, fs))) (hc : vwCl[ci]? = some q) (hq : q.1 = C) (hn : As.length = n) (hst : (st.map fun v => v.category).sum ≤ 8)
    (hdg : decode cc pc = .ok (.invokevirtual index, 3))
    (kk : ∀ (r : Option Value) (ad' : Adr) (E' : Dic), post (.inl r) ad' E' → V X ad' E' (pc + 3) ls (r.toList ++ st) (cs + mc) (ss + ms))
    (kx : ∀ (En : String) (ad' : Adr) (E' : Dic), post (.inr En) ad' E' → VX X ad' E' pc En ls st (cs + mc) (ss + ms)) : V X ad E pc ls (As.reverse ++ .ref (ad g j) :: st) cs ss := by
  obtain ⟨p, l, e, R, s, m, args, below, meth, c, Q, D, K, ad0, E0⟩ := X
  obtain ⟨hx, hb, hml, hown, hts, hK, hl0, hlk, hR0, hEv⟩ := hf
  subst hR0
  intro H locs la hR hI hN hS hl
  obtain ⟨r1, r2, r3, r4, r5, r6⟩ := hrm
  obtain ⟨hC, hd⟩ := hd
  have cw : CallW R s args own C index y bytes maxL ret (Cond.code y bytes maxL ret :: lw_good) rm2 mc ms n := ⟨callB_of n hts (lg_in hw5) rfl r1 r2 (by rw [hC]; exact hts _ hw4) (hts _ hw1) hd ⟨r3, r4⟩, hts _ hw2, hts _ hw3⟩
  have hrc := va_recv hK (P1 hR hE) hc (q0 := 0) rfl
  rw [hq] at hrc
  exact V_back hN hS hl (vx_runV ⟨hx, hb, hml, hown, hts⟩ (hM H.size) cw ⟨Wd.blind, hrc, V_pre (args := args) hK hEv hR hI hN hS⟩ rfl hn (hl.1.trans hml) rfl (lv_room hst) hdg ⟨r5, r6⟩) kk kx
theorem V_callS (hf : Cf X own cc nL rm) {index : Nat} {y : MethodName} {bytes : ByteArray} {maxL mc ms n : Nat} {ret : Option FieldType} {rm2 : Room} {As : List Value} {post : Out → Adr → Dic → Prop}
    (hM : Ctr (xl X) y (.code y bytes maxL ret) rm2 mc ms (xD X) (xK X) ad E As post)
    (hw1 : Cond.methodLink own index y ∈ lw_good) (hw2 : Cond.static y ∈ lw_good) (hw4 : Cond.initialized y.cls ∈ lw_good) (hw5 : Cond.code y bytes maxL ret ∈ lw_good)
    (hd : y.cls ≠ "java/lang/invoke/MethodHandle" ∧ y.cls ≠ "java/lang/invoke/VarHandle" ∧ (parseMethodDescriptor y.desc).map (fun d => d.parameters.length) = some n)
    (hrm : rm2.cells = mc ∧ rm2.slots = ms ∧ rm2.frames + 1 ≤ rm.frames ∧ 8 + (maxL + 11) + rm2.locals ≤ rm.locals ∧ cs + mc ≤ rm.cells ∧ ss + ms ≤ rm.slots)
    (hn : As.length = n) (hst : (st.map fun v => v.category).sum ≤ 8)
    (hdg : decode cc pc = .ok (.invokestatic index, 3))
    (kk : ∀ (r : Option Value) (ad' : Adr) (E' : Dic), post (.inl r) ad' E' → V X ad' E' (pc + 3) ls (r.toList ++ st) (cs + mc) (ss + ms))
    (kx : ∀ (En : String) (ad' : Adr) (E' : Dic), post (.inr En) ad' E' → VX X ad' E' pc En ls st (cs + mc) (ss + ms)) : V X ad E pc ls (As.reverse ++ st) cs ss := by
  obtain ⟨p, l, e, R, s, m, args, below, meth, c, Q, D, K, ad0, E0⟩ := X
  obtain ⟨hx, hb, hml, hown, hts, hK, hl0, hlk, hR0, hEv⟩ := hf
  subst hR0
  intro H locs la hR hI hN hS hl
  obtain ⟨r1, r2, r3, r4, r5, r6⟩ := hrm
  have cw : CallB R s args own index y bytes maxL ret (Cond.code y bytes maxL ret :: lw_good) rm2 mc ms n ∧ (Cond.static y).before args s = true := ⟨callB_of n hts (lg_in hw5) rfl r1 r2 (hts _ hw4) (hts _ hw1) hd ⟨r3, r4⟩, hts _ hw2⟩
  exact V_back hN hS hl (vx_runS ⟨hx, hb, hml, hown, hts⟩ (hM H.size) cw ⟨Wd.blind, V_pre (args := args) hK hEv hR hI hN hS⟩ rfl hn (hl.1.trans hml) rfl (lv_room hst) hdg ⟨r5, r6⟩) kk kx
end VH
/-- a contract out of a walk -/
theorem Ctr.of {l : Launch} {y : MethodName} {cc : ByteArray} {nL : Nat} {ret : Option FieldType} {rm : Room} {mc ms : Nat} {D : va_G} {K : Nat → ClassId} {ad : Adr} {E : Dic} {as : List Value} {post : Out → Adr → Dic → Prop} {own : String} {ls0 : Ls}
    (hy : plainName y.cls = true) (hyc : y.cls = own) (hl0 : l.stackTraces = false) (hlen : (lg_sl as).length ≤ nL) (hls : lvl 0 ls0 = lv_args 0 as)
    (body : ∀ X : Cx, xl X = l → xD X = D → xK X = K → Cf X own cc nL rm → Ce X ret post mc ms → Ch X → (y.name = "<init>" → Ci X) → V X ad E 0 ls0 [] 0 0) : Ctr l y (.code y cc nL ret) rm mc ms D K ad E as post := by
  intro sz
  refine vx_ofW (cc := cc) (maxL := nL) (ret := ret) hy rfl ?_
  intro p e s m args below meth c s₁ B hml hex hv
  obtain ⟨rfl, hsz, hR, hI, hK, hEv⟩ := hv
  subst hsz
  have hown : s.vm.findClass own = some m.cls := hyc ▸ findClass_of_methodNamed B.named
  have hts := atoms_spec (ws := Cond.code y cc nL ret :: lw_good) B.pre
  have hl := lv_entry as (n := nL) hlen
  rw [lg_entry_eq]
  generalize (lg_sl as ++ List.replicate (nL - (lg_sl as).length) Slot.unset).toArray = la at hl ⊢
  have b := body (p, l, e, (headSpec (Cond.code y cc nL ret :: lw_good) rm).room, s, m, as.toArray, below, meth, c, vx_MQ below (Qf D ad E s.heap.size post) (Xf D ad E s.heap.size post) as.toArray s mc ms (AA ad E s.heap.size), D, K, ad, E) rfl rfl rfl
    ⟨B.exec, B.bytes, hml, hown, fun w h => hts w (List.mem_cons_of_mem _ h), hK, hl0, B.notSynchronized, rfl, hEv⟩ ⟨B.returns, rfl⟩ hex (fun h => (name_of_methodNamed B.named B.method).1.trans h)
  exact b s.heap [] la hR hI Nw.rf va_S.rf (by rw [hml, hls]; exact hl)
/-! throws -/
theorem V_thr {X : Cx} {own : String} {cc : ByteArray} {nL : Nat} {rm : Room} (hf : Cf X own cc nL rm) {ret : Option FieldType} {post : Out → Adr → Dic → Prop} {mc ms : Nat} (he : Ce X ret post mc ms) (hh : Ch X) {ad : Adr} {E : Dic} {pc : Nat} {ls : Ls} {st : List Value} {cs ss : Nat} {cls text : String} {names : List String} {ik is ic : Nat}
    (hcls : Bundle.fit cls = true) (hnames : ∀ n ∈ names, Bundle.fit n = true) (hk : Cond.classLink own ik cls ∈ lw_good) (hini : Cond.initialized cls ∈ lw_good) (hstr : (own, is, text) ∈ lw_strs) (hat : ∀ w ∈ vx_atS own ic cls names, w ∈ lw_good ∨ castOk w = true)
    (d0 : decode cc pc = .ok (.new ik, 3)) (d3 : decode cc (pc + 3) = .ok (.dup, 1)) (d4 : decode cc (pc + 4) = .ok (.ldc is, 2)) (d6 : decode cc (pc + 6) = .ok (.invokespecial ic, 3)) (d9 : decode cc (pc + 9) = .ok (.athrow, 1))
    (hrm : names.length + 3 < rm.frames ∧ (st.map fun v => v.category).sum + (13 * (names.length + 1) + 43) ≤ rm.locals ∧ cs + 1 ≤ rm.cells ∧ ss + 6 ≤ rm.slots) (hc : cs + 1 ≤ mc) (hs : ss + 6 ≤ ms) (hp : post (.inr cls) ad E) : V X ad E pc ls st cs ss := by
  obtain ⟨p, l, e, R, s, m, args, below, meth, c, Q, D, K, ad0, E0⟩ := X
  obtain ⟨hx, hb, hml, hown, hts, hK, hl0, hlk, hR0, hEv⟩ := hf
  obtain ⟨hr, rfl⟩ := he
  subst hR0
  intro H locs la hR hI hN hS hl
  obtain ⟨hU, hNs, hst, -, -, hca, hde, -⟩ := hEv
  obtain ⟨sa, hsa⟩ := hst _ hstr
  refine vx_throwS (names := names) hx hb hl0 hown hcls hnames (hts _ hk) (hts _ hini) hsa (fun w hw => (hat w hw).elim (fun h => hts _ h) (fun h => by rcases castOk_of h with ⟨q, hq, rfl⟩ | ⟨x, hx9, rfl⟩ <;> first | exact va_Nw.use rfl (hca q hq) | exact va_Nw.use rfl (hde x hx9))) (fun w hw => ?_) hU hNs hS hl.1 d0 d3 d4 d6 d9 (fun x hx9 => absurd (hh x hx9) id) hrm.1 hrm.2.1 hrm.2.2.1 hrm.2.2.2 hlk (fun t hal hz hq => ⟨ad, E, hp, fun g j e9 h9 => (hR g j e9 h9).kept (hq _ (hR g j e9 h9).lt), hI, hN, ⟨Nat.le_trans hS.1 hz, fun q h1 h2 => (hq q (Nat.lt_of_lt_of_le h1 hS.1)).trans (hS.2.1 q h1 h2)⟩⟩) hS.2.2 hc hs
  have h9 : w ∈ lw_good ∨ castOk w = true := by
    rcases List.mem_cons.mp hw with rfl | hw
    · exact Or.inl hk
    · rcases List.mem_cons.mp hw with rfl | hw
      · exact Or.inl hini
      · exact hat w hw
  rcases h9 with h9 | h9
  · have := (List.mem_filter.mp h9).2
    simp only [vx_ot, this, Bool.or_true]
  · rcases castOk_of h9 with ⟨q, -, rfl⟩ | ⟨x, -, rfl⟩ <;> rfl
theorem V_thrW {X : Cx} {own : String} {cc : ByteArray} {nL : Nat} {rm : Room} (hf : Cf X own cc nL rm) {ret : Option FieldType} {post : Out → Adr → Dic → Prop} {mc ms : Nat} (he : Ce X ret post mc ms) (hh : Ch X) {ad : Adr} {E : Dic} {pc : Nat} {ls : Ls} {st : List Value} {cs ss : Nat} {cls text : String} {names : List String} {ik is ic : Nat}
    (hcls : Bundle.fit cls = true) (hnames : ∀ n ∈ names, Bundle.fit n = true) (hk : Cond.classLink own ik cls ∈ lw_good) (hini : Cond.initialized cls ∈ lw_good) (hstr : (own, is, text) ∈ lw_strs) (hat : ∀ w ∈ vx_atS own ic cls names, w ∈ lw_good ∨ castOk w = true)
    (d0 : decode cc pc = .ok (.new ik, 3)) (d3 : decode cc (pc + 3) = .ok (.dup, 1)) (d4 : decode cc (pc + 4) = .ok (.ldc_w is, 3)) (d7 : decode cc (pc + 7) = .ok (.invokespecial ic, 3)) (d10 : decode cc (pc + 10) = .ok (.athrow, 1))
    (hrm : names.length + 3 < rm.frames ∧ (st.map fun v => v.category).sum + (13 * (names.length + 1) + 43) ≤ rm.locals ∧ cs + 1 ≤ rm.cells ∧ ss + 6 ≤ rm.slots) (hc : cs + 1 ≤ mc) (hs : ss + 6 ≤ ms) (hp : post (.inr cls) ad E) : V X ad E pc ls st cs ss := by
  obtain ⟨p, l, e, R, s, m, args, below, meth, c, Q, D, K, ad0, E0⟩ := X
  obtain ⟨hx, hb, hml, hown, hts, hK, hl0, hlk, hR0, hEv⟩ := hf
  obtain ⟨hr, rfl⟩ := he
  subst hR0
  intro H locs la hR hI hN hS hl
  obtain ⟨hU, hNs, hst, -, -, hca, hde, -⟩ := hEv
  obtain ⟨sa, hsa⟩ := hst _ hstr
  refine vx_throwSW (names := names) hx hb hl0 hown hcls hnames (hts _ hk) (hts _ hini) hsa (fun w hw => (hat w hw).elim (fun h => hts _ h) (fun h => by rcases castOk_of h with ⟨q, hq, rfl⟩ | ⟨x, hx9, rfl⟩ <;> first | exact va_Nw.use rfl (hca q hq) | exact va_Nw.use rfl (hde x hx9))) (fun w hw => ?_) hU hNs hS hl.1 d0 d3 d4 d7 d10 (fun x hx9 => absurd (hh x hx9) id) hrm.1 hrm.2.1 hrm.2.2.1 hrm.2.2.2 hlk (fun t hal hz hq => ⟨ad, E, hp, fun g j e9 h9 => (hR g j e9 h9).kept (hq _ (hR g j e9 h9).lt), hI, hN, ⟨Nat.le_trans hS.1 hz, fun q h1 h2 => (hq q (Nat.lt_of_lt_of_le h1 hS.1)).trans (hS.2.1 q h1 h2)⟩⟩) hS.2.2 hc hs
  have h9 : w ∈ lw_good ∨ castOk w = true := by
    rcases List.mem_cons.mp hw with rfl | hw
    · exact Or.inl hk
    · rcases List.mem_cons.mp hw with rfl | hw
      · exact Or.inl hini
      · exact hat w hw
  rcases h9 with h9 | h9
  · have := (List.mem_filter.mp h9).2
    simp only [vx_ot, this, Bool.or_true]
  · rcases castOk_of h9 with ⟨q, -, rfl⟩ | ⟨x, -, rfl⟩ <;> rfl
/-- an exception passes out of a method without handlers -/
theorem VX_out {X : Cx} {own : String} {cc : ByteArray} {nL : Nat} {rm : Room} (hf : Cf X own cc nL rm) {ret : Option FieldType} {post : Out → Adr → Dic → Prop} {mc ms : Nat} (he : Ce X ret post mc ms) (hh : Ch X) {ad : Adr} {E : Dic} {pc : Nat} {En : String} {ls : Ls} {st : List Value} {cs ss : Nat} (hc : cs ≤ mc) (hs : ss ≤ ms) (hp : post (.inr En) ad E) : VX X ad E pc En ls st cs ss := by
  obtain ⟨p, l, e, R, s, m, args, below, meth, c, Q, D, K, ad0, E0⟩ := X
  obtain ⟨hx, hb, hml, hown, hts, hK, hl0, hlk, hR0, hEv⟩ := hf
  obtain ⟨hr, rfl⟩ := he
  intro H locs la q ce hR hI hN hS hl hcell hcv hcl
  exact vx_out (fun x hx9 => absurd (hh x hx9) id) hlk hcell hcv hcl (fun t ht hal => ⟨ad, E, hp, by rw [ht]; exact hR, hI, hN, hS.F ht⟩) hS.2.2 hc hs
