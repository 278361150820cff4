/-! words -/
/-- the words that stay good in every later state -/
def lw_extra : List Cond := [.selects RJ4 yJ5_ensureCapacityInternal_d00df yJ5_ensureCapacityInternal_d00df, .selects RJ4 yJ5_newCapacity_0f7a4 yJ5_newCapacity_0f7a4]
def lw_good : List Cond := (lw_extra ++ lw_tbl).filter goodWord
theorem lg_mem {w : Cond} (h : w ∈ lw_tbl) (hg : goodWord w = true) : w ∈ lw_good := List.mem_filter.mpr ⟨List.mem_append_right _ h, hg⟩
theorem lg_t {w : Cond} (i : Nat) (h : tables_1[i]? = some w) (hg : goodWord w = true) : w ∈ lw_good := lg_mem (List.mem_append_right _ (List.mem_of_getElem? h)) hg
theorem lg_p {w : Cond} (i : Nat) (h : (k2_sels lw_privs)[i]? = some w) (hg : goodWord w = true) : w ∈ lw_good := lg_mem (List.mem_append_left _ (List.mem_of_getElem? h)) hg
theorem lg_in {c : Cond} (h : c ∈ lw_good) : GoodIn lw_good (c :: lw_good) := fun w hw => by
  have h1 : w ∈ lw_good := by
    rcases List.mem_cons.mp hw with rfl | h2
    · exact h
    · exact h2
  exact ⟨h1, good_of_word (List.mem_filter.mp h1).2⟩
def FL (own : String) (idx ci k : Nat) : Prop := ∃ (ref C : String) (T : u_T) (N : Nat), vwCl[ci]? = some (C, T, N) ∧ k < N ∧ (∀ w ∈ u_ws C T N, w ∈ lw_good) ∧ Cond.fieldLink own idx ref (T k).2.1 (T k).2.2.1 ∈ lw_good ∧ (ref = (T k).1 ∨ Cond.sameField ref (T k).1 (T k).2.1 (T k).2.2.1 ∈ lw_good)
def FP (own : String) (idx ci k : Nat) (fin : Bool) (ty : FieldType) : Prop := ∃ (ref C : String) (T : u_T) (N : Nat) (ty0 : Nat → FieldType), vwCl[ci]? = some (C, T, N) ∧ k < N ∧ (∀ w ∈ u_ws C T N, w ∈ lw_good) ∧ Cond.fieldLink own idx ref (T k).2.1 (T k).2.2.1 ∈ lw_good ∧ (ref = (T k).1 ∨ Cond.sameField ref (T k).1 (T k).2.1 (T k).2.2.1 ∈ lw_good) ∧
  (∀ k, k < N → parseFieldDescriptor (T k).2.2.1 = some (ty0 k)) ∧ (∀ a, a < N → ∀ b, b < N → a ≠ b → (T a).2.1 ≠ (T b).2.1) ∧ (T k).2.2.2 = fin ∧ parseFieldDescriptor (T k).2.2.1 = some ty ∧ (fin = true → (T k).1 = own)
/-- a call's words -/
def CV (own : String) (index : Nat) (C : String) (y : MethodName) (bytes : ByteArray) (maxL n : Nat) (ret : Option FieldType) : Prop := Cond.methodLink own index y ∈ lw_good ∧ Cond.instanceMethod y ∈ lw_good ∧ Cond.selects C y y ∈ lw_good ∧ Cond.initialized C ∈ lw_good ∧ Cond.code y bytes maxL ret ∈ lw_good ∧ y.cls = C ∧ y.cls ≠ "java/lang/invoke/MethodHandle" ∧ y.cls ≠ "java/lang/invoke/VarHandle" ∧ (parseMethodDescriptor y.desc).map (fun d => d.parameters.length) = some n
def CS (own : String) (index : Nat) (y : MethodName) (bytes : ByteArray) (maxL n : Nat) (ret : Option FieldType) : Prop := Cond.methodLink own index y ∈ lw_good ∧ Cond.static y ∈ lw_good ∧ Cond.initialized y.cls ∈ lw_good ∧ Cond.code y bytes maxL ret ∈ lw_good ∧ y.cls ≠ "java/lang/invoke/MethodHandle" ∧ y.cls ≠ "java/lang/invoke/VarHandle" ∧ (parseMethodDescriptor y.desc).map (fun d => d.parameters.length) = some n
theorem np_of {y : MethodName} {n : Nat} (h3 : (parseMethodDescriptor y.desc).map (fun d => d.parameters.length) = some n) : ∀ sig, parseMethodDescriptor y.desc = some sig → n = sig.parameters.length := fun sig h => by
  rw [h] at h3
  exact (Option.some.inj h3).symm
theorem lg_list {ws : List Cond} (h : ∀ w ∈ ws, w ∈ lw_good) : GoodIn lw_good ws := fun w hw => ⟨h w hw, good_of_word (List.mem_filter.mp (h w hw)).2⟩
/-- the pairs of classes that the tables say castable -/
def lw_casts : List (String × String) := [("java/lang/IndexOutOfBoundsException", "java/lang/IndexOutOfBoundsException"), ("java/lang/IllegalArgumentException", "java/lang/IllegalArgumentException"), ("java/util/NoSuchElementException", "java/util/NoSuchElementException"), ("java/lang/UnsupportedOperationException", "java/lang/UnsupportedOperationException"), ("java/lang/ArrayIndexOutOfBoundsException", "java/lang/ArrayIndexOutOfBoundsException"), ("java/lang/ArithmeticException", "java/lang/ArithmeticException"), ("[B", "java/lang/Cloneable"), ("java/lang/IllegalStateException", "java/lang/IllegalStateException"), ("java/lang/ArrayIndexOutOfBoundsException", "java/lang/IndexOutOfBoundsException"), ("java/lang/StringIndexOutOfBoundsException", "java/lang/IndexOutOfBoundsException"), ("BarnacleExchange", "java/lang/Object"), ("BarnacleExchange$Market", "java/lang/Object"), ("BarnacleExchange$Fleet", "java/lang/Object"), ("BarnacleExchange$BidBook", "java/lang/Object"), ("BarnacleExchange$OfferBook", "java/lang/Object"), ("BarnacleExchange$TradeLog", "java/lang/Object"), ("BarnacleExchange$History", "java/lang/Object"), ("BarnacleExchange$Script", "java/lang/Object"), ("java/lang/StringBuilder", "java/lang/Object"), ("BarnacleExchangeModel", "java/lang/Object"), ("java/lang/IndexOutOfBoundsException", "java/lang/Object"), ("java/lang/IllegalArgumentException", "java/lang/Object"), ("java/util/NoSuchElementException", "java/lang/Object"), ("java/lang/UnsupportedOperationException", "java/lang/Object"), ("java/lang/ArrayIndexOutOfBoundsException", "java/lang/Object"), ("java/lang/ArithmeticException", "java/lang/Object"), ("java/lang/StringIndexOutOfBoundsException", "java/lang/Object"), ("java/lang/String", "java/lang/Object"), ("java/lang/IllegalStateException", "java/lang/Object"), ("java/lang/Throwable", "java/lang/Object")]
def lw_decls : List MethodName := [⟨"java/lang/RuntimeException", "<init>", "()V"⟩, ⟨"java/lang/RuntimeException", "<init>", "(Ljava/lang/String;)V"⟩, ⟨"java/lang/Exception", "<init>", "()V"⟩, ⟨"java/lang/Exception", "<init>", "(Ljava/lang/String;)V"⟩, ⟨"java/lang/Throwable", "<init>", "()V"⟩, ⟨"java/lang/Throwable", "<init>", "(Ljava/lang/String;)V"⟩, ⟨"BarnacleExchange$OrderBook", "comesAhead", "(III)Z"⟩, ⟨"java/lang/IndexOutOfBoundsException", "<init>", "()V"⟩, ⟨"java/lang/IndexOutOfBoundsException", "<init>", "(Ljava/lang/String;)V"⟩]
def castOk (w : Cond) : Bool := match w with
  | .castable a b => decide ((a, b) ∈ lw_casts)
  | .declares x => decide (x ∈ lw_decls)
  | _ => false
theorem castOk_of {w : Cond} (h : castOk w = true) : (∃ q ∈ lw_casts, w = .castable q.1 q.2) ∨ ∃ x ∈ lw_decls, w = .declares x := by
  cases w <;> simp [castOk] at h
  · first | exact Or.inl ⟨_, h, rfl⟩ | exact Or.inr ⟨_, h, rfl⟩
  · first | exact Or.inr ⟨_, h, rfl⟩ | exact Or.inl ⟨_, h, rfl⟩
/-- a call of an inherited or overriding method -/
def CU (own : String) (index : Nat) (C owner : String) (x y : MethodName) (bytes : ByteArray) (maxL n : Nat) (ret : Option FieldType) : Prop := (∀ (R : Room) (s : State) (args : Array Value) (rm2 : Room) (mc ms : Nat), (∀ w ∈ lw_good, w.before args s = true) → (∀ x ∈ lw_decls, va_Nw (.declares x) s) → rm2.cells = mc → rm2.slots = ms → rm2.frames + 1 ≤ R.frames ∧ 8 + (maxL + 11) + rm2.locals ≤ R.locals → va_CU R s args own C owner index x y bytes maxL ret (Cond.code y bytes maxL ret :: lw_good) rm2 mc ms n)
