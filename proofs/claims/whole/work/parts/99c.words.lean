/-! the start: the words, the givens -/
theorem cw_J0 : ∀ w ∈ u_ws RJ0 TJ0 4, w ∈ lw_good := List.forall_mem_cons.mpr ⟨(lg_t 778 (by decide +kernel) (by decide +kernel) : Cond.laysFinal RJ0 "java/lang/String" "value" "[B" ∈ lw_good), List.forall_mem_cons.mpr ⟨(lg_t 780 (by decide +kernel) (by decide +kernel) : Cond.laysFinal RJ0 "java/lang/String" "coder" "B" ∈ lw_good), List.forall_mem_cons.mpr ⟨(lg_t 1332 (by decide +kernel) (by decide +kernel) : Cond.lays RJ0 "java/lang/String" "hash" "I" ∈ lw_good), List.forall_mem_cons.mpr ⟨(lg_t 1334 (by decide +kernel) (by decide +kernel) : Cond.lays RJ0 "java/lang/String" "hashIsZero" "Z" ∈ lw_good), fun _ h => absurd h List.not_mem_nil⟩⟩⟩⟩
theorem cw_Jx00060 : ∀ w ∈ u_ws RJx00060 TJx00060 6, w ∈ lw_good := List.forall_mem_cons.mpr ⟨(lg_t 766 (by decide +kernel) (by decide +kernel) : Cond.lays RJx00060 "java/lang/Throwable" "backtrace" "Ljava/lang/Object;" ∈ lw_good), List.forall_mem_cons.mpr ⟨(lg_t 767 (by decide +kernel) (by decide +kernel) : Cond.lays RJx00060 "java/lang/Throwable" "detailMessage" "Ljava/lang/String;" ∈ lw_good), List.forall_mem_cons.mpr ⟨(lg_t 768 (by decide +kernel) (by decide +kernel) : Cond.lays RJx00060 "java/lang/Throwable" "cause" "Ljava/lang/Throwable;" ∈ lw_good), List.forall_mem_cons.mpr ⟨(lg_t 769 (by decide +kernel) (by decide +kernel) : Cond.lays RJx00060 "java/lang/Throwable" "stackTrace" "[Ljava/lang/StackTraceElement;" ∈ lw_good), List.forall_mem_cons.mpr ⟨(lg_t 770 (by decide +kernel) (by decide +kernel) : Cond.lays RJx00060 "java/lang/Throwable" "depth" "I" ∈ lw_good), List.forall_mem_cons.mpr ⟨(lg_t 771 (by decide +kernel) (by decide +kernel) : Cond.lays RJx00060 "java/lang/Throwable" "suppressedExceptions" "Ljava/util/List;" ∈ lw_good), fun _ h => absurd h List.not_mem_nil⟩⟩⟩⟩⟩⟩
theorem cw_Jx7c733 : ∀ w ∈ u_ws RJx7c733 TJx7c733 6, w ∈ lw_good := List.forall_mem_cons.mpr ⟨(lg_t 1338 (by decide +kernel) (by decide +kernel) : Cond.lays RJx7c733 "java/lang/Throwable" "backtrace" "Ljava/lang/Object;" ∈ lw_good), List.forall_mem_cons.mpr ⟨(lg_t 1339 (by decide +kernel) (by decide +kernel) : Cond.lays RJx7c733 "java/lang/Throwable" "detailMessage" "Ljava/lang/String;" ∈ lw_good), List.forall_mem_cons.mpr ⟨(lg_t 1340 (by decide +kernel) (by decide +kernel) : Cond.lays RJx7c733 "java/lang/Throwable" "cause" "Ljava/lang/Throwable;" ∈ lw_good), List.forall_mem_cons.mpr ⟨(lg_t 1341 (by decide +kernel) (by decide +kernel) : Cond.lays RJx7c733 "java/lang/Throwable" "stackTrace" "[Ljava/lang/StackTraceElement;" ∈ lw_good), List.forall_mem_cons.mpr ⟨(lg_t 1342 (by decide +kernel) (by decide +kernel) : Cond.lays RJx7c733 "java/lang/Throwable" "depth" "I" ∈ lw_good), List.forall_mem_cons.mpr ⟨(lg_t 1343 (by decide +kernel) (by decide +kernel) : Cond.lays RJx7c733 "java/lang/Throwable" "suppressedExceptions" "Ljava/util/List;" ∈ lw_good), fun _ h => absurd h List.not_mem_nil⟩⟩⟩⟩⟩⟩
/-- a private method of a class above is selected -/
theorem wx_sel {args : Array Value} {s : State} {y z : MethodName} {C : String} (hy : y.cls ≠ "java/lang/invoke/MethodHandle" ∧ y.cls ≠ "java/lang/invoke/VarHandle") (hcl : z.cls = y.cls) (hz : (Cond.selects C z z).before args s = true) (hpriv : (Cond.privateMethod y).before args s = true) (hinst : (Cond.instanceMethod y).before args s = true) : (Cond.selects C y y).before args s = true := by
  obtain ⟨mk, methM, hnamed, hmethM, -, -⟩ := Cond.instanceMethod_spec hinst
  have hfound : s.methodFound? y.cls y.name y.desc = some mk := State.methodFound?_of_named hnamed hy
  simp only [Cond.before, Cond.holds, Cond.value] at hz
  cases hc : s.vm.findClass C with
  | none => simp [hc] at hz
  | some c =>
    cases hr : s.methodFound? z.cls z.name z.desc with
    | none => simp [hc, hr] at hz
    | some r =>
      cases hm : s.methodNamed? z with
      | none => simp [hc, hr, hm] at hz
      | some mz =>
        have e1 := findClass_of_methodNamed hnamed
        have e2 := findClass_of_methodNamed hm
        rw [hcl] at e2
        have hcls : mk.cls = mz.cls := Option.some.inj (e1.symm.trans e2)
        have hsel : selectMethod {} s.vm c mk = .method mk := selectMethod_private hmethM (Cond.privateMethod_at hpriv mk methM hnamed hmethM)
        have hni : (s.vm.classes[mz.cls]?).any (fun k => !k.isInterface) = true := by
          simp only [hc, hr, hm] at hz
          cases hq : selectMethod {} s.vm c r with
          | method m' =>
            simp only [hq] at hz
            simp at hz ⊢
            exact hz.2
          | _ => simp [hq] at hz
        simp only [Cond.before, Cond.holds, Cond.value, hc, hfound, hnamed, hsel, hcls]
        simp only [hni]
        simp
theorem tb_at {args : Array Value} {s : State} (h : ∀ w ∈ lw_tbl, w.before args s = true) (i : Nat) {w : Cond} (hi : tables_1[i]? = some w) : w.before args s = true := h w (List.mem_append_right _ (List.mem_of_getElem? hi))
theorem st_words {args : Array Value} {s : State} (h : ∀ w ∈ lw_tbl, w.before args s = true) : ∀ w ∈ lw_good, w.before args s = true := by
  intro w hw
  rcases List.mem_append.mp (List.mem_filter.mp hw).1 with hx | hx
  · simp only [lw_extra, List.mem_cons, List.not_mem_nil, or_false] at hx
    have hz : (Cond.selects RJ4 yJ5_isLatin1_aae02 yJ5_isLatin1_aae02).before args s = true := tb_at h 1178 (by decide +kernel)
    rcases hx with rfl | rfl
    · exact wx_sel (z := yJ5_isLatin1_aae02) ⟨by decide, by decide⟩ rfl hz (tb_at h 1145 (by decide +kernel)) (tb_at h 1146 (by decide +kernel))
    · exact wx_sel (z := yJ5_isLatin1_aae02) ⟨by decide, by decide⟩ rfl hz (tb_at h 1149 (by decide +kernel)) (tb_at h 1150 (by decide +kernel))
  · exact h w hx
theorem gw_in {α β : Type} {l : List α} {f : α → Option β} {r : List β} (h : l.filterMap f = r) {b : β} (hb : b ∈ r) : ∃ w ∈ l, f w = some b := by
  rw [← h] at hb
  obtain ⟨w, h1, h2⟩ := List.mem_filterMap.mp hb
  exact ⟨w, h1, h2⟩
def gw_cast (w : Cond) : Option (String × String) := match w with
  | .castable a b => some (a, b)
  | _ => none
def gw_decl (w : Cond) : Option MethodName := match w with
  | .declares x => some x
  | _ => none
def gw_nest (w : Cond) : Option (String × Nat × MethodName × String) := match w with
  | .methodLinkNest a i x h => some (a, i, x, h)
  | _ => none
def gw_str (w : Cond) : Option (String × Nat × String) := match w with
  | .stringRef o k t => some (o, k, t)
  | _ => none
def gw_ncast (w : Cond) : Option (String × String) := match w with
  | .not (.castable a b) => some (a, b)
  | _ => none
def gw_ex (w : Cond) : Option (String × Nat × String) := match w with
  | .exactly (.string o k) c => some (o, k, c)
  | _ => none
def gw_el (w : Cond) : Option (String × String × String × Int32 × Int32) := match w with
  | .eq (.elem (.static c n d) (.int j)) (.int v) => some (c, n, d, j, v)
  | _ => none
def gw_se (w : Cond) : Option (Nat × String × String × String × Int32 × Int32) := match w with
  | .eq (.elem (.field (.string o k) a b c) (.int j)) (.int v) => if o = RX6 then some (k, a, b, c, j, v) else none
  | _ => none
def gw_co (w : Cond) : Option (Nat × String × String × String × Int32) := match w with
  | .eq (.field (.string o k) a b c) (.int v) => if o = RX6 then some (k, a, b, c, v) else none
  | _ => none
def gw_ar (w : Cond) : Option (Nat × String × String × String × FieldType) := match w with
  | .arrayOf (.field (.string o k) a b c) t => if o = RX6 then some (k, a, b, c, t) else none
  | _ => none
def gw_le (w : Cond) : Option (Nat × String × String × String × Int32) := match w with
  | .eq (.length (.field (.string o k) a b c)) (.int v) => if o = RX6 then some (k, a, b, c, v) else none
  | _ => none
theorem st_castL : tables_1.filterMap gw_cast = lw_casts := by decide +kernel
theorem st_declL : tables_1.filterMap gw_decl = lw_decls := by decide +kernel
theorem st_nestL : lw_nests.all (fun q => decide (q ∈ tables_1.filterMap gw_nest)) = true := by decide +kernel
theorem st_strL : lw_strs.all (fun q => decide (q ∈ tables_1.filterMap gw_str)) = true := by decide +kernel
abbrev gvC : Cond := Jvm.Cond.and given_1 narrow_1
theorem st_ncastL : (flatC gvC).filterMap gw_ncast = lw_ncs := by decide +kernel
theorem st_exL : lw_strs.all (fun q => decide ((q.1, q.2.1, "java/lang/String") ∈ (flatC gvC).filterMap gw_ex)) = true := by decide +kernel
theorem st_elL : (flatC gvC).filterMap gw_el = (List.range 100).map (fun j => ("java/lang/Integer", "DigitOnes", "[B", Int32.ofNat j, Int32.ofNat (48 + j % 10))) ++ (List.range 100).map (fun j => ("java/lang/Integer", "DigitTens", "[B", Int32.ofNat j, Int32.ofNat (48 + j / 10))) := by decide +kernel
theorem st_seL : (flatC gvC).filterMap gw_se = (List.range 10).flatMap (fun i => (List.range (fm_len.getD i 0)).map (fun j => (fm_idx.getD i 0, "java/lang/String", "value", "[B", Int32.ofNat j, (fm_byt.getD i []).getD j 0))) := by decide +kernel
theorem st_coL : (flatC gvC).filterMap gw_co = (List.range 10).map (fun i => (fm_idx.getD i 0, "java/lang/String", "coder", "B", (0 : Int32))) := by decide +kernel
theorem st_arL : (flatC gvC).filterMap gw_ar = (List.range 10).map (fun i => (fm_idx.getD i 0, "java/lang/String", "value", "[B", FieldType.byte)) := by decide +kernel
theorem st_leL : (flatC gvC).filterMap gw_le = (List.range 10).map (fun i => (fm_idx.getD i 0, "java/lang/String", "value", "[B", Int32.ofNat (fm_len.getD i 0))) := by decide +kernel
theorem st_fmex : (List.range 10).all (fun i => decide ((RX6, fm_idx.getD i 0, "java/lang/String") ∈ (flatC gvC).filterMap gw_ex)) = true := by decide +kernel
theorem st_fmstr : (List.range 10).all (fun i => decide ((RX6, fm_idx.getD i 0, fm_txt.getD i "") ∈ tables_1.filterMap gw_str)) = true := by decide +kernel
