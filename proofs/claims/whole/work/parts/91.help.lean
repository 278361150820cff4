/-! a method with handlers -/
def Ct (X : Cx) (hh : List (Nat × Nat × Nat × Nat)) : Prop := match X with
  | (p, l, e, R, s, m, args, below, meth, c, Q, D, K, ad0, E0) => c.exceptionTable.toList = tableOf hh
theorem Ctr.ofH {l : Launch} {y : MethodName} {cc : ByteArray} {nL : Nat} {ret : Option FieldType} {hh : List (Nat × Nat × Nat × Nat)} {rm : Room} {mc ms : Nat} {D : va_G} {K : Nat → ClassId} {ad : Adr} {E : Dic} {as : List Value} {post : Out → Adr → Dic → Prop} {own : String} {ls0 : Ls}
    (hy : plainName y.cls = true) (hyc : y.cls = own) (hl0 : l.stackTraces = false) (hlen : (lg_sl as).length ≤ nL) (hls : lvl 0 ls0 = lv_args 0 as)
    (body : ∀ X : Cx, xl X = l → xD X = D → xK X = K → Cf X own cc nL rm → Ce X ret post mc ms → Ct X hh → V X ad E 0 ls0 [] 0 0) : Ctr l y (.codeWith y cc nL ret hh) rm mc ms D K ad E as post := by
  intro sz
  refine vx_ofWH (cc := cc) (maxL := nL) (ret := ret) (hh := hh) hy rfl ?_
  intro p e s m args below meth c s₁ B hml hv
  obtain ⟨rfl, hsz, hR, hI, hK, hEv⟩ := hv
  subst hsz
  have hown : s.vm.findClass own = some m.cls := hyc ▸ findClass_of_methodNamed B.named
  have hts := atoms_spec (ws := Cond.codeWith y cc nL ret hh :: lw_good) B.pre
  have htab : c.exceptionTable.toList = tableOf hh := vx_table (x := y) B (hts _ List.mem_cons_self)
  have hl := lv_entry as (n := nL) hlen
  rw [lg_entry_eq]
  generalize (lg_sl as ++ List.replicate (nL - (lg_sl as).length) Slot.unset).toArray = la at hl ⊢
  have b := body (p, l, e, (headSpec (Cond.codeWith y cc nL ret hh :: lw_good) rm).room, s, m, as.toArray, below, meth, c, vx_MQ below (Qf D ad E s.heap.size post) (Xf D ad E s.heap.size post) as.toArray s mc ms (AA ad E s.heap.size), D, K, ad, E) rfl rfl rfl
    ⟨B.exec, B.bytes, hml, hown, fun w h => hts w (List.mem_cons_of_mem _ h), hK, hl0, B.notSynchronized, rfl, hEv⟩ ⟨B.returns, rfl⟩ htab
  exact b s.heap [] la hR hI Nw.rf va_S.rf (by rw [hml, hls]; exact hl)
section VHH
variable {X : Cx} {own : String} {cc : ByteArray} {nL : Nat} {rm : Room} {ad : Adr} {E : Dic} {pc : Nat} {ls : Ls} {st : List Value} {cs ss : Nat}
theorem VX_catch (hf : Cf X own cc nL rm) {hh : List (Nat × Nat × Nat × Nat)} (hT : Ct X hh) {En name : String} (pre : List ExceptionTableEntry) (x : ExceptionTableEntry) (suf : List ExceptionTableEntry) (hsplit : tableOf hh = pre ++ x :: suf)
    (hpass : ∀ z ∈ pre, covers z pc = false ∨ (z.catchType ≠ 0 ∧ ∃ nm : String, Cond.classLink own z.catchType nm ∈ lw_good ∧ (En, nm) ∈ lw_ncs)) (hx : covers x pc = true) (h0 : x.catchType ≠ 0) (hlink : Cond.classLink own x.catchType name ∈ lw_good) (hcast : (En, name) ∈ lw_casts)
    (kk : ∀ q : Nat, V X ad E x.handlerPc ls [.ref q] cs ss) : VX X ad E pc En ls st cs ss := by
  obtain ⟨p, l, e, R, s, m, args, below, meth, c, Q, D, K, ad0, E0⟩ := X
  obtain ⟨hx2, hb, hml, hown, hts, hK, hl0, hlk, hR0, hEv⟩ := hf
  intro H locs la q ce hR hI hN hS hl hcell hv hcl
  have hsp : c.exceptionTable.toList = pre ++ x :: suf := Eq.trans hT hsplit
  refine vx_catch hown pre x suf hsp (fun z hz => ?_) hx h0 (hts _ hlink) (va_Nw.use rfl (hEv.2.2.2.2.2.1 (En, name) hcast)) hcell hv hcl (kk q H locs la hR hI hN hS hl)
  rcases hpass z hz with h | ⟨h1, nm, h2, h3⟩
  · exact Or.inl h
  · exact Or.inr ⟨h1, nm, hts _ h2, hEv.2.2.2.2.1 (En, nm) h3⟩
/-- a static call of a method with handlers -/
def CH (own : String) (index : Nat) (y : MethodName) (bytes : ByteArray) (maxL n : Nat) (ret : Option FieldType) (hh : List (Nat × Nat × Nat × Nat)) : Prop := Cond.methodLink own index y ∈ lw_good ∧ Cond.static y ∈ lw_good ∧ Cond.initialized y.cls ∈ lw_good ∧ Cond.codeWith y bytes maxL ret hh ∈ lw_good ∧ y.cls ≠ "java/lang/invoke/MethodHandle" ∧ y.cls ≠ "java/lang/invoke/VarHandle" ∧ (parseMethodDescriptor y.desc).map (fun d => d.parameters.length) = some n
theorem V_callSW (hf : Cf X own cc nL rm) {index : Nat} {y : MethodName} {bytes : ByteArray} {maxL mc ms n : Nat} {ret : Option FieldType} {hh : List (Nat × Nat × Nat × Nat)} {rm2 : Room} {As : List Value} {post : Out → Adr → Dic → Prop}
    (hM : Ctr (xl X) y (.codeWith y bytes maxL ret hh) rm2 mc ms (xD X) (xK X) ad E As post) (hw : CH own index y bytes maxL n ret hh)
    (hrm : rm2.cells = mc ∧ rm2.slots = ms ∧ rm2.frames + 1 ≤ rm.frames ∧ 8 + (maxL + 11) + rm2.locals ≤ rm.locals ∧ cs + mc ≤ rm.cells ∧ ss + ms ≤ rm.slots)
    (hn : As.length = n) (hst : (st.map fun v => v.category).sum ≤ 8)
    (hdg : decode cc pc = .ok (.invokestatic index, 3))
    (kk : ∀ (r : Option Value) (ad' : Adr) (E' : Dic), post (.inl r) ad' E' → V X ad' E' (pc + 3) ls (r.toList ++ st) (cs + mc) (ss + ms))
    (kx : ∀ (En : String) (ad' : Adr) (E' : Dic), post (.inr En) ad' E' → VX X ad' E' pc En ls st (cs + mc) (ss + ms)) : V X ad E pc ls (As.reverse ++ st) cs ss := by
  obtain ⟨w1, w2, w4, w5, w6, w7, w8⟩ := hw
  obtain ⟨p, l, e, R, s, m, args, below, meth, c, Q, D, K, ad0, E0⟩ := X
  obtain ⟨hx, hb, hml, hown, hts, hK, hl0, hlk, hR0, hEv⟩ := hf
  subst hR0
  intro H locs la hR hI hN hS hl
  obtain ⟨r1, r2, r3, r4, r5, r6⟩ := hrm
  have cw : vx_CSW R s args own index y bytes maxL ret hh (Cond.codeWith y bytes maxL ret hh :: lw_good) rm2 mc ms n := ⟨⟨r1, r2, r3, r4, pay_in hts (lg_in w5), List.mem_cons_self⟩, hts _ w5, hts _ w4, ⟨w6, w7⟩, fun sig h => by rw [h] at w8; exact (Option.some.inj w8).symm, hts _ w1, hts _ w2⟩
  exact V_back hN hS hl (vx_runSX ⟨hx, hb, hml, hown, hts⟩ (hM H.size) cw ⟨Wd.blind, V_pre (args := args) hK hEv hR hI hN hS⟩ rfl hn (hl.1.trans hml) rfl (lv_room hst) hdg ⟨r5, r6⟩) kk kx
end VHH
