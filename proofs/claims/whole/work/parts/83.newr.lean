/-! constructors: rules -/
theorem wis_X8 : Cond.instantiable RX8 11 ∈ lw_good := lg_t 35 (by decide +kernel) (by decide +kernel)
theorem wis_X3 : Cond.instantiable RX3 9 ∈ lw_good := lg_t 43 (by decide +kernel) (by decide +kernel)
theorem wis_X1 : Cond.instantiable RX1 6 ∈ lw_good := lg_t 49 (by decide +kernel) (by decide +kernel)
theorem wis_X0 : Cond.instantiable RX0 7 ∈ lw_good := lg_t 87 (by decide +kernel) (by decide +kernel)
theorem wis_X4 : Cond.instantiable RX4 7 ∈ lw_good := lg_t 135 (by decide +kernel) (by decide +kernel)
theorem wis_X7 : Cond.instantiable RX7 6 ∈ lw_good := lg_t 149 (by decide +kernel) (by decide +kernel)
theorem wis_X2 : Cond.instantiable RX2 3 ∈ lw_good := lg_t 218 (by decide +kernel) (by decide +kernel)
theorem wis_X6 : Cond.instantiable RX6 7 ∈ lw_good := lg_t 238 (by decide +kernel) (by decide +kernel)
theorem wis_X9 : Cond.instantiable RX9 23 ∈ lw_good := lg_t 1574 (by decide +kernel) (by decide +kernel)
theorem wi_Obj : Cond.instanceMethod Lib.objectInit ∈ lw_good := lg_t 40 (by decide +kernel) (by decide +kernel)
theorem wc_Obj : Cond.code Lib.objectInit ⟨#[0xb1]⟩ 1 none ∈ lw_good := lg_t 41 (by decide +kernel) (by decide +kernel)
section VN
variable {X : Cx} {own : String} {cc : ByteArray} {nL : Nat} {rm : Room} {ad : Adr} {E : Dic} {pc : Nat} {ls : Ls} {st : List Value} {cs ss : Nat}
theorem V_new (hf : Cf X own cc nL rm) {index : Nat} {C : String} {T : u_T} {N ci : Nat} {ty : Nat → FieldType} {fs : List Value} {g : Int} {j : Nat} (hin : ∀ w ∈ u_ws C T N, w ∈ lw_good) (hty : ∀ k, k < N → parseFieldDescriptor (T k).2.2.1 = some (ty k)) (hcl : Cond.classLink own index C ∈ lw_good) (hinst : Cond.instantiable C N ∈ lw_good) (hini : Cond.initialized C ∈ lw_good) (hc : vwCl[ci]? = some (C, T, N)) (hfs : ∀ j, j < N → defaultValue (ty j) = vp_V fs j) (hE : E g j = none) (hrm : cs + 1 ≤ rm.cells ∧ ss + N ≤ rm.slots) (hdg : decode cc pc = .ok (.new index, 3))
    (kk : ∀ v : Nat, V X (ast ad g j v) (eset E g j (.inr (ci, fs))) (pc + 3) ls (.ref v :: st) (cs + 1) (ss + N)) : V X ad E pc ls st cs ss := by
  obtain ⟨p, l, e, R, s, m, args, below, meth, c, Q, D, K, ad0, E0⟩ := X
  obtain ⟨hx, hb, hml, hown, hts, hK, hl0, hlk, hR0, hEv⟩ := hf
  subst hR0
  intro H locs la hR hI hN hS hl
  have hKn := hK.1 ci _ hc
  refine W.newcK hx hb hown (hts _ hcl) (hts _ hinst) (hts _ hini) rfl hdg hrm.1 hrm.2 hKn.2.1 rfl fun H1 kC hkC e1 z1 o1 => ?_
  have hat : va_at D vwCl (H.size, .inr (ci, fs)) H1 := ⟨_, hc, (u_born ty hts hin hKn hkC e1 hty).to hfs⟩
  exact kk H.size H1 locs la (hR.push hE hat o1) (Ij.push hR hI) (hN.push hS.1 hE) ⟨Nat.le_trans hS.1 (by omega), fun x h1 h2 => (o1 x (Nat.lt_of_lt_of_le h1 hS.1)).trans (hS.2.1 x h1 h2), hS.2.2⟩ hl
theorem V_obj (hf : Cf X own cc nL rm) {index a : Nat} (hlink : Cond.methodLink own index Lib.objectInit ∈ lw_good) (hst : (st.map fun v => v.category).sum ≤ 8) (hrm : 1 ≤ rm.frames ∧ 20 ≤ rm.locals) (hdg : decode cc pc = .ok (.invokespecial index, 3)) (kk : V X ad E (pc + 3) ls st cs ss) : V X ad E pc ls (.ref a :: st) cs ss := by
  obtain ⟨p, l, e, R, s, m, args, below, meth, c, Q, D, K, ad0, E0⟩ := X
  obtain ⟨hx, hb, hml, hown, hts, hK, hl0, hlk, hR0, hEv⟩ := hf
  subst hR0
  intro H locs la hR hI hN hS hl
  exact W.objInit hx hb hown (hts _ hlink) (hts _ wi_Obj) (hts _ wc_Obj) rfl hl.1 rfl hdg hrm.1 (by have := hrm.2; show 2 * 0 + _ + 12 ≤ _; omega) (kk H locs la hR hI hN hS hl)
theorem V_newq (hf : Cf X own cc nL rm) {index t n : Nat} {C : String} {i : Int} {g : Int} {j : Nat} (hcl : Cond.classLink own index C ∈ lw_good) (hC : C = RX3) (ht : (tysOf (xK X))[t]? = some (xK X t, .object C)) (hE : E g j = none) (hiR : inR i) (h0 : 0 ≤ i) (hn : i.toNat = n) (hb : n * 4 ≤ 536870912) (hrm : cs + 1 ≤ rm.cells ∧ ss + n ≤ rm.slots) (hdg : decode cc pc = .ok (.anewarray index, 3))
    (kk : ∀ v : Nat, V X (ast ad g j v) (eset E g j (.inl (xK X t, n, .inr (.inr (.inr (.inr (fun _ => none))))))) (pc + 3) ls (.ref v :: st) (cs + 1) (ss + n)) : V X ad E pc ls (.int (iN i) :: st) cs ss := by
  obtain ⟨p, l, e, R, s, m, args, below, meth, c, Q, D, K, ad0, E0⟩ := X
  obtain ⟨hx, hbc, hml, hown, hts, hK, hl0, hlk, hR0, hEv⟩ := hf
  subst hR0
  subst hn
  intro H locs la hR hI hN hS hl
  have hcl2 : (iN i).toNatClampNeg = i.toNat := iN_cl hiR
  refine W.anew hx hbc hown (hts _ hcl) (by rw [hC]; exact va_AO.use hEv.2.2.2.2.2.2.2.2.2.2.2.2.1) rfl hdg rfl (iN_ng hiR h0) (by rw [hcl2]; exact hb) hrm.1 (by rw [hcl2]; exact hrm.2) fun cA kA comp f1 f2 f3 f4 => ?_
  rw [hcl2]
  have hc : cA = K t := by
    obtain ⟨kA', comp', k1, k2, k3, k4⟩ := (hK.2 t _ ht).2
    exact Option.some.inj (f1.symm.trans k4)
  subst hc
  generalize hH1 : H.push ({ cls := K t, slots := Array.replicate i.toNat .null, vm := .none } : Cell) = H1
  have z1 : H1.size = H.size + 1 := by rw [← hH1, Array.size_push]
  have e1 : H1[H.size]? = some (arrV (K t) i.toNat (fun _ => .null)) := by rw [← hH1, Array.getElem?_push_size, ← arrV_new]
  have o1 : ∀ q : Nat, q < H.size → H1[q]? = H[q]? := fun q hq => by rw [← hH1, Array.getElem?_push, if_neg (Nat.ne_of_lt hq)]
  have hat : va_at D vwCl (H.size, .inl (K t, i.toNat, .inr (.inr (.inr (.inr (fun _ => none)))))) H1 := by
    show H1[H.size]? = some (vp_cell _ _)
    rw [vp_cell_q]
    exact e1
  exact kk H.size H1 locs la (hR.push hE hat o1) (Ij.push hR hI) (hN.push hS.1 hE) ⟨Nat.le_trans hS.1 (by omega), fun x h1 h2 => (o1 x (Nat.lt_of_lt_of_le h1 hS.1)).trans (hS.2.1 x h1 h2), hS.2.2⟩ hl
theorem V_astq (hf : Cf X own cc nL rm) {g g' : Int} {j j' t ci n : Nat} {r : vw_C} {vs : List Value} {f : Nat → Option Nat} {i : Int} (hE : E g j = some (.inl (xK X t, n, .inr (.inr (.inr (.inr f)))))) (ht : (tysOf (xK X))[t]? = some (xK X t, .object r.1)) (hV : E g' j' = some (.inr (ci, vs))) (hc : vwCl[ci]? = some r) (hiR : inR i) (h0 : 0 ≤ i) (h1 : i < n) (hdg : decode cc pc = .ok (.aastore, 1))
    (kk : V X ad (eset E g j (.inl (xK X t, n, .inr (.inr (.inr (.inr (va_up f i.toNat (some (ad g' j'))))))))) (pc + 1) ls st cs ss) : V X ad E pc ls (.ref (ad g' j') :: .int (iN i) :: .ref (ad g j) :: st) cs ss := by
  obtain ⟨p, l, e, R, s, m, args, below, meth, c, Q, D, K, ad0, E0⟩ := X
  obtain ⟨hx, hb, hml, hown, hts, hK, hl0, hlk, hR0, hEv⟩ := hf
  intro H locs la hR hI hN hS hl
  have hi2 : (iN i).toNatClampNeg = i.toNat := iN_cl hiR
  obtain ⟨r', hr', cellV, g1, g2, g3, -⟩ := hR g' j' _ hV
  have hcls := (hK.1 ci r hc).2
  obtain ⟨kA, comp, k1, k2, k3, -⟩ := (hK.2 t _ ht).2
  have hcomp : comp = D.1 ci := Option.some.inj (k3.symm.trans hcls.1)
  subst hcomp
  obtain ⟨kC, hkC, -⟩ := hcls.2
  refine W.aast hx hb (hR g j _ hE) (fun q h => by cases h) (fun h => by cases h) k1 k2 rfl hkC ⟨iN_ng hiR h0, by show _ < (arrV _ _ _).slots.size; rw [arrV_size, hi2]; exact (Int.toNat_lt h0).mpr h1⟩ g1 (fun q h => by rw [g3] at h; cases h) (by rw [g2]; exact hkC) (by rw [g2]; exact va_assign hcls) rfl rfl hdg fun H1 e z oq => ?_
  refine kk H1 _ la (hR.set hI hE ?_ oq) (hI.set hE) (hN.set hE) (hS.put z oq (hN.mem hE)) hl
  show H1[_]? = some (vp_cell _ _)
  rw [e, hi2]
  rw [vp_cell_q, vp_cell_q, arrV_store]
  congr 2
  funext q
  by_cases hq : q = i.toNat
  · subst hq
    simp [updV, va_up, va_rf]
  · simp [updV, va_up, hq]
/-- a constructor's call -/
def CI (own : String) (index : Nat) (y : MethodName) (bytes : ByteArray) (maxL n : Nat) : Prop := Cond.methodLink own index y ∈ lw_good ∧ Cond.instanceMethod y ∈ lw_good ∧ Cond.initialized y.cls ∈ lw_good ∧ Cond.code y bytes maxL none ∈ lw_good ∧ y.name = "<init>" ∧ y.cls ≠ "java/lang/invoke/MethodHandle" ∧ y.cls ≠ "java/lang/invoke/VarHandle" ∧ (parseMethodDescriptor y.desc).map (fun d => d.parameters.length) = some n
theorem V_callI (hf : Cf X own cc nL rm) {index : Nat} {y : MethodName} {bytes : ByteArray} {maxL mc ms n b : Nat} {rm2 : Room} {As : List Value} {post : Out → Adr → Dic → Prop}
    (hM : Ctr (xl X) y (.code y bytes maxL none) rm2 mc ms (xD X) (xK X) ad E (.ref b :: As) post) (hw : CI own index y bytes maxL n)
    (hn : As.length = n) (hst : (st.map fun v => v.category).sum ≤ 8)
    (hrm : rm2.cells = mc ∧ rm2.slots = ms ∧ rm2.frames + 1 ≤ rm.frames ∧ 8 + (maxL + 11) + rm2.locals ≤ rm.locals ∧ cs + mc ≤ rm.cells ∧ ss + ms ≤ rm.slots)
    (hdg : decode cc pc = .ok (.invokespecial index, 3))
    (kk : ∀ (r : Option Value) (ad' : Adr) (E' : Dic), post (.inl r) ad' E' → V X ad' E' (pc + 3) ls (r.toList ++ st) (cs + mc) (ss + ms))
    (kx : ∀ (En : String) (ad' : Adr) (E' : Dic), post (.inr En) ad' E' → VX X ad' E' pc En ls st (cs + mc) (ss + ms)) : V X ad E pc ls (As.reverse ++ .ref b :: st) cs ss := by
  obtain ⟨w1, w2, w3, w4, w5, w6⟩ := hw
  obtain ⟨p, l, e, R, s, m, args, below, meth, c, Q, D, K, ad0, E0⟩ := X
  obtain ⟨hx, hb, hml, hown, hts, hK, hl0, hlk, hR0, hEv⟩ := hf
  subst hR0
  obtain ⟨r1, r2, r3, r4, r5, r6⟩ := hrm
  intro H locs la hR hI hN hS hl
  have cw : CallB R s args own index y bytes maxL none (Cond.code y bytes maxL none :: lw_good) rm2 mc ms n ∧ y.name = "<init>" ∧ (Cond.instanceMethod y).before args s = true := ⟨callB_of n hts (lg_in w4) rfl r1 r2 (hts _ w3) (hts _ w1) w6 ⟨r3, r4⟩, w5, hts _ w2⟩
  exact V_back hN hS hl (vx_runI ⟨hx, hb, hml, hown, hts⟩ (hM H.size) cw ⟨Wd.blind, V_pre (args := args) hK hEv hR hI hN hS⟩ rfl hn (hl.1.trans hml) rfl (lv_room hst) hdg ⟨r5, r6⟩) kk kx
/-- the same of a nest mate -/
def CIN (own : String) (index : Nat) (y : MethodName) (host : String) (bytes : ByteArray) (maxL n : Nat) : Prop := (own, index, y, host) ∈ lw_nests ∧ Cond.instanceMethod y ∈ lw_good ∧ Cond.initialized y.cls ∈ lw_good ∧ Cond.code y bytes maxL none ∈ lw_good ∧ y.name = "<init>" ∧ y.cls ≠ "java/lang/invoke/MethodHandle" ∧ y.cls ≠ "java/lang/invoke/VarHandle" ∧ (parseMethodDescriptor y.desc).map (fun d => d.parameters.length) = some n
theorem V_callIN (hf : Cf X own cc nL rm) {index : Nat} {y : MethodName} {host : String} {bytes : ByteArray} {maxL mc ms n b : Nat} {rm2 : Room} {As : List Value} {post : Out → Adr → Dic → Prop}
    (hM : Ctr (xl X) y (.code y bytes maxL none) rm2 mc ms (xD X) (xK X) ad E (.ref b :: As) post) (hw : CIN own index y host bytes maxL n)
    (hn : As.length = n) (hst : (st.map fun v => v.category).sum ≤ 8)
    (hrm : rm2.cells = mc ∧ rm2.slots = ms ∧ rm2.frames + 1 ≤ rm.frames ∧ 8 + (maxL + 11) + rm2.locals ≤ rm.locals ∧ cs + mc ≤ rm.cells ∧ ss + ms ≤ rm.slots)
    (hdg : decode cc pc = .ok (.invokespecial index, 3))
    (kk : ∀ (r : Option Value) (ad' : Adr) (E' : Dic), post (.inl r) ad' E' → V X ad' E' (pc + 3) ls (r.toList ++ st) (cs + mc) (ss + ms))
    (kx : ∀ (En : String) (ad' : Adr) (E' : Dic), post (.inr En) ad' E' → VX X ad' E' pc En ls st (cs + mc) (ss + ms)) : V X ad E pc ls (As.reverse ++ .ref b :: st) cs ss := by
  obtain ⟨w1, w2, w3, w4, w5, w6, w7, w8⟩ := hw
  obtain ⟨p, l, e, R, s, m, args, below, meth, c, Q, D, K, ad0, E0⟩ := X
  obtain ⟨hx, hb, hml, hown, hts, hK, hl0, hlk, hR0, hEv⟩ := hf
  subst hR0
  obtain ⟨r1, r2, r3, r4, r5, r6⟩ := hrm
  intro H locs la hR hI hN hS hl
  have hnest := hEv.2.2.2.1 _ w1
  have cw : va_CN R s args own index y host bytes maxL none (Cond.code y bytes maxL none :: lw_good) rm2 mc ms n := va_cnB n hts (lg_in w4) rfl r1 r2 hnest (hts _ w3) ⟨w6, w7, w8⟩ ⟨r3, r4⟩
  exact V_back hN hS hl (vx_runIN ⟨hx, hb, hml, hown, hts⟩ (hM H.size) ⟨cw, w5, hts _ w2⟩ ⟨Wd.blind, V_pre (args := args) hK hEv hR hI hN hS⟩ rfl hn (hl.1.trans hml) rfl (lv_room hst) hdg ⟨r5, r6⟩) kk kx
end VN
