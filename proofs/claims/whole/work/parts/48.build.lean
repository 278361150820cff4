/-! the builder: words, rules, growth -/
theorem wsm_J5_ensureCapacityInternal_d00df : Cond.sameMethod yJ5_ensureCapacityInternal_d00df.cls RJ5 yJ5_ensureCapacityInternal_d00df.name yJ5_ensureCapacityInternal_d00df.desc ∈ lw_good := lg_t 2143 (by decide +kernel) (by decide +kernel)
theorem wsm_J5_newCapacity_0f7a4 : Cond.sameMethod yJ5_newCapacity_0f7a4.cls RJ5 yJ5_newCapacity_0f7a4.name yJ5_newCapacity_0f7a4.desc ∈ lw_good := lg_t 2144 (by decide +kernel) (by decide +kernel)
theorem wsm_J5_isLatin1_aae02 : Cond.sameMethod yJ5_isLatin1_aae02.cls RJ5 yJ5_isLatin1_aae02.name yJ5_isLatin1_aae02.desc ∈ lw_good := lg_t 1177 (by decide +kernel) (by decide +kernel)
theorem wsm_J5_setLength_d00df : Cond.sameMethod yJ5_setLength_d00df.cls RJ5 yJ5_setLength_d00df.name yJ5_setLength_d00df.desc ∈ lw_good := lg_t 2140 (by decide +kernel) (by decide +kernel)
theorem wsm_J5_append_3fe6f : Cond.sameMethod yJ5_append_3fe6f.cls RJ5 yJ5_append_3fe6f.name yJ5_append_3fe6f.desc ∈ lw_good := lg_t 2149 (by decide +kernel) (by decide +kernel)
theorem wsm_J5_append_c97b9 : Cond.sameMethod yJ5_append_c97b9.cls RJ5 yJ5_append_c97b9.name yJ5_append_c97b9.desc ∈ lw_good := lg_t 2148 (by decide +kernel) (by decide +kernel)
theorem wsm_J5_charAt_5068e : Cond.sameMethod yJ5_charAt_5068e.cls RJ5 yJ5_charAt_5068e.name yJ5_charAt_5068e.desc ∈ lw_good := lg_t 2151 (by decide +kernel) (by decide +kernel)
theorem wsm_J5_length_8abf5 : Cond.sameMethod yJ5_length_8abf5.cls RJ5 yJ5_length_8abf5.name yJ5_length_8abf5.desc ∈ lw_good := lg_t 1293 (by decide +kernel) (by decide +kernel)
theorem wsup_J4 : Cond.superclass RJ4 RJ5 ∈ lw_good := lg_t 304 (by decide +kernel) (by decide +kernel)
theorem wis_J4 : Cond.instantiable RJ4 4 ∈ lw_good := lg_t 274 (by decide +kernel) (by decide +kernel)
theorem wse_J4_latin : Cond.selects RJ4 yJ5_isLatin1_aae02 yJ5_isLatin1_aae02 ∈ lw_good := lg_t 1178 (by decide +kernel) (by decide +kernel)
theorem lg_x {w : Cond} (i : Nat) (h : lw_extra[i]? = some w) (hg : goodWord w = true) : w ∈ lw_good := List.mem_filter.mpr ⟨List.mem_append_left _ (List.mem_of_getElem? h), hg⟩
theorem wse_J4_ens : Cond.selects RJ4 yJ5_ensureCapacityInternal_d00df yJ5_ensureCapacityInternal_d00df ∈ lw_good := lg_x 0 rfl (by decide +kernel)
theorem wse_J4_ncap : Cond.selects RJ4 yJ5_newCapacity_0f7a4 yJ5_newCapacity_0f7a4 ∈ lw_good := lg_x 1 rfl (by decide +kernel)
theorem cu_J5_83_1 : CU RJ5 83 RJ4 RJ5 yJ5_isLatin1_aae02 yJ5_isLatin1_aae02 cJ5_isLatin1_aae02 1 0 (some .boolean) := by
  intro R s args rm2 mc ms hts hde h1 h2 hR
  exact ⟨⟨h1, h2, hR.1, hR.2, pay_in hts (lg_in wc_J5_isLatin1_aae02), List.mem_cons_self⟩, hts _ wc_J5_isLatin1_aae02, hts _ wn_J5, ⟨by decide, by decide⟩, np_of (y := yJ5_isLatin1_aae02) (by decide +kernel), hts _ wl_J5_83, hts _ wsm_J5_isLatin1_aae02, va_Decl.of (hts _ wi_J5_isLatin1_aae02) (hts _ wc_J5_isLatin1_aae02), hts _ wse_J4_latin, hts _ wi_J5_isLatin1_aae02⟩
theorem cu_J5_100_1 : CU RJ5 100 RJ4 RJ5 yJ5_ensureCapacityInternal_d00df yJ5_ensureCapacityInternal_d00df cJ5_ensureCapacityInternal_d00df 3 1 none := by
  intro R s args rm2 mc ms hts hde h1 h2 hR
  exact ⟨⟨h1, h2, hR.1, hR.2, pay_in hts (lg_in wc_J5_ensureCapacityInternal_d00df), List.mem_cons_self⟩, hts _ wc_J5_ensureCapacityInternal_d00df, hts _ wn_J5, ⟨by decide, by decide⟩, np_of (y := yJ5_ensureCapacityInternal_d00df) (by decide +kernel), hts _ wl_J5_100, hts _ wsm_J5_ensureCapacityInternal_d00df, va_Decl.of (hts _ wi_J5_ensureCapacityInternal_d00df) (hts _ wc_J5_ensureCapacityInternal_d00df), hts _ wse_J4_ens, hts _ wi_J5_ensureCapacityInternal_d00df⟩
theorem cu_J5_104_1 : CU RJ5 104 RJ4 RJ5 yJ5_newCapacity_0f7a4 yJ5_newCapacity_0f7a4 cJ5_newCapacity_0f7a4 6 1 (some .int) := by
  intro R s args rm2 mc ms hts hde h1 h2 hR
  exact ⟨⟨h1, h2, hR.1, hR.2, pay_in hts (lg_in wc_J5_newCapacity_0f7a4), List.mem_cons_self⟩, hts _ wc_J5_newCapacity_0f7a4, hts _ wn_J5, ⟨by decide, by decide⟩, np_of (y := yJ5_newCapacity_0f7a4) (by decide +kernel), hts _ wl_J5_104, hts _ wsm_J5_newCapacity_0f7a4, va_Decl.of (hts _ wi_J5_newCapacity_0f7a4) (hts _ wc_J5_newCapacity_0f7a4), hts _ wse_J4_ncap, hts _ wi_J5_newCapacity_0f7a4⟩
/-- a call of the superclass's own method -/
def CP (own : String) (index : Nat) (y : MethodName) (bytes : ByteArray) (maxL n : Nat) (ret : Option FieldType) : Prop := Cond.methodLink own index y ∈ lw_good ∧ Cond.sameMethod y.cls y.cls y.name y.desc ∈ lw_good ∧ Cond.superclass own y.cls ∈ lw_good ∧ Cond.instanceMethod y ∈ lw_good ∧ Cond.initialized y.cls ∈ lw_good ∧ Cond.code y bytes maxL ret ∈ lw_good ∧ y.name ≠ "<init>" ∧ (parseMethodDescriptor y.desc).map (fun d => d.parameters.length) = some n
theorem cp_J4_333 : CP RJ4 333 yJ5_setLength_d00df cJ5_setLength_d00df 2 1 none := ⟨wl_J4_333, wsm_J5_setLength_d00df, wsup_J4, wi_J5_setLength_d00df, wn_J5, wc_J5_setLength_d00df, by decide, by decide +kernel⟩
theorem cp_J4_53 : CP RJ4 53 yJ5_append_c97b9 cJ5_append_c97b9 4 1 (some (.object "java/lang/AbstractStringBuilder")) := ⟨wl_J4_53, wsm_J5_append_c97b9, wsup_J4, wi_J5_append_c97b9, wn_J5, wc_J5_append_c97b9, by decide, by decide +kernel⟩
theorem cp_J4_50 : CP RJ4 50 yJ5_append_3fe6f cJ5_append_3fe6f 2 1 (some (.object "java/lang/AbstractStringBuilder")) := ⟨wl_J4_50, wsm_J5_append_3fe6f, wsup_J4, wi_J5_append_3fe6f, wn_J5, wc_J5_append_3fe6f, by decide, by decide +kernel⟩
theorem cp_J4_329 : CP RJ4 329 yJ5_charAt_5068e cJ5_charAt_5068e 5 1 (some .char) := ⟨wl_J4_329, wsm_J5_charAt_5068e, wsup_J4, wi_J5_charAt_5068e, wn_J5, wc_J5_charAt_5068e, by decide, by decide +kernel⟩
theorem cp_J4_343 : CP RJ4 343 yJ5_length_8abf5 cJ5_length_8abf5 1 0 (some .int) := ⟨wl_J4_343, wsm_J5_length_8abf5, wsup_J4, wi_J5_length_8abf5, wn_J5, wc_J5_length_8abf5, by decide, by decide +kernel⟩
theorem wac_byte : Cond.arrayClass .byte ∈ lw_good := lg_t 305 (by decide +kernel) (by decide +kernel)
theorem wac_int : Cond.arrayClass .int ∈ lw_good := lg_t 85 (by decide +kernel) (by decide +kernel)
theorem wac_char : Cond.arrayClass .char ∈ lw_good := lg_t 272 (by decide +kernel) (by decide +kernel)
theorem wac_long : Cond.arrayClass .long ∈ lw_good := lg_t 2137 (by decide +kernel) (by decide +kernel)
theorem wac_double : Cond.arrayClass .double ∈ lw_good := lg_t 2138 (by decide +kernel) (by decide +kernel)
/-- the addresses with one more -/
def ast (ad : Adr) (g : Int) (j v : Nat) : Adr := fun g' j' => if j' = j then (if g' = g then v else ad g' j') else ad g' j'
theorem ast_self {ad : Adr} {g : Int} {j v : Nat} : ast ad g j v g j = v := by simp [ast]
theorem ast_j {ad : Adr} {g g' : Int} {j j' v : Nat} (h : ¬ j' = j) : ast ad g j v g' j' = ad g' j' := if_neg h
theorem ast_g {ad : Adr} {g g' : Int} {j j' v : Nat} (h : ¬ g' = g) : ast ad g j v g' j' = ad g' j' := by
  unfold ast
  rw [if_neg h]
  split <;> rfl
theorem ast_ne {ad : Adr} {g g' : Int} {j j' v : Nat} (h : ¬ (g' = g ∧ j' = j)) : ast ad g j v g' j' = ad g' j' := by
  by_cases q : j' = j
  · exact ast_g fun z => h ⟨z, q⟩
  · exact ast_j q
theorem Rp.push {D : va_G} {ad : Adr} {E : Dic} {H H1 : Heap} {g : Int} {j v : Nat} {e : va_E} (hR : Rp D ad E H) (hE : E g j = none) (h1 : va_at D vwCl (v, e) H1) (oq : ∀ q : Nat, q < H.size → H1[q]? = H[q]?) : Rp D (ast ad g j v) (eset E g j e) H1 := by
  intro g' j' x hx
  by_cases q : g' = g ∧ j' = j
  · obtain ⟨rfl, rfl⟩ := q
    rw [eset_self] at hx
    cases hx
    rw [ast_self]
    exact h1
  · rw [eset_ne q] at hx
    rw [ast_ne q]
    exact (hR g' j' x hx).kept (oq _ (hR g' j' x hx).lt)
theorem Ij.push {D : va_G} {ad : Adr} {E : Dic} {H : Heap} {g : Int} {j : Nat} {e : va_E} (hR : Rp D ad E H) (hI : Ij ad E) : Ij (ast ad g j H.size) (eset E g j e) := by
  intro g1 j1 g2 j2 e1 e2 h1 h2 z
  by_cases q1 : g1 = g ∧ j1 = j
  · by_cases q2 : g2 = g ∧ j2 = j
    · exact ⟨q1.1.trans q2.1.symm, q1.2.trans q2.2.symm⟩
    · rw [eset_ne q2] at h2
      rw [ast_ne q2, q1.1, q1.2, ast_self] at z
      have := (hR _ _ _ h2).lt
      omega
  · rw [eset_ne q1] at h1
    by_cases q2 : g2 = g ∧ j2 = j
    · rw [ast_ne q1, q2.1, q2.2, ast_self] at z
      have := (hR _ _ _ h1).lt
      omega
    · rw [eset_ne q2] at h2
      rw [ast_ne q1, ast_ne q2] at z
      exact hI _ _ _ _ _ _ h1 h2 z
theorem Nw.push {ad0 : Adr} {E0 : Dic} {sz : Nat} {ad : Adr} {E : Dic} {g : Int} {j v : Nat} {e : va_E} (hN : Nw ad0 E0 sz ad E) (h : sz ≤ v) (hE : E g j = none) : Nw ad0 E0 sz (ast ad g j v) (eset E g j e) := by
  intro g' j' x hx
  by_cases q : g' = g ∧ j' = j
  · rw [q.1, q.2, ast_self]
    exact Or.inr h
  · rw [eset_ne q] at hx
    rw [ast_ne q]
    exact hN _ _ _ hx
section VA
variable {X : Cx} {own : String} {cc : ByteArray} {nL : Nat} {rm : Room} {ad : Adr} {E : Dic} {pc : Nat} {ls : Ls} {st : List Value} {cs ss : Nat}
theorem V_alen (hf : Cf X own cc nL rm) {g : Int} {j t n : Nat} {v : Int} {ty : FieldType} {x : (Nat → Int32) ⊕ (Nat → Int64) ⊕ (Nat → UInt32) ⊕ (Nat → UInt64) ⊕ (Nat → Option Nat)} (hE : E g j = some (.inl (xK X t, n, x))) (ht : (tysOf (xK X))[t]? = some (xK X t, ty)) (hv : Int32.ofNat n = iN v) (hdg : decode cc pc = .ok (.arraylength, 1)) (kk : V X ad E (pc + 1) ls (.int (iN v) :: st) cs ss) : V X ad E pc ls (.ref (ad g j) :: st) cs ss := by
  obtain ⟨p, l, e, R, s, m, args, below, meth, c, Q, D, K, ad0, E0⟩ := X
  obtain ⟨hx, hb, hml, hown, hts, hK, hl0, hlk, hR0, hEv⟩ := hf
  intro H locs la hR hI hN hS hl
  exact va_alen hx hb hK (P1 hR hE) 0 t rfl ht hv hdg (kk H locs la hR hI hN hS hl)
theorem V_bald (hf : Cf X own cc nL rm) {g : Int} {j n : Nat} {f : Nat → Int32} {i : Int} (hE : E g j = some (.inl (xK X 4, n, .inl f))) (hiR : inR i) (h0 : 0 ≤ i) (h1 : i < n) (hdg : decode cc pc = .ok (.baload, 1)) (kk : V X ad E (pc + 1) ls (.int (f i.toNat) :: st) cs ss) : V X ad E pc ls (.int (iN i) :: .ref (ad g j) :: st) cs ss := by
  obtain ⟨p, l, e, R, s, m, args, below, meth, c, Q, D, K, ad0, E0⟩ := X
  obtain ⟨hx, hb, hml, hown, hts, hK, hl0, hlk, hR0, hEv⟩ := hf
  intro H locs la hR hI hN hS hl
  refine va_bald hx hb hK (P1 hR hE) 0 4 rfl rfl (iN_in hiR h0 h1) hdg ?_
  rw [iN_cl hiR]
  exact kk H locs la hR hI hN hS hl
theorem V_bast (hf : Cf X own cc nL rm) {g : Int} {j n : Nat} {f : Nat → Int32} {i : Int} {x : Int32} (hE : E g j = some (.inl (xK X 4, n, .inl f))) (hiR : inR i) (h0 : 0 ≤ i) (h1 : i < n) (hdg : decode cc pc = .ok (.bastore, 1)) (kk : V X ad (eset E g j (.inl (xK X 4, n, .inl (upd f i.toNat (vp_nar .byte x))))) (pc + 1) ls st cs ss) : V X ad E pc ls (.int x :: .int (iN i) :: .ref (ad g j) :: st) cs ss := by
  obtain ⟨p, l, e, R, s, m, args, below, meth, c, Q, D, K, ad0, E0⟩ := X
  obtain ⟨hx, hb, hml, hown, hts, hK, hl0, hlk, hR0, hEv⟩ := hf
  intro H locs la hR hI hN hS hl
  refine W.bast hx hb (hR g j _ hE) ((hK.2 4 _ rfl).1 n (fun j => .int (f j))) (fun q => by cases q) (by show ¬ (iN i < 0 ∨ (arrV _ _ _).slots.size ≤ _); rw [arrV_size]; exact iN_in hiR h0 h1) rfl rfl hdg fun H1 e z oq => ?_
  refine kk H1 _ la (hR.set hI hE ?_ oq) (hI.set hE) (hN.set hE) (hS.put z oq (hN.mem hE)) hl
  show H1[_]? = some (vp_cell _ _)
  rw [e, iN_cl hiR]
  rw [vp_cell_i, vp_cell_i, arrV_store]
  congr 2
  funext q
  by_cases hq : q = i.toNat
  · subst hq
    simp [updV, upd, vp_nar]
    try rfl
  · simp [updV, upd, hq]
theorem V_newa (hf : Cf X own cc nL rm) {atype : ArrayType} {ty : FieldType} {t n : Nat} {i : Int} {g : Int} {j : Nat} {a0 : vp_A} (hty : newarray.typeOf atype = ty) (hp : refKind ty = false) (hw : Cond.arrayClass ty ∈ lw_good) (ht : (tysOf (xK X))[t]? = some (xK X t, ty)) (hE : E g j = none) (hiR : inR i) (h0 : 0 ≤ i) (hn : i.toNat = n) (hbytes : n * componentBytes ty ≤ 536870912) (ha : ∀ cA : ClassId, vp_cell cA a0 = arrV cA n (fun _ => defaultValue ty)) (hrm : cs + 1 ≤ rm.cells ∧ ss + n ≤ rm.slots) (hdg : decode cc pc = .ok (.newarray atype, 2))
    (kk : ∀ v : Nat, V X (ast ad g j v) (eset E g j (.inl (xK X t, a0))) (pc + 2) ls (.ref v :: st) (cs + 1) (ss + n)) : V X ad E pc ls (.int (iN i) :: st) cs ss := by
  subst hty
  obtain ⟨p, l, e, R, s, m, args, below, meth, c, Q, D, K, ad0, E0⟩ := X
  obtain ⟨hx, hb, hml, hown, hts, hK, hl0, hlk, hR0, hEv⟩ := hf
  subst hR0
  intro H locs la hR hI hN hS hl
  refine va_newaK (N := n) hx hb (hts _ hw) rfl hdg rfl (iN_ng hiR h0) ((iN_cl hiR).trans hn) hbytes hrm.1 hrm.2 rfl fun H1 cA e1 z1 o1 hAr hNm => ?_
  have hc : cA = K t := by
    have h2 := (hK.2 t _ ht).2
    cases atype <;> first | exact Option.some.inj (hNm.symm.trans h2) | cases hp
  subst hc
  have hat : va_at D vwCl (H.size, .inl (K t, a0)) H1 := by
    show H1[H.size]? = some (vp_cell (K t) a0)
    rw [ha]
    exact e1
  exact kk H.size H1 locs la (hR.push hE hat o1) (Ij.push hR hI) (hN.push hS.1 hE) ⟨Nat.le_trans hS.1 (by omega), fun x h1 h2 => (o1 x (Nat.lt_of_lt_of_le h1 hS.1)).trans (hS.2.1 x h1 h2), hS.2.2⟩ hl
/-- the cells under other names -/
theorem V_re {ad' : Adr} {E' : Dic} (m : Int → Nat → Int × Nat) (hm : ∀ (g : Int) (j : Nat) (e : va_E), E' g j = some e → E (m g j).1 (m g j).2 = some e ∧ ad' g j = ad (m g j).1 (m g j).2) (hinj : ∀ (g : Int) (j : Nat) (g' : Int) (j' : Nat) (e e' : va_E), E' g j = some e → E' g' j' = some e' → m g j = m g' j' → g = g' ∧ j = j')
    (hold : ∀ (g : Int) (j : Nat) (e : va_E), E' g j = some e → m g j = (g, j) ∨ ∀ (ad0 : Adr) (E0 : Dic) (sz : Nat), Nw ad0 E0 sz ad E → sz ≤ ad (m g j).1 (m g j).2) (kk : V X ad' E' pc ls st cs ss) : V X ad E pc ls st cs ss := by
  obtain ⟨p, l, e, R, s, mm, args, below, meth, c, Q, D, K, ad0, E0⟩ := X
  intro H locs la hR hI hN hS hl
  refine kk H locs la ?_ ?_ ?_ hS hl
  · intro g j e h
    obtain ⟨h1, h2⟩ := hm g j e h
    rw [h2]
    exact hR _ _ _ h1
  · intro g1 j1 g2 j2 e1 e2 h1 h2 z
    obtain ⟨a1, a2⟩ := hm g1 j1 e1 h1
    obtain ⟨b1, b2⟩ := hm g2 j2 e2 h2
    rw [a2, b2] at z
    have q := hI _ _ _ _ _ _ a1 b1 z
    exact hinj _ _ _ _ _ _ h1 h2 (Prod.ext q.1 q.2)
  · intro g j e h
    obtain ⟨h1, h2⟩ := hm g j e h
    rcases hold g j e h with hq | hq
    · have := hN _ _ _ h1
      rw [h2]
      rw [hq] at this ⊢
      exact this
    · exact Or.inr (by rw [h2]; exact hq _ _ _ hN)
theorem V_callU (hf : Cf X own cc nL rm) {C owner : String} {index : Nat} {x y : MethodName} {bytes : ByteArray} {maxL mc ms n ci : Nat} {ret : Option FieldType} {rm2 : Room} {g : Int} {j : Nat} {fs As : List Value} {post : Out → Adr → Dic → Prop}
    (hM : Ctr (xl X) y (.code y bytes maxL ret) rm2 mc ms (xD X) (xK X) ad E (.ref (ad g j) :: As) post) (hw : CU own index C owner x y bytes maxL n ret)
    (hE : E g j = some (.inr (ci, fs))) (hq : (vwCl[ci]?).map (fun q => q.1) = some C) (hn : As.length = n) (hst : (st.map fun v => v.category).sum ≤ 8)
    (hrm : rm2.cells = mc ∧ rm2.slots = ms ∧ rm2.frames + 1 ≤ rm.frames ∧ 8 + (maxL + 11) + rm2.locals ≤ rm.locals ∧ cs + mc ≤ rm.cells ∧ ss + ms ≤ rm.slots)
    (hdg : decode cc pc = .ok (.invokevirtual index, 3))
    (kk : ∀ (r : Option Value) (ad' : Adr) (E' : Dic), post (.inl r) ad' E' → V X ad' E' (pc + 3) ls (r.toList ++ st) (cs + mc) (ss + ms))
    (kx : ∀ (En : String) (ad' : Adr) (E' : Dic), post (.inr En) ad' E' → VX X ad' E' pc En ls st (cs + mc) (ss + ms)) : V X ad E pc ls (As.reverse ++ .ref (ad g j) :: st) cs ss := by
  obtain ⟨q, hq1, hq2⟩ := Option.map_eq_some_iff.mp hq
  obtain ⟨p, l, e, R, s, m, args, below, meth, c, Q, D, K, ad0, E0⟩ := X
  obtain ⟨hx, hb, hml, hown, hts, hK, hl0, hlk, hR0, hEv⟩ := hf
  subst hR0
  obtain ⟨r1, r2, r3, r4, r5, r6⟩ := hrm
  intro H locs la hR hI hN hS hl
  have hrc := va_recv hK (P1 hR hE) hq1 (q0 := 0) rfl
  rw [hq2] at hrc
  exact V_back hN hS hl (vx_runU ⟨hx, hb, hml, hown, hts⟩ (hM H.size) (hw R s args _ mc ms hts hEv.2.2.2.2.2.2.1 r1 r2 ⟨r3, r4⟩) ⟨Wd.blind, hrc, V_pre (args := args) hK hEv hR hI hN hS⟩ rfl hn (hl.1.trans hml) rfl (lv_room hst) hdg ⟨r5, r6⟩) kk kx
theorem V_callP (hf : Cf X own cc nL rm) {index : Nat} {y : MethodName} {bytes : ByteArray} {maxL mc ms n ci : Nat} {ret : Option FieldType} {rm2 : Room} {g : Int} {j : Nat} {fs As : List Value} {post : Out → Adr → Dic → Prop}
    (hM : Ctr (xl X) y (.code y bytes maxL ret) rm2 mc ms (xD X) (xK X) ad E (.ref (ad g j) :: As) post) (hw : CP own index y bytes maxL n ret)
    (hE : E g j = some (.inr (ci, fs))) (hq : (vwCl[ci]?).map (fun q => q.1) = some own) (hn : As.length = n) (hst : (st.map fun v => v.category).sum ≤ 8)
    (hrm : rm2.cells = mc ∧ rm2.slots = ms ∧ rm2.frames + 1 ≤ rm.frames ∧ 8 + (maxL + 11) + rm2.locals ≤ rm.locals ∧ cs + mc ≤ rm.cells ∧ ss + ms ≤ rm.slots)
    (hdg : decode cc pc = .ok (.invokespecial index, 3))
    (kk : ∀ (r : Option Value) (ad' : Adr) (E' : Dic), post (.inl r) ad' E' → V X ad' E' (pc + 3) ls (r.toList ++ st) (cs + mc) (ss + ms))
    (kx : ∀ (En : String) (ad' : Adr) (E' : Dic), post (.inr En) ad' E' → VX X ad' E' pc En ls st (cs + mc) (ss + ms)) : V X ad E pc ls (As.reverse ++ .ref (ad g j) :: st) cs ss := by
  obtain ⟨w1, w2, w3, w4, w5, w6, w7, w8⟩ := hw
  obtain ⟨q, hq1, hq2⟩ := Option.map_eq_some_iff.mp hq
  obtain ⟨p, l, e, R, s, m, args, below, meth, c, Q, D, K, ad0, E0⟩ := X
  obtain ⟨hx, hb, hml, hown, hts, hK, hl0, hlk, hR0, hEv⟩ := hf
  subst hR0
  obtain ⟨r1, r2, r3, r4, r5, r6⟩ := hrm
  intro H locs la hR hI hN hS hl
  have hrc := va_recv hK (P1 hR hE) hq1 (q0 := 0) rfl
  rw [hq2] at hrc
  obtain ⟨-, hfc, kC, hkC, hkind⟩ := hK.1 ci _ hq1
  rw [hq2] at hfc
  have cw : va_CS R s args own index y bytes maxL ret (Cond.code y bytes maxL ret :: lw_good) rm2 mc ms n := ⟨⟨r1, r2, r3, r4, pay_in hts (lg_in w6), List.mem_cons_self⟩, hts _ w1, hts _ w2, hts _ w3, hts _ w4, hts _ w5, hts _ w6, w7, fun sig h => by rw [h] at w8; exact (Option.some.inj w8).symm⟩
  exact V_back hN hS hl (vx_runSU ⟨hfc, kC, hkC, hkind⟩ ⟨hx, hb, hml, hown, hts⟩ (hM H.size) cw ⟨Wd.blind, hrc, V_pre (args := args) hK hEv hR hI hN hS⟩ rfl hn (hl.1.trans hml) rfl (lv_room hst) hdg ⟨r5, r6⟩) kk kx
end VA
