/-! the builder: rules -/
theorem nar_byte : ∀ k : Nat, k < 128 → vp_nar .byte (iN (k : Int)) = iN (k : Int) := by decide +kernel
theorem nar_byteI {a : Int} (h0 : 0 ≤ a) (h1 : a < 128) : vp_nar .byte (iN a) = iN a := by
  obtain ⟨q, rfl⟩ := Int.eq_ofNat_of_zero_le h0
  exact nar_byte q (by omega)
/-- the world at the method's entry -/
def xE (X : Cx) : Dic := X.2.2.2.2.2.2.2.2.2.2.2.2.2.2
theorem Ctr.ofE {l : Launch} {y : MethodName} {cc : ByteArray} {nL : Nat} {ret : Option FieldType} {rm : Room} {mc ms : Nat} {D : va_G} {K : Nat → ClassId} {ad : Adr} {E : Dic} {as : List Value} {post : Out → Adr → Dic → Prop} {own : String} {ls0 : Ls}
    (hy : plainName y.cls = true) (hyc : y.cls = own) (hl0 : l.stackTraces = false) (hlen : (lg_sl as).length ≤ nL) (hls : lvl 0 ls0 = lv_args 0 as)
    (body : ∀ X : Cx, xl X = l → xD X = D → xK X = K → xE X = E → Cf X own cc nL rm → Ce X ret post mc ms → Ch X → V X ad E 0 ls0 [] 0 0) : Ctr l y (.code y cc nL ret) rm mc ms D K ad E as post := by
  intro sz
  refine vx_ofW (cc := cc) (maxL := nL) (ret := ret) hy rfl ?_
  intro p e s m args below meth c s₁ B hml hex hv
  obtain ⟨rfl, hsz, hR, hI, hK, hEv⟩ := hv
  subst hsz
  have hown : s.vm.findClass own = some m.cls := hyc ▸ findClass_of_methodNamed B.named
  have hts := atoms_spec (ws := Cond.code y cc nL ret :: lw_good) B.pre
  have hl := lv_entry as (n := nL) hlen
  rw [lg_entry_eq]
  generalize (lg_sl as ++ List.replicate (nL - (lg_sl as).length) Slot.unset).toArray = la at hl ⊢
  have b := body (p, l, e, (headSpec (Cond.code y cc nL ret :: lw_good) rm).room, s, m, as.toArray, below, meth, c, vx_MQ below (Qf D ad E s.heap.size post) (Xf D ad E s.heap.size post) as.toArray s mc ms (AA ad E s.heap.size), D, K, ad, E) rfl rfl rfl rfl
    ⟨B.exec, B.bytes, hml, hown, fun w h => hts w (List.mem_cons_of_mem _ h), hK, hl0, B.notSynchronized, rfl, hEv⟩ ⟨B.returns, rfl⟩ hex
  exact b s.heap [] la hR hI Nw.rf va_S.rf (by rw [hml, hls]; exact hl)
/-- a contract that may lay the builder's array anew -/
def Pg (K : Nat → ClassId) (ad : Adr) (r : Option Value) (Φ : Mem → Prop) : Out → Adr → Dic → Prop := fun o ad' E' => ∃ (v : Nat) (σ' : Mem), o = .inl r ∧ ad' = ast ad 0 32 v ∧ E' = Es (ast ad 0 32 v) K σ' ∧ Φ σ'
def Cg (l : Launch) (D : va_G) (K : Nat → ClassId) (ad : Adr) (y : MethodName) (cd : Cond) (d mc ms : Nat) (σ : Mem) (as : List Value) (r : Option Value) (Φ : Mem → Prop) : Prop := Ctr l y cd (rmd d mc ms) mc ms D K ad (Es ad K σ) as (Pg K ad r Φ)
theorem Cg.of {l : Launch} {y : MethodName} {cc : ByteArray} {nL : Nat} {ret : Option FieldType} {d mc ms : Nat} {D : va_G} {K : Nat → ClassId} {ad : Adr} {σ : Mem} {as : List Value} {r : Option Value} {Φ : Mem → Prop} {own : String} {ls0 : Ls}
    (hl0 : l.stackTraces = false) (hy : plainName y.cls = true) (hyc : y.cls = own) (hlen : (lg_sl as).length ≤ nL) (hls : lvl 0 ls0 = lv_args 0 as)
    (body : ∀ X : Cx, xl X = l → xD X = D → xK X = K → xE X = Es ad K σ → Cf X own cc nL (rmd d mc ms) → Ce X ret (Pg K ad r Φ) mc ms → Ch X → B X ad σ 0 ls0 [] 0 0) : Cg l D K ad y (.code y cc nL ret) d mc ms σ as r Φ := by
  refine Ctr.ofE (ls0 := ls0) hy hyc hl0 hlen hls ?_
  intro X h1 h2 h3 h4 hf he hh
  subst h3
  exact body X h1 h2 rfl h4 hf he hh
theorem ast_same {ad : Adr} {g : Int} {j : Nat} : ast ad g j (ad g j) = ad := by
  funext a b
  by_cases q : a = g ∧ b = j
  · obtain ⟨rfl, rfl⟩ := q
    exact ast_self
  · exact ast_ne q
theorem ast_twice {ad : Adr} {g : Int} {j v w : Nat} : ast (ast ad g j v) g j w = ast ad g j w := by
  funext a b
  by_cases q : a = g ∧ b = j
  · obtain ⟨rfl, rfl⟩ := q
    rw [ast_self, ast_self]
  · rw [ast_ne q, ast_ne q, ast_ne q]
section VG
variable {X : Cx} {own : String} {cc : ByteArray} {nL : Nat} {rm : Room} {ad : Adr} {E : Dic} {σ : Mem} {pc : Nat} {ls : Ls} {st : List Value} {cs ss : Nat}
theorem V_i2b (hf : Cf X own cc nL rm) {a b : Int} (hv : (iN a).toInt8.toInt32 = iN b) (hdg : decode cc pc = .ok (.i2b, 1)) (kk : V X ad E (pc + 1) ls (.int (iN b) :: st) cs ss) : V X ad E pc ls (.int (iN a) :: st) cs ss := by
  obtain ⟨p, l, e, R, s, m, args, below, meth, c, Q, D, K, ad0, E0⟩ := X
  obtain ⟨hx, hb, hml, hown, hts, hK, hl0, hlk, hR0, hEv⟩ := hf
  intro H locs la hR hI hN hS hl
  exact lv_i2b hx hb hdg hv (kk H locs la hR hI hN hS hl)
/-- the cells under other names, out of places that the entry did not know -/
theorem V_re2 {ad' : Adr} {E' : Dic} (m : Int → Nat → Int × Nat) (hm : ∀ (g : Int) (j : Nat) (e : va_E), E' g j = some e → E (m g j).1 (m g j).2 = some e ∧ ad' g j = ad (m g j).1 (m g j).2) (hinj : ∀ (g : Int) (j : Nat) (g' : Int) (j' : Nat) (e e' : va_E), E' g j = some e → E' g' j' = some e' → m g j = m g' j' → g = g' ∧ j = j')
    (hold : ∀ (g : Int) (j : Nat) (e : va_E), E' g j = some e → m g j = (g, j) ∨ xE X (m g j).1 (m g j).2 = none) (kk : V X ad' E' pc ls st cs ss) : V X ad E pc ls st cs ss := by
  obtain ⟨p, l, e, R, s, mm, args, below, meth, c, Q, D, K, ad0, E0⟩ := X
  intro H locs la hR hI hN hS hl
  refine kk H locs la ?_ ?_ ?_ hS hl
  · intro g j e h
    obtain ⟨h1, h2⟩ := hm g j e h
    rw [h2]
    exact hR _ _ _ h1
  · intro g1 j1 g2 j2 e1 e2 h1 h2 z
    obtain ⟨a1, a2⟩ := hm g1 j1 e1 h1
    obtain ⟨b1, b2⟩ := hm g2 j2 e2 h2
    rw [a2, b2] at z
    have q := hI _ _ _ _ _ _ a1 b1 z
    exact hinj _ _ _ _ _ _ h1 h2 (Prod.ext q.1 q.2)
  · intro g j e h
    obtain ⟨h1, h2⟩ := hm g j e h
    have hn := hN _ _ _ h1
    rcases hold g j e h with hq | hq
    · rw [h2]
      rw [hq] at hn ⊢
      exact hn
    · rcases hn with ⟨e0, q1, q2⟩ | q
      · rw [show E0 (m g j).1 (m g j).2 = none from hq] at q1
        cases q1
      · exact Or.inr (by rw [h2]; exact q)
theorem B_alen32 (hf : Cf X own cc nL rm) (h0 : 0 ≤ σ 0 33 0) (hdg : decode cc pc = .ok (.arraylength, 1)) (kk : B X ad σ (pc + 1) ls (.int (iN (σ 0 33 0)) :: st) cs ss) : B X ad σ pc ls (.ref (ad 0 32) :: st) cs ss := by
  refine V_alen hf (t := 4) (n := (σ 0 33 0).toNat) (Es_at l01) rfl ?_ hdg kk
  rw [iN_nI h0]
  rfl
theorem B_bald32 (hf : Cf X own cc nL rm) {i : Int} (hiR : inR i) (h0 : 0 ≤ i) (h1 : i < σ 0 33 0) (hdg : decode cc pc = .ok (.baload, 1)) (kk : B X ad σ (pc + 1) ls (.int (iN (σ 0 32 i)) :: st) cs ss) : B X ad σ pc ls (.int (iN i) :: .ref (ad 0 32) :: st) cs ss := by
  refine V_bald hf (n := (σ 0 33 0).toNat) (Es_at l01) hiR h0 (by omega) hdg ?_
  rw [Int.toNat_of_nonneg h0]
  exact kk
theorem B_bast32 (hf : Cf X own cc nL rm) {i v : Int} (hiR : inR i) (h0 : 0 ≤ i) (h1 : i < σ 0 33 0) (v0 : 0 ≤ v) (v1 : v < 128) (hdg : decode cc pc = .ok (.bastore, 1)) (kk : B X ad (st3 σ 0 32 i v) (pc + 1) ls st cs ss) : B X ad σ pc ls (.int (iN v) :: .int (iN i) :: .ref (ad 0 32) :: st) cs ss := by
  refine V_bast hf (n := (σ 0 33 0).toNat) (Es_at l01) hiR h0 (by omega) hdg ?_
  rw [nar_byteI v0 v1, Es_set (v := v) (k := i) l01 (by decide) ?_]
  · exact kk
  · show (Sum.inl (xK X 4, (st3 σ 0 32 i v 0 33 0).toNat, Sum.inl (fun q : Nat => iN (st3 σ 0 32 i v 0 32 (q : Int)))) : va_E) = _
    rw [up_st3 h0, st3_j (by decide)]
theorem B_gV (hf : Cf X own cc nL rm) {C : String} {index : Nat} {y : MethodName} {bytes : ByteArray} {maxL d mc ms n ci : Nat} {ret : Option FieldType} {g : Int} {j : Nat} {fs As : List Value} {r : Option Value} {Φ : Mem → Prop}
    (hM : Cg (xl X) (xD X) (xK X) ad y (.code y bytes maxL ret) d mc ms σ (.ref (ad g j) :: As) r Φ) (hw : CV own index C y bytes maxL n ret)
    (hlv : lvp g j) (hc : cE ad (xK X) σ g j = .inr (ci, fs)) (hq : (vwCl[ci]?).map (fun q => q.1) = some C) (hn : As.length = n) (hst : (st.map fun v => v.category).sum ≤ 8)
    (hrm : d + 1 ≤ rm.frames ∧ 8 + (maxL + 11) + 64 * d ≤ rm.locals ∧ cs + mc ≤ rm.cells ∧ ss + ms ≤ rm.slots)
    (hdg : decode cc pc = .ok (.invokevirtual index, 3)) (kk : ∀ (v : Nat) (σ' : Mem), Φ σ' → B X (ast ad 0 32 v) σ' (pc + 3) ls (r.toList ++ st) (cs + mc) (ss + ms)) : B X ad σ pc ls (As.reverse ++ .ref (ad g j) :: st) cs ss := by
  obtain ⟨w1, w2, w3, w4, w5, w6⟩ := hw
  obtain ⟨q, hq1, hq2⟩ := Option.map_eq_some_iff.mp hq
  refine V_callV hf hM w1 w2 w3 w4 w5 w6 ⟨rfl, rfl, hrm.1, hrm.2.1, hrm.2.2.1, hrm.2.2.2⟩ ((Es_at hlv).trans (congrArg some hc)) hq1 hq2 hn hst hdg ?_ ?_
  · rintro r' ad' E' ⟨v, σ', h1, rfl, rfl, hΦ⟩
    cases h1
    exact kk v σ' hΦ
  · rintro En ad' E' ⟨v, σ', h1, -⟩
    cases h1
theorem B_gU (hf : Cf X own cc nL rm) {C owner : String} {index : Nat} {x y : MethodName} {bytes : ByteArray} {maxL d mc ms n ci : Nat} {ret : Option FieldType} {g : Int} {j : Nat} {fs As : List Value} {r : Option Value} {Φ : Mem → Prop}
    (hM : Cg (xl X) (xD X) (xK X) ad y (.code y bytes maxL ret) d mc ms σ (.ref (ad g j) :: As) r Φ) (hw : CU own index C owner x y bytes maxL n ret)
    (hlv : lvp g j) (hc : cE ad (xK X) σ g j = .inr (ci, fs)) (hq : (vwCl[ci]?).map (fun q => q.1) = some C) (hn : As.length = n) (hst : (st.map fun v => v.category).sum ≤ 8)
    (hrm : d + 1 ≤ rm.frames ∧ 8 + (maxL + 11) + 64 * d ≤ rm.locals ∧ cs + mc ≤ rm.cells ∧ ss + ms ≤ rm.slots)
    (hdg : decode cc pc = .ok (.invokevirtual index, 3)) (kk : ∀ (v : Nat) (σ' : Mem), Φ σ' → B X (ast ad 0 32 v) σ' (pc + 3) ls (r.toList ++ st) (cs + mc) (ss + ms)) : B X ad σ pc ls (As.reverse ++ .ref (ad g j) :: st) cs ss := by
  refine V_callU hf hM hw ((Es_at hlv).trans (congrArg some hc)) hq hn hst ⟨rfl, rfl, hrm.1, hrm.2.1, hrm.2.2.1, hrm.2.2.2⟩ hdg ?_ ?_
  · rintro r' ad' E' ⟨v, σ', h1, rfl, rfl, hΦ⟩
    cases h1
    exact kk v σ' hΦ
  · rintro En ad' E' ⟨v, σ', h1, -⟩
    cases h1
theorem B_gP (hf : Cf X own cc nL rm) {index : Nat} {y : MethodName} {bytes : ByteArray} {maxL d mc ms n ci : Nat} {ret : Option FieldType} {g : Int} {j : Nat} {fs As : List Value} {r : Option Value} {Φ : Mem → Prop}
    (hM : Cg (xl X) (xD X) (xK X) ad y (.code y bytes maxL ret) d mc ms σ (.ref (ad g j) :: As) r Φ) (hw : CP own index y bytes maxL n ret)
    (hlv : lvp g j) (hc : cE ad (xK X) σ g j = .inr (ci, fs)) (hq : (vwCl[ci]?).map (fun q => q.1) = some own) (hn : As.length = n) (hst : (st.map fun v => v.category).sum ≤ 8)
    (hrm : d + 1 ≤ rm.frames ∧ 8 + (maxL + 11) + 64 * d ≤ rm.locals ∧ cs + mc ≤ rm.cells ∧ ss + ms ≤ rm.slots)
    (hdg : decode cc pc = .ok (.invokespecial index, 3)) (kk : ∀ (v : Nat) (σ' : Mem), Φ σ' → B X (ast ad 0 32 v) σ' (pc + 3) ls (r.toList ++ st) (cs + mc) (ss + ms)) : B X ad σ pc ls (As.reverse ++ .ref (ad g j) :: st) cs ss := by
  refine V_callP hf hM hw ((Es_at hlv).trans (congrArg some hc)) hq hn hst ⟨rfl, rfl, hrm.1, hrm.2.1, hrm.2.2.1, hrm.2.2.2⟩ hdg ?_ ?_
  · rintro r' ad' E' ⟨v, σ', h1, rfl, rfl, hΦ⟩
    cases h1
    exact kk v σ' hΦ
  · rintro En ad' E' ⟨v, σ', h1, -⟩
    cases h1
/-- a call of the superclass's own method that keeps the addresses -/
theorem B_bP (hf : Cf X own cc nL rm) {index : Nat} {y : MethodName} {bytes : ByteArray} {maxL d mc ms n ci : Nat} {ret : Option FieldType} {g : Int} {j : Nat} {fs As : List Value} {r : Option Value} {σ' : Mem}
    (hM : Cb (xl X) (xD X) (xK X) ad y (.code y bytes maxL ret) d mc ms σ (.ref (ad g j) :: As) (.inl r) σ') (hw : CP own index y bytes maxL n ret)
    (hlv : lvp g j) (hc : cE ad (xK X) σ g j = .inr (ci, fs)) (hq : (vwCl[ci]?).map (fun q => q.1) = some own) (hn : As.length = n) (hst : (st.map fun v => v.category).sum ≤ 8)
    (hrm : d + 1 ≤ rm.frames ∧ 8 + (maxL + 11) + 64 * d ≤ rm.locals ∧ cs + mc ≤ rm.cells ∧ ss + ms ≤ rm.slots)
    (hdg : decode cc pc = .ok (.invokespecial index, 3)) (kk : B X ad σ' (pc + 3) ls (r.toList ++ st) (cs + mc) (ss + ms)) : B X ad σ pc ls (As.reverse ++ .ref (ad g j) :: st) cs ss := by
  refine V_callP hf hM hw ((Es_at hlv).trans (congrArg some hc)) hq hn hst ⟨rfl, rfl, hrm.1, hrm.2.1, hrm.2.2.1, hrm.2.2.2⟩ hdg ?_ ?_
  · rintro r' ad' E' ⟨h1, rfl, rfl⟩
    cases h1
    exact kk
  · rintro En ad' E' ⟨h1, -⟩
    cases h1
theorem G_vret (hf : Cf X own cc nL rm) {ad0 : Adr} {Φ : Mem → Prop} {mc ms : Nat} (he : Ce X none (Pg (xK X) ad0 none Φ) mc ms) {v : Nat} (hdg : decode cc pc = .ok (.return_, 1)) (hc : cs ≤ mc) (hs : ss ≤ ms) (ha : ad = ast ad0 0 32 v) (hΦ : Φ σ) : B X ad σ pc ls [] cs ss := by
  subst ha
  exact V_vret hf he hdg hc hs ⟨v, σ, rfl, rfl, rfl, hΦ⟩
theorem G_iret (hf : Cf X own cc nL rm) {ad0 : Adr} {ty : FieldType} {Φ : Mem → Prop} {mc ms : Nat} {a w : Int} (he : Ce X (some ty) (Pg (xK X) ad0 (some (.int (iN w))) Φ) mc ms) {v : Nat} (hn : narrow ty (.int (iN w)) = .int (iN w)) (hdg : decode cc pc = .ok (.ireturn, 1)) (hc : cs ≤ mc) (hs : ss ≤ ms) (hv : a = w) (ha : ad = ast ad0 0 32 v) (hΦ : Φ σ) : B X ad σ pc ls [.int (iN a)] cs ss := by
  subst ha
  subst hv
  exact V_iret hf he hn hdg hc hs ⟨v, σ, rfl, rfl, rfl, hΦ⟩
theorem G_aret (hf : Cf X own cc nL rm) {ad0 : Adr} {rt : FieldType} {Φ : Mem → Prop} {mc ms a b : Nat} (he : Ce X (some rt) (Pg (xK X) ad0 (some (.ref b)) Φ) mc ms) (hrt : (∃ n, rt = .object n) ∨ ∃ t, rt = .array t) {v : Nat} (hdg : decode cc pc = .ok (.areturn, 1)) (hc : cs ≤ mc) (hs : ss ≤ ms) (hab : a = b) (ha : ad = ast ad0 0 32 v) (hΦ : Φ σ) : B X ad σ pc ls [.ref a] cs ss := by
  subst ha
  subst hab
  exact V_aret hf he hrt hdg hc hs ⟨v, σ, rfl, rfl, rfl, hΦ⟩
end VG
