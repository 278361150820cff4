/-! the rules over the memory -/
section VB
variable {X : Cx} {own : String} {cc : ByteArray} {nL : Nat} {rm : Room} {ad : Adr} {σ : Mem} {pc : Nat} {ls : Ls} {st : List Value} {cs ss : Nat}
/-- the machine at pc over the memory σ -/
abbrev B (X : Cx) (ad : Adr) (σ : Mem) (pc : Nat) (ls : Ls) (st : List Value) (cs ss : Nat) : Prop := V X ad (Es ad (xK X) σ) pc ls st cs ss
theorem B_get (hf : Cf X own cc nL rm) {g : Int} {j ci k idx : Nat} {fs : List Value} {v : Value} (hlv : lvp g j) (hc : cE ad (xK X) σ g j = .inr (ci, fs)) (hF : FL own idx ci k) (hv : fs[k]? = some v) (hdg : decode cc pc = .ok (.getfield idx, 3)) (kk : B X ad σ (pc + 3) ls (v :: st) cs ss) : B X ad σ pc ls (.ref (ad g j) :: st) cs ss :=
  V_get hf ((Es_at hlv).trans (congrArg some hc)) hF hv hdg kk
theorem B_put (hf : Cf X own cc nL rm) {g : Int} {j ci k idx : Nat} {fs : List Value} {v : Int} {ty : FieldType} (hlv : lvp g j) (hc : cE ad (xK X) σ g j = .inr (ci, fs)) (hF : FP own idx ci k false ty) (hn : narrow ty (.int (iN v)) = .int (iN v)) (hfit : fits ty (.int (iN v)) = true) (hlen : k < fs.length) (hj : ¬ j = 33) (hs : cE ad (xK X) (st3 σ g j (k : Int) v) g j = .inr (ci, fs.set k (.int (iN v)))) (hdg : decode cc pc = .ok (.putfield idx, 3)) (kk : B X ad (st3 σ g j (k : Int) v) (pc + 3) ls st cs ss) : B X ad σ pc ls (.int (iN v) :: .ref (ad g j) :: st) cs ss := by
  refine V_put hf ((Es_at hlv).trans (congrArg some hc)) hF hn hfit hlen hdg ?_
  rw [Es_set hlv hj hs]
  exact kk
theorem B_iald (hf : Cf X own cc nL rm) {g : Int} {j n : Nat} {i : Int} (hlv : lvp g j) (hc : ∀ τ : Mem, cE ad (xK X) τ g j = .inl (xK X 0, n, .inl (fun q => iN (τ g j (q : Int))))) (hiR : inR i) (h0 : 0 ≤ i) (h1 : i < n) (hdg : decode cc pc = .ok (.iaload, 1)) (kk : B X ad σ (pc + 1) ls (.int (iN (σ g j i)) :: st) cs ss) : B X ad σ pc ls (.int (iN i) :: .ref (ad g j) :: st) cs ss := by
  refine V_iald hf (t0 := 0) ((Es_at hlv).trans (congrArg some (hc σ))) hiR h0 h1 hdg ?_
  rw [Int.toNat_of_nonneg h0]
  exact kk
theorem B_cald (hf : Cf X own cc nL rm) {g : Int} {j n : Nat} {i : Int} (hlv : lvp g j) (hc : ∀ τ : Mem, cE ad (xK X) τ g j = .inl (xK X 1, n, .inl (fun q => iN (τ g j (q : Int))))) (hiR : inR i) (h0 : 0 ≤ i) (h1 : i < n) (hdg : decode cc pc = .ok (.caload, 1)) (kk : B X ad σ (pc + 1) ls (.int (iN (σ g j i)) :: st) cs ss) : B X ad σ pc ls (.int (iN i) :: .ref (ad g j) :: st) cs ss := by
  refine V_cald hf (t0 := 0) ((Es_at hlv).trans (congrArg some (hc σ))) hiR h0 h1 hdg ?_
  rw [Int.toNat_of_nonneg h0]
  exact kk
theorem B_iast (hf : Cf X own cc nL rm) {g : Int} {j n : Nat} {i v : Int} (hlv : lvp g j) (hj : ¬ j = 33) (hc : ∀ τ : Mem, cE ad (xK X) τ g j = .inl (xK X 0, n, .inl (fun q => iN (τ g j (q : Int))))) (hiR : inR i) (h0 : 0 ≤ i) (h1 : i < n) (hdg : decode cc pc = .ok (.iastore, 1)) (kk : B X ad (st3 σ g j i v) (pc + 1) ls st cs ss) : B X ad σ pc ls (.int (iN v) :: .int (iN i) :: .ref (ad g j) :: st) cs ss := by
  refine V_iast hf ((Es_at hlv).trans (congrArg some (hc σ))) hiR h0 h1 hdg ?_
  rw [Es_set hlv hj ((hc _).trans (by rw [up_st3 h0]))]
  exact kk
theorem nar_char {v : Int} (h0 : 0 ≤ v) (h1 : v < 65536) : vp_nar .char (iN v) = iN v := by
  have h := (pk_charN (q := v.toNat) (by omega)).1
  rw [← iN_nI h0] at h
  unfold vp_nar
  rw [h]
theorem B_cast (hf : Cf X own cc nL rm) {g : Int} {j n : Nat} {i v : Int} (hlv : lvp g j) (hj : ¬ j = 33) (hc : ∀ τ : Mem, cE ad (xK X) τ g j = .inl (xK X 1, n, .inl (fun q => iN (τ g j (q : Int))))) (hiR : inR i) (h0 : 0 ≤ i) (h1 : i < n) (hv0 : 0 ≤ v) (hv1 : v < 65536) (hdg : decode cc pc = .ok (.castore, 1)) (kk : B X ad (st3 σ g j i v) (pc + 1) ls st cs ss) : B X ad σ pc ls (.int (iN v) :: .int (iN i) :: .ref (ad g j) :: st) cs ss := by
  refine V_cast hf ((Es_at hlv).trans (congrArg some (hc σ))) hiR h0 h1 hdg ?_
  rw [nar_char hv0 hv1, Es_set hlv hj ((hc _).trans (by rw [up_st3 h0]))]
  exact kk
/-- a contract over the memory: the outcome and the memory behind it -/
def Cb (l : Launch) (D : va_G) (K : Nat → ClassId) (ad : Adr) (y : MethodName) (cd : Cond) (d mc ms : Nat) (σ : Mem) (as : List Value) (oc : Out) (σ' : Mem) : Prop :=
  Ctr l y cd (rmd d mc ms) mc ms D K ad (Es ad K σ) as (fun o ad' E' => o = oc ∧ ad' = ad ∧ E' = Es ad K σ')
theorem B_callV (hf : Cf X own cc nL rm) {C : String} {index : Nat} {y : MethodName} {bytes : ByteArray} {maxL d mc ms n ci : Nat} {ret : Option FieldType} {g : Int} {j : Nat} {fs As : List Value} {r : Option Value} {σ' : Mem}
    (hM : Cb (xl X) (xD X) (xK X) ad y (.code y bytes maxL ret) d mc ms σ (.ref (ad g j) :: As) (.inl r) σ') (hw : CV own index C y bytes maxL n ret)
    (hlv : lvp g j) (hc : cE ad (xK X) σ g j = .inr (ci, fs)) (hq : (vwCl[ci]?).map (fun q => q.1) = some C) (hn : As.length = n) (hst : (st.map fun v => v.category).sum ≤ 8)
    (hrm : d + 1 ≤ rm.frames ∧ 8 + (maxL + 11) + 64 * d ≤ rm.locals ∧ cs + mc ≤ rm.cells ∧ ss + ms ≤ rm.slots)
    (hdg : decode cc pc = .ok (.invokevirtual index, 3)) (kk : B X ad σ' (pc + 3) ls (r.toList ++ st) (cs + mc) (ss + ms)) : B X ad σ pc ls (As.reverse ++ .ref (ad g j) :: st) cs ss := by
  obtain ⟨w1, w2, w3, w4, w5, w6⟩ := hw
  obtain ⟨q, hq1, hq2⟩ := Option.map_eq_some_iff.mp hq
  refine V_callV hf hM w1 w2 w3 w4 w5 w6 ⟨rfl, rfl, hrm.1, hrm.2.1, hrm.2.2.1, hrm.2.2.2⟩ ((Es_at hlv).trans (congrArg some hc)) hq1 hq2 hn hst hdg ?_ ?_
  · rintro r' ad' E' ⟨h1, rfl, rfl⟩
    cases h1
    exact kk
  · rintro En ad' E' ⟨h1, -, -⟩
    cases h1
theorem B_callVX (hf : Cf X own cc nL rm) {C : String} {index : Nat} {y : MethodName} {bytes : ByteArray} {maxL d mc ms n ci : Nat} {ret : Option FieldType} {g : Int} {j : Nat} {fs As : List Value} {En : String} {σ' : Mem}
    (hM : Cb (xl X) (xD X) (xK X) ad y (.code y bytes maxL ret) d mc ms σ (.ref (ad g j) :: As) (.inr En) σ') (hw : CV own index C y bytes maxL n ret)
    (hlv : lvp g j) (hc : cE ad (xK X) σ g j = .inr (ci, fs)) (hq : (vwCl[ci]?).map (fun q => q.1) = some C) (hn : As.length = n) (hst : (st.map fun v => v.category).sum ≤ 8)
    (hrm : d + 1 ≤ rm.frames ∧ 8 + (maxL + 11) + 64 * d ≤ rm.locals ∧ cs + mc ≤ rm.cells ∧ ss + ms ≤ rm.slots)
    (hdg : decode cc pc = .ok (.invokevirtual index, 3)) (kx : VX X ad (Es ad (xK X) σ') pc En ls st (cs + mc) (ss + ms)) : B X ad σ pc ls (As.reverse ++ .ref (ad g j) :: st) cs ss := by
  obtain ⟨w1, w2, w3, w4, w5, w6⟩ := hw
  obtain ⟨q, hq1, hq2⟩ := Option.map_eq_some_iff.mp hq
  refine V_callV hf hM w1 w2 w3 w4 w5 w6 ⟨rfl, rfl, hrm.1, hrm.2.1, hrm.2.2.1, hrm.2.2.2⟩ ((Es_at hlv).trans (congrArg some hc)) hq1 hq2 hn hst hdg ?_ ?_
  · rintro r' ad' E' ⟨h1, -, -⟩
    cases h1
  · rintro En' ad' E' ⟨h1, rfl, rfl⟩
    cases h1
    exact kx
theorem B_callS (hf : Cf X own cc nL rm) {index : Nat} {y : MethodName} {bytes : ByteArray} {maxL d mc ms n : Nat} {ret : Option FieldType} {As : List Value} {r : Option Value} {σ' : Mem}
    (hM : Cb (xl X) (xD X) (xK X) ad y (.code y bytes maxL ret) d mc ms σ As (.inl r) σ') (hw : CS own index y bytes maxL n ret) (hn : As.length = n) (hst : (st.map fun v => v.category).sum ≤ 8)
    (hrm : d + 1 ≤ rm.frames ∧ 8 + (maxL + 11) + 64 * d ≤ rm.locals ∧ cs + mc ≤ rm.cells ∧ ss + ms ≤ rm.slots)
    (hdg : decode cc pc = .ok (.invokestatic index, 3)) (kk : B X ad σ' (pc + 3) ls (r.toList ++ st) (cs + mc) (ss + ms)) : B X ad σ pc ls (As.reverse ++ st) cs ss := by
  obtain ⟨w1, w2, w4, w5, w6⟩ := hw
  refine V_callS hf hM w1 w2 w4 w5 w6 ⟨rfl, rfl, hrm.1, hrm.2.1, hrm.2.2.1, hrm.2.2.2⟩ hn hst hdg ?_ ?_
  · rintro r' ad' E' ⟨h1, rfl, rfl⟩
    cases h1
    exact kk
  · rintro En ad' E' ⟨h1, -, -⟩
    cases h1
theorem B_callSX (hf : Cf X own cc nL rm) {index : Nat} {y : MethodName} {bytes : ByteArray} {maxL d mc ms n : Nat} {ret : Option FieldType} {As : List Value} {En : String} {σ' : Mem}
    (hM : Cb (xl X) (xD X) (xK X) ad y (.code y bytes maxL ret) d mc ms σ As (.inr En) σ') (hw : CS own index y bytes maxL n ret) (hn : As.length = n) (hst : (st.map fun v => v.category).sum ≤ 8)
    (hrm : d + 1 ≤ rm.frames ∧ 8 + (maxL + 11) + 64 * d ≤ rm.locals ∧ cs + mc ≤ rm.cells ∧ ss + ms ≤ rm.slots)
    (hdg : decode cc pc = .ok (.invokestatic index, 3)) (kx : VX X ad (Es ad (xK X) σ') pc En ls st (cs + mc) (ss + ms)) : B X ad σ pc ls (As.reverse ++ st) cs ss := by
  obtain ⟨w1, w2, w4, w5, w6⟩ := hw
  refine V_callS hf hM w1 w2 w4 w5 w6 ⟨rfl, rfl, hrm.1, hrm.2.1, hrm.2.2.1, hrm.2.2.2⟩ hn hst hdg ?_ ?_
  · rintro r' ad' E' ⟨h1, -, -⟩
    cases h1
  · rintro En' ad' E' ⟨h1, rfl, rfl⟩
    cases h1
    exact kx
end VB
/-- what a method's walk over the memory owes -/
def Be (X : Cx) (ret : Option FieldType) (ad : Adr) (oc : Out) (σ' : Mem) (mc ms : Nat) : Prop := Ce X ret (fun o ad' E' => o = oc ∧ ad' = ad ∧ E' = Es ad (xK X) σ') mc ms
theorem B_iret {X : Cx} {own : String} {cc : ByteArray} {nL : Nat} {rm : Room} (hf : Cf X own cc nL rm) {ad : Adr} {σ σ' : Mem} {pc : Nat} {ls : Ls} {cs ss : Nat} {ty : FieldType} {mc ms : Nat} {v w : Int} (he : Be X (some ty) ad (.inl (some (.int (iN w)))) σ' mc ms) (hn : narrow ty (.int (iN w)) = .int (iN w)) (hdg : decode cc pc = .ok (.ireturn, 1)) (hc : cs ≤ mc) (hs : ss ≤ ms) (hv : v = w) (hσ : σ = σ') : B X ad σ pc ls [.int (iN v)] cs ss := by
  subst hv
  subst hσ
  exact V_iret hf he hn hdg hc hs ⟨rfl, rfl, rfl⟩
theorem B_vret {X : Cx} {own : String} {cc : ByteArray} {nL : Nat} {rm : Room} (hf : Cf X own cc nL rm) {ad : Adr} {σ σ' : Mem} {pc : Nat} {ls : Ls} {cs ss : Nat} {mc ms : Nat} (he : Be X none ad (.inl none) σ' mc ms) (hdg : decode cc pc = .ok (.return_, 1)) (hc : cs ≤ mc) (hs : ss ≤ ms) (hσ : σ = σ') : B X ad σ pc ls [] cs ss := by
  subst hσ
  exact V_vret hf he hdg hc hs ⟨rfl, rfl, rfl⟩
theorem Cb.of {l : Launch} {y : MethodName} {cc : ByteArray} {nL : Nat} {ret : Option FieldType} {d mc ms : Nat} {D : va_G} {K : Nat → ClassId} {ad : Adr} {σ σ' : Mem} {as : List Value} {oc : Out} {own : String} {ls0 : Ls}
    (hl0 : l.stackTraces = false) (hy : plainName y.cls = true) (hyc : y.cls = own) (hlen : (lg_sl as).length ≤ nL) (hls : lvl 0 ls0 = lv_args 0 as)
    (body : ∀ X : Cx, xl X = l → xD X = D → xK X = K → Cf X own cc nL (rmd d mc ms) → Be X ret ad oc σ' mc ms → Ch X → B X ad σ 0 ls0 [] 0 0) : Cb l D K ad y (.code y cc nL ret) d mc ms σ as oc σ' := by
  refine Ctr.of (ls0 := ls0) hy hyc hl0 hlen hls ?_
  intro X h1 h2 h3 hf he hh _
  subst h3
  exact body X h1 h2 rfl hf he hh
