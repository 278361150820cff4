/-! the library's min and arraycopy -/
theorem wl_arrc : Cond.static arraycopyName ∈ lw_good := lg_t 587 (by decide +kernel) (by decide +kernel)
theorem wl_arrn : Cond.native arraycopyName ∈ lw_good := lg_t 588 (by decide +kernel) (by decide +kernel)
theorem wn_System : Cond.initialized "java/lang/System" ∈ lw_good := lg_t 22 (by decide +kernel) (by decide +kernel)
theorem wn_Math : Cond.initialized "java/lang/Math" ∈ lw_good := lg_t 23 (by decide +kernel) (by decide +kernel)
theorem wt_min : Cond.static Lib.Math.min.name ∈ lw_good := lg_t 602 (by decide +kernel) (by decide +kernel)
theorem wc_min : Cond.code Lib.Math.min.name Lib.Math.min.code 2 (some .int) ∈ lw_good := lg_t 603 (by decide +kernel) (by decide +kernel)
section VM
variable {X : Cx} {own : String} {cc : ByteArray} {nL : Nat} {rm : Room} {ad : Adr} {E : Dic} {pc : Nat} {ls : Ls} {st : List Value} {cs ss : Nat}
theorem V_min (hf : Cf X own cc nL rm) {index : Nat} {a b : Int} (ha : inR a) (hb : inR b) (hlink : Cond.methodLink own index Lib.Math.min.name ∈ lw_good) (hrm : 1 ≤ rm.frames ∧ (st.map fun v => v.category).sum + 13 ≤ rm.locals ∧ cs ≤ rm.cells ∧ ss ≤ rm.slots) (hdg : decode cc pc = .ok (.invokestatic index, 3)) (kk : V X ad E (pc + 3) ls (.int (iN (if b < a then b else a)) :: st) cs ss) : V X ad E pc ls (.int (iN b) :: .int (iN a) :: st) cs ss := by
  obtain ⟨p, l, e, R, s, m, args, below, meth, c, Q, D, K, ad0, E0⟩ := X
  obtain ⟨hx, hbc, hml, hown, hts, hK, hl0, hlk, hR0, hEv⟩ := hf
  subst hR0
  intro H locs la hR hI hN hS hl
  refine va_mmin hx hbc hl.1.symm hown (hts _ hlink) (hts _ wt_min) (hts _ wn_Math) (hts _ wc_min) hrm.1 hrm.2.1 hrm.2.2.1 hrm.2.2.2 hdg ?_
  have e : (if iN b < iN a then iN b else iN a) = iN (if b < a then b else a) := by
    by_cases h : b < a
    · rw [if_pos h, if_pos ((iN_lt hb ha).mpr h)]
    · rw [if_neg h, if_neg (fun q => h ((iN_lt hb ha).mp q))]
  rw [e]
  exact kk H locs la hR hI hN hS hl
theorem V_copyi (hf : Cf X own cc nL rm) {index : Nat} {g1 g2 : Int} {j1 j2 n0 n1 t : Nat} {ty : FieldType} {f h : Nat → Int32} {sp dp n : Int} (hE1 : E g1 j1 = some (.inl (xK X t, n0, .inl f))) (hE2 : E g2 j2 = some (.inl (xK X t, n1, .inl h))) (ht : (tysOf (xK X))[t]? = some (xK X t, ty)) (hprim : refKind ty = false)
    (hfit : ∀ x : Int32, (∃ i, x = f i) → fits ty (.int x) = true) (h1 : inR sp ∧ 0 ≤ sp) (h2 : inR dp ∧ 0 ≤ dp) (h3 : inR n ∧ 0 ≤ n) (h4 : sp + n ≤ n0) (h5 : dp + n ≤ n1) (hlink : Cond.methodLink own index arraycopyName ∈ lw_good)
    (hrm : 1 ≤ rm.frames ∧ (st.map fun v => v.category).sum + (nativeFrameWords "java/lang/System" "arraycopy" 5 + 11) ≤ rm.locals) (hdg : decode cc pc = .ok (.invokestatic index, 3))
    (kk : V X ad (eset E g2 j2 (.inl (xK X t, n1, .inl (va_cpy f h sp.toNat dp.toNat n.toNat)))) (pc + 3) ls st cs ss) : V X ad E pc ls (.int (iN n) :: .int (iN dp) :: .ref (ad g2 j2) :: .int (iN sp) :: .ref (ad g1 j1) :: st) cs ss := by
  obtain ⟨p, l, e, R, s, m, args, below, meth, c, Q, D, K, ad0, E0⟩ := X
  obtain ⟨hx, hbc, hml, hown, hts, hK, hl0, hlk, hR0, hEv⟩ := hf
  subst hR0
  intro H locs la hR hI hN hS hl
  intro T hT X
  have hc0 : H[ad g1 j1]? = some (vp_cell (K t) (n0, .inl f)) := hR _ _ _ hE1
  have hc1 : H[ad g2 j2]? = some (vp_cell (K t) (n1, .inl h)) := hR _ _ _ hE2
  obtain ⟨-, k0, hk0, cm0, hkk0⟩ := (hK.2 t _ ht).1 n0 (fun j => .int (f j))
  obtain ⟨-, k1, hk1, cm1, hkk1⟩ := (hK.2 t _ ht).1 n1 (fun j => .int (h j))
  have nn : ∀ z : Int, inR z → 0 ≤ z → (iN z).toInt = (z.toNat : Int) := fun z hz h0 => by rw [iN_toInt hz]; omega
  obtain ⟨vm', X', step⟩ := X.arraycopy hx hown (hts _ hlink) (hts _ wl_arrn) (hts _ wl_arrc) (hts _ wn_System) (src := ad g1 j1) (dst := ad g2 j2) (cs := vp_cell (K t) (n0, .inl f)) (cd := vp_cell (K t) (n1, .inl h)) (srcPos := iN sp) (destPos := iN dp) (n := iN n) (by rw [hT]; exact hc0) (by rw [hT]; exact hc1)
    (fun _ h => by cases h) (fun _ h => by cases h) (fun h => by cases h) (fun h => by cases h) hk0 hk1 hkk0 hkk1 (by simp [hprim]) (iN_ng h1.1 h1.2) (iN_ng h2.1 h2.2) (iN_ng h3.1 h3.2)
    (by rw [nn sp h1.1 h1.2, nn n h3.1 h3.2]; show ¬ _ > ((arrV _ n0 (fun j => .int (f j))).slots.size : Int); rw [arrV_size]; omega)
    (by rw [nn dp h2.1 h2.2, nn n h3.1 h3.2]; show ¬ _ > ((arrV _ n1 (fun j => .int (h j))).slots.size : Int); rw [arrV_size]; omega)
    (fun vm₁ _ i hi => by
      have e : (vp_cell (K t) (n0, .inl f)).slots.getD ((iN sp).toNatClampNeg + i) .null = .int (f ((iN sp).toNatClampNeg + i)) := by
        show (arrV _ n0 (fun j => .int (f j))).slots.getD _ _ = _
        rw [iN_cl h3.1] at hi
        rw [Array.getD_eq_getD_getElem?, arrV_read _ _ (by rw [iN_cl h1.1]; omega)]
        rfl
      refine ⟨?_, ?_⟩
      · rw [e]
        exact hfit _ ⟨_, rfl⟩
      · rw [e]
        exact trivial)
    (g := F0 m pc la (.int (iN n) :: .int (iN dp) :: .ref (ad g2 j2) :: .int (iN sp) :: .ref (ad g1 j1) :: st)) rfl hl.1 (rest := st) rfl (by rw [hbc]; exact hdg) hrm.1 (by have := hrm.2; show 2 * 0 + _ + _ ≤ _; omega)
  have e1 : copied (vp_cell (K t) (n0, .inl f)) (vp_cell (K t) (n1, .inl h)) (iN sp) (iN dp) (iN n) = vp_cell (K t) (n1, .inl (va_cpy f h (iN sp).toNatClampNeg (iN dp).toNatClampNeg (iN n).toNatClampNeg)) := va_copied (fun z => .int z) (K t) (K t) f h (by rw [iN_cl h1.1, iN_cl h3.1]; omega)
  rw [e1, iN_cl h1.1, iN_cl h2.1, iN_cl h3.1] at X' step
  have hlt : ad g2 j2 < H.size := (Array.getElem?_eq_some_iff.mp hc1).1
  have hheap : ((T.setVm vm').setCell (ad g2 j2) (vp_cell (K t) (n1, .inl (va_cpy f h sp.toNat dp.toNat n.toNat)))).heap = H.setIfInBounds (ad g2 j2) (vp_cell (K t) (n1, .inl (va_cpy f h sp.toNat dp.toNat n.toNat))) := by rw [← hT]; rfl
  have oq : ∀ q : Nat, q ≠ ad g2 j2 → (H.setIfInBounds (ad g2 j2) (vp_cell (K t) (n1, .inl (va_cpy f h sp.toNat dp.toNat n.toNat))))[q]? = H[q]? := fun q hq => by simp [Array.getElem?_setIfInBounds, Ne.symm hq]
  have h9 : (H.setIfInBounds (ad g2 j2) (vp_cell (K t) (n1, .inl (va_cpy f h sp.toNat dp.toNat n.toNat))))[ad g2 j2]? = some (vp_cell (K t) (n1, .inl (va_cpy f h sp.toNat dp.toNat n.toNat))) := by simp [Array.getElem?_setIfInBounds, hlt]
  have h10 : va_at D vwCl (ad g2 j2, .inl (K t, n1, .inl (va_cpy f h sp.toNat dp.toNat n.toNat))) (H.setIfInBounds (ad g2 j2) (vp_cell (K t) (n1, .inl (va_cpy f h sp.toNat dp.toNat n.toNat)))) := h9
  obtain ⟨t2, a1, b1⟩ := kk _ _ la (hR.set hI hE2 h10 oq) (hI.set hE2) (hN.set hE2) ⟨by simp; exact hS.1, fun q g1 g2 => by
      rw [oq q (fun e => g2 (by rw [e]; exact hN.mem hE2))]
      exact hS.2.1 q g1 g2, fun q hq => by
      rcases List.mem_append.mp hq with h | h
      · exact hS.2.2 q h
      · obtain ⟨z, -, hz⟩ := List.mem_map.mp h
        rw [← hz]
        exact hN.mem hE2⟩ hl _ hheap X'
  exact ⟨t2, step t2 a1, b1⟩
end VM
/-- n places from (g1, j1, sp) on, laid at (g2, j2, dp) -/
def cpy (σ : Mem) (g1 : Int) (j1 : Nat) (sp : Int) (g2 : Int) (j2 : Nat) (dp n : Int) : Mem := fun g j k => if g = g2 ∧ j = j2 ∧ dp ≤ k ∧ k < dp + n then σ g1 j1 (sp + (k - dp)) else σ g j k
section VM2
variable {X : Cx} {own : String} {cc : ByteArray} {nL : Nat} {rm : Room} {ad : Adr} {σ : Mem} {pc : Nat} {ls : Ls} {st : List Value} {cs ss : Nat}
theorem B_copyi (hf : Cf X own cc nL rm) {index : Nat} {g1 g2 : Int} {j1 j2 n0 n1 : Nat} {sp dp n : Int} (hv1 : lvp g1 j1) (hv2 : lvp g2 j2) (hj : ¬ j2 = 33) (hc1 : ∀ τ : Mem, cE ad (xK X) τ g1 j1 = .inl (xK X 0, n0, .inl (fun q => iN (τ g1 j1 (q : Int))))) (hc2 : ∀ τ : Mem, cE ad (xK X) τ g2 j2 = .inl (xK X 0, n1, .inl (fun q => iN (τ g2 j2 (q : Int)))))
    (h1 : inR sp ∧ 0 ≤ sp) (h2 : inR dp ∧ 0 ≤ dp) (h3 : inR n ∧ 0 ≤ n) (h4 : sp + n ≤ n0) (h5 : dp + n ≤ n1) (hlink : Cond.methodLink own index arraycopyName ∈ lw_good)
    (hrm : 1 ≤ rm.frames ∧ (st.map fun v => v.category).sum + (nativeFrameWords "java/lang/System" "arraycopy" 5 + 11) ≤ rm.locals) (hdg : decode cc pc = .ok (.invokestatic index, 3))
    (kk : B X ad (cpy σ g1 j1 sp g2 j2 dp n) (pc + 3) ls st cs ss) : B X ad σ pc ls (.int (iN n) :: .int (iN dp) :: .ref (ad g2 j2) :: .int (iN sp) :: .ref (ad g1 j1) :: st) cs ss := by
  refine V_copyi hf (t := 0) (ty := .int) ((Es_at hv1).trans (congrArg some (hc1 σ))) ((Es_at hv2).trans (congrArg some (hc2 σ))) rfl rfl (fun _ _ => rfl) h1 h2 h3 h4 h5 hlink hrm hdg ?_
  have e : eset (Es ad (xK X) σ) g2 j2 (.inl (xK X 0, n1, .inl (va_cpy (fun q => iN (σ g1 j1 (q : Int))) (fun q => iN (σ g2 j2 (q : Int))) sp.toNat dp.toNat n.toNat))) = Es ad (xK X) (cpy σ g1 j1 sp g2 j2 dp n) := by
    funext g' j'
    by_cases q : g' = g2 ∧ j' = j2
    · obtain ⟨rfl, rfl⟩ := q
      rw [eset_self, Es_at hv2, hc2]
      congr 5
      funext k
      unfold va_cpy cpy
      by_cases hk : dp.toNat ≤ k ∧ k < dp.toNat + n.toNat
      · rw [if_pos hk, if_pos ⟨rfl, rfl, by omega, by omega⟩]
        show iN (σ g1 j1 ((sp.toNat + (k - dp.toNat) : Nat) : Int)) = _
        rw [show ((sp.toNat + (k - dp.toNat) : Nat) : Int) = sp + ((k : Int) - dp) by omega]
      · rw [if_neg hk, if_neg (fun z => hk ⟨by omega, by omega⟩)]
    · rw [eset_ne q]
      unfold Es
      rw [cE_congr (σ := cpy σ g1 j1 sp g2 j2 dp n) (τ := σ)]
      · funext k'
        exact if_neg fun z => q ⟨z.1, z.2.1⟩
      · intro _
        funext k'
        exact if_neg fun z => hj z.2.1.symm
  rw [e]
  exact kk
/-- calls that answer a number, or nothing -/
theorem B_callVi (hf : Cf X own cc nL rm) {C : String} {index : Nat} {y : MethodName} {bytes : ByteArray} {maxL d mc ms n ci : Nat} {ret : Option FieldType} {g : Int} {j : Nat} {fs As : List Value} {r : Value} {σ' : Mem}
    (hM : Cb (xl X) (xD X) (xK X) ad y (.code y bytes maxL ret) d mc ms σ (.ref (ad g j) :: As) (.inl (some r)) σ') (hw : CV own index C y bytes maxL n ret)
    (hlv : lvp g j) (hc : cE ad (xK X) σ g j = .inr (ci, fs)) (hq : (vwCl[ci]?).map (fun q => q.1) = some C) (hn : As.length = n) (hst : (st.map fun v => v.category).sum ≤ 8)
    (hrm : d + 1 ≤ rm.frames ∧ 8 + (maxL + 11) + 64 * d ≤ rm.locals ∧ cs + mc ≤ rm.cells ∧ ss + ms ≤ rm.slots)
    (hdg : decode cc pc = .ok (.invokevirtual index, 3)) (kk : B X ad σ' (pc + 3) ls (r :: st) (cs + mc) (ss + ms)) : B X ad σ pc ls (As.reverse ++ .ref (ad g j) :: st) cs ss := B_callV hf hM hw hlv hc hq hn hst hrm hdg kk
theorem B_callVv (hf : Cf X own cc nL rm) {C : String} {index : Nat} {y : MethodName} {bytes : ByteArray} {maxL d mc ms n ci : Nat} {ret : Option FieldType} {g : Int} {j : Nat} {fs As : List Value} {σ' : Mem}
    (hM : Cb (xl X) (xD X) (xK X) ad y (.code y bytes maxL ret) d mc ms σ (.ref (ad g j) :: As) (.inl none) σ') (hw : CV own index C y bytes maxL n ret)
    (hlv : lvp g j) (hc : cE ad (xK X) σ g j = .inr (ci, fs)) (hq : (vwCl[ci]?).map (fun q => q.1) = some C) (hn : As.length = n) (hst : (st.map fun v => v.category).sum ≤ 8)
    (hrm : d + 1 ≤ rm.frames ∧ 8 + (maxL + 11) + 64 * d ≤ rm.locals ∧ cs + mc ≤ rm.cells ∧ ss + ms ≤ rm.slots)
    (hdg : decode cc pc = .ok (.invokevirtual index, 3)) (kk : B X ad σ' (pc + 3) ls st (cs + mc) (ss + ms)) : B X ad σ pc ls (As.reverse ++ .ref (ad g j) :: st) cs ss := B_callV hf hM hw hlv hc hq hn hst hrm hdg kk
theorem B_callSi (hf : Cf X own cc nL rm) {index : Nat} {y : MethodName} {bytes : ByteArray} {maxL d mc ms n : Nat} {ret : Option FieldType} {As : List Value} {r : Value} {σ' : Mem}
    (hM : Cb (xl X) (xD X) (xK X) ad y (.code y bytes maxL ret) d mc ms σ As (.inl (some r)) σ') (hw : CS own index y bytes maxL n ret) (hn : As.length = n) (hst : (st.map fun v => v.category).sum ≤ 8)
    (hrm : d + 1 ≤ rm.frames ∧ 8 + (maxL + 11) + 64 * d ≤ rm.locals ∧ cs + mc ≤ rm.cells ∧ ss + ms ≤ rm.slots)
    (hdg : decode cc pc = .ok (.invokestatic index, 3)) (kk : B X ad σ' (pc + 3) ls (r :: st) (cs + mc) (ss + ms)) : B X ad σ pc ls (As.reverse ++ st) cs ss := B_callS hf hM hw hn hst hrm hdg kk
theorem B_callU (hf : Cf X own cc nL rm) {C owner : String} {index : Nat} {x y : MethodName} {bytes : ByteArray} {maxL d mc ms n ci : Nat} {ret : Option FieldType} {g : Int} {j : Nat} {fs As : List Value} {r : Option Value} {σ' : Mem}
    (hM : Cb (xl X) (xD X) (xK X) ad y (.code y bytes maxL ret) d mc ms σ (.ref (ad g j) :: As) (.inl r) σ') (hw : CU own index C owner x y bytes maxL n ret)
    (hlv : lvp g j) (hc : cE ad (xK X) σ g j = .inr (ci, fs)) (hq : (vwCl[ci]?).map (fun q => q.1) = some C) (hn : As.length = n) (hst : (st.map fun v => v.category).sum ≤ 8)
    (hrm : d + 1 ≤ rm.frames ∧ 8 + (maxL + 11) + 64 * d ≤ rm.locals ∧ cs + mc ≤ rm.cells ∧ ss + ms ≤ rm.slots)
    (hdg : decode cc pc = .ok (.invokevirtual index, 3)) (kk : B X ad σ' (pc + 3) ls (r.toList ++ st) (cs + mc) (ss + ms)) : B X ad σ pc ls (As.reverse ++ .ref (ad g j) :: st) cs ss := by
  obtain ⟨q, hq1, hq2⟩ := Option.map_eq_some_iff.mp hq
  obtain ⟨p, l, e, R, s, m, args, below, meth, c, Q, D, K, ad0, E0⟩ := X
  obtain ⟨hx, hb, hml, hown, hts, hK, hl0, hlk, hR0, hEv⟩ := hf
  subst hR0
  intro H locs la hR hI hN hS hl
  have hrc := va_recv hK (P1 hR ((Es_at hlv).trans (congrArg some hc))) hq1 (q0 := 0) rfl
  rw [hq2] at hrc
  have hM := hM H.size
  refine V_back (K := K) hN hS hl (vx_runU ⟨hx, hb, hml, hown, hts⟩ hM (hw R s args _ mc ms hts hEv.2.2.2.2.2.2.1 rfl rfl ⟨hrm.1, hrm.2.1⟩) ⟨Wd.blind, hrc, V_pre (args := args) hK hEv hR hI hN hS⟩ rfl hn (hl.1.trans hml) rfl (lv_room hst) hdg ⟨hrm.2.2.1, hrm.2.2.2⟩) ?_ ?_
  · rintro r' ad' E' ⟨h1, rfl, rfl⟩
    cases h1
    exact kk
  · rintro En ad' E' ⟨h1, -, -⟩
    cases h1
theorem B_callUi (hf : Cf X own cc nL rm) {C owner : String} {index : Nat} {x y : MethodName} {bytes : ByteArray} {maxL d mc ms n ci : Nat} {ret : Option FieldType} {g : Int} {j : Nat} {fs As : List Value} {r : Value} {σ' : Mem}
    (hM : Cb (xl X) (xD X) (xK X) ad y (.code y bytes maxL ret) d mc ms σ (.ref (ad g j) :: As) (.inl (some r)) σ') (hw : CU own index C owner x y bytes maxL n ret)
    (hlv : lvp g j) (hc : cE ad (xK X) σ g j = .inr (ci, fs)) (hq : (vwCl[ci]?).map (fun q => q.1) = some C) (hn : As.length = n) (hst : (st.map fun v => v.category).sum ≤ 8)
    (hrm : d + 1 ≤ rm.frames ∧ 8 + (maxL + 11) + 64 * d ≤ rm.locals ∧ cs + mc ≤ rm.cells ∧ ss + ms ≤ rm.slots)
    (hdg : decode cc pc = .ok (.invokevirtual index, 3)) (kk : B X ad σ' (pc + 3) ls (r :: st) (cs + mc) (ss + ms)) : B X ad σ pc ls (As.reverse ++ .ref (ad g j) :: st) cs ss := B_callU hf hM hw hlv hc hq hn hst hrm hdg kk
theorem B_callUv (hf : Cf X own cc nL rm) {C owner : String} {index : Nat} {x y : MethodName} {bytes : ByteArray} {maxL d mc ms n ci : Nat} {ret : Option FieldType} {g : Int} {j : Nat} {fs As : List Value} {σ' : Mem}
    (hM : Cb (xl X) (xD X) (xK X) ad y (.code y bytes maxL ret) d mc ms σ (.ref (ad g j) :: As) (.inl none) σ') (hw : CU own index C owner x y bytes maxL n ret)
    (hlv : lvp g j) (hc : cE ad (xK X) σ g j = .inr (ci, fs)) (hq : (vwCl[ci]?).map (fun q => q.1) = some C) (hn : As.length = n) (hst : (st.map fun v => v.category).sum ≤ 8)
    (hrm : d + 1 ≤ rm.frames ∧ 8 + (maxL + 11) + 64 * d ≤ rm.locals ∧ cs + mc ≤ rm.cells ∧ ss + ms ≤ rm.slots)
    (hdg : decode cc pc = .ok (.invokevirtual index, 3)) (kk : B X ad σ' (pc + 3) ls st (cs + mc) (ss + ms)) : B X ad σ pc ls (As.reverse ++ .ref (ad g j) :: st) cs ss := B_callU hf hM hw hlv hc hq hn hst hrm hdg kk
end VM2
abbrev Rng (σ : Mem) : Prop := ∀ (g : Int) (j : Nat) (k : Int), j < 51 → inR (σ g j k)
theorem Rng.st {σ : Mem} (h : Rng σ) {g : Int} {j : Nat} {k v : Int} (hv : inR v) : Rng (st3 σ g j k v) := by
  intro a b c hb
  unfold st3
  split
  · exact hv
  · exact h a b c hb
theorem Rng.cpy {σ : Mem} (h : Rng σ) {g1 g2 : Int} {j1 j2 : Nat} {sp dp n : Int} (hj : j1 < 51) : Rng (cpy σ g1 j1 sp g2 j2 dp n) := by
  intro a b c hb
  show inR (if _ then _ else _)
  split
  · exact h _ _ _ hj
  · exact h a b c hb
theorem nar_b (P : Prop) [Decidable P] : narrow .boolean (.int (iN (if P then 1 else 0))) = .int (iN (if P then 1 else 0)) := by
  split <;> decide +kernel
theorem l01 : (0 : Int) ≤ 0 ∧ (0 : Int) < 1 := ⟨by decide, by decide⟩
theorem lm0 : (0 : Int) ≤ 0 ∧ (0 : Int) < 11 := ⟨by decide, by decide⟩
theorem lm1 : (0 : Int) ≤ 1 ∧ (1 : Int) < 11 := ⟨by decide, by decide⟩
theorem lm2 : (0 : Int) ≤ 2 ∧ (2 : Int) < 11 := ⟨by decide, by decide⟩
/-! sums over a range, first places -/
def sumN (f : Int → Int) : Nat → Int
  | 0 => 0
  | n + 1 => sumN f n + f n
def sumI (f : Int → Int) (n : Int) : Int := sumN f n.toNat
theorem sumI_0 (f : Int → Int) : sumI f 0 = 0 := rfl
theorem sumI_s (f : Int → Int) {n : Int} (h : 0 ≤ n) : sumI f (n + 1) = sumI f n + f n := by
  unfold sumI
  rw [show (n + 1).toNat = n.toNat + 1 by omega, sumN, Int.toNat_of_nonneg h]
theorem sumN_congr {f g : Int → Int} : ∀ {n : Nat}, (∀ k : Int, 0 ≤ k → k < n → f k = g k) → sumN f n = sumN g n
  | 0, _ => rfl
  | n + 1, h => by rw [sumN, sumN, sumN_congr (fun k h0 h1 => h k h0 (by omega)), h n (by omega) (by omega)]
theorem sumI_congr {f g : Int → Int} {n : Int} (h : ∀ k : Int, 0 ≤ k → k < n → f k = g k) : sumI f n = sumI g n := sumN_congr (fun k h0 h1 => h k h0 (by omega))
theorem sumN_le {f : Int → Int} {c : Int} : ∀ {n : Nat}, (∀ k : Int, 0 ≤ k → k < n → 0 ≤ f k ∧ f k ≤ c) → 0 ≤ sumN f n ∧ sumN f n ≤ n * c
  | 0, _ => by simp [sumN]
  | n + 1, h => by
    have h1 := sumN_le (n := n) (fun k h0 h1 => h k h0 (by omega))
    have h2 := h n (by omega) (by omega)
    have e : ((n + 1 : Nat) : Int) * c = n * c + c := by rw [Int.natCast_add, Int.add_mul]; omega
    rw [sumN, e]
    omega
theorem sumI_le {f : Int → Int} {c n : Int} (hn : 0 ≤ n) (h : ∀ k : Int, 0 ≤ k → k < n → 0 ≤ f k ∧ f k ≤ c) : 0 ≤ sumI f n ∧ sumI f n ≤ n * c := by
  have := sumN_le (f := f) (c := c) (n := n.toNat) (fun k h0 h1 => h k h0 (by omega))
  rw [Int.toNat_of_nonneg hn] at this
  exact this
/-- the first place below n where P holds, -1 if there is none -/
noncomputable def fst (P : Int → Prop) (n : Int) : Int := by
  classical exact if h : ∃ k : Nat, (k : Int) < n ∧ P k then ((Classical.choose (pk_least (fun k : Nat => (k : Int) < n ∧ P k) h) : Nat) : Int) else -1
theorem fst_no {P : Int → Prop} {n : Int} (h : ∀ k : Int, 0 ≤ k → k < n → ¬ P k) : fst P n = -1 := by
  unfold fst
  rw [dif_neg]
  rintro ⟨k, h1, h2⟩
  exact h k (by omega) h1 h2
theorem fst_yes {P : Int → Prop} {n k : Int} (h0 : 0 ≤ k) (h1 : k < n) (hk : P k) (hj : ∀ j : Int, 0 ≤ j → j < k → ¬ P j) : fst P n = k := by
  obtain ⟨q, rfl⟩ := Int.eq_ofNat_of_zero_le h0
  have hex : ∃ k : Nat, (k : Int) < n ∧ P k := ⟨q, h1, hk⟩
  unfold fst
  rw [dif_pos hex]
  have hs := Classical.choose_spec (pk_least (fun k : Nat => (k : Int) < n ∧ P k) hex)
  generalize Classical.choose (pk_least (fun k : Nat => (k : Int) < n ∧ P k) hex) = r at hs ⊢
  obtain ⟨⟨a1, a2⟩, a3⟩ := hs
  rcases Nat.lt_trichotomy r q with h | h | h
  · exact absurd a2 (hj r (by omega) (by omega))
  · rw [h]
  · exact absurd ⟨h1, hk⟩ (a3 q h)
theorem fst_cases (P : Int → Prop) (n : Int) : (fst P n = -1 ∧ ∀ k : Int, 0 ≤ k → k < n → ¬ P k) ∨ (0 ≤ fst P n ∧ fst P n < n ∧ P (fst P n) ∧ ∀ j : Int, 0 ≤ j → j < fst P n → ¬ P j) := by
  by_cases hex : ∃ k : Nat, (k : Int) < n ∧ P k
  · obtain ⟨r, ⟨a1, a2⟩, a3⟩ := pk_least (fun k : Nat => (k : Int) < n ∧ P k) hex
    have hj : ∀ j : Int, 0 ≤ j → j < (r : Int) → ¬ P j := fun j h0 h1 hp => by
      obtain ⟨q, rfl⟩ := Int.eq_ofNat_of_zero_le h0
      exact a3 q (by omega) ⟨by omega, hp⟩
    have e := fst_yes (by omega) a1 a2 hj
    rw [e]
    exact Or.inr ⟨by omega, a1, a2, hj⟩
  · have hno : ∀ k : Int, 0 ≤ k → k < n → ¬ P k := fun k h0 h1 hp => by
      obtain ⟨q, rfl⟩ := Int.eq_ofNat_of_zero_le h0
      exact hex ⟨q, h1, hp⟩
    exact Or.inl ⟨fst_no hno, hno⟩
