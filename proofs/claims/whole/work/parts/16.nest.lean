/-! a private static method of a nest mate -/
def CN (own : String) (index : Nat) (y : MethodName) (host : String) (bytes : ByteArray) (maxL n : Nat) (ret : Option FieldType) : Prop := (own, index, y, host) ∈ lw_nests ∧ Cond.static y ∈ lw_good ∧ Cond.initialized y.cls ∈ lw_good ∧ Cond.code y bytes maxL ret ∈ lw_good ∧ y.cls ≠ "java/lang/invoke/MethodHandle" ∧ y.cls ≠ "java/lang/invoke/VarHandle" ∧ (parseMethodDescriptor y.desc).map (fun d => d.parameters.length) = some n
theorem B_callSNi {X : Cx} {own : String} {cc : ByteArray} {nL : Nat} {rm : Room} (hf : Cf X own cc nL rm) {ad : Adr} {σ : Mem} {pc : Nat} {ls : Ls} {st : List Value} {cs ss : Nat} {index : Nat} {y : MethodName} {host : String} {bytes : ByteArray} {maxL d mc ms n : Nat} {ret : Option FieldType} {As : List Value} {r : Value} {σ' : Mem}
    (hM : Cb (xl X) (xD X) (xK X) ad y (.code y bytes maxL ret) d mc ms σ As (.inl (some r)) σ') (hw : CN own index y host bytes maxL n ret) (hn : As.length = n) (hst : (st.map fun v => v.category).sum ≤ 8)
    (hrm : d + 1 ≤ rm.frames ∧ 8 + (maxL + 11) + 64 * d ≤ rm.locals ∧ cs + mc ≤ rm.cells ∧ ss + ms ≤ rm.slots)
    (hdg : decode cc pc = .ok (.invokestatic index, 3)) (kk : B X ad σ' (pc + 3) ls (r :: st) (cs + mc) (ss + ms)) : B X ad σ pc ls (As.reverse ++ st) cs ss := by
  obtain ⟨w1, w2, w3, w4, w5⟩ := hw
  obtain ⟨p, l, e, R, s, m, args, below, meth, c, Q, D, K, ad0, E0⟩ := X
  obtain ⟨hx, hb, hml, hown, hts, hK, hl0, hlk, hR0, hEv⟩ := hf
  subst hR0
  intro H locs la hR hI hN hS hl
  have hM := hM H.size
  have hnest := hEv.2.2.2.1 _ w1
  have cw : va_CN R s args own index y host bytes maxL ret (Cond.code y bytes maxL ret :: lw_good) (rmd d mc ms) mc ms n := va_cnB n hts (lg_in w4) rfl rfl rfl hnest (hts _ w3) w5 ⟨hrm.1, hrm.2.1⟩
  refine V_back (K := K) hN hS hl (vx_runSN ⟨hx, hb, hml, hown, hts⟩ hM ⟨cw, hts _ w2, trivial⟩ ⟨Wd.blind, V_pre (args := args) hK hEv hR hI hN hS⟩ rfl hn (hl.1.trans hml) rfl (lv_room hst) hdg ⟨hrm.2.2.1, hrm.2.2.2⟩) ?_ ?_
  · rintro r' ad' E' ⟨h1, rfl, rfl⟩
    cases h1
    exact kk
  · rintro En ad' E' ⟨h1, -, -⟩
    cases h1
theorem nst_X3_87 : CN RX3 87 yX8_isWithin "BarnacleExchange" cX8_isWithin 3 3 (some .boolean) := ⟨by decide, wt_X8_isWithin, wn_X8, wc_X8_isWithin, by decide, by decide, by decide +kernel⟩
/-! what the classes' methods answer, over a market's memory -/
abbrev MM : Type := Nat → Int → Int
/-- a local may be forgotten -/
def fgt : Ls → Ls → Prop
  | [], [] => True
  | none :: a, _ :: b => fgt a b
  | some v :: a, w :: b => w = some v ∧ fgt a b
  | _, _ => False
theorem fgt_sub : ∀ (a b : Ls) (k : Nat), fgt a b → ∀ q ∈ lvl k a, q ∈ lvl k b
  | [], _, _, _, q, hq => by cases hq
  | none :: a, [], _, h, _, _ => h.elim
  | none :: a, none :: b, k, h, q, hq => fgt_sub a b (k + 1) h q hq
  | none :: a, some w :: b, k, h, q, hq => List.mem_cons_of_mem _ (fgt_sub a b (k + 1) h q hq)
  | some v :: a, [], _, h, _, _ => h.elim
  | some v :: a, w :: b, k, h, q, hq => by
    obtain ⟨rfl, h2⟩ := h
    rcases List.mem_cons.mp hq with rfl | h3
    · exact List.mem_cons_self
    · exact List.mem_cons_of_mem _ (fgt_sub a b (k + 1) h2 q h3)
theorem V_fg {X : Cx} {ad : Adr} {E : Dic} {pc : Nat} {ls ls2 : Ls} {st : List Value} {cs ss : Nat} (h : fgt ls2 ls) (kk : V X ad E pc ls2 st cs ss) : V X ad E pc ls st cs ss := by
  obtain ⟨p, l, e, R, s, m, args, below, meth, c, Q, D, K, ad0, E0⟩ := X
  intro H locs la hR hI hN hS hl
  exact kk H locs la hR hI hN hS (lvl_sub hl (fgt_sub ls2 ls 0 h))
