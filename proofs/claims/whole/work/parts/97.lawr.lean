/-! the law's loop: rules -/
abbrev lsB (ad : Adr) (b : Nat) (i : Int) : Ls := [some (.ref b), some (.ref (ad 0 23)), some (.ref (ad 0 40)), some (.ref (ad 0 50)), some (.ref (ad 0 51)), some (.int (iN i)), none, none, none]
abbrev lsK (ad : Adr) (b : Nat) (i k : Int) : Ls := [some (.ref b), some (.ref (ad 0 23)), some (.ref (ad 0 40)), some (.ref (ad 0 50)), some (.ref (ad 0 51)), some (.int (iN i)), some (.int (iN k)), none, none]
/-- what a step of the law owes: the state behind it -/
def Kx (X : Cx) (b : Nat) (i Bd : Int) (cs ss : Nat) : Prop := ∀ (ad : Adr) (σ : Mem), INV σ (Bd + 60000) → V X ad (Es ad (xK X) σ) 3108 (lsB ad b i) [] (cs + 500) (ss + 1500)
section VL
variable {X : Cx} {own : String} {cc : ByteArray} {nL : Nat} {rm : Room} {ad : Adr} {E : Dic} {σ : Mem} {pc : Nat} {ls : Ls} {st : List Value} {cs ss : Nat}
theorem V_wide {cs' ss' : Nat} (h1 : cs ≤ cs') (h2 : ss ≤ ss') (kk : V X ad E pc ls st cs' ss') : V X ad E pc ls st cs ss := by
  obtain ⟨p, l, e, R, s, m, args, below, meth, c, Q, D, K, ad0, E0⟩ := X
  intro H locs la hR hI hN hS hl
  exact W.widen h1 h2 (kk H locs la hR hI hN hS hl)
theorem V_dstore7 (hf : Cf X own cc 9 rm) {x : UInt64} {v0 v1 v2 v3 v4 v5 v6 : Value} (h6 : v6.category = 1) (hdg : decode cc pc = .ok (.dstore 7, 2)) (kk : V X ad E (pc + 2) [some v0, some v1, some v2, some v3, some v4, some v5, some v6, some (.double x), none] st cs ss) : V X ad E pc [some v0, some v1, some v2, some v3, some v4, some v5, some v6, none, none] (.double x :: st) cs ss := by
  obtain ⟨p, l, e, R, s, m, args, below, meth, c, Q, D, K, ad0, E0⟩ := X
  obtain ⟨hx, hb, hml, hown, hts, hK, hl0, hlk, hR0, hEv⟩ := hf
  intro H locs la hR hI hN hS hl
  refine lv_dstore hx hb hdg hl (by rw [hml]; decide) rfl (fun la2 hl2 => kk H locs la2 hR hI hN hS (lvl_sub hl2 (fun q hq => ?_)))
  simp only [lvl, List.mem_cons, List.not_mem_nil, or_false] at hq
  rcases hq with rfl | rfl | rfl | rfl | rfl | rfl | rfl | rfl <;> simp [lvl, h6]
theorem B_callH (hf : Cf X own cc nL rm) {index : Nat} {y : MethodName} {bytes : ByteArray} {maxL d mc ms n : Nat} {ret : Option FieldType} {hh : List (Nat × Nat × Nat × Nat)} {As : List Value} {r : Value} {σ' : Mem}
    (hM : Cb (xl X) (xD X) (xK X) ad y (.codeWith y bytes maxL ret hh) d mc ms σ As (.inl (some r)) σ') (hw : CH own index y bytes maxL n ret hh) (hn : As.length = n) (hst : (st.map fun v => v.category).sum ≤ 8)
    (hrm : d + 1 ≤ rm.frames ∧ 8 + (maxL + 11) + 64 * d ≤ rm.locals ∧ cs + mc ≤ rm.cells ∧ ss + ms ≤ rm.slots)
    (hdg : decode cc pc = .ok (.invokestatic index, 3)) (kk : B X ad σ' (pc + 3) ls (r :: st) (cs + mc) (ss + ms)) : B X ad σ pc ls (As.reverse ++ st) cs ss := by
  refine V_callSW hf hM hw ⟨rfl, rfl, hrm.1, hrm.2.1, hrm.2.2.1, hrm.2.2.2⟩ hn hst hdg ?_ ?_
  · rintro r' ad' E' ⟨h1, rfl, rfl⟩
    cases h1
    exact kk
  · rintro En ad' E' ⟨h1, -, -⟩
    cases h1
end VL
theorem Wr.rf {σ : Mem} : Wr σ σ := fun _ _ _ => rfl
theorem Wr.st {σ : Mem} {j : Nat} {k v : Int} (hj : j = 50 ∨ j = 51) : Wr σ (st3 σ 0 j k v) := fun i j' h => st3_oj (fun z => h ⟨z.1, by omega⟩)
theorem Oc.k {exs : List String} {oc : Out} {k v : Int} (hx : exs.length ≤ 8) (h : Oc exs oc k v) : inR k := by
  rcases h with ⟨rfl, -⟩ | ⟨i, En, h1, -, rfl⟩
  · exact ⟨by decide, by decide⟩
  · have := (List.getElem?_eq_some_iff.mp h1).1
    exact ⟨by omega, by omega⟩
theorem Rng.st51 {σ : Mem} (h : Rng σ) {k v : Int} : Rng (st3 σ 0 51 k v) := fun g j k' hj => by
  rw [st3_oj (fun z => by omega)]
  exact h g j k' hj
section SN
variable {l : Launch} {D : va_G} {K : Nat → ClassId} {ad : Adr} {σ : Mem} {Bd : Int}
/-- a step with a helper: the answers in the range of ints -/
theorem St.nr {yc : MethodName} {cdc : Cond} {dc mc ms : Nat} {yr : MethodName} {cdr : Cond} {dr : Nat} {as : List Value} {exs : List String} (hx : exs.length ≤ 8) (h : St l D K ad σ Bd yc cdc dc mc ms yr cdr dr as exs) :
    ∃ (oc : Out) (k v : Int) (σ1 : Mem), Cb l D K ad yc cdc dc mc ms σ (.ref (ad 0 23) :: as) oc σ1 ∧ Oc exs oc k v ∧ inR v ∧ inR k ∧ ∃ (r : Int) (σ3 : Mem), inR r ∧ Cb l D K ad yr cdr dr 0 0 (if k = 0 then st3 σ1 0 50 0 v else σ1) (.ref (ad 0 40) :: as) (.inl (some (.int (iN r)))) σ3 ∧ σ3 0 40 8 = k ∧ (k = 0 → r = v ∧ σ3 0 50 0 = v) ∧ INV σ3 (Bd + 60000) := by
  obtain ⟨oc, k, v, σ1, hC, hO, hR, hn⟩ := h
  have hO' : Oc exs oc k (iN v).toInt := by
    rcases hO with ⟨h1, h2⟩ | h2
    · exact Or.inl ⟨h1, by rw [iN_of]; exact h2⟩
    · exact Or.inr h2
  have hv := inR_of (iN v)
  have h2R : Rng (if k = 0 then st3 σ1 0 50 0 (iN v).toInt else σ1) := by
    split
    · exact hR.st hv
    · exact hR
  have h2W : Wr σ1 (if k = 0 then st3 σ1 0 50 0 (iN v).toInt else σ1) := by
    split
    · exact Wr.st (Or.inl rfl)
    · exact Wr.rf
  obtain ⟨r, σ3, hM, h8, hr, hj, hI⟩ := hn _ h2R h2W
  refine ⟨oc, k, _, σ1, hC, hO', hv, hO.k hx, (iN r).toInt, σ3, inR_of _, by rw [iN_of]; exact hM, h8, fun hk => ⟨by rw [hr hk], ?_⟩, hI⟩
  rw [hj 50 (Or.inl rfl), if_pos hk, st3_self]
/-- a step without -/
theorem St.n0 {yc : MethodName} {cdc : Cond} {dc mc ms : Nat} {yr : MethodName} {cdr : Cond} {dr : Nat} (h : St l D K ad σ Bd yc cdc dc mc ms yr cdr dr [] []) :
    ∃ (v : Int) (σ1 σ3 : Mem), inR v ∧ Cb l D K ad yc cdc dc mc ms σ [.ref (ad 0 23)] (.inl (some (.int (iN v)))) σ1 ∧ Cb l D K ad yr cdr dr 0 0 σ1 [.ref (ad 0 40)] (.inl (some (.int (iN v)))) σ3 ∧ INV σ3 (Bd + 60000) := by
  obtain ⟨oc, k, v, σ1, hC, hO, hR, hn⟩ := h
  obtain ⟨r, σ3, hM, h8, hr, hj, hI⟩ := hn σ1 hR Wr.rf
  rcases hO with ⟨hk, rfl⟩ | ⟨i, En, h1, -⟩
  · refine ⟨(iN v).toInt, σ1, σ3, inR_of _, by rw [iN_of]; exact hC, by rw [iN_of, ← hr hk]; exact hM, hI⟩
  · simp at h1
/-- a step with a fraction -/
theorem StV.nd {yc : MethodName} {cdc : Cond} {dc mc ms : Nat} {yr : MethodName} {cdr : Cond} {dr : Nat} {P : Value → Prop} (dn : Value → Int) (h : StV l D K ad σ Bd yc cdc dc mc ms yr cdr dr ["java/lang/ArithmeticException"] P) :
    ∃ (oc : Out) (k : Int) (w : Value) (σ1 : Mem), Cb l D K ad yc cdc dc mc ms σ [.ref (ad 0 23)] oc σ1 ∧ ((k = 0 ∧ oc = .inl (some w)) ∨ (k = 1 ∧ oc = .inr "java/lang/ArithmeticException")) ∧ P w ∧ ∃ (w2 : Value) (σ3 : Mem), P w2 ∧ Cb l D K ad yr cdr dr 0 0 (if k = 0 then st3 σ1 0 51 0 (dn w) else σ1) [.ref (ad 0 40)] (.inl (some w2)) σ3 ∧ σ3 0 40 8 = k ∧ (k = 0 → w2 = w ∧ σ3 0 51 0 = dn w) ∧ INV σ3 (Bd + 60000) := by
  obtain ⟨oc, k, w, σ1, hC, hO, hP, hR, hn⟩ := h
  have h2R : Rng (if k = 0 then st3 σ1 0 51 0 (dn w) else σ1) := by
    split
    · exact hR.st51
    · exact hR
  have h2W : Wr σ1 (if k = 0 then st3 σ1 0 51 0 (dn w) else σ1) := by
    split
    · exact Wr.st (Or.inr rfl)
    · exact Wr.rf
  obtain ⟨w2, σ3, hM, hP2, h8, hw, hj, hI⟩ := hn _ h2R h2W
  refine ⟨oc, k, w, σ1, hC, ?_, hP, w2, σ3, hP2, hM, h8, fun hk => ⟨hw hk, ?_⟩, hI⟩
  · rcases hO with h | ⟨i, En, h1, h2, h3⟩
    · exact Or.inl h
    · rcases i with _ | i
      · cases h1
        exact Or.inr ⟨h3, h2⟩
      · simp at h1
  · rw [hj 51 (Or.inr rfl), if_pos hk, st3_self]
end SN
/-- the end of a step with a helper: the law compares what was thrown, and what was answered -/
def Tl (p : Nat) (off : Int) : Prop := decode cL_law p = .ok (.istore 7, 2) ∧ decode cL_law (p + 2) = .ok (.aload_n 2, 1) ∧ decode cL_law (p + 3) = .ok (.invokevirtual 178, 3) ∧ decode cL_law (p + 6) = .ok (.iload 6, 2) ∧ decode cL_law (p + 8) = .ok (.if_icmp .eq 5, 3) ∧ decode cL_law (p + 13) = .ok (.iload 6, 2) ∧ decode cL_law (p + 15) = .ok (.ifCond .ne 15, 3) ∧ decode cL_law (p + 18) = .ok (.aload_n 3, 1) ∧ decode cL_law (p + 19) = .ok (.iconst 0, 1) ∧ decode cL_law (p + 20) = .ok (.laload, 1) ∧ decode cL_law (p + 21) = .ok (.iload 7, 2) ∧ decode cL_law (p + 23) = .ok (.i2l, 1) ∧ decode cL_law (p + 24) = .ok (.lcmp, 1) ∧ decode cL_law (p + 25) = .ok (.ifCond .eq 5, 3) ∧ decode cL_law (p + 30) = .ok (.goto off, 3) ∧ (p : Int) + 30 + off = 3108
section TL
variable {X : Cx} {ad : Adr} {σ : Mem} {b : Nat} {i k r : Int} {p : Nat} {off : Int} {cs ss : Nat}
theorem la_tail (hf : Cf X RL cL_law 9 room_1) (hl0 : (xl X).stackTraces = false) (hT : Tl p off) (hk : inR k) (hr : inR r) (h8 : σ 0 40 8 = k) (hv : k = 0 → r = σ 0 50 0) (hR : Rng σ) (hcs : cs ≤ 603072 ∧ ss ≤ 7182441) (kk : V X ad (Es ad (xK X) σ) 3108 (lsB ad b i) [] cs ss) : B X ad σ p (lsK ad b i k) [.int (iN r)] cs ss := by
  obtain ⟨t0, t2, t3, t6, t8, t13, t15, t18, t19, t20, t21, t23, t24, t25, t30, tt⟩ := hT
  refine V_istore (ls2 := [_, _, _, _, _, _, _, _, _]) hf t0 (by decide) rfl rfl ?_
  refine V_aload_n hf t2 rfl rfl ?_
  refine B_callVi hf (As := []) (d_thrown hl0 σ hR) cv_L_178 l01 rfl rfl rfl (Nat.le_of_ble_eq_true rfl) ⟨Nat.le_of_ble_eq_true rfl, Nat.le_of_ble_eq_true rfl, hcs.1, hcs.2⟩ t3 ?_
  rw [h8]
  refine V_iload hf t6 rfl ?_
  refine V_icmp_eq (tgt := p + 13) hf hk hk t8 (by omega) (fun _ => ?_) (fun q => absurd rfl q)
  refine V_iload hf t13 rfl ?_
  refine V_if_ne (tgt := p + 30) hf hk t15 (by omega) (fun h => ?_) (fun h => ?_)
  · refine V_goto (tgt := 3108) hf t30 (by omega) ?_
    exact V_fg (ls2 := lsB ad b i) ⟨rfl, rfl, rfl, rfl, rfl, rfl, trivial⟩ kk
  · have e := hv h
    subst e
    refine V_aload_n hf t18 rfl rfl ?_
    refine V_iconst hf t19 ?_
    refine B_lald hf t20 ?_
    refine V_iload hf t21 rfl ?_
    refine V_i2l hf hr t23 ?_
    refine V_lcmp hf hr hr t24 ?_
    rw [if_neg (Int.lt_irrefl _), if_pos rfl]
    refine V_if_eq (tgt := p + 30) hf ⟨by decide, by decide⟩ t25 (by omega) (fun _ => ?_) (fun q => absurd rfl q)
    refine V_goto (tgt := 3108) hf t30 (by omega) ?_
    exact V_fg (ls2 := lsB ad b i) ⟨rfl, rfl, rfl, rfl, rfl, rfl, trivial⟩ kk
end TL
/-- a char out of an int -/
theorem i2c_ex (a : Int) : ∃ c : Int, (0 ≤ c ∧ c < 65536) ∧ ((iN a).toUInt32 % 65536).toInt32 = iN c := by
  refine ⟨(((iN a).toUInt32 % 65536).toNat : Int), ?_, ?_⟩
  · have : ((iN a).toUInt32 % 65536).toNat = (iN a).toUInt32.toNat % 65536 := by
      rw [UInt32.toNat_mod]
      rfl
    omega
  · have h : ((iN a).toUInt32 % 65536).toNat < 65536 := by
      have : ((iN a).toUInt32 % 65536).toNat = (iN a).toUInt32.toNat % 65536 := by
        rw [UInt32.toNat_mod]
        rfl
      omega
    generalize (iN a).toUInt32 % 65536 = u at h
    apply Int32.toBitVec_inj.mp
    rw [show u.toInt32.toBitVec = u.toBitVec from rfl, show (iN (u.toNat : Int)).toBitVec = BitVec.ofInt 32 (u.toNat : Int) from rfl]
    apply BitVec.eq_of_toNat_eq
    simp
/-- whether a barnacle is offered: 0 or 1 -/
theorem st_isOff2 {l : Launch} {D : va_G} {K : Nat → ClassId} {ad : Adr} {σ : Mem} {Bd : Int} (hl0 : l.stackTraces = false) (h : INV σ Bd) (a : Int) (ha : inR a) :
    ∃ (oc : Out) (k v : Int) (σ1 : Mem), Cb l D K ad yX8_isOffered (.code yX8_isOffered cX8_isOffered 2 (some .boolean)) 9 1 6 σ [.ref (ad 0 23), .int (iN a)] oc σ1 ∧ Oc ["java/lang/IndexOutOfBoundsException"] oc k v ∧ (v = 0 ∨ v = 1) ∧ inR k ∧ ∃ (r : Int) (σ3 : Mem), inR r ∧ Cb l D K ad yX9_isOffered (.code yX9_isOffered cX9_isOffered 2 (some .boolean)) 5 0 0 (if k = 0 then st3 σ1 0 50 0 v else σ1) [.ref (ad 0 40), .int (iN a)] (.inl (some (.int (iN r)))) σ3 ∧ σ3 0 40 8 = k ∧ (k = 0 → r = v ∧ σ3 0 50 0 = v) ∧ INV σ3 (Bd + 60000) := by
  have m := h.m
  obtain ⟨s0, s1, s2, s3, s4, s5, s6, s7, s8, s9, s10, s11, s12⟩ := h.m.sc
  have n1 := m.ni.n1
  by_cases hk : 0 ≤ a ∧ a < σ 0 1 3
  · have C := c_isOffered (D := D) (K := K) (ad := ad) hl0 σ h.r m.mi a ha hk
    have q := (m.ownO a).1
    have hvv : ∃ v : Int, v = (if rowOwn (σ 0) 12 a = -1 then 0 else 1) ∧ (v = 0 ∨ v = 1) := ⟨_, rfl, by split <;> simp⟩
    obtain ⟨v, ev, hv⟩ := hvv
    have hvR : inR v := ⟨by omega, by omega⟩
    have hR2 : Rng (st3 σ 0 50 0 v) := h.r.st hvR
    have hW : Wr σ (st3 σ 0 50 0 v) := Wr.st (Or.inl rfl)
    have hI := INV_w h (Int.le_refl Bd) hR2 hW
    have e := hW.e (j := 41) (by decide)
    have M := d_isOffered (D := D) (K := K) (ad := ad) hl0 (st3 σ 0 50 0 v) hR2 hI.m.ni a ha (by rw [e]; omega)
    refine ⟨_, 0, v, σ, ?_, Or.inl ⟨rfl, rfl⟩, hv, ⟨by decide, by decide⟩, v, _, hvR, ?_, st3_self, fun _ => ⟨rfl, ?_⟩, INV_o hI (by omega) ⟨by decide, by decide⟩⟩
    · rw [ev]
      exact C
    · rw [if_pos rfl]
      rw [e] at M
      have ee : v = (if mofferFor (σ 0 41) a = -1 then 0 else 1) := by
        rw [ev]
        by_cases z : rowOwn (σ 0) 12 a = -1
        · rw [if_pos z, if_pos (q.mp z)]
        · rw [if_neg z, if_neg (fun w => z (q.mpr w))]
      rw [← ee] at M
      exact M
    · rw [st3_50 50 (Or.inl rfl), st3_self]
  · have C := cx_isOffered (D := D) (K := K) (ad := ad) hl0 σ h.r a ha hk
    have M := dx_isOffered (D := D) (K := K) (ad := ad) hl0 σ h.r h.m.ni a ha (by omega)
    refine ⟨_, 1, 0, σ, C, Or.inr ⟨0, _, rfl, rfl, rfl⟩, Or.inl rfl, ⟨by decide, by decide⟩, _, _, ⟨?_, ?_⟩, by rw [if_neg (by decide)]; exact M, st3_self, fun q => absurd q (by decide), INV_o (INV_o h (Int.le_refl Bd) ⟨by decide, by decide⟩) (by omega) ⟨by decide, by decide⟩⟩ <;> decide
