/-! longs -/
def lI (z : Int) : Int64 := Int64.ofInt z
theorem lI_toInt {z : Int} (h : inR z) : (lI z).toInt = z := Int64.toInt_ofInt_of_le (by have := h.1; omega) (by have := h.2; omega)
theorem iN_i2l {a : Int} (h : inR a) : (iN a).toInt64 = lI a := Int64.toInt_inj.mp (by rw [Int32.toInt_toInt64, iN_toInt h, lI_toInt h])
theorem V_i2l {X : Cx} {own : String} {cc : ByteArray} {nL : Nat} {rm : Room} (hf : Cf X own cc nL rm) {ad : Adr} {E : Dic} {pc : Nat} {ls : Ls} {st : List Value} {cs ss : Nat} {a : Int} (ha : inR a) (hdg : decode cc pc = .ok (.i2l, 1)) (kk : V X ad E (pc + 1) ls (.long (lI a) :: st) cs ss) : V X ad E pc ls (.int (iN a) :: st) cs ss := by
  obtain ⟨p, l, e, R, s, m, args, below, meth, c, Q, D, K, ad0, E0⟩ := X
  obtain ⟨hx, hb, hml, hown, hts, hK, hl0, hlk, hR0, hEv⟩ := hf
  intro H locs la hR hI hN hS hl
  exact lv_i2l hx hb hdg (iN_i2l ha) (kk H locs la hR hI hN hS hl)
theorem V_lconst {X : Cx} {own : String} {cc : ByteArray} {nL : Nat} {rm : Room} (hf : Cf X own cc nL rm) {ad : Adr} {E : Dic} {pc : Nat} {ls : Ls} {st : List Value} {cs ss : Nat} {n : Fin 2} {a : Int} (ha : Int64.ofNat (n : Nat) = lI a) (hdg : decode cc pc = .ok (.lconst n, 1)) (kk : V X ad E (pc + 1) ls (.long (lI a) :: st) cs ss) : V X ad E pc ls st cs ss := by
  obtain ⟨p, l, e, R, s, m, args, below, meth, c, Q, D, K, ad0, E0⟩ := X
  obtain ⟨hx, hb, hml, hown, hts, hK, hl0, hlk, hR0, hEv⟩ := hf
  intro H locs la hR hI hN hS hl
  exact lv_lconst hx hb hdg ha (kk H locs la hR hI hN hS hl)
theorem V_ldc2 {X : Cx} {own : String} {cc : ByteArray} {nL : Nat} {rm : Room} (hf : Cf X own cc nL rm) {ad : Adr} {E : Dic} {pc : Nat} {ls : Ls} {st : List Value} {cs ss : Nat} {index : Nat} {v : Int64} {a : Int} (ha : v = lI a) (hw : Cond.constantLong own index v ∈ lw_good) (hdg : decode cc pc = .ok (.ldc2_w index, 3)) (kk : V X ad E (pc + 3) ls (.long (lI a) :: st) cs ss) : V X ad E pc ls st cs ss := by
  subst ha
  obtain ⟨p, l, e, R, s, m, args, below, meth, c, Q, D, K, ad0, E0⟩ := X
  obtain ⟨hx, hb, hml, hown, hts, hK, hl0, hlk, hR0, hEv⟩ := hf
  intro H locs la hR hI hN hS hl
  exact lv_ldc2 hx hb hown (hts _ hw) hdg (kk H locs la hR hI hN hS hl)
theorem V_lcmp {X : Cx} {own : String} {cc : ByteArray} {nL : Nat} {rm : Room} (hf : Cf X own cc nL rm) {ad : Adr} {E : Dic} {pc : Nat} {ls : Ls} {st : List Value} {cs ss : Nat} {a b : Int} (ha : inR a) (hbR : inR b) (hdg : decode cc pc = .ok (.lcmp, 1)) (kk : V X ad E (pc + 1) ls (.int (iN (if b < a then 1 else if a = b then 0 else -1)) :: st) cs ss) : V X ad E pc ls (.long (lI b) :: .long (lI a) :: st) cs ss := by
  obtain ⟨p, l, e, R, s, m, args, below, meth, c, Q, D, K, ad0, E0⟩ := X
  obtain ⟨hx, hb, hml, hown, hts, hK, hl0, hlk, hR0, hEv⟩ := hf
  intro H locs la hR hI hN hS hl T hT Y
  obtain ⟨t, s1, s2⟩ := kk H locs la hR hI hN hS hl T hT Y
  refine ⟨t, ?_, s2⟩
  have e1 : lI b < lI a ↔ b < a := by rw [Int64.lt_iff_toInt_lt, lI_toInt ha, lI_toInt hbR]
  have e2 : lI a = lI b ↔ a = b := by rw [← Int64.toInt_inj, lI_toInt ha, lI_toInt hbR]
  by_cases h1 : b < a
  · rw [if_pos h1] at s1
    have g1 := e1.mpr h1
    jvm_step Y.here [Y.here.top, hx, hb, hdg, g1]
    exact s1
  · have g1 : ¬ lI b < lI a := fun q => h1 (e1.mp q)
    by_cases h2 : a = b
    · subst h2
      rw [if_neg h1, if_pos rfl] at s1
      jvm_step Y.here [Y.here.top, hx, hb, hdg]
      exact s1
    · have g2 : ¬ lI a = lI b := fun q => h2 (e2.mp q)
      rw [if_neg h1, if_neg h2] at s1
      jvm_step Y.here [Y.here.top, hx, hb, hdg, g1, g2]
      exact s1
theorem wcl_X9_102 : Cond.constantLong RX9 102 99 ∈ lw_good := lg_t 1665 (by decide +kernel) (by decide +kernel)
theorem wcl_X9_104 : Cond.constantLong RX9 104 5 ∈ lw_good := lg_t 1669 (by decide +kernel) (by decide +kernel)
theorem wcl_X9_124 : Cond.constantLong RX9 124 9 ∈ lw_good := lg_t 1697 (by decide +kernel) (by decide +kernel)
theorem wcl_X9_233 : Cond.constantLong RX9 233 32 ∈ lw_good := lg_t 2065 (by decide +kernel) (by decide +kernel)
theorem wcl_X9_235 : Cond.constantLong RX9 235 126 ∈ lw_good := lg_t 2066 (by decide +kernel) (by decide +kernel)
theorem wcl_X9_253 : Cond.constantLong RX9 253 48 ∈ lw_good := lg_t 2091 (by decide +kernel) (by decide +kernel)
theorem wcl_X9_255 : Cond.constantLong RX9 255 57 ∈ lw_good := lg_t 2092 (by decide +kernel) (by decide +kernel)
