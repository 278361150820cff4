/-! the law reads its script -/
/-- the script of L ints lies at b, below the start, and no cell of the world is it -/
def Sc (X : Cx) (b L : Nat) (xs : Nat → Int32) : Prop := match X with
  | (p, l, e, R, s, m, args, below, meth, c, Q, D, K, ad0, E0) => va_X b L xs s s.heap ∧ b < s.heap.size ∧ ¬ AA ad0 E0 s.heap.size b
theorem iN_self (x : Int32) : iN x.toInt = x := Int32.ofInt_toInt x
theorem iN_self_r (x : Int32) : inR x.toInt := ⟨by have := x.le_toInt; omega, by have := x.toInt_lt; omega⟩
section VS
variable {X : Cx} {own : String} {cc : ByteArray} {nL : Nat} {rm : Room} {ad : Adr} {E : Dic} {pc : Nat} {ls : Ls} {st : List Value} {cs ss : Nat} {b L : Nat} {xs : Nat → Int32}
theorem V_sld (hf : Cf X own cc nL rm) (hS0 : Sc X b L xs) {i : Int} (hiR : inR i) (h0 : 0 ≤ i) (h1 : i < L) (hdg : decode cc pc = .ok (.iaload, 1)) (kk : V X ad E (pc + 1) ls (.int (iN (xs i.toNat).toInt) :: st) cs ss) : V X ad E pc ls (.int (iN i) :: .ref b :: st) cs ss := by
  obtain ⟨p, l, e, R, s, m, args, below, meth, c, Q, D, K, ad0, E0⟩ := X
  obtain ⟨hx, hb, hml, hown, hts, hK, hl0, hlk, hR0, hEv⟩ := hf
  obtain ⟨q1, q2, q3⟩ := hS0
  intro H locs la hR hI hN hS hl
  refine va_sld hx hb q1 q2 q3 hS (iN_in hiR h0 h1) hdg ?_
  rw [iN_cl hiR, ← iN_self (xs i.toNat)]
  exact kk H locs la hR hI hN hS hl
theorem V_slen (hf : Cf X own cc nL rm) (hS0 : Sc X b L xs) (hdg : decode cc pc = .ok (.arraylength, 1)) (kk : V X ad E (pc + 1) ls (.int (iN (L : Int)) :: st) cs ss) : V X ad E pc ls (.ref b :: st) cs ss := by
  obtain ⟨p, l, e, R, s, m, args, below, meth, c, Q, D, K, ad0, E0⟩ := X
  obtain ⟨hx, hb, hml, hown, hts, hK, hl0, hlk, hR0, hEv⟩ := hf
  obtain ⟨q1, q2, q3⟩ := hS0
  intro H locs la hR hI hN hS hl
  refine va_slen hx hb q1 q2 q3 hS hdg ?_
  have e1 : Int32.ofNat L = iN (L : Int) := by
    rw [iN_nI (by omega)]
    rfl
  rw [e1]
  exact kk H locs la hR hI hN hS hl
end VS
/-- the case of a step: the low six bits -/
theorem and63 (x : Int32) : ∃ k : Int, (0 ≤ k ∧ k < 64) ∧ x &&& iN 63 = iN k := by
  refine ⟨(x &&& iN 63).toInt, ?_, (iN_self _).symm⟩
  have h : (x &&& iN 63).toBitVec = x.toBitVec &&& 63#32 := rfl
  have h2 : (x.toBitVec &&& 63#32).toNat < 64 := by
    rw [BitVec.toNat_and]
    exact Nat.lt_of_le_of_lt Nat.and_le_right (by decide)
  have h3 : (x &&& iN 63).toInt = (x.toBitVec &&& 63#32).toInt := by
    rw [← h]
    rfl
  rw [h3, BitVec.toInt_eq_toNat_cond]
  split <;> omega
