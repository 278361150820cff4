/-! switches -/
theorem V_tswIn {X : Cx} {own : String} {cc : ByteArray} {nL : Nat} {rm : Room} (hf : Cf X own cc nL rm) {ad : Adr} {E : Dic} {pc : Nat} {ls : Ls} {st : List Value} {cs ss : Nat} {a dflt lo hi off : Int} {offs : Array Int} {len tgt : Nat} (ha : inR a) (hdg : decode cc pc = .ok (.tableswitch dflt lo hi offs, len)) (h1 : lo ≤ a) (h2 : a ≤ hi) (ho : offs[(a - lo).toNat]? = some off) (ht : (pc : Int) + off = (tgt : Int)) (kk : V X ad E tgt ls st cs ss) : V X ad E pc ls (.int (iN a) :: st) cs ss := by
  obtain ⟨p, l, e, R, s, m, args, below, meth, c, Q, D, K, ad0, E0⟩ := X
  obtain ⟨hx, hb, hml, hown, hts, hK, hl0, hlk, hR0, hEv⟩ := hf
  intro H locs la hR hI hN hS hl
  have e : (iN a).toInt = a := iN_toInt ha
  exact lv_tableIn hx hb hdg (by rw [e]; omega) (by rw [e]; omega) (by rw [e]; exact ho) ht (kk H locs la hR hI hN hS hl)
theorem V_tswOut {X : Cx} {own : String} {cc : ByteArray} {nL : Nat} {rm : Room} (hf : Cf X own cc nL rm) {ad : Adr} {E : Dic} {pc : Nat} {ls : Ls} {st : List Value} {cs ss : Nat} {a dflt lo hi : Int} {offs : Array Int} {len tgt : Nat} (ha : inR a) (hdg : decode cc pc = .ok (.tableswitch dflt lo hi offs, len)) (h : a < lo ∨ hi < a) (ht : (pc : Int) + dflt = (tgt : Int)) (kk : V X ad E tgt ls st cs ss) : V X ad E pc ls (.int (iN a) :: st) cs ss := by
  obtain ⟨p, l, e, R, s, m, args, below, meth, c, Q, D, K, ad0, E0⟩ := X
  obtain ⟨hx, hb, hml, hown, hts, hK, hl0, hlk, hR0, hEv⟩ := hf
  intro H locs la hR hI hN hS hl
  have e : (iN a).toInt = a := iN_toInt ha
  exact lv_tableOut hx hb hdg (by rw [e]; exact h) ht (kk H locs la hR hI hN hS hl)
theorem B_putI {X : Cx} {own : String} {cc : ByteArray} {nL : Nat} {rm : Room} {ad : Adr} {σ : Mem} {pc : Nat} {ls : Ls} {st : List Value} {cs ss : Nat} (hf : Cf X own cc nL rm) {g : Int} {j ci k idx : Nat} {kI : Int} {fs : List Value} {v : Int} {ty : FieldType} (hkI : (k : Int) = kI) (hlv : lvp g j) (hc : cE ad (xK X) σ g j = .inr (ci, fs)) (hF : FP own idx ci k false ty) (hn : narrow ty (.int (iN v)) = .int (iN v)) (hfit : fits ty (.int (iN v)) = true) (hlen : k < fs.length) (hj : ¬ j = 33) (hs : cE ad (xK X) (st3 σ g j (k : Int) v) g j = .inr (ci, fs.set k (.int (iN v)))) (hdg : decode cc pc = .ok (.putfield idx, 3)) (kk : B X ad (st3 σ g j kI v) (pc + 3) ls st cs ss) : B X ad σ pc ls (.int (iN v) :: .ref (ad g j) :: st) cs ss := by
  subst hkI
  exact B_put hf hlv hc hF hn hfit hlen hj hs hdg kk
