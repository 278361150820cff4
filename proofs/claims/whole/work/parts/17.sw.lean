/-! switches -/
theorem V_tswIn {X : Cx} {own : String} {cc : ByteArray} {nL : Nat} {rm : Room} (hf : Cf X own cc nL rm) {ad : Adr} {E : Dic} {pc : Nat} {ls : Ls} {st : List Value} {cs ss : Nat} {a dflt lo hi off : Int} {offs : Array Int} {len tgt : Nat} (ha : inR a) (hdg : decode cc pc = .ok (.tableswitch dflt lo hi offs, len)) (h1 : lo ≤ a) (h2 : a ≤ hi) (ho : offs[(a - lo).toNat]? = some off) (ht : (pc : Int) + off = (tgt : Int)) (kk : V X ad E tgt ls st cs ss) : V X ad E pc ls (.int (iN a) :: st) cs ss := by
  obtain ⟨p, l, e, R, s, m, args, below, meth, c, Q, D, K, ad0, E0⟩ := X
  obtain ⟨hx, hb, hml, hown, hts, hK, hl0, hlk, hR0, hEv⟩ := hf
  intro H locs la hR hI hN hS hl
  have e : (iN a).toInt = a := iN_toInt ha
  exact lv_tableIn hx hb hdg (by rw [e]; omega) (by rw [e]; omega) (by rw [e]; exact ho) ht (kk H locs la hR hI hN hS hl)
theorem V_tswOut {X : Cx} {own : String} {cc : ByteArray} {nL : Nat} {rm : Room} (hf : Cf X own cc nL rm) {ad : Adr} {E : Dic} {pc : Nat} {ls : Ls} {st : List Value} {cs ss : Nat} {a dflt lo hi : Int} {offs : Array Int} {len tgt : Nat} (ha : inR a) (hdg : decode cc pc = .ok (.tableswitch dflt lo hi offs, len)) (h : a < lo ∨ hi < a) (ht : (pc : Int) + dflt = (tgt : Int)) (kk : V X ad E tgt ls st cs ss) : V X ad E pc ls (.int (iN a) :: st) cs ss := by
  obtain ⟨p, l, e, R, s, m, args, below, meth, c, Q, D, K, ad0, E0⟩ := X
  obtain ⟨hx, hb, hml, hown, hts, hK, hl0, hlk, hR0, hEv⟩ := hf
  intro H locs la hR hI hN hS hl
  have e : (iN a).toInt = a := iN_toInt ha
  exact lv_tableOut hx hb hdg (by rw [e]; exact h) ht (kk H locs la hR hI hN hS hl)
theorem B_putI {X : Cx} {own : String} {cc : ByteArray} {nL : Nat} {rm : Room} {ad : Adr} {σ : Mem} {pc : Nat} {ls : Ls} {st : List Value} {cs ss : Nat} (hf : Cf X own cc nL rm) {g : Int} {j ci k idx : Nat} {kI : Int} {fs : List Value} {v : Int} {ty : FieldType} (hkI : (k : Int) = kI) (hlv : lvp g j) (hc : cE ad (xK X) σ g j = .inr (ci, fs)) (hF : FP own idx ci k false ty) (hn : narrow ty (.int (iN v)) = .int (iN v)) (hfit : fits ty (.int (iN v)) = true) (hlen : k < fs.length) (hj : ¬ j = 33) (hs : cE ad (xK X) (st3 σ g j (k : Int) v) g j = .inr (ci, fs.set k (.int (iN v)))) (hdg : decode cc pc = .ok (.putfield idx, 3)) (kk : B X ad (st3 σ g j kI v) (pc + 3) ls st cs ss) : B X ad σ pc ls (.int (iN v) :: .ref (ad g j) :: st) cs ss := by
  subst hkI
  exact B_put hf hlv hc hF hn hfit hlen hj hs hdg kk
/-! the arrays of objects: the history's markets, the script's rows -/
theorem B_past {X : Cx} {own : String} {cc : ByteArray} {nL : Nat} {rm : Room} (hf : Cf X own cc nL rm) {ad : Adr} {σ : Mem} {pc : Nat} {ls : Ls} {st : List Value} {cs ss : Nat} {i : Int} (hiR : inR i) (h0 : 0 ≤ i) (h1 : i < 8) (hdg : decode cc pc = .ok (.aaload, 1)) (kk : B X ad σ (pc + 1) ls (.ref (ad (3 + i) 0) :: st) cs ss) : B X ad σ pc ls (.int (iN i) :: .ref (ad 0 25) :: st) cs ss := by
  refine V_aald hf (t0 := 5) ((Es_at (by decide)).trans rfl) rfl hiR h0 h1 hdg ?_
  show V X ad _ _ ls (.ref (ad (3 + ((i.toNat : Nat) : Int)) 0) :: st) cs ss
  rw [Int.toNat_of_nonneg h0]
  exact kk
theorem V_aaldA {X : Cx} {own : String} {cc : ByteArray} {nL : Nat} {rm : Room} (hf : Cf X own cc nL rm) {ad : Adr} {E : Dic} {pc : Nat} {ls : Ls} {st : List Value} {cs ss : Nat} {g : Int} {j n t0 : Nat} {f : Nat → Option Nat} {i : Int} (hE : E g j = some (.inl (xK X t0, n, .inr (.inr (.inr (.inr f)))))) (ht : (tysOf (xK X))[t0]? = some (xK X t0, .array .int)) (hiR : inR i) (h0 : 0 ≤ i) (h1 : i < n) (hdg : decode cc pc = .ok (.aaload, 1)) (kk : V X ad E (pc + 1) ls (va_rf (f i.toNat) :: st) cs ss) : V X ad E pc ls (.int (iN i) :: .ref (ad g j) :: st) cs ss := by
  obtain ⟨p, l, e, R, s, m, args, below, meth, c, Q, D, K, ad0, E0⟩ := X
  obtain ⟨hx, hb, hml, hown, hts, hK, hl0, hlk, hR0, hEv⟩ := hf
  intro H locs la hR hI hN hS hl
  have hin := iN_in hiR h0 h1
  have hlt : (iN i).toNatClampNeg < n := Nat.not_le.mp fun q => hin (Or.inr q)
  refine W.aald (v := va_rf (f (iN i).toNatClampNeg)) (ty := .array .int) hx hb (P1 hR hE 0 _ rfl) ((hK.2 t0 _ ht).1 n (fun j => va_rf (f j))) rfl (fun q => by cases q) (by show ¬ ((iN i) < 0 ∨ (arrV _ _ _).slots.size ≤ _); rw [arrV_size]; exact hin) (by show (arrV _ _ _).slots[_]? = _; rw [arrV_read _ _ hlt]) rfl rfl hdg ?_
  rw [iN_cl hiR]
  exact kk H locs la hR hI hN hS hl
theorem B_row {X : Cx} {own : String} {cc : ByteArray} {nL : Nat} {rm : Room} (hf : Cf X own cc nL rm) {ad : Adr} {σ : Mem} {pc : Nat} {ls : Ls} {st : List Value} {cs ss : Nat} {i : Int} (hiR : inR i) (h0 : 0 ≤ i) (h1 : i < 30) (hdg : decode cc pc = .ok (.aaload, 1)) (kk : B X ad σ (pc + 1) ls (.ref (ad i 30) :: st) cs ss) : B X ad σ pc ls (.int (iN i) :: .ref (ad 0 29) :: st) cs ss := by
  refine V_aaldA hf (t0 := 6) ((Es_at (by decide)).trans rfl) rfl hiR h0 h1 hdg ?_
  show V X ad _ _ ls (.ref (ad ((i.toNat : Nat) : Int) 30) :: st) cs ss
  rw [Int.toNat_of_nonneg h0]
  exact kk
