/-! floats and doubles, the law's answers -/
theorem rr_nn {f : Jvm.FP.Core.Fmt} {s : Bool} {n d : Nat} {e : Int} : Jvm.FP.Core.roundRatio f s n d e ≠ .nan := by
  unfold Jvm.FP.Core.roundRatio Jvm.FP.Core.roundAt Jvm.FP.Core.settle Jvm.FP.Core.bound
  repeat' split
  all_goals (intro h; cases h)
theorem n64_of {r : UInt64} (h : Jvm.FP.Core.val64 r ≠ .nan) : vf_n64 r := by
  unfold vf_n64
  rw [UInt64.le_iff_toNat_le, UInt64.toNat_and]
  show r.toNat &&& 9223372036854775807 ≤ 9218868437227405312
  rw [show (9223372036854775807 : Nat) = 2 ^ 63 - 1 by decide, Nat.and_two_pow_sub_one_eq_mod]
  refine Classical.byContradiction fun q => h ?_
  have hr := r.toNat_lt
  unfold Jvm.FP.Core.val64 Jvm.FP.Core.decode
  have hE : Jvm.FP.Core.fieldE Jvm.FP.Core.b64 r.toNat = Jvm.FP.Core.b64.exps - 1 := by
    show r.toNat / 4503599627370496 % 2048 = 2047
    omega
  have hT : ¬ Jvm.FP.Core.fieldT Jvm.FP.Core.b64 r.toNat = 0 := by
    show ¬ r.toNat % 4503599627370496 = 0
    omega
  rw [if_pos hE, if_neg hT]
theorem n32_of {r : UInt32} (h : Jvm.FP.Core.val32 r ≠ .nan) : vf_n32 r := by
  unfold vf_n32
  rw [UInt32.le_iff_toNat_le, UInt32.toNat_and]
  show r.toNat &&& 2147483647 ≤ 2139095040
  rw [show (2147483647 : Nat) = 2 ^ 31 - 1 by decide, Nat.and_two_pow_sub_one_eq_mod]
  refine Classical.byContradiction fun q => h ?_
  have hr := r.toNat_lt
  unfold Jvm.FP.Core.val32 Jvm.FP.Core.decode
  have hE : Jvm.FP.Core.fieldE Jvm.FP.Core.b32 r.toNat = Jvm.FP.Core.b32.exps - 1 := by
    show r.toNat / 8388608 % 256 = 255
    omega
  have hT : ¬ Jvm.FP.Core.fieldT Jvm.FP.Core.b32 r.toNat = 0 := by
    show ¬ r.toNat % 8388608 = 0
    omega
  rw [if_pos hE, if_neg hT]
theorem whole_0 {i : Int} {t : Bool} {r : Int} (h : Jvm.FP.Core.Whole i (.fin t 0 r)) : i = 0 := by
  have h : Jvm.FP.Core.signed t (0 * 2 ^ r.toNat) = i * ((2 ^ (-r).toNat : Nat) : Int) := h
  have z : Jvm.FP.Core.signed t 0 = 0 := by
    unfold Jvm.FP.Core.signed
    split <;> rfl
  rw [Nat.zero_mul, z] at h
  rcases Int.mul_eq_zero.mp h.symm with h | h
  · exact h
  · exact absurd h (by have := Nat.two_pow_pos (-r).toNat; omega)
theorem div_n64 {a b : Int32} (hb : b.toInt ≠ 0) : vf_n64 (FP.ddiv (FP.i2d a) (FP.i2d b)) := by
  refine n64_of ?_
  rw [show FP.ddiv (FP.i2d a) (FP.i2d b) = Jvm.FP.Core.ddiv (Jvm.FP.Core.i2d a) (Jvm.FP.Core.i2d b) from rfl, Jvm.FP.Core.val64_ddiv]
  have h1 := Jvm.FP.Core.i2d_int a
  have h2 := Jvm.FP.Core.i2d_int b
  unfold Jvm.FP.Core.DInt at h1 h2
  generalize Jvm.FP.Core.val64 (Jvm.FP.Core.i2d a) = x at h1 ⊢
  generalize Jvm.FP.Core.val64 (Jvm.FP.Core.i2d b) = y at h2 ⊢
  cases x with
  | nan => exact h1.elim
  | inf => exact h1.elim
  | fin s c q =>
    cases y with
    | nan => exact h2.elim
    | inf => exact h2.elim
    | fin t d r =>
      show (if d = 0 then (if c = 0 then .nan else .inf (s != t)) else Jvm.FP.Core.roundRatio Jvm.FP.Core.b64 (s != t) c d (q - r)) ≠ Jvm.FP.Core.Datum.nan
      split
      · split
        · rename_i hd hc
          subst hd
          exact absurd (whole_0 h2) hb
        · intro h
          cases h
      · exact rr_nn
theorem div_n32 {a b : Int32} (ha : a.toInt.natAbs ≤ 2 ^ 24) (hbb : b.toInt.natAbs ≤ 2 ^ 24) (hb : b.toInt ≠ 0) : Jvm.FP.Core.val32 (FP.fdiv (FP.i2f a) (FP.i2f b)) ≠ .nan := by
  rw [show FP.fdiv (FP.i2f a) (FP.i2f b) = Jvm.FP.Core.fdiv (Jvm.FP.Core.i2f a) (Jvm.FP.Core.i2f b) from rfl, Jvm.FP.Core.val32_fdiv]
  have h1 := Jvm.FP.Core.i2f_int ha
  have h2 := Jvm.FP.Core.i2f_int hbb
  unfold Jvm.FP.Core.FInt at h1 h2
  generalize Jvm.FP.Core.val32 (Jvm.FP.Core.i2f a) = x at h1 ⊢
  generalize Jvm.FP.Core.val32 (Jvm.FP.Core.i2f b) = y at h2 ⊢
  cases x with
  | nan => exact h1.elim
  | inf => exact h1.elim
  | fin s c q =>
    cases y with
    | nan => exact h2.elim
    | inf => exact h2.elim
    | fin t d r =>
      show (if d = 0 then (if c = 0 then .nan else .inf (s != t)) else Jvm.FP.Core.roundRatio Jvm.FP.Core.b32 (s != t) c d (q - r)) ≠ Jvm.FP.Core.Datum.nan
      split
      · split
        · rename_i hd hc
          subst hd
          exact absurd (whole_0 h2) hb
        · intro h
          cases h
      · exact rr_nn
theorem f2d_n64 {r : UInt32} (h : Jvm.FP.Core.val32 r ≠ .nan) : vf_n64 (FP.f2d r) := by
  refine n64_of ?_
  have e : FP.f2d r = Jvm.FP.Core.f2d r := by
    unfold FP.f2d
    rw [if_neg]
    unfold Jvm.FP.Core.fIsNaN Jvm.FP.Core.isNaN
    simpa [Jvm.FP.Core.val32] using h
  rw [e, Jvm.FP.Core.val64_f2d]
  cases hx : Jvm.FP.Core.val32 r with
  | nan => exact absurd hx h
  | inf s => intro q; cases q
  | fin s c q => exact rr_nn
section VD
variable {X : Cx} {own : String} {cc : ByteArray} {nL : Nat} {rm : Room} {ad : Adr} {E : Dic} {pc : Nat} {ls : Ls} {st : List Value} {cs ss : Nat}
theorem V_i2d (hf : Cf X own cc nL rm) {a : Int} (hdg : decode cc pc = .ok (.i2d, 1)) (kk : V X ad E (pc + 1) ls (.double (FP.i2d (iN a)) :: st) cs ss) : V X ad E pc ls (.int (iN a) :: st) cs ss := by
  obtain ⟨p, l, e, R, s, m, args, below, meth, c, Q, D, K, ad0, E0⟩ := X
  obtain ⟨hx, hb, hml, hown, hts, hK, hl0, hlk, hR0, hEv⟩ := hf
  intro H locs la hR hI hN hS hl
  exact lv_i2d hx hb hdg (kk H locs la hR hI hN hS hl)
theorem V_i2f (hf : Cf X own cc nL rm) {a : Int} (hdg : decode cc pc = .ok (.i2f, 1)) (kk : V X ad E (pc + 1) ls (.float (FP.i2f (iN a)) :: st) cs ss) : V X ad E pc ls (.int (iN a) :: st) cs ss := by
  obtain ⟨p, l, e, R, s, m, args, below, meth, c, Q, D, K, ad0, E0⟩ := X
  obtain ⟨hx, hb, hml, hown, hts, hK, hl0, hlk, hR0, hEv⟩ := hf
  intro H locs la hR hI hN hS hl
  exact lv_i2f hx hb hdg (kk H locs la hR hI hN hS hl)
theorem V_ddiv (hf : Cf X own cc nL rm) {x y : UInt64} (hn : vf_n64 (FP.ddiv x y)) (hdg : decode cc pc = .ok (.ddiv, 1)) (kk : V X ad E (pc + 1) ls (.double (FP.ddiv x y) :: st) cs ss) : V X ad E pc ls (.double y :: .double x :: st) cs ss := by
  obtain ⟨p, l, e, R, s, m, args, below, meth, c, Q, D, K, ad0, E0⟩ := X
  obtain ⟨hx, hb, hml, hown, hts, hK, hl0, hlk, hR0, hEv⟩ := hf
  intro H locs la hR hI hN hS hl
  exact lv_ddiv hx hb hdg hn (kk H locs la hR hI hN hS hl)
theorem V_fdiv (hf : Cf X own cc nL rm) {x y : UInt32} (hn : vf_n32 (FP.fdiv x y)) (hdg : decode cc pc = .ok (.fdiv, 1)) (kk : V X ad E (pc + 1) ls (.float (FP.fdiv x y) :: st) cs ss) : V X ad E pc ls (.float y :: .float x :: st) cs ss := by
  obtain ⟨p, l, e, R, s, m, args, below, meth, c, Q, D, K, ad0, E0⟩ := X
  obtain ⟨hx, hb, hml, hown, hts, hK, hl0, hlk, hR0, hEv⟩ := hf
  intro H locs la hR hI hN hS hl
  exact lv_fdiv hx hb hdg hn (kk H locs la hR hI hN hS hl)
theorem V_f2d (hf : Cf X own cc nL rm) {x : UInt32} (hn : vf_n64 (FP.f2d x)) (hdg : decode cc pc = .ok (.f2d, 1)) (kk : V X ad E (pc + 1) ls (.double (FP.f2d x) :: st) cs ss) : V X ad E pc ls (.float x :: st) cs ss := by
  obtain ⟨p, l, e, R, s, m, args, below, meth, c, Q, D, K, ad0, E0⟩ := X
  obtain ⟨hx, hb, hml, hown, hts, hK, hl0, hlk, hR0, hEv⟩ := hf
  intro H locs la hR hI hN hS hl
  exact lv_f2d hx hb hdg hn (kk H locs la hR hI hN hS hl)
theorem V_dconst0 (hf : Cf X own cc nL rm) (hdg : decode cc pc = .ok (.dconst 0, 1)) (kk : V X ad E (pc + 1) ls (.double FP.dconst0 :: st) cs ss) : V X ad E pc ls (st) cs ss := by
  obtain ⟨p, l, e, R, s, m, args, below, meth, c, Q, D, K, ad0, E0⟩ := X
  obtain ⟨hx, hb, hml, hown, hts, hK, hl0, hlk, hR0, hEv⟩ := hf
  intro H locs la hR hI hN hS hl
  exact lv_dconst0 hx hb hdg (kk H locs la hR hI hN hS hl)
theorem V_fconst0 (hf : Cf X own cc nL rm) (hdg : decode cc pc = .ok (.fconst 0, 1)) (kk : V X ad E (pc + 1) ls (.float FP.fconst0 :: st) cs ss) : V X ad E pc ls (st) cs ss := by
  obtain ⟨p, l, e, R, s, m, args, below, meth, c, Q, D, K, ad0, E0⟩ := X
  obtain ⟨hx, hb, hml, hown, hts, hK, hl0, hlk, hR0, hEv⟩ := hf
  intro H locs la hR hI hN hS hl
  exact lv_fconst0 hx hb hdg (kk H locs la hR hI hN hS hl)
theorem V_dcmp (hf : Cf X own cc nL rm) {x y : UInt64} {op : CmpOp} (hdg : decode cc pc = .ok (.dcmp op, 1)) (kk : V X ad E (pc + 1) ls (.int (Op.cmpValue (FP.dcmp x y) op) :: st) cs ss) : V X ad E pc ls (.double y :: .double x :: st) cs ss := by
  obtain ⟨p, l, e, R, s, m, args, below, meth, c, Q, D, K, ad0, E0⟩ := X
  obtain ⟨hx, hb, hml, hown, hts, hK, hl0, hlk, hR0, hEv⟩ := hf
  intro H locs la hR hI hN hS hl
  exact lv_dcmp hx hb hdg (kk H locs la hR hI hN hS hl)
theorem V_i2c (hf : Cf X own cc nL rm) {a b : Int} (hv : ((iN a).toUInt32 % 65536).toInt32 = iN b) (hdg : decode cc pc = .ok (.i2c, 1)) (kk : V X ad E (pc + 1) ls (.int (iN b) :: st) cs ss) : V X ad E pc ls (.int (iN a) :: st) cs ss := by
  obtain ⟨p, l, e, R, s, m, args, below, meth, c, Q, D, K, ad0, E0⟩ := X
  obtain ⟨hx, hb, hml, hown, hts, hK, hl0, hlk, hR0, hEv⟩ := hf
  intro H locs la hR hI hN hS hl
  exact lv_i2c hx hb hdg hv (kk H locs la hR hI hN hS hl)
theorem i2c_s {a : Int} (h0 : 0 ≤ a) (h1 : a < 65536) : ((iN a).toUInt32 % 65536).toInt32 = iN a := by
  obtain ⟨q, rfl⟩ := Int.eq_ofNat_of_zero_le h0
  have e : (iN (q : Int)).toBitVec.toNat = q := by
    have h2 : (iN (q : Int)).toInt = q := iN_toInt ⟨by omega, by omega⟩
    have h3 : (iN (q : Int)).toInt = (iN (q : Int)).toBitVec.toInt := rfl
    rw [h3, BitVec.toInt_eq_toNat_cond] at h2
    have h4 := (iN (q : Int)).toBitVec.isLt
    split at h2 <;> omega
  rw [pk_char, e, Nat.mod_eq_of_lt (by omega)]
  exact (iN_nI h0).symm
theorem V_dret (hf : Cf X own cc nL rm) {post : Out → Adr → Dic → Prop} {mc ms : Nat} (he : Ce X (some .double) post mc ms) {v : UInt64} (hdg : decode cc pc = .ok (.dreturn, 1)) (hc : cs ≤ mc) (hs : ss ≤ ms) (hp : post (.inl (some (.double v))) ad E) : V X ad E pc ls [.double v] cs ss := by
  obtain ⟨p, l, e, R, s, m, args, below, meth, c, Q, D, K, ad0, E0⟩ := X
  obtain ⟨hx, hb, hml, hown, hts, hK, hl0, hlk, hR0, hEv⟩ := hf
  obtain ⟨hr, rfl⟩ := he
  intro H locs la hR hI hN hS hl
  refine vx_ret (W.widen hc hs ?_)
  exact W.dret hx hb hr (fun t ht hW => ⟨_, ad, E, rfl, hp, by rw [ht]; exact hR, hI, hN, hS.F ht⟩) hS.2.2 hdg hlk
theorem V_fret (hf : Cf X own cc nL rm) {post : Out → Adr → Dic → Prop} {mc ms : Nat} (he : Ce X (some .float) post mc ms) {v : UInt32} (hdg : decode cc pc = .ok (.freturn, 1)) (hc : cs ≤ mc) (hs : ss ≤ ms) (hp : post (.inl (some (.float v))) ad E) : V X ad E pc ls [.float v] cs ss := by
  obtain ⟨p, l, e, R, s, m, args, below, meth, c, Q, D, K, ad0, E0⟩ := X
  obtain ⟨hx, hb, hml, hown, hts, hK, hl0, hlk, hR0, hEv⟩ := hf
  obtain ⟨hr, rfl⟩ := he
  intro H locs la hR hI hN hS hl
  refine vx_ret (W.widen hc hs ?_)
  exact W.fret hx hb hr (fun t ht hW => ⟨_, ad, E, rfl, hp, by rw [ht]; exact hR, hI, hN, hS.F ht⟩) hS.2.2 hdg hlk
theorem V_last (hf : Cf X own cc nL rm) {g : Int} {j n : Nat} {f : Nat → Int64} {i : Int} {x : Int64} (hE : E g j = some (.inl (xK X 2, n, .inr (.inl f)))) (hiR : inR i) (h0 : 0 ≤ i) (h1 : i < n) (hdg : decode cc pc = .ok (.lastore, 1)) (kk : V X ad (eset E g j (.inl (xK X 2, n, .inr (.inl (vp_updL f i.toNat x))))) (pc + 1) ls st cs ss) : V X ad E pc ls (.long x :: .int (iN i) :: .ref (ad g j) :: st) cs ss := by
  obtain ⟨p, l, e, R, s, m, args, below, meth, c, Q, D, K, ad0, E0⟩ := X
  obtain ⟨hx, hb, hml, hown, hts, hK, hl0, hlk, hR0, hEv⟩ := hf
  intro H locs la hR hI hN hS hl
  refine W.last hx hb (hR g j _ hE) ((hK.2 2 _ rfl).1 n (fun j => .long (f j))) (fun q => by cases q) (by show ¬ (iN i < 0 ∨ (arrV _ _ _).slots.size ≤ _); rw [arrV_size]; exact iN_in hiR h0 h1) rfl rfl hdg fun H1 e z oq => ?_
  refine kk H1 _ la (hR.set hI hE ?_ oq) (hI.set hE) (hN.set hE) (hS.put z oq (hN.mem hE)) hl
  show H1[_]? = some (vp_cell _ _)
  rw [e, iN_cl hiR]
  rw [vp_cell_l, vp_cell_l, arrV_store]
  congr 2
  funext q
  by_cases hq : q = i.toNat
  · subst hq
    simp [updV, vp_updL]
  · simp [updV, vp_updL, hq]
theorem V_dast (hf : Cf X own cc nL rm) {g : Int} {j n : Nat} {f : Nat → UInt64} {i : Int} {x : UInt64} (hE : E g j = some (.inl (xK X 3, n, .inr (.inr (.inr (.inl f)))))) (hiR : inR i) (h0 : 0 ≤ i) (h1 : i < n) (hdg : decode cc pc = .ok (.dastore, 1)) (kk : V X ad (eset E g j (.inl (xK X 3, n, .inr (.inr (.inr (.inl (vf_upd f i.toNat x))))))) (pc + 1) ls st cs ss) : V X ad E pc ls (.double x :: .int (iN i) :: .ref (ad g j) :: st) cs ss := by
  obtain ⟨p, l, e, R, s, m, args, below, meth, c, Q, D, K, ad0, E0⟩ := X
  obtain ⟨hx, hb, hml, hown, hts, hK, hl0, hlk, hR0, hEv⟩ := hf
  intro H locs la hR hI hN hS hl
  refine W.dast hx hb (hR g j _ hE) ((hK.2 3 _ rfl).1 n (fun j => .double (f j))) (fun q => by cases q) (by show ¬ (iN i < 0 ∨ (arrV _ _ _).slots.size ≤ _); rw [arrV_size]; exact iN_in hiR h0 h1) rfl rfl hdg fun H1 e z oq => ?_
  refine kk H1 _ la (hR.set hI hE ?_ oq) (hI.set hE) (hN.set hE) (hS.put z oq (hN.mem hE)) hl
  show H1[_]? = some (vp_cell _ _)
  rw [e, iN_cl hiR]
  rw [vp_cell_d, vp_cell_d, arrV_store]
  congr 2
  funext q
  by_cases hq : q = i.toNat
  · subst hq
    simp [updV, vf_upd]
  · simp [updV, vf_upd, hq]
theorem V_lald (hf : Cf X own cc nL rm) {g : Int} {j n : Nat} {f : Nat → Int64} {i : Int} (hE : E g j = some (.inl (xK X 2, n, .inr (.inl f)))) (hiR : inR i) (h0 : 0 ≤ i) (h1 : i < n) (hdg : decode cc pc = .ok (.laload, 1)) (kk : V X ad E (pc + 1) ls (.long (f i.toNat) :: st) cs ss) : V X ad E pc ls (.int (iN i) :: .ref (ad g j) :: st) cs ss := by
  obtain ⟨p, l, e, R, s, m, args, below, meth, c, Q, D, K, ad0, E0⟩ := X
  obtain ⟨hx, hb, hml, hown, hts, hK, hl0, hlk, hR0, hEv⟩ := hf
  intro H locs la hR hI hN hS hl
  refine va_lald hx hb hK (P1 hR hE) 0 2 rfl rfl (iN_in hiR h0 h1) hdg ?_
  rw [iN_cl hiR]
  exact kk H locs la hR hI hN hS hl
theorem V_dald (hf : Cf X own cc nL rm) {g : Int} {j n : Nat} {f : Nat → UInt64} {i : Int} (hE : E g j = some (.inl (xK X 3, n, .inr (.inr (.inr (.inl f)))))) (hiR : inR i) (h0 : 0 ≤ i) (h1 : i < n) (hdg : decode cc pc = .ok (.daload, 1)) (kk : V X ad E (pc + 1) ls (.double (f i.toNat) :: st) cs ss) : V X ad E pc ls (.int (iN i) :: .ref (ad g j) :: st) cs ss := by
  obtain ⟨p, l, e, R, s, m, args, below, meth, c, Q, D, K, ad0, E0⟩ := X
  obtain ⟨hx, hb, hml, hown, hts, hK, hl0, hlk, hR0, hEv⟩ := hf
  intro H locs la hR hI hN hS hl
  refine va_dald hx hb hK (P1 hR hE) 0 3 rfl rfl (iN_in hiR h0 h1) hdg ?_
  rw [iN_cl hiR]
  exact kk H locs la hR hI hN hS hl
end VD
section BD
variable {X : Cx} {own : String} {cc : ByteArray} {nL : Nat} {rm : Room} {ad : Adr} {σ : Mem} {pc : Nat} {ls : Ls} {st : List Value} {cs ss : Nat}
theorem B_last (hf : Cf X own cc nL rm) {v : Int} (hdg : decode cc pc = .ok (.lastore, 1)) (kk : B X ad (st3 σ 0 50 0 v) (pc + 1) ls st cs ss) : B X ad σ pc ls (.long (lI v) :: .int (iN 0) :: .ref (ad 0 50) :: st) cs ss := by
  refine V_last hf (n := 1) (f := fun i => Int64.ofInt (σ 0 50 (i : Int))) ((Es_at (by decide)).trans rfl) ⟨by decide, by decide⟩ (by decide) (by decide) hdg ?_
  rw [Es_set (k := 0) (v := v) (by decide) (by decide) ?_]
  · exact kk
  · show (.inl (xK X 2, 1, .inr (.inl (fun i => Int64.ofInt (st3 σ 0 50 0 v 0 50 (i : Int))))) : va_E) = _
    congr 5
    funext q
    unfold vp_updL
    by_cases h : q = 0
    · subst h
      rfl
    · rw [st3_k (by omega), if_neg (by simpa using h)]
theorem B_lald (hf : Cf X own cc nL rm) (hdg : decode cc pc = .ok (.laload, 1)) (kk : B X ad σ (pc + 1) ls (.long (lI (σ 0 50 0)) :: st) cs ss) : B X ad σ pc ls (.int (iN 0) :: .ref (ad 0 50) :: st) cs ss := V_lald hf (n := 1) (f := fun i => Int64.ofInt (σ 0 50 (i : Int))) ((Es_at (by decide)).trans rfl) ⟨by decide, by decide⟩ (by decide) (by decide) hdg kk
theorem B_dast (hf : Cf X own cc nL rm) {v : UInt64} (hdg : decode cc pc = .ok (.dastore, 1)) (kk : B X ad (st3 σ 0 51 0 (v.toNat : Int)) (pc + 1) ls st cs ss) : B X ad σ pc ls (.double v :: .int (iN 0) :: .ref (ad 0 51) :: st) cs ss := by
  refine V_dast hf (n := 1) (f := fun i => UInt64.ofNat (σ 0 51 (i : Int)).toNat) ((Es_at (by decide)).trans rfl) ⟨by decide, by decide⟩ (by decide) (by decide) hdg ?_
  rw [Es_set (k := 0) (v := (v.toNat : Int)) (by decide) (by decide) ?_]
  · exact kk
  · show (.inl (xK X 3, 1, .inr (.inr (.inr (.inl (fun i => UInt64.ofNat (st3 σ 0 51 0 (v.toNat : Int) 0 51 (i : Int)).toNat))))) : va_E) = _
    congr 7
    funext q
    unfold vf_upd
    by_cases h : q = 0
    · subst h
      show UInt64.ofNat v.toNat = _
      simp
    · rw [st3_k (by omega), if_neg (by simpa using h)]
theorem B_dald (hf : Cf X own cc nL rm) {v : UInt64} (hv : σ 0 51 0 = (v.toNat : Int)) (hdg : decode cc pc = .ok (.daload, 1)) (kk : B X ad σ (pc + 1) ls (.double v :: st) cs ss) : B X ad σ pc ls (.int (iN 0) :: .ref (ad 0 51) :: st) cs ss := by
  refine V_dald hf (n := 1) (f := fun i => UInt64.ofNat (σ 0 51 (i : Int)).toNat) ((Es_at (by decide)).trans rfl) ⟨by decide, by decide⟩ (by decide) (by decide) hdg ?_
  show B X ad σ (pc + 1) ls (.double (UInt64.ofNat (σ 0 51 0).toNat) :: st) cs ss
  rw [hv, show ((v.toNat : Int)).toNat = v.toNat by omega, UInt64.ofNat_toNat]
  exact kk
theorem B_dret (hf : Cf X own cc nL rm) {σ' : Mem} {mc ms : Nat} {v w : UInt64} (he : Be X (some .double) ad (.inl (some (.double w))) σ' mc ms) (hdg : decode cc pc = .ok (.dreturn, 1)) (hc : cs ≤ mc) (hs : ss ≤ ms) (hv : v = w) (hσ : σ = σ') : B X ad σ pc ls [.double v] cs ss := by
  subst hv
  subst hσ
  exact V_dret hf he hdg hc hs ⟨rfl, rfl, rfl⟩
theorem B_fret (hf : Cf X own cc nL rm) {σ' : Mem} {mc ms : Nat} {v w : UInt32} (he : Be X (some .float) ad (.inl (some (.float w))) σ' mc ms) (hdg : decode cc pc = .ok (.freturn, 1)) (hc : cs ≤ mc) (hs : ss ≤ ms) (hv : v = w) (hσ : σ = σ') : B X ad σ pc ls [.float v] cs ss := by
  subst hv
  subst hσ
  exact V_fret hf he hdg hc hs ⟨rfl, rfl, rfl⟩
end BD
