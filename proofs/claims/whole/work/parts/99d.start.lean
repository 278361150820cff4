/-! the start: the surroundings -/
theorem gw_cast_of {w : Cond} {a b : String} (h : gw_cast w = some (a, b)) : w = .castable a b := by
  unfold gw_cast at h
  split at h
  · cases h
    rfl
  · cases h
theorem gw_decl_of {w : Cond} {x : MethodName} (h : gw_decl w = some x) : w = .declares x := by
  unfold gw_decl at h
  split at h
  · cases h
    rfl
  · cases h
theorem gw_nest_of {w : Cond} {a : String} {i : Nat} {x : MethodName} {b : String} (h : gw_nest w = some (a, i, x, b)) : w = .methodLinkNest a i x b := by
  unfold gw_nest at h
  split at h
  · cases h
    rfl
  · cases h
theorem gw_str_of {w : Cond} {o : String} {k : Nat} {t : String} (h : gw_str w = some (o, k, t)) : w = .stringRef o k t := by
  unfold gw_str at h
  split at h
  · cases h
    rfl
  · cases h
theorem gw_ncast_of {w : Cond} {a b : String} (h : gw_ncast w = some (a, b)) : w = .not (.castable a b) := by
  unfold gw_ncast at h
  split at h
  · cases h
    rfl
  · cases h
theorem gw_ex_of {w : Cond} {o : String} {k : Nat} {c : String} (h : gw_ex w = some (o, k, c)) : w = .exactly (.string o k) c := by
  unfold gw_ex at h
  split at h
  · cases h
    rfl
  · cases h
theorem gw_el_of {w : Cond} {c n d : String} {j v : Int32} (h : gw_el w = some (c, n, d, j, v)) : w = .eq (.elem (.static c n d) (.int j)) (.int v) := by
  unfold gw_el at h
  split at h
  · cases h
    rfl
  · cases h
theorem gw_se_of {w : Cond} {k : Nat} {a b c : String} {j v : Int32} (h : gw_se w = some (k, a, b, c, j, v)) : w = .eq (.elem (.field (.string RX6 k) a b c) (.int j)) (.int v) := by
  unfold gw_se at h
  split at h
  · rename_i o _ _ _ _ _ _
    split at h
    · rename_i e
      cases h
      rw [e]
    · cases h
  · cases h
theorem gw_co_of {w : Cond} {k : Nat} {a b c : String} {v : Int32} (h : gw_co w = some (k, a, b, c, v)) : w = .eq (.field (.string RX6 k) a b c) (.int v) := by
  unfold gw_co at h
  split at h
  · split at h
    · rename_i e
      cases h
      rw [e]
    · cases h
  · cases h
theorem gw_ar_of {w : Cond} {k : Nat} {a b c : String} {t : FieldType} (h : gw_ar w = some (k, a, b, c, t)) : w = .arrayOf (.field (.string RX6 k) a b c) t := by
  unfold gw_ar at h
  split at h
  · split at h
    · rename_i e
      cases h
      rw [e]
    · cases h
  · cases h
theorem gw_le_of {w : Cond} {k : Nat} {a b c : String} {v : Int32} (h : gw_le w = some (k, a, b, c, v)) : w = .eq (.length (.field (.string RX6 k) a b c)) (.int v) := by
  unfold gw_le at h
  split at h
  · split at h
    · rename_i e
      cases h
      rw [e]
    · cases h
  · cases h
section START
variable {args : Array Value} {s : State}
theorem fl_at (hgv : gvC.before args s = true) (i : Nat) {w : Cond} (hi : (flatC gvC)[i]? = some w) : w.before args s = true := flat_of_before _ hgv w (List.mem_of_getElem? hi)
theorem st_evs (htb : ∀ w ∈ lw_tbl, w.before args s = true) (hgv : gvC.before args s = true) : ∀ q ∈ lw_strs, ∃ a, vk_R q.1 q.2.1 q.2.2 a s := by
  intro q hq
  have h1 := of_decide_eq_true (List.all_eq_true.mp st_strL q hq)
  have h2 := of_decide_eq_true (List.all_eq_true.mp st_exL q hq)
  obtain ⟨w1, m1, f1⟩ := List.mem_filterMap.mp h1
  obtain ⟨w2, m2, f2⟩ := List.mem_filterMap.mp h2
  have e1 := gw_str_of (o := q.1) (k := q.2.1) (t := q.2.2) f1
  have e2 := gw_ex_of f2
  subst e1 e2
  have b1 := htb _ (List.mem_append_right _ m1)
  have b2 := flat_of_before _ hgv _ m2
  obtain ⟨a, c, cA, kA, q1, -⟩ := Cond.exactly_spec (args := args) (first := s) (o := none) (s := s) (idx := []) b2
  exact ⟨a, vk_R.of b1 q1⟩
theorem fld_same {t u : Term} {a b c : String} (h : t.eval args s none [] s = u.eval args s none [] s) : (Term.field t a b c).eval args s none [] s = (Term.field u a b c).eval args s none [] s := by
  simp only [Term.eval, h]
theorem len_same {t u : Term} (h : t.eval args s none [] s = u.eval args s none [] s) : (Term.length t).eval args s none [] s = (Term.length u).eval args s none [] s := by
  simp only [Term.eval, h]
theorem elem_same {t u i : Term} (h : t.eval args s none [] s = u.eval args s none [] s) : (Term.elem t i).eval args s none [] s = (Term.elem u i).eval args s none [] s := by
  simp only [Term.eval, h]
theorem ne_cond {t u : Term} {a b : Nat} (h1 : t.eval args s none [] s = some (.ref a)) (h2 : u.eval args s none [] s = some (.ref b)) (hab : a ≠ b) : (Cond.not (Cond.eq t u)).before args s = true := by
  simp [Cond.before, Cond.holds, Cond.value, h1, h2, hab]
theorem fm_apart : ∀ i : Nat, i < 10 → ∀ j : Nat, j < 10 → i ≠ j → Int32.ofNat (fm_len.getD i 0) ≠ Int32.ofNat (fm_len.getD j 0) ∨ ∃ q : Nat, q < 1 ∧ q < fm_len.getD i 0 ∧ q < fm_len.getD j 0 ∧ (fm_byt.getD i []).getD q 0 ≠ (fm_byt.getD j []).getD q 0 := by decide +kernel
theorem st_fm (htb : ∀ w ∈ lw_tbl, w.before args s = true) (hgv : gvC.before args s = true) {A : Nat → Prop} (hA : ∀ a : Nat, a < s.heap.size → ¬ A a) : ∃ aK aV : Nat → Nat, vk_S 10 fm_len fm_byt aK aV A s s.heap ∧ ∀ i : Nat, i < 10 → vk_R RX6 (fm_idx.getD i 0) (fm_txt.getD i "") (aK i) s := by
  have fl : ∀ c ∈ flatC gvC, c.before args s = true := flat_of_before _ hgv
  have hex : ∀ i : Nat, i < 10 → (Cond.exactly (.string RX6 (fm_idx.getD i 0)) "java/lang/String").before args s = true := fun i hi => by
    obtain ⟨w, m, f⟩ := List.mem_filterMap.mp (of_decide_eq_true (List.all_eq_true.mp st_fmex i (List.mem_range.mpr hi)))
    rw [← gw_ex_of f]
    exact fl w m
  have hco : ∀ i : Nat, i < 10 → (Cond.eq (.field (.string RX6 (fm_idx.getD i 0)) "java/lang/String" "coder" "B") (.int 0)).before args s = true := fun i hi => by
    obtain ⟨w, m, f⟩ := gw_in st_coL (List.mem_map.mpr ⟨i, List.mem_range.mpr hi, rfl⟩)
    rw [← gw_co_of f]
    exact fl w m
  have har : ∀ i : Nat, i < 10 → (Cond.arrayOf (.field (.string RX6 (fm_idx.getD i 0)) "java/lang/String" "value" "[B") .byte).before args s = true := fun i hi => by
    obtain ⟨w, m, f⟩ := gw_in st_arL (List.mem_map.mpr ⟨i, List.mem_range.mpr hi, rfl⟩)
    rw [← gw_ar_of f]
    exact fl w m
  have hle : ∀ i : Nat, i < 10 → (Cond.eq (.length (.field (.string RX6 (fm_idx.getD i 0)) "java/lang/String" "value" "[B")) (.int (Int32.ofNat (fm_len.getD i 0)))).before args s = true := fun i hi => by
    obtain ⟨w, m, f⟩ := gw_in st_leL (List.mem_map.mpr ⟨i, List.mem_range.mpr hi, rfl⟩)
    rw [← gw_le_of f]
    exact fl w m
  have hel : ∀ i : Nat, i < 10 → ∀ j : Nat, j < fm_len.getD i 0 → (Cond.eq (.elem (.field (.string RX6 (fm_idx.getD i 0)) "java/lang/String" "value" "[B") (.int (Int32.ofNat j))) (.int ((fm_byt.getD i []).getD j 0))).before args s = true := fun i hi j hj => by
    obtain ⟨w, m, f⟩ := gw_in st_seL (List.mem_flatMap.mpr ⟨i, List.mem_range.mpr hi, List.mem_map.mpr ⟨j, List.mem_range.mpr hj, rfl⟩⟩)
    rw [← gw_se_of f]
    exact fl w m
  have hN : ∀ i : Nat, i < 10 → fm_len.getD i 0 < 2 ^ 31 := by decide +kernel
  have hne : ∀ i j : Nat, i < 10 → j < 10 → i ≠ j → (Cond.not (Cond.eq (.string RX6 (fm_idx.getD i 0)) (.string RX6 (fm_idx.getD j 0)))).before args s = true ∨ (Cond.not (Cond.eq (.string RX6 (fm_idx.getD j 0)) (.string RX6 (fm_idx.getD i 0)))).before args s = true := fun i j hi hj hij => by
    left
    obtain ⟨a, -, -, -, q1, -⟩ := Cond.exactly_spec (args := args) (first := s) (o := none) (s := s) (idx := []) (hex i hi)
    obtain ⟨b, -, -, -, q2, -⟩ := Cond.exactly_spec (args := args) (first := s) (o := none) (s := s) (idx := []) (hex j hj)
    have hab : a ≠ b := fun e => by
      have he : (Term.string RX6 (fm_idx.getD i 0)).eval args s none [] s = (Term.string RX6 (fm_idx.getD j 0)).eval args s none [] s := by rw [q1, q2, e]
      have hv := fld_same (a := "java/lang/String") (b := "value") (c := "[B") he
      rcases fm_apart i hi j hj hij with h | ⟨q, -, h1, h2, h3⟩
      · have x := len_same hv
        rw [va_eqt (hle i hi), va_eqt (hle j hj)] at x
        exact h (Value.int.inj (Option.some.inj x))
      · have x := elem_same (i := .int (Int32.ofNat q)) hv
        rw [va_eqt (hel i hi q h1), va_eqt (hel j hj q h2)] at x
        exact h3 (Value.int.inj (Option.some.inj x))
    exact ne_cond q1 q2 hab
  obtain ⟨aK, aV, h1, h2⟩ := vk_Sof (tm := fun i => .string RX6 (fm_idx.getD i 0)) (A := A) hN hex hco har hle hel hne hA
  refine ⟨aK, aV, h1, fun i hi => ?_⟩
  obtain ⟨w, m, f⟩ := List.mem_filterMap.mp (of_decide_eq_true (List.all_eq_true.mp st_fmstr i (List.mem_range.mpr hi)))
  have b1 := htb _ (List.mem_append_right _ m)
  rw [gw_str_of f] at b1
  exact vk_R.of b1 (h2 i hi)
theorem st_dig (htb : ∀ w ∈ lw_tbl, w.before args s = true) (hgv : gvC.before args s = true) {A : Nat → Prop} (hA : ∀ a : Nat, a < s.heap.size → ¬ A a) {n : String} {f : Nat → Int32} (hl : (Cond.laysStatic "java/lang/Integer" n "[B").before args s = true) (har : (Cond.arrayOf (.static "java/lang/Integer" n "[B") .byte).before args s = true) (hle : (Cond.eq (.length (.static "java/lang/Integer" n "[B")) (.int 100)).before args s = true)
    (hel : ∀ j : Nat, j < 100 → ("java/lang/Integer", n, "[B", Int32.ofNat j, f j) ∈ (flatC gvC).filterMap gw_el) : ∃ t : Nat, va_Z "java/lang/Integer" n "[B" (.ref t) A s s.heap ∧ va_T .byte t 100 (fun j => .int (f j)) A s s.heap := by
  obtain ⟨t, ht, hT⟩ := va_Tof (N := 100) (f := fun j => .int (f j)) (A := A) (by decide) har (va_eqt hle) (fun j hj => by
    obtain ⟨w, m, q⟩ := List.mem_filterMap.mp (hel j hj)
    have b := flat_of_before _ hgv w m
    rw [gw_el_of q] at b
    exact va_eqt b) hA
  exact ⟨t, va_Zof hl (tb_at htb 32 (by decide +kernel)) ht hA, hT⟩
theorem arr_of {c : ClassId} {k : Class} {comp : ClassId} {ty : FieldType} (h1 : s.vm.classes[c]? = some k) (h2 : k.kind = .array comp ty) : ArrOfT s c ty := fun _ _ => ⟨fun _ h => (by cases h), k, h1, comp, h2⟩
theorem ao_specA {t : FieldType} (h : (Cond.arrayOver (.array t)).before args s = true) :
    ∃ comp c k, s.vm.findClass (FieldType.array t).toString = some comp ∧ s.vm.classes[c]? = some k ∧ k.kind = .array comp (.array t) ∧ s.vm.findClass ("[" ++ (FieldType.array t).toString) = some c := by
  simp only [Cond.before, Cond.holds, Cond.value, beq_iff_eq] at h
  cases hc : s.vm.findClass (FieldType.array t).toString with
  | none => simp [hc] at h
  | some comp =>
    simp only [hc, Option.bind_some, Option.bind_eq_some_iff, Option.map_eq_some_iff] at h
    obtain ⟨c, hi, k, hk, hb⟩ := h
    obtain ⟨hlt, hp, -⟩ := Array.findIdx?_eq_some_iff_getElem.mp hi
    have hkk : s.vm.classes[c] = k := (Array.getElem?_eq_some_iff.mp hk).2
    rw [hkk] at hp
    cases hkind : k.kind with
    | array component ty =>
      rw [hkind] at hb hp
      simp at hb hp
      exact ⟨comp, c, k, rfl, hk, by rw [hkind, hp, hb.1], hb.2⟩
    | _ => rw [hkind] at hb; simp at hb
theorem st_D (htb : ∀ w ∈ lw_tbl, w.before args s = true) : ∃ D : va_G, ∀ (c : Nat) (q : vw_C), vwCl[c]? = some q → u_Kn s q.1 q.2.1 q.2.2 (D.1 c) (D.2 c) := by
  have hg := st_words htb
  have hC : ∀ c : Nat, ∃ q : ClassId × (Nat → Nat), ∀ z : vw_C, vwCl[c]? = some z → u_Kn s z.1 z.2.1 z.2.2 q.1 q.2 := by
    have one : ∀ (C : String) (T : u_T) (N n : Nat), (∀ w ∈ u_ws C T N, w ∈ lw_good) → (Cond.instantiable C n).before args s = true → ∃ q : ClassId × (Nat → Nat), ∀ z : vw_C, some (C, T, N) = some z → u_Kn s z.1 z.2.1 z.2.2 q.1 q.2 := fun C T N n h1 h2 => by
      obtain ⟨a, b, h⟩ := u_known hg h1 h2
      exact ⟨(a, b), fun z hz => by cases hz; exact h⟩
    intro c
    match c with
    | 0 => exact one RJ0 TJ0 4 4 cw_J0 (tb_at htb 777 (by decide +kernel))
    | 1 => exact one RJ4 TJ4 4 4 cw_J4 (hg _ wis_J4)
    | 2 => exact one RJx00060 TJx00060 6 6 cw_Jx00060 (tb_at htb 762 (by decide +kernel))
    | 3 => exact one RJx7c733 TJx7c733 6 6 cw_Jx7c733 (tb_at htb 1126 (by decide +kernel))
    | 4 => exact one RX0 TX0 7 7 cw_X0 (hg _ wis_X0)
    | 5 => exact one RX1 TX1 6 6 cw_X1 (hg _ wis_X1)
    | 6 => exact one RX2 TX2 3 3 cw_X2 (hg _ wis_X2)
    | 7 => exact one RX3 TX3 9 9 cw_X3 (hg _ wis_X3)
    | 8 => exact one RX4 TX4 7 7 cw_X4 (hg _ wis_X4)
    | 9 => exact one RX6 TX6 7 7 cw_X6 (hg _ wis_X6)
    | 10 => exact one RX7 TX7 6 6 cw_X7 (hg _ wis_X7)
    | 11 => exact one RX8 TX8 11 11 cw_X8 (hg _ wis_X8)
    | 12 => exact one RX9 TX9 23 23 cw_X9 (hg _ wis_X9)
    | n + 13 => exact ⟨(0, fun _ => 0), fun z hz => absurd (List.getElem?_eq_some_iff.mp hz).1 (by show ¬ (n + 13 < 13); omega)⟩
  obtain ⟨f, hf⟩ := Classical.axiomOfChoice hC
  exact ⟨(fun c => (f c).1, fun c => (f c).2), fun c q h => hf c q h⟩
/-- the names of the classes of arrays, and of what lies before the start -/
def mkK (c0 c1 c2 c3 c4 c5 c6 d1 d2 : Nat) (aK aV : Nat → Nat) : Nat → ClassId := fun n => if n = 0 then c0 else if n = 1 then c1 else if n = 2 then c2 else if n = 3 then c3 else if n = 4 then c4 else if n = 5 then c5 else if n = 6 then c6 else if n = 98 then d1 else if n = 99 then d2 else if n < 200 then aK (n - 100) else aV (n - 200)
set_option maxHeartbeats 2000000 in
theorem st_start (htb : ∀ w ∈ lw_tbl, w.before args s = true) (hgv : gvC.before args s = true) {A : Nat → Prop} (hA : ∀ a : Nat, a < s.heap.size → ¬ A a) : ∃ (D : va_G) (K : Nat → ClassId), va_K D vwCl (tysOf K) s ∧ Ev K A s s.heap := by
  obtain ⟨D, hD⟩ := st_D htb
  obtain ⟨c0, k0, p0, i0, j0, t0⟩ := Cond.arrayClass_spec (tb_at htb 85 (by decide +kernel) : (Cond.arrayClass FieldType.int).before args s = true)
  obtain ⟨c1, k1, p1, i1, j1, t1⟩ := Cond.arrayClass_spec (tb_at htb 272 (by decide +kernel) : (Cond.arrayClass FieldType.char).before args s = true)
  obtain ⟨c2, k2, p2, i2, j2, t2⟩ := Cond.arrayClass_spec (tb_at htb 2137 (by decide +kernel) : (Cond.arrayClass FieldType.long).before args s = true)
  obtain ⟨c3, k3, p3, i3, j3, t3⟩ := Cond.arrayClass_spec (tb_at htb 2138 (by decide +kernel) : (Cond.arrayClass FieldType.double).before args s = true)
  obtain ⟨c4, k4, p4, i4, j4, t4⟩ := Cond.arrayClass_spec (tb_at htb 305 (by decide +kernel) : (Cond.arrayClass FieldType.byte).before args s = true)
  have ao : (Cond.arrayOver (.object RX3)).before args s = true := tb_at htb 224 (by decide +kernel)
  obtain ⟨p5, c5, k5, h5, -, j5, t5, i5⟩ := Cond.arrayOver_spec ao
  obtain ⟨p6, c6, k6, h6, j6, t6, i6⟩ := ao_specA (tb_at htb 244 (by decide +kernel) : (Cond.arrayOver (.array FieldType.int)).before args s = true)
  have e06 : p6 = c0 := Option.some.inj (h6.symm.trans i0)
  obtain ⟨d1, z1, y1⟩ := st_dig htb hgv hA (n := "DigitOnes") (f := fun j => Int32.ofNat (48 + j % 10)) (tb_at htb 1263 (by decide +kernel)) (fl_at hgv 12 (by decide +kernel)) (fl_at hgv 13 (by decide +kernel)) (fun j hj => by rw [st_elL]; exact List.mem_append_left _ (List.mem_map.mpr ⟨j, List.mem_range.mpr hj, rfl⟩))
  obtain ⟨d2, z2, y2⟩ := st_dig htb hgv hA (n := "DigitTens") (f := fun j => Int32.ofNat (48 + j / 10)) (tb_at htb 1265 (by decide +kernel)) (fl_at hgv 115 (by decide +kernel)) (fl_at hgv 116 (by decide +kernel)) (fun j hj => by rw [st_elL]; exact List.mem_append_right _ (List.mem_map.mpr ⟨j, List.mem_range.mpr hj, rfl⟩))
  obtain ⟨aK, aV, hS, hR⟩ := st_fm htb hgv hA
  obtain ⟨K, hK⟩ : ∃ K : Nat → ClassId, K = mkK c0 c1 c2 c3 c4 c5 c6 d1 d2 aK aV := ⟨_, rfl⟩
  have K0 : K 0 = c0 := by rw [hK]; rfl
  have K1 : K 1 = c1 := by rw [hK]; rfl
  have K2 : K 2 = c2 := by rw [hK]; rfl
  have K3 : K 3 = c3 := by rw [hK]; rfl
  have K4 : K 4 = c4 := by rw [hK]; rfl
  have K5 : K 5 = c5 := by rw [hK]; rfl
  have K6 : K 6 = c6 := by rw [hK]; rfl
  have K98 : K 98 = d1 := by rw [hK]; rfl
  have K99 : K 99 = d2 := by rw [hK]; rfl
  have Ka : ∀ i : Nat, i < 10 → K (100 + i) = aK i := fun i hi => by
    rw [hK]
    unfold mkK
    rw [if_neg (by omega), if_neg (by omega), if_neg (by omega), if_neg (by omega), if_neg (by omega), if_neg (by omega), if_neg (by omega), if_neg (by omega), if_neg (by omega), if_pos (by omega), show 100 + i - 100 = i by omega]
  have Kv : ∀ i : Nat, i < 10 → K (200 + i) = aV i := fun i hi => by
    rw [hK]
    unfold mkK
    rw [if_neg (by omega), if_neg (by omega), if_neg (by omega), if_neg (by omega), if_neg (by omega), if_neg (by omega), if_neg (by omega), if_neg (by omega), if_neg (by omega), if_neg (by omega), show 200 + i - 200 = i by omega]
  refine ⟨D, K, ⟨hD, fun k q hq => ?_⟩, ?_⟩
  · match k, hq with
    | 0, hq =>
      cases hq
      show ArrOfT s (K 0) .int ∧ va_RA s (K 0) .int
      rw [K0]
      exact ⟨arr_of j0 t0, i0⟩
    | 1, hq =>
      cases hq
      show ArrOfT s (K 1) .char ∧ va_RA s (K 1) .char
      rw [K1]
      exact ⟨arr_of j1 t1, i1⟩
    | 2, hq =>
      cases hq
      show ArrOfT s (K 2) .long ∧ va_RA s (K 2) .long
      rw [K2]
      exact ⟨arr_of j2 t2, i2⟩
    | 3, hq =>
      cases hq
      show ArrOfT s (K 3) .double ∧ va_RA s (K 3) .double
      rw [K3]
      exact ⟨arr_of j3 t3, i3⟩
    | 4, hq =>
      cases hq
      show ArrOfT s (K 4) .byte ∧ va_RA s (K 4) .byte
      rw [K4]
      exact ⟨arr_of j4 t4, i4⟩
    | 5, hq =>
      cases hq
      show ArrOfT s (K 5) (.object RX3) ∧ va_RA s (K 5) (.object RX3)
      rw [K5]
      exact ⟨arr_of j5 t5, k5, p5, j5, t5, h5, i5⟩
    | 6, hq =>
      cases hq
      show ArrOfT s (K 6) (.array .int) ∧ va_RA s (K 6) (.array .int)
      rw [K6]
      exact ⟨arr_of j6 t6, i6⟩
    | n + 7, hq => exact absurd (List.getElem?_eq_some_iff.mp hq).1 (by show ¬ (n + 7 < 7); omega)
  · refine ⟨vx_Zqof (tb_at htb 466 (by decide +kernel)) (tb_at htb 15 (by decide +kernel)) (fl_at hgv 5 (by decide +kernel)) hA, vx_Zqof (tb_at htb 468 (by decide +kernel)) (tb_at htb 15 (by decide +kernel)) (fl_at hgv 6 (by decide +kernel)) hA, st_evs htb hgv, fun q hq => ?_, fun q hq => ?_, fun q hq => ?_, fun q hq => ?_, ⟨⟨fun i hi => ?_, fun i j hi hj e => ?_⟩, fun i hi => ?_⟩, ?_, ⟨?_, ?_⟩, ⟨?_, ?_⟩, ?_, va_AO.of ao, k6, by rw [K6]; exact j6, by rw [K0, t6, e06]⟩
    · obtain ⟨w, m, f⟩ := List.mem_filterMap.mp (of_decide_eq_true (List.all_eq_true.mp st_nestL q hq))
      have b := htb w (List.mem_append_right _ m)
      rw [gw_nest_of (a := q.1) (i := q.2.1) (x := q.2.2.1) (b := q.2.2.2) f] at b
      exact va_Nw.of rfl b
    · obtain ⟨w, m, f⟩ := gw_in st_ncastL hq
      have b := flat_of_before _ hgv w m
      rw [gw_ncast_of (a := q.1) (b := q.2) f] at b
      exact va_Nc.of b
    · obtain ⟨w, m, f⟩ := gw_in st_castL hq
      have b := htb w (List.mem_append_right _ m)
      rw [gw_cast_of (a := q.1) (b := q.2) f] at b
      exact va_Nw.of rfl b
    · obtain ⟨w, m, f⟩ := gw_in st_declL hq
      have b := htb w (List.mem_append_right _ m)
      rw [gw_decl_of f] at b
      exact va_Nw.of rfl b
    · simp only [Ka i hi, Kv i hi]
      exact hS.1 i hi
    · simp only [Ka i hi, Ka j hj] at e
      exact hS.2 i j hi hj e
    · rw [Ka i hi]
      exact hR i hi
    · exact va_Zof (tb_at htb 283 (by decide +kernel)) (tb_at htb 12 (by decide +kernel)) (va_eqi (fl_at hgv 4 (by decide +kernel))) hA
    · rw [K98]
      exact z1
    · rw [K98]
      exact y1
    · rw [K99]
      exact z2
    · rw [K99]
      exact y2
    · exact va_Zqof (tb_at htb 1193 (by decide +kernel)) (tb_at htb 29 (by decide +kernel)) (fl_at hgv 7 (by decide +kernel)) hA
end START
