/-! the reference: a command -/
def mArgs (ch : Int → Int) (len : Int) (σ : Mem) (z t : Int) (q : Int × Int) : Mem × (Int × Int) := if z = 115 then ((st3 (st3 σ 0 48 t (mNum ch len q).1) 0 48 (t + 1) (mDig ch len (mExp ch len 47 (mNum ch len q).2)).1), (mDig ch len (mExp ch len 47 (mNum ch len q).2)).2) else if z = 97 then ((st3 (st3 σ 0 48 t (mDig ch len q).1) 0 48 (t + 1) (mDig ch len (mDig ch len q).2).1), (mDig ch len (mDig ch len q).2).2) else if z = 99 then ((st3 (st3 σ 0 48 t (mDig ch len q).1) 0 48 (t + 1) (mNB ch len 43 (mDig ch len q).2).1), (mNB ch len 43 (mDig ch len q).2).2) else if z = 98 then ((st3 (st3 (st3 σ 0 48 t (mDig ch len q).1) 0 48 (t + 1) (mDig ch len (mDig ch len q).2).1) 0 48 (t + 2) (mNB ch len 64 (mDig ch len (mDig ch len q).2).2).1), (mNB ch len 64 (mDig ch len (mDig ch len q).2).2).2) else if z = 111 then ((st3 (st3 σ 0 48 t (mNum ch len q).1) 0 48 (t + 1) (mNB ch len 64 (mNum ch len q).2).1), (mNB ch len 64 (mNum ch len q).2).2) else if z = 120 then ((st3 σ 0 48 t (mNum ch len q).1), (mNum ch len q).2) else if z = 121 then ((st3 σ 0 48 t (mNum ch len q).1), (mNum ch len q).2) else if z = 102 then ((st3 σ 0 48 t (mDig ch len q).1), (mDig ch len q).2) else if z = 116 then (σ, q) else (σ, (q.1 - 1, 1))
theorem mDig_m {ch : Int → Int} {len : Int} {q : Int × Int} : q.1 ≤ (mDig ch len q).2.1 := by
  unfold mDig
  split <;> (try dsimp only) <;> omega
theorem mExp_m {ch : Int → Int} {len c : Int} {q : Int × Int} : q.1 ≤ (mExp ch len c q).1 := by
  unfold mExp
  split <;> (try dsimp only) <;> omega
theorem mNum_m {ch : Int → Int} {len : Int} {q : Int × Int} : q.1 ≤ (mNum ch len q).2.1 := by
  have h1 := mDig_m (ch := ch) (len := len) (q := q)
  have h2 := mDig_m (ch := ch) (len := len) (q := (mDig ch len q).2)
  unfold mNum
  split <;> (try dsimp only) <;> omega
theorem mNB_m {ch : Int → Int} {len c : Int} {q : Int × Int} : q.1 ≤ (mNB ch len c q).2.1 := Int.le_trans mExp_m mNum_m
theorem mArgs_o {ch : Int → Int} {len : Int} {σ : Mem} {z t : Int} {q : Int × Int} {g : Int} {j : Nat} {k : Int} (h : ¬ j = 48) : (mArgs ch len σ z t q).1 g j k = σ g j k := by
  unfold mArgs
  repeat' split
  all_goals dsimp only
  all_goals first | rfl | exact st3_j h | exact (st3_j h).trans (st3_j h) | exact ((st3_j h).trans (st3_j h)).trans (st3_j h)
theorem mArgs_q {ch : Int → Int} {len : Int} {σ : Mem} {z t : Int} {q : Int × Int} (hP : P46 σ ch len) (hq : Qk q) (h1 : 1 ≤ q.1) (h6 : q.1 ≤ 61) : P46 (mArgs ch len σ z t q).1 ch len ∧ Qk (mArgs ch len σ z t q).2 ∧ ((mArgs ch len σ z t q).2.2 = 0 → q.1 ≤ (mArgs ch len σ z t q).2.1 ∧ ((mArgs ch len σ z t q).2.1 ≤ 60 ∨ (mArgs ch len σ z t q).2.1 = q.1)) := by
  have hl := hP.2.2.1
  unfold mArgs
  by_cases h115 : z = 115
  · rw [if_pos h115]
    have k1 := mNum_q (ch := ch) (len := len) hq hl
    have w1 := mNum_m (ch := ch) (len := len) (q := q)
    have b1 := hP.st (i := t) (v := (mNum ch len q).1) ⟨by omega, by omega⟩
    have k2 := mExp_q (ch := ch) (len := len) (c := 47) k1.1 hl (by decide)
    have w2 := mExp_m (ch := ch) (len := len) (c := 47) (q := (mNum ch len q).2)
    have k3 := mDig_q (ch := ch) (len := len) k2.1 hl
    have w3 := mDig_m (ch := ch) (len := len) (q := (mExp ch len 47 (mNum ch len q).2))
    have b3 := b1.st (i := (t + 1)) (v := (mDig ch len (mExp ch len 47 (mNum ch len q).2)).1) ⟨by omega, by omega⟩
    exact ⟨b3, k3.1, fun zz => ⟨by dsimp only; omega, Or.inl (k3.2.2.2.2 zz)⟩⟩
  rw [if_neg h115]
  by_cases h97 : z = 97
  · rw [if_pos h97]
    have k1 := mDig_q (ch := ch) (len := len) hq hl
    have w1 := mDig_m (ch := ch) (len := len) (q := q)
    have b1 := hP.st (i := t) (v := (mDig ch len q).1) ⟨by omega, by omega⟩
    have k2 := mDig_q (ch := ch) (len := len) k1.1 hl
    have w2 := mDig_m (ch := ch) (len := len) (q := (mDig ch len q).2)
    have b2 := b1.st (i := (t + 1)) (v := (mDig ch len (mDig ch len q).2).1) ⟨by omega, by omega⟩
    exact ⟨b2, k2.1, fun zz => ⟨by dsimp only; omega, Or.inl (k2.2.2.2.2 zz)⟩⟩
  rw [if_neg h97]
  by_cases h99 : z = 99
  · rw [if_pos h99]
    have k1 := mDig_q (ch := ch) (len := len) hq hl
    have w1 := mDig_m (ch := ch) (len := len) (q := q)
    have b1 := hP.st (i := t) (v := (mDig ch len q).1) ⟨by omega, by omega⟩
    have k2 := mNB_q (ch := ch) (len := len) (c := 43) k1.1 hl (by decide)
    have w2 := mNB_m (ch := ch) (len := len) (c := 43) (q := (mDig ch len q).2)
    have b2 := b1.st (i := (t + 1)) (v := (mNB ch len 43 (mDig ch len q).2).1) ⟨by omega, by omega⟩
    exact ⟨b2, k2.1, fun zz => ⟨by dsimp only; omega, Or.inl (k2.2.2.2.2 zz)⟩⟩
  rw [if_neg h99]
  by_cases h98 : z = 98
  · rw [if_pos h98]
    have k1 := mDig_q (ch := ch) (len := len) hq hl
    have w1 := mDig_m (ch := ch) (len := len) (q := q)
    have b1 := hP.st (i := t) (v := (mDig ch len q).1) ⟨by omega, by omega⟩
    have k2 := mDig_q (ch := ch) (len := len) k1.1 hl
    have w2 := mDig_m (ch := ch) (len := len) (q := (mDig ch len q).2)
    have b2 := b1.st (i := (t + 1)) (v := (mDig ch len (mDig ch len q).2).1) ⟨by omega, by omega⟩
    have k3 := mNB_q (ch := ch) (len := len) (c := 64) k2.1 hl (by decide)
    have w3 := mNB_m (ch := ch) (len := len) (c := 64) (q := (mDig ch len (mDig ch len q).2).2)
    have b3 := b2.st (i := (t + 2)) (v := (mNB ch len 64 (mDig ch len (mDig ch len q).2).2).1) ⟨by omega, by omega⟩
    exact ⟨b3, k3.1, fun zz => ⟨by dsimp only; omega, Or.inl (k3.2.2.2.2 zz)⟩⟩
  rw [if_neg h98]
  by_cases h111 : z = 111
  · rw [if_pos h111]
    have k1 := mNum_q (ch := ch) (len := len) hq hl
    have w1 := mNum_m (ch := ch) (len := len) (q := q)
    have b1 := hP.st (i := t) (v := (mNum ch len q).1) ⟨by omega, by omega⟩
    have k2 := mNB_q (ch := ch) (len := len) (c := 64) k1.1 hl (by decide)
    have w2 := mNB_m (ch := ch) (len := len) (c := 64) (q := (mNum ch len q).2)
    have b2 := b1.st (i := (t + 1)) (v := (mNB ch len 64 (mNum ch len q).2).1) ⟨by omega, by omega⟩
    exact ⟨b2, k2.1, fun zz => ⟨by dsimp only; omega, Or.inl (k2.2.2.2.2 zz)⟩⟩
  rw [if_neg h111]
  by_cases h120 : z = 120
  · rw [if_pos h120]
    have k1 := mNum_q (ch := ch) (len := len) hq hl
    have w1 := mNum_m (ch := ch) (len := len) (q := q)
    have b1 := hP.st (i := t) (v := (mNum ch len q).1) ⟨by omega, by omega⟩
    exact ⟨b1, k1.1, fun zz => ⟨by dsimp only; omega, Or.inl (k1.2.2.2.2 zz)⟩⟩
  rw [if_neg h120]
  by_cases h121 : z = 121
  · rw [if_pos h121]
    have k1 := mNum_q (ch := ch) (len := len) hq hl
    have w1 := mNum_m (ch := ch) (len := len) (q := q)
    have b1 := hP.st (i := t) (v := (mNum ch len q).1) ⟨by omega, by omega⟩
    exact ⟨b1, k1.1, fun zz => ⟨by dsimp only; omega, Or.inl (k1.2.2.2.2 zz)⟩⟩
  rw [if_neg h121]
  by_cases h102 : z = 102
  · rw [if_pos h102]
    have k1 := mDig_q (ch := ch) (len := len) hq hl
    have w1 := mDig_m (ch := ch) (len := len) (q := q)
    have b1 := hP.st (i := t) (v := (mDig ch len q).1) ⟨by omega, by omega⟩
    exact ⟨b1, k1.1, fun zz => ⟨by dsimp only; omega, Or.inl (k1.2.2.2.2 zz)⟩⟩
  rw [if_neg h102]
  by_cases h116 : z = 116
  · rw [if_pos h116]
    exact ⟨hP, hq, fun _ => ⟨Int.le_refl _, Or.inr rfl⟩⟩
  rw [if_neg h116]
  have h1q := hq.1
  refine ⟨hP, ⟨⟨by dsimp only; omega, by dsimp only; omega⟩, by dsimp only; decide, by dsimp only; decide⟩, fun zz => ?_⟩
  exact absurd zz (by dsimp only; decide)
def mCmd (ch : Int → Int) (len : Int) (σ : Mem) (n p : Int) : Mem × (Int × Int) :=
  if p = len then (σ, (p, 1))
  else (st3 (mArgs ch len (st3 σ 0 48 (4 * n) (mHere ch len p)) (mHere ch len p) (4 * n + 1) (p + 1, 0)).1 0 40 19 (n + 1), (mArgs ch len (st3 σ 0 48 (4 * n) (mHere ch len p)) (mHere ch len p) (4 * n + 1) (p + 1, 0)).2)
def mParse (ch : Int → Int) (len : Int) : Nat → Mem → Int → Int → Mem × (Int × Int)
  | 0, σ, _, p => (σ, (p, 1))
  | f + 1, σ, n, p =>
    if (mCmd ch len σ n p).2.2 = 0 ∧ (mCmd ch len σ n p).2.1 < len then
      (if (mExp ch len 59 (mCmd ch len σ n p).2).2 = 0 then mParse ch len f (mCmd ch len σ n p).1 (n + 1) (mExp ch len 59 (mCmd ch len σ n p).2).1 else ((mCmd ch len σ n p).1, mExp ch len 59 (mCmd ch len σ n p).2))
    else mCmd ch len σ n p
theorem mHere_R {σ : Mem} {ch : Int → Int} {len p : Int} (h : P46 σ ch len) : inR (mHere ch len p) := by
  unfold mHere
  split
  · rw [← h.1]
    exact h.2.2.2 _ _ _ (by decide)
  · exact ⟨by decide, by decide⟩
theorem P46.st40 {σ : Mem} {ch : Int → Int} {len i v : Int} (h : P46 σ ch len) (hv : inR v) (hi : i ≠ 21) : P46 (st3 σ 0 40 i v) ch len := by
  refine ⟨?_, ?_, h.2.2.1, h.2.2.2.st hv⟩
  · rw [← h.1]
    funext k
    exact st3_j (by decide)
  · rw [← h.2.1]
    exact st3_k (Ne.symm hi)
theorem mCmd_q {ch : Int → Int} {len : Int} {σ : Mem} {n p : Int} (hP : P46 σ ch len) (hp : 0 ≤ p ∧ p ≤ 60) (hn : 0 ≤ n ∧ n ≤ 100) : P46 (mCmd ch len σ n p).1 ch len ∧ Qk (mCmd ch len σ n p).2 ∧ ((mCmd ch len σ n p).2.2 = 0 → p + 1 ≤ (mCmd ch len σ n p).2.1 ∧ (mCmd ch len σ n p).2.1 ≤ 61 ∧ (mCmd ch len σ n p).1 0 40 19 = n + 1) := by
  unfold mCmd
  split
  · refine ⟨hP, ⟨⟨hp.1, by dsimp only; omega⟩, by dsimp only; decide, by dsimp only; decide⟩, fun zz => ?_⟩
    exact absurd zz (by dsimp only; decide)
  · have h := mArgs_q (z := mHere ch len p) (t := 4 * n + 1) (q := (p + 1, 0)) (hP.st (i := 4 * n) (mHere_R (p := p) hP)) ⟨⟨by dsimp only; omega, by dsimp only; omega⟩, by dsimp only; decide, by dsimp only; decide⟩ (by dsimp only; omega) (by dsimp only; omega)
    refine ⟨h.1.st40 ⟨by omega, by omega⟩ (by decide), h.2.1, fun zz => ?_⟩
    have h3 := h.2.2 zz
    dsimp only at h3 ⊢
    refine ⟨h3.1, ?_, st3_self⟩
    omega
theorem qM_self {σ : Mem} {q : Int × Int} (h1 : σ 0 40 20 = q.1) (h2 : σ 0 40 22 = q.2) : qM σ q = σ := by
  funext a b c
  unfold qM st3
  by_cases h : a = 0 ∧ b = 40
  · obtain ⟨rfl, rfl⟩ := h
    by_cases e1 : c = 20
    · subst e1
      simp [h1]
    · by_cases e2 : c = 22
      · subst e2
        simp [h2]
      · simp [e1, e2]
  · rw [if_neg (fun z => h ⟨z.1, z.2.1⟩), if_neg (fun z => h ⟨z.1, z.2.1⟩)]
def exec0 (σ : Mem) : Mem :=
  let σ2 := st3 (startM σ) 0 40 21 (startM σ 0 40 10)
  st3 (st3 (st3 (st3 σ2 0 40 10 0) 0 40 20 0) 0 40 19 0) 0 40 22 0
theorem g_ra {l : Launch} {D : va_G} {K : Nat → ClassId} {ad : Adr} (hl0 : l.stackTraces = false) (σ : Mem) (ch : Int → Int) (len : Int) (hP : P46 σ ch len) (q : Int × Int) (hq : Qk q) (t : Int) (ht : 0 ≤ t ∧ t < 240) (z : Int) (hz : inR z) : Cb l D K ad yX9_readArguments (.code yX9_readArguments cX9_readArguments 3 none) 5 0 0 (qM σ q) [.ref (ad 0 40), .int (iN z), .int (iN t)] (.inl none) (qM (mArgs ch len σ z t q).1 (mArgs ch len σ z t q).2) := by
  by_cases h115 : z = 115
  · subst h115
    exact g_ra_s hl0 σ ch len hP q hq t ht
  by_cases h97 : z = 97
  · subst h97
    exact g_ra_a hl0 σ ch len hP q hq t ht
  by_cases h99 : z = 99
  · subst h99
    exact g_ra_c hl0 σ ch len hP q hq t ht
  by_cases h98 : z = 98
  · subst h98
    exact g_ra_b hl0 σ ch len hP q hq t ht
  by_cases h111 : z = 111
  · subst h111
    exact g_ra_o hl0 σ ch len hP q hq t ht
  by_cases h120 : z = 120
  · subst h120
    exact g_ra_x hl0 σ ch len hP q hq t ht
  by_cases h121 : z = 121
  · subst h121
    exact g_ra_y hl0 σ ch len hP q hq t ht
  by_cases h102 : z = 102
  · subst h102
    exact g_ra_f hl0 σ ch len hP q hq t ht
  by_cases h116 : z = 116
  · subst h116
    exact g_ra_t hl0 σ ch len hP q hq t ht
  · rw [show mArgs ch len σ z t q = (σ, (q.1 - 1, 1)) by unfold mArgs; rw [if_neg h115, if_neg h97, if_neg h99, if_neg h98, if_neg h111, if_neg h120, if_neg h121, if_neg h102, if_neg h116]]
    exact g_ra_none hl0 σ ch len hP q hq t ht z hz ⟨h115, h97, h99, h98, h111, h120, h121, h116, h102⟩
set_option maxHeartbeats 4000000 in
set_option maxRecDepth 100000 in
theorem g_cmd {l : Launch} {D : va_G} {K : Nat → ClassId} {ad : Adr} (hl0 : l.stackTraces = false) (σ : Mem) (ch : Int → Int) (len : Int) (hP : P46 σ ch len) (n p : Int) (hn : 0 ≤ n ∧ n ≤ 59) (hn2 : σ 0 40 19 = n) (hp : 0 ≤ p ∧ p ≤ 60) : Cb l D K ad yX9_readCommand (.code yX9_readCommand cX9_readCommand 2 none) 6 0 0 (qM σ (p, (0 : Int))) [.ref (ad 0 40)] (.inl none) (qM (mCmd ch len σ n p).1 (mCmd ch len σ n p).2) := by
  refine Cb.of (own := RX9) (ls0 := [some (.ref (ad 0 40)), none]) hl0 (by decide) rfl (Nat.le_of_ble_eq_true rfl) rfl ?_
  intro X hX1 hX2 hX3 hf he hh
  subst hX1 hX2 hX3
  have hq : Qk (p, (0 : Int)) := ⟨⟨by dsimp only; omega, by dsimp only; omega⟩, by dsimp only; decide, by dsimp only; decide⟩
  have hl := hP.2.2.1
  have hRq := qM_R hP.2.2.2 hq
  have e21 := qM_21 hP (q := (p, (0 : Int)))
  have e20 : qM σ (p, (0 : Int)) 0 40 20 = p := qM_20
  have e19 : qM σ (p, (0 : Int)) 0 40 19 = n := (qM_k (by decide) (by decide)).trans hn2
  have hb := hP.st (i := 4 * n) (mHere_R (p := p) hP)
  have ha := mArgs_q (z := mHere ch len p) (t := 4 * n + 1) (q := (p + 1, 0)) hb ⟨⟨by dsimp only; omega, by dsimp only; omega⟩, by dsimp only; decide, by dsimp only; decide⟩ (by dsimp only; omega) (by dsimp only; omega)
  have hq1 : Qk (p + 1, (0 : Int)) := ⟨⟨by dsimp only; omega, by dsimp only; omega⟩, by dsimp only; decide, by dsimp only; decide⟩
  refine V_iconst hf dX9_readCommand_0 ?_
  refine V_aload_n hf dX9_readCommand_1 rfl rfl ?_
  refine B_get hf l01 rfl fl_X9_269_12 rfl dX9_readCommand_2 ?_
  refine V_imul hf dX9_readCommand_5 ?_
  rw [e19]
  refine V_istore_n (ls2 := [_, _]) hf dX9_readCommand_6 rfl (by decide) rfl rfl ?_
  refine V_aload_n hf dX9_readCommand_7 rfl rfl ?_
  refine B_get hf l01 rfl fl_X9_240_12 rfl dX9_readCommand_8 ?_
  refine V_aload_n hf dX9_readCommand_11 rfl rfl ?_
  refine B_get hf l01 rfl fl_X9_243_12 rfl dX9_readCommand_12 ?_
  refine V_icmp_ne (tgt := 24) hf (by first | exact hRq _ _ _ (by decide) | exact ⟨by omega, by omega⟩) (by first | exact hRq _ _ _ (by decide) | exact ⟨by omega, by omega⟩) dX9_readCommand_15 (by decide) (fun h15 => ?_) (fun h15 => ?_)
  · refine V_aload_n hf dX9_readCommand_24 rfl rfl ?_
    refine B_get hf l01 rfl fl_X9_35_12 rfl dX9_readCommand_25 ?_
    refine V_iload_n hf dX9_readCommand_28 rfl rfl ?_
    refine V_aload_n hf dX9_readCommand_29 rfl rfl ?_
    refine B_callVi hf (As := []) (g_here hl0 σ ch len hP (p, (0 : Int)) hq) cv_X9_250 l01 rfl rfl rfl (Nat.le_of_ble_eq_true rfl) ⟨by decide, by decide, by decide, by decide⟩ dX9_readCommand_30 ?_
    refine B_iast hf l01 (by decide) (fun _ => rfl) ⟨by omega, by omega⟩ (by omega) (by omega) dX9_readCommand_33 ?_
    rw [qM_c (by decide)]
    refine V_aload_n hf dX9_readCommand_34 rfl rfl ?_
    refine V_dup hf dX9_readCommand_35 rfl ?_
    refine B_get hf l01 rfl fl_X9_240_12 rfl dX9_readCommand_36 ?_
    refine V_iconst hf dX9_readCommand_39 ?_
    refine V_iadd hf dX9_readCommand_40 ?_
    refine B_putI (kI := 20) hf rfl l01 rfl fp_X9_240_12 rfl rfl (Nat.le_of_ble_eq_true rfl) (by decide) (cs_40_20 _ _ _ _ _) dX9_readCommand_41 ?_
    rw [qM_p, qM_20]
    refine V_aload_n hf dX9_readCommand_44 rfl rfl ?_
    refine V_aload_n hf dX9_readCommand_45 rfl rfl ?_
    refine B_get hf l01 rfl fl_X9_35_12 rfl dX9_readCommand_46 ?_
    refine V_iload_n hf dX9_readCommand_49 rfl rfl ?_
    refine B_iald hf l01 (fun _ => rfl) ⟨by omega, by omega⟩ (by omega) (by omega) dX9_readCommand_50 ?_
    rw [show qM (st3 σ 0 48 (4 * n) (mHere ch len p)) ((p, (0 : Int)).1 + 1, (p, (0 : Int)).2) 0 48 (4 * n) = mHere ch len p from (qM_j (by decide)).trans st3_self]
    refine V_iload_n hf dX9_readCommand_51 rfl rfl ?_
    refine V_iconst hf dX9_readCommand_52 ?_
    refine V_iadd hf dX9_readCommand_53 ?_
    refine B_callVv hf (As := [_, _]) (g_ra hl0 (st3 σ 0 48 (4 * n) (mHere ch len p)) ch len hb (p + 1, 0) hq1 (4 * n + 1) ⟨by omega, by omega⟩ (mHere ch len p) (mHere_R hP)) cv_X9_272 l01 rfl rfl rfl (Nat.le_of_ble_eq_true rfl) ⟨by decide, by decide, by decide, by decide⟩ dX9_readCommand_54 ?_
    refine V_aload_n hf dX9_readCommand_57 rfl rfl ?_
    refine V_dup hf dX9_readCommand_58 rfl ?_
    refine B_get hf l01 rfl fl_X9_269_12 rfl dX9_readCommand_59 ?_
    refine V_iconst hf dX9_readCommand_62 ?_
    refine V_iadd hf dX9_readCommand_63 ?_
    refine B_putI (kI := 19) hf rfl l01 rfl fp_X9_269_12 rfl rfl (Nat.le_of_ble_eq_true rfl) (by decide) (cs_40_19 _ _ _ _ _) dX9_readCommand_64 ?_
    rw [qM_c19, qM_k (by decide) (by decide), mArgs_o (by decide), st3_j (by decide), hn2, show st3 (mArgs ch len (st3 σ 0 48 (4 * n) (mHere ch len p)) (mHere ch len p) (4 * n + 1) (p + 1, 0)).1 0 40 19 (n + 1) = (mCmd ch len σ n p).1 by unfold mCmd; rw [if_neg (by omega)], show qM (mCmd ch len σ n p).1 (mArgs ch len (st3 σ 0 48 (4 * n) (mHere ch len p)) (mHere ch len p) (4 * n + 1) (p + 1, 0)).2 = qM (mCmd ch len σ n p).1 (mCmd ch len σ n p).2 by unfold mCmd; rw [if_neg (by omega)]]
    exact B_vret hf he dX9_readCommand_67 (by decide) (by decide) rfl
  · refine V_aload_n hf dX9_readCommand_18 rfl rfl ?_
    refine V_iconst hf dX9_readCommand_19 ?_
    refine B_putI (kI := 22) hf rfl l01 rfl fp_X9_246_12 (by decide +kernel) rfl (Nat.le_of_ble_eq_true rfl) (by decide) (cs_40_22 _ _ _ _ _) dX9_readCommand_20 ?_
    rw [qM_w, show qM σ ((p, (0 : Int)).1, 1) = qM (mCmd ch len σ n p).1 (mCmd ch len σ n p).2 by unfold mCmd; rw [if_pos (by omega)]]
    exact B_vret hf he dX9_readCommand_23 (by decide) (by decide) rfl
