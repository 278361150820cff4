/-! the reference: the reading of commands -/
/-- the reading of a command: the place, and whether it went wrong -/
def mHere (ch : Int → Int) (len p : Int) : Int := if p < len then ch p else -1
def mDig (ch : Int → Int) (len : Int) (q : Int × Int) : Int × Int × Int := if q.2 = 0 ∧ 48 ≤ mHere ch len q.1 ∧ mHere ch len q.1 ≤ 57 then (mHere ch len q.1 - 48, q.1 + 1, 0) else (0, q.1, 1)
def mExp (ch : Int → Int) (len c : Int) (q : Int × Int) : Int × Int := if q.2 = 0 ∧ mHere ch len q.1 = c then (q.1 + 1, 0) else (q.1, 1)
def mNum (ch : Int → Int) (len : Int) (q : Int × Int) : Int × Int × Int :=
  if (mDig ch len q).2.2 = 0 ∧ 48 ≤ mHere ch len (mDig ch len q).2.1 ∧ mHere ch len (mDig ch len q).2.1 ≤ 57 then (10 * (mDig ch len q).1 + (mDig ch len (mDig ch len q).2).1, (mDig ch len (mDig ch len q).2).2) else mDig ch len q
def mNB (ch : Int → Int) (len c : Int) (q : Int × Int) : Int × Int × Int := mNum ch len (mExp ch len c q)
def qM (σ : Mem) (q : Int × Int) : Mem := st3 (st3 σ 0 40 22 q.2) 0 40 20 q.1
def P46 (σ : Mem) (ch : Int → Int) (len : Int) : Prop := σ 0 46 = ch ∧ σ 0 40 21 = len ∧ len ≤ 60 ∧ Rng σ
/-- a place and a flag -/
def Qk (q : Int × Int) : Prop := (0 ≤ q.1 ∧ q.1 ≤ 200) ∧ 0 ≤ q.2 ∧ q.2 ≤ 1
theorem P46.st {σ : Mem} {ch : Int → Int} {len i v : Int} (h : P46 σ ch len) (hv : inR v) : P46 (st3 σ 0 48 i v) ch len := by
  refine ⟨?_, ?_, h.2.2.1, h.2.2.2.st hv⟩
  · rw [← h.1]
    funext k
    exact st3_j (by decide)
  · rw [← h.2.1]
    exact st3_j (by decide)
theorem qM_46 {σ : Mem} {ch : Int → Int} {len : Int} (h : P46 σ ch len) {q : Int × Int} : qM σ q 0 46 = ch := by
  rw [← h.1]
  funext k
  unfold qM
  rw [st3_j (by decide), st3_j (by decide)]
theorem qM_21 {σ : Mem} {ch : Int → Int} {len : Int} (h : P46 σ ch len) {q : Int × Int} : qM σ q 0 40 21 = len := by
  rw [← h.2.1]
  unfold qM
  rw [st3_k (by decide), st3_k (by decide)]
theorem qM_20 {σ : Mem} {q : Int × Int} : qM σ q 0 40 20 = q.1 := st3_self
theorem qM_22 {σ : Mem} {q : Int × Int} : qM σ q 0 40 22 = q.2 := by
  unfold qM
  rw [st3_k (by decide), st3_self]
theorem qM_j {σ : Mem} {q : Int × Int} {g : Int} {j : Nat} {k : Int} (h : ¬ j = 40) : qM σ q g j k = σ g j k := by
  unfold qM
  rw [st3_j h, st3_j h]
theorem qM_k {σ : Mem} {q : Int × Int} {k : Int} (h : k ≠ 20) (h2 : k ≠ 22) : qM σ q 0 40 k = σ 0 40 k := by
  unfold qM
  rw [st3_k h, st3_k h2]
theorem qM_w {σ : Mem} {q : Int × Int} {w : Int} : st3 (qM σ q) 0 40 22 w = qM σ (q.1, w) := by
  funext a b c
  unfold qM st3
  by_cases h : a = 0 ∧ b = 40
  · obtain ⟨rfl, rfl⟩ := h
    by_cases h1 : c = 22
    · subst h1
      simp
    · simp [h1]
  · rw [if_neg (fun z => h ⟨z.1, z.2.1⟩), if_neg (fun z => h ⟨z.1, z.2.1⟩), if_neg (fun z => h ⟨z.1, z.2.1⟩), if_neg (fun z => h ⟨z.1, z.2.1⟩), if_neg (fun z => h ⟨z.1, z.2.1⟩)]
theorem qM_p {σ : Mem} {q : Int × Int} {p : Int} : st3 (qM σ q) 0 40 20 p = qM σ (p, q.2) := st3_twice
theorem qM_q {σ : Mem} {q r : Int × Int} : qM (qM σ q) r = qM σ r := by
  rw [show qM (qM σ q) r = st3 (st3 (qM σ q) 0 40 22 r.2) 0 40 20 r.1 from rfl, qM_w, qM_p]
theorem qM_c {σ : Mem} {q : Int × Int} {i v : Int} {j : Nat} (h : ¬ j = 40) : st3 (qM σ q) 0 j i v = qM (st3 σ 0 j i v) q := by
  funext a b c
  unfold qM st3
  by_cases h1 : b = j
  · subst h1
    simp [h]
  · simp [h1]
theorem qM_c19 {σ : Mem} {q : Int × Int} {v : Int} : st3 (qM σ q) 0 40 19 v = qM (st3 σ 0 40 19 v) q := by
  funext a b c
  unfold qM st3
  by_cases h1 : c = 19
  · subst h1
    simp
  · simp [h1]
theorem qM_R {σ : Mem} (h : Rng σ) {q : Int × Int} (hq : Qk q) : Rng (qM σ q) := (h.st ⟨by have := hq.2; omega, by have := hq.2; omega⟩).st ⟨by have := hq.1; omega, by have := hq.1; omega⟩
theorem mDig_q {ch : Int → Int} {len : Int} {q : Int × Int} (h : Qk q) (hl : len ≤ 60) : Qk (mDig ch len q).2 ∧ 0 ≤ (mDig ch len q).1 ∧ (mDig ch len q).1 ≤ 9 ∧ (mDig ch len q).2.1 ≤ q.1 + 1 ∧ ((mDig ch len q).2.2 = 0 → (mDig ch len q).2.1 ≤ 60) := by
  have h1 := h.1
  have h2 := h.2
  unfold mDig Qk
  split
  · rename_i c
    have c2 := c.2
    unfold mHere at c2 ⊢
    split at c2
    · rw [if_pos (by assumption)]
      refine ⟨⟨⟨?_, ?_⟩, ?_, ?_⟩, ?_, ?_, ?_, fun _ => ?_⟩ <;> dsimp only <;> omega
    · omega
  · refine ⟨⟨⟨?_, ?_⟩, ?_, ?_⟩, ?_, ?_, ?_, fun z => ?_⟩ <;> dsimp only at * <;> omega
theorem mExp_q {ch : Int → Int} {len c : Int} {q : Int × Int} (h : Qk q) (hl : len ≤ 60) (hc : 0 ≤ c) : Qk (mExp ch len c q) ∧ (mExp ch len c q).1 ≤ q.1 + 1 ∧ ((mExp ch len c q).2 = 0 → (mExp ch len c q).1 ≤ 60) := by
  have h1 := h.1
  have h2 := h.2
  unfold mExp Qk
  split
  · rename_i d
    have c2 := d.2
    unfold mHere at c2
    split at c2
    · refine ⟨⟨⟨?_, ?_⟩, ?_, ?_⟩, ?_, fun _ => ?_⟩ <;> dsimp only <;> omega
    · omega
  · refine ⟨⟨⟨?_, ?_⟩, ?_, ?_⟩, ?_, fun z => ?_⟩ <;> dsimp only at * <;> omega
theorem mNum_q {ch : Int → Int} {len : Int} {q : Int × Int} (h : Qk q) (hl : len ≤ 60) : Qk (mNum ch len q).2 ∧ 0 ≤ (mNum ch len q).1 ∧ (mNum ch len q).1 ≤ 99 ∧ (mNum ch len q).2.1 ≤ q.1 + 2 ∧ ((mNum ch len q).2.2 = 0 → (mNum ch len q).2.1 ≤ 60) := by
  have d1 := mDig_q (ch := ch) h hl
  unfold mNum
  split
  · have d2 := mDig_q (ch := ch) d1.1 hl
    refine ⟨d2.1, ?_, ?_, ?_, d2.2.2.2.2⟩ <;> dsimp only <;> omega
  · exact ⟨d1.1, d1.2.1, by omega, by omega, d1.2.2.2.2⟩
theorem mNB_q {ch : Int → Int} {len c : Int} {q : Int × Int} (h : Qk q) (hl : len ≤ 60) (hc : 0 ≤ c) : Qk (mNB ch len c q).2 ∧ 0 ≤ (mNB ch len c q).1 ∧ (mNB ch len c q).1 ≤ 99 ∧ (mNB ch len c q).2.1 ≤ q.1 + 3 ∧ ((mNB ch len c q).2.2 = 0 → (mNB ch len c q).2.1 ≤ 60) := by
  have e := mExp_q (ch := ch) h hl hc
  have n := mNum_q (ch := ch) e.1 hl
  exact ⟨n.1, n.2.1, n.2.2.1, by have := n.2.2.2.1; unfold mNB; omega, n.2.2.2.2⟩

set_option maxHeartbeats 4000000 in
set_option maxRecDepth 100000 in
theorem g_here {l : Launch} {D : va_G} {K : Nat → ClassId} {ad : Adr} (hl0 : l.stackTraces = false) (σ : Mem) (ch : Int → Int) (len : Int) (hP : P46 σ ch len) (q : Int × Int) (hq : Qk q) : Cb l D K ad yX9_here (.code yX9_here cX9_here 1 (some .int)) 1 0 0 (qM σ q) [.ref (ad 0 40)] (.inl (some (.int (iN (mHere ch len q.1))))) (qM σ q) := by
  refine Cb.of (own := RX9) (ls0 := [some (.ref (ad 0 40))]) hl0 (by decide) rfl (Nat.le_of_ble_eq_true rfl) rfl ?_
  intro X hX1 hX2 hX3 hf he hh
  subst hX1 hX2 hX3
  have q0 := hq.1
  have q1 := hq.2
  have hl := hP.2.2.1
  have hRq := qM_R hP.2.2.2 hq
  have e46 := qM_46 hP (q := q)
  have e21 := qM_21 hP (q := q)
  have e20 : qM σ q 0 40 20 = q.1 := qM_20
  have e22 : qM σ q 0 40 22 = q.2 := qM_22
  refine V_aload_n hf dX9_here_0 rfl rfl ?_
  refine B_get hf l01 rfl fl_X9_240_12 rfl dX9_here_1 ?_
  refine V_aload_n hf dX9_here_4 rfl rfl ?_
  refine B_get hf l01 rfl fl_X9_243_12 rfl dX9_here_5 ?_
  refine V_icmp_ge (tgt := 23) hf (by first | exact hRq _ _ _ (by decide) | exact ⟨by omega, by omega⟩) (by first | exact hRq _ _ _ (by decide) | exact ⟨by omega, by omega⟩) dX9_here_8 (by decide) (fun h8 => ?_) (fun h8 => ?_)
  · refine V_iconst hf dX9_here_23 ?_
    exact B_iret hf he rfl dX9_here_24 (by decide) (by decide) (by unfold mHere; first | (rw [if_pos (by omega), e46, e20]) | (rw [if_neg (by omega)])) rfl
  · refine V_aload_n hf dX9_here_11 rfl rfl ?_
    refine B_get hf l01 rfl fl_X9_29_12 rfl dX9_here_12 ?_
    refine V_aload_n hf dX9_here_15 rfl rfl ?_
    refine B_get hf l01 rfl fl_X9_240_12 rfl dX9_here_16 ?_
    refine B_iald hf l01 (fun _ => rfl) (by first | exact hRq _ _ _ (by decide) | exact ⟨by omega, by omega⟩) (by omega) (by omega) dX9_here_19 ?_
    refine V_goto (tgt := 24) hf dX9_here_20 (by decide) ?_
    exact B_iret hf he rfl dX9_here_24 (by decide) (by decide) (by unfold mHere; first | (rw [if_pos (by omega), e46, e20]) | (rw [if_neg (by omega)])) rfl

set_option maxHeartbeats 4000000 in
set_option maxRecDepth 100000 in
theorem g_exp_o {l : Launch} {D : va_G} {K : Nat → ClassId} {ad : Adr} (hl0 : l.stackTraces = false) (σ : Mem) (ch : Int → Int) (len : Int) (hP : P46 σ ch len) (q : Int × Int) (hq : Qk q) (c : Int) (hc : inR c) (hz : q.2 = 0 ∧ mHere ch len q.1 = c) : Cb l D K ad yX9_expects (.code yX9_expects cX9_expects 2 none) 2 0 0 (qM σ q) [.ref (ad 0 40), .int (iN c)] (.inl none) (qM σ (q.1 + 1, 0)) := by
  refine Cb.of (own := RX9) (ls0 := [some (.ref (ad 0 40)), some (.int (iN c))]) hl0 (by decide) rfl (Nat.le_of_ble_eq_true rfl) rfl ?_
  intro X hX1 hX2 hX3 hf he hh
  subst hX1 hX2 hX3
  have q0 := hq.1
  have q1 := hq.2
  have hl := hP.2.2.1
  have hRq := qM_R hP.2.2.2 hq
  have e46 := qM_46 hP (q := q)
  have e21 := qM_21 hP (q := q)
  have e20 : qM σ q 0 40 20 = q.1 := qM_20
  have e22 : qM σ q 0 40 22 = q.2 := qM_22
  have hq2 : Qk (q.1, (0 : Int)) := ⟨hq.1, by dsimp only; decide, by dsimp only; decide⟩
  have f20 : qM σ (q.1, (0 : Int)) 0 40 20 = q.1 := qM_20
  have f22 : qM σ (q.1, (0 : Int)) 0 40 22 = 0 := qM_22
  have hRf := qM_R hP.2.2.2 hq2
  have hr : inR (mHere ch len q.1) := by
    unfold mHere
    split
    · rw [← hP.1]
      exact hP.2.2.2 _ _ _ (by decide)
    · exact ⟨by decide, by decide⟩
  refine V_aload_n hf dX9_expects_0 rfl rfl ?_
  refine V_aload_n hf dX9_expects_1 rfl rfl ?_
  refine B_get hf l01 rfl fl_X9_246_12 rfl dX9_expects_2 ?_
  refine V_if_ne (tgt := 16) hf (by first | exact hRq _ _ _ (by decide) | exact ⟨by omega, by omega⟩) dX9_expects_5 (by decide) (fun h5 => ?_) (fun h5 => ?_)
  · exact absurd h5 (by omega)
  · refine V_aload_n hf dX9_expects_8 rfl rfl ?_
    refine B_callVi hf (As := []) (g_here hl0 σ ch len hP q hq) cv_X9_250 l01 rfl rfl rfl (Nat.le_of_ble_eq_true rfl) ⟨by decide, by decide, by decide, by decide⟩ dX9_expects_9 ?_
    refine V_iload_n hf dX9_expects_12 rfl rfl ?_
    refine V_icmp_eq (tgt := 20) hf hr hc dX9_expects_13 (by decide) (fun h13 => ?_) (fun h13 => ?_)
    · refine V_iconst hf dX9_expects_20 ?_
      refine B_putI (kI := 22) hf rfl l01 rfl fp_X9_246_12 (by decide +kernel) rfl (Nat.le_of_ble_eq_true rfl) (by decide) (cs_40_22 _ _ _ _ _) dX9_expects_21 ?_
      rw [qM_w]
      refine V_aload_n hf dX9_expects_24 rfl rfl ?_
      refine V_dup hf dX9_expects_25 rfl ?_
      refine B_get hf l01 rfl fl_X9_240_12 rfl dX9_expects_26 ?_
      refine V_aload_n hf dX9_expects_29 rfl rfl ?_
      refine B_get hf l01 rfl fl_X9_246_12 rfl dX9_expects_30 ?_
      refine V_if_eq (tgt := 40) hf (hRf _ _ _ (by decide)) dX9_expects_33 (by decide) (fun h33 => ?_) (fun h33 => ?_)
      · refine V_iconst hf dX9_expects_40 ?_
        refine V_iadd hf dX9_expects_41 ?_
        refine B_putI (kI := 20) hf rfl l01 rfl fp_X9_240_12 rfl rfl (Nat.le_of_ble_eq_true rfl) (by decide) (cs_40_20 _ _ _ _ _) dX9_expects_42 ?_
        rw [qM_p, f20]
        exact B_vret hf he dX9_expects_45 (by decide) (by decide) rfl
      · exact absurd h33 (by omega)
    · exact absurd h13 (by omega)

set_option maxHeartbeats 4000000 in
set_option maxRecDepth 100000 in
theorem g_exp_n {l : Launch} {D : va_G} {K : Nat → ClassId} {ad : Adr} (hl0 : l.stackTraces = false) (σ : Mem) (ch : Int → Int) (len : Int) (hP : P46 σ ch len) (q : Int × Int) (hq : Qk q) (c : Int) (hc : inR c) (hz : ¬ (q.2 = 0 ∧ mHere ch len q.1 = c)) : Cb l D K ad yX9_expects (.code yX9_expects cX9_expects 2 none) 2 0 0 (qM σ q) [.ref (ad 0 40), .int (iN c)] (.inl none) (qM σ (q.1, 1)) := by
  refine Cb.of (own := RX9) (ls0 := [some (.ref (ad 0 40)), some (.int (iN c))]) hl0 (by decide) rfl (Nat.le_of_ble_eq_true rfl) rfl ?_
  intro X hX1 hX2 hX3 hf he hh
  subst hX1 hX2 hX3
  have q0 := hq.1
  have q1 := hq.2
  have hl := hP.2.2.1
  have hRq := qM_R hP.2.2.2 hq
  have e46 := qM_46 hP (q := q)
  have e21 := qM_21 hP (q := q)
  have e20 : qM σ q 0 40 20 = q.1 := qM_20
  have e22 : qM σ q 0 40 22 = q.2 := qM_22
  have hq2 : Qk (q.1, (1 : Int)) := ⟨hq.1, by dsimp only; decide, by dsimp only; decide⟩
  have f20 : qM σ (q.1, (1 : Int)) 0 40 20 = q.1 := qM_20
  have f22 : qM σ (q.1, (1 : Int)) 0 40 22 = 1 := qM_22
  have hRf := qM_R hP.2.2.2 hq2
  have hr : inR (mHere ch len q.1) := by
    unfold mHere
    split
    · rw [← hP.1]
      exact hP.2.2.2 _ _ _ (by decide)
    · exact ⟨by decide, by decide⟩
  refine V_aload_n hf dX9_expects_0 rfl rfl ?_
  refine V_aload_n hf dX9_expects_1 rfl rfl ?_
  refine B_get hf l01 rfl fl_X9_246_12 rfl dX9_expects_2 ?_
  refine V_if_ne (tgt := 16) hf (by first | exact hRq _ _ _ (by decide) | exact ⟨by omega, by omega⟩) dX9_expects_5 (by decide) (fun h5 => ?_) (fun h5 => ?_)
  · refine V_iconst hf dX9_expects_16 ?_
    refine V_goto (tgt := 21) hf dX9_expects_17 (by decide) ?_
    refine B_putI (kI := 22) hf rfl l01 rfl fp_X9_246_12 (by decide +kernel) rfl (Nat.le_of_ble_eq_true rfl) (by decide) (cs_40_22 _ _ _ _ _) dX9_expects_21 ?_
    rw [qM_w]
    refine V_aload_n hf dX9_expects_24 rfl rfl ?_
    refine V_dup hf dX9_expects_25 rfl ?_
    refine B_get hf l01 rfl fl_X9_240_12 rfl dX9_expects_26 ?_
    refine V_aload_n hf dX9_expects_29 rfl rfl ?_
    refine B_get hf l01 rfl fl_X9_246_12 rfl dX9_expects_30 ?_
    refine V_if_eq (tgt := 40) hf (hRf _ _ _ (by decide)) dX9_expects_33 (by decide) (fun h33 => ?_) (fun h33 => ?_)
    · exact absurd h33 (by omega)
    · refine V_iconst hf dX9_expects_36 ?_
      refine V_goto (tgt := 41) hf dX9_expects_37 (by decide) ?_
      refine V_iadd hf dX9_expects_41 ?_
      refine B_putI (kI := 20) hf rfl l01 rfl fp_X9_240_12 rfl rfl (Nat.le_of_ble_eq_true rfl) (by decide) (cs_40_20 _ _ _ _ _) dX9_expects_42 ?_
      rw [qM_p, f20, Int.add_zero]
      exact B_vret hf he dX9_expects_45 (by decide) (by decide) rfl
  · refine V_aload_n hf dX9_expects_8 rfl rfl ?_
    refine B_callVi hf (As := []) (g_here hl0 σ ch len hP q hq) cv_X9_250 l01 rfl rfl rfl (Nat.le_of_ble_eq_true rfl) ⟨by decide, by decide, by decide, by decide⟩ dX9_expects_9 ?_
    refine V_iload_n hf dX9_expects_12 rfl rfl ?_
    refine V_icmp_eq (tgt := 20) hf hr hc dX9_expects_13 (by decide) (fun h13 => ?_) (fun h13 => ?_)
    · exact absurd ⟨by omega, h13⟩ hz
    · refine V_iconst hf dX9_expects_16 ?_
      refine V_goto (tgt := 21) hf dX9_expects_17 (by decide) ?_
      refine B_putI (kI := 22) hf rfl l01 rfl fp_X9_246_12 (by decide +kernel) rfl (Nat.le_of_ble_eq_true rfl) (by decide) (cs_40_22 _ _ _ _ _) dX9_expects_21 ?_
      rw [qM_w]
      refine V_aload_n hf dX9_expects_24 rfl rfl ?_
      refine V_dup hf dX9_expects_25 rfl ?_
      refine B_get hf l01 rfl fl_X9_240_12 rfl dX9_expects_26 ?_
      refine V_aload_n hf dX9_expects_29 rfl rfl ?_
      refine B_get hf l01 rfl fl_X9_246_12 rfl dX9_expects_30 ?_
      refine V_if_eq (tgt := 40) hf (hRf _ _ _ (by decide)) dX9_expects_33 (by decide) (fun h33 => ?_) (fun h33 => ?_)
      · exact absurd h33 (by omega)
      · refine V_iconst hf dX9_expects_36 ?_
        refine V_goto (tgt := 41) hf dX9_expects_37 (by decide) ?_
        refine V_iadd hf dX9_expects_41 ?_
        refine B_putI (kI := 20) hf rfl l01 rfl fp_X9_240_12 rfl rfl (Nat.le_of_ble_eq_true rfl) (by decide) (cs_40_20 _ _ _ _ _) dX9_expects_42 ?_
        rw [qM_p, f20, Int.add_zero]
        exact B_vret hf he dX9_expects_45 (by decide) (by decide) rfl

theorem g_exp {l : Launch} {D : va_G} {K : Nat → ClassId} {ad : Adr} (hl0 : l.stackTraces = false) (σ : Mem) (ch : Int → Int) (len : Int) (hP : P46 σ ch len) (q : Int × Int) (hq : Qk q) (c : Int) (hc : inR c) : Cb l D K ad yX9_expects (.code yX9_expects cX9_expects 2 none) 2 0 0 (qM σ q) [.ref (ad 0 40), .int (iN c)] (.inl none) (qM σ (mExp ch len c q)) := by
  by_cases hz : q.2 = 0 ∧ mHere ch len q.1 = c
  · rw [show mExp ch len c q = (q.1 + 1, 0) from if_pos hz]
    exact g_exp_o hl0 σ ch len hP q hq c hc hz
  · rw [show mExp ch len c q = (q.1, 1) from if_neg hz]
    exact g_exp_n hl0 σ ch len hP q hq c hc hz
set_option maxHeartbeats 4000000 in
set_option maxRecDepth 100000 in
theorem g_dig_o {l : Launch} {D : va_G} {K : Nat → ClassId} {ad : Adr} (hl0 : l.stackTraces = false) (σ : Mem) (ch : Int → Int) (len : Int) (hP : P46 σ ch len) (q : Int × Int) (hq : Qk q) (hz : q.2 = 0 ∧ 48 ≤ mHere ch len q.1 ∧ mHere ch len q.1 ≤ 57) : Cb l D K ad yX9_digit (.code yX9_digit cX9_digit 2 (some .int)) 2 0 0 (qM σ q) [.ref (ad 0 40)] (.inl (some (.int (iN (mHere ch len q.1 - 48))))) (qM σ (q.1 + 1, 0)) := by
  refine Cb.of (own := RX9) (ls0 := [some (.ref (ad 0 40)), none]) hl0 (by decide) rfl (Nat.le_of_ble_eq_true rfl) rfl ?_
  intro X hX1 hX2 hX3 hf he hh
  subst hX1 hX2 hX3
  have q0 := hq.1
  have q1 := hq.2
  have hl := hP.2.2.1
  have hRq := qM_R hP.2.2.2 hq
  have e46 := qM_46 hP (q := q)
  have e21 := qM_21 hP (q := q)
  have e20 : qM σ q 0 40 20 = q.1 := qM_20
  have e22 : qM σ q 0 40 22 = q.2 := qM_22
  have hq2 : Qk (q.1, (0 : Int)) := ⟨hq.1, by dsimp only; decide, by dsimp only; decide⟩
  have f20 : qM σ (q.1, (0 : Int)) 0 40 20 = q.1 := qM_20
  have f22 : qM σ (q.1, (0 : Int)) 0 40 22 = 0 := qM_22
  have hRf := qM_R hP.2.2.2 hq2
  have hr : inR (mHere ch len q.1) := by
    unfold mHere
    split
    · rw [← hP.1]
      exact hP.2.2.2 _ _ _ (by decide)
    · exact ⟨by decide, by decide⟩
  refine V_aload_n hf dX9_digit_0 rfl rfl ?_
  refine V_aload_n hf dX9_digit_1 rfl rfl ?_
  refine B_get hf l01 rfl fl_X9_246_12 rfl dX9_digit_2 ?_
  refine V_if_ne (tgt := 25) hf (by first | exact hRq _ _ _ (by decide) | exact ⟨by omega, by omega⟩) dX9_digit_5 (by decide) (fun h5 => ?_) (fun h5 => ?_)
  · exact absurd h5 (by omega)
  · refine V_aload_n hf dX9_digit_8 rfl rfl ?_
    refine B_callVi hf (As := []) (g_here hl0 σ ch len hP q hq) cv_X9_250 l01 rfl rfl rfl (Nat.le_of_ble_eq_true rfl) ⟨by decide, by decide, by decide, by decide⟩ dX9_digit_9 ?_
    refine V_i2l hf hr dX9_digit_12 ?_
    refine V_ldc2 (a := 48) hf (by decide +kernel) wcl_X9_253 dX9_digit_13 ?_
    refine V_ldc2 (a := 57) hf (by decide +kernel) wcl_X9_255 dX9_digit_16 ?_
    refine B_callSi hf (As := [_, _, _]) (d_in hl0 (qM σ q) (mHere ch len q.1) 48 57 hr ⟨by decide, by decide⟩ ⟨by decide, by decide⟩) cvs_X9_63 rfl (Nat.le_of_ble_eq_true rfl) ⟨by decide, by decide, by decide, by decide⟩ dX9_digit_19 ?_
    refine V_if_ne (tgt := 29) hf (by split <;> exact ⟨by decide, by decide⟩) dX9_digit_22 (by decide) (fun h22 => ?_) (fun h22 => ?_)
    · refine V_iconst hf dX9_digit_29 ?_
      refine B_putI (kI := 22) hf rfl l01 rfl fp_X9_246_12 (by decide +kernel) rfl (Nat.le_of_ble_eq_true rfl) (by decide) (cs_40_22 _ _ _ _ _) dX9_digit_30 ?_
      rw [qM_w]
      refine V_aload_n hf dX9_digit_33 rfl rfl ?_
      refine B_get hf l01 rfl fl_X9_246_12 rfl dX9_digit_34 ?_
      refine V_if_eq (tgt := 44) hf (hRf _ _ _ (by decide)) dX9_digit_37 (by decide) (fun h37 => ?_) (fun h37 => ?_)
      · refine V_aload_n hf dX9_digit_44 rfl rfl ?_
        refine B_callVi hf (As := []) (g_here hl0 σ ch len hP (q.1, 0) hq2) cv_X9_250 l01 rfl rfl rfl (Nat.le_of_ble_eq_true rfl) ⟨by decide, by decide, by decide, by decide⟩ dX9_digit_45 ?_
        refine V_bipush hf dX9_digit_48 (by decide +kernel) ?_
        refine V_isub hf dX9_digit_50 ?_
        refine V_istore_n (ls2 := [_, _]) hf dX9_digit_51 rfl (by decide) rfl rfl ?_
        refine V_aload_n hf dX9_digit_52 rfl rfl ?_
        refine V_dup hf dX9_digit_53 rfl ?_
        refine B_get hf l01 rfl fl_X9_240_12 rfl dX9_digit_54 ?_
        refine V_aload_n hf dX9_digit_57 rfl rfl ?_
        refine B_get hf l01 rfl fl_X9_246_12 rfl dX9_digit_58 ?_
        refine V_if_eq (tgt := 68) hf (hRf _ _ _ (by decide)) dX9_digit_61 (by decide) (fun h61 => ?_) (fun h61 => ?_)
        · refine V_iconst hf dX9_digit_68 ?_
          refine V_iadd hf dX9_digit_69 ?_
          refine B_putI (kI := 20) hf rfl l01 rfl fp_X9_240_12 rfl rfl (Nat.le_of_ble_eq_true rfl) (by decide) (cs_40_20 _ _ _ _ _) dX9_digit_70 ?_
          rw [qM_p, f20]
          refine V_iload_n hf dX9_digit_73 rfl rfl ?_
          exact B_iret hf he rfl dX9_digit_74 (by decide) (by decide) rfl rfl
        · exact absurd h61 (by omega)
      · exact absurd h37 (by omega)
    · exact absurd h22 (by rw [if_pos hz.2]; decide)

set_option maxHeartbeats 4000000 in
set_option maxRecDepth 100000 in
theorem g_dig_n {l : Launch} {D : va_G} {K : Nat → ClassId} {ad : Adr} (hl0 : l.stackTraces = false) (σ : Mem) (ch : Int → Int) (len : Int) (hP : P46 σ ch len) (q : Int × Int) (hq : Qk q) (hz : ¬ (q.2 = 0 ∧ 48 ≤ mHere ch len q.1 ∧ mHere ch len q.1 ≤ 57)) : Cb l D K ad yX9_digit (.code yX9_digit cX9_digit 2 (some .int)) 2 0 0 (qM σ q) [.ref (ad 0 40)] (.inl (some (.int (iN (0))))) (qM σ (q.1, 1)) := by
  refine Cb.of (own := RX9) (ls0 := [some (.ref (ad 0 40)), none]) hl0 (by decide) rfl (Nat.le_of_ble_eq_true rfl) rfl ?_
  intro X hX1 hX2 hX3 hf he hh
  subst hX1 hX2 hX3
  have q0 := hq.1
  have q1 := hq.2
  have hl := hP.2.2.1
  have hRq := qM_R hP.2.2.2 hq
  have e46 := qM_46 hP (q := q)
  have e21 := qM_21 hP (q := q)
  have e20 : qM σ q 0 40 20 = q.1 := qM_20
  have e22 : qM σ q 0 40 22 = q.2 := qM_22
  have hq2 : Qk (q.1, (1 : Int)) := ⟨hq.1, by dsimp only; decide, by dsimp only; decide⟩
  have f20 : qM σ (q.1, (1 : Int)) 0 40 20 = q.1 := qM_20
  have f22 : qM σ (q.1, (1 : Int)) 0 40 22 = 1 := qM_22
  have hRf := qM_R hP.2.2.2 hq2
  have hr : inR (mHere ch len q.1) := by
    unfold mHere
    split
    · rw [← hP.1]
      exact hP.2.2.2 _ _ _ (by decide)
    · exact ⟨by decide, by decide⟩
  refine V_aload_n hf dX9_digit_0 rfl rfl ?_
  refine V_aload_n hf dX9_digit_1 rfl rfl ?_
  refine B_get hf l01 rfl fl_X9_246_12 rfl dX9_digit_2 ?_
  refine V_if_ne (tgt := 25) hf (by first | exact hRq _ _ _ (by decide) | exact ⟨by omega, by omega⟩) dX9_digit_5 (by decide) (fun h5 => ?_) (fun h5 => ?_)
  · refine V_iconst hf dX9_digit_25 ?_
    refine V_goto (tgt := 30) hf dX9_digit_26 (by decide) ?_
    refine B_putI (kI := 22) hf rfl l01 rfl fp_X9_246_12 (by decide +kernel) rfl (Nat.le_of_ble_eq_true rfl) (by decide) (cs_40_22 _ _ _ _ _) dX9_digit_30 ?_
    rw [qM_w]
    refine V_aload_n hf dX9_digit_33 rfl rfl ?_
    refine B_get hf l01 rfl fl_X9_246_12 rfl dX9_digit_34 ?_
    refine V_if_eq (tgt := 44) hf (hRf _ _ _ (by decide)) dX9_digit_37 (by decide) (fun h37 => ?_) (fun h37 => ?_)
    · exact absurd h37 (by omega)
    · refine V_iconst hf dX9_digit_40 ?_
      refine V_goto (tgt := 51) hf dX9_digit_41 (by decide) ?_
      refine V_istore_n (ls2 := [_, _]) hf dX9_digit_51 rfl (by decide) rfl rfl ?_
      refine V_aload_n hf dX9_digit_52 rfl rfl ?_
      refine V_dup hf dX9_digit_53 rfl ?_
      refine B_get hf l01 rfl fl_X9_240_12 rfl dX9_digit_54 ?_
      refine V_aload_n hf dX9_digit_57 rfl rfl ?_
      refine B_get hf l01 rfl fl_X9_246_12 rfl dX9_digit_58 ?_
      refine V_if_eq (tgt := 68) hf (hRf _ _ _ (by decide)) dX9_digit_61 (by decide) (fun h61 => ?_) (fun h61 => ?_)
      · exact absurd h61 (by omega)
      · refine V_iconst hf dX9_digit_64 ?_
        refine V_goto (tgt := 69) hf dX9_digit_65 (by decide) ?_
        refine V_iadd hf dX9_digit_69 ?_
        refine B_putI (kI := 20) hf rfl l01 rfl fp_X9_240_12 rfl rfl (Nat.le_of_ble_eq_true rfl) (by decide) (cs_40_20 _ _ _ _ _) dX9_digit_70 ?_
        rw [qM_p, f20, Int.add_zero]
        refine V_iload_n hf dX9_digit_73 rfl rfl ?_
        exact B_iret hf he rfl dX9_digit_74 (by decide) (by decide) rfl rfl
  · refine V_aload_n hf dX9_digit_8 rfl rfl ?_
    refine B_callVi hf (As := []) (g_here hl0 σ ch len hP q hq) cv_X9_250 l01 rfl rfl rfl (Nat.le_of_ble_eq_true rfl) ⟨by decide, by decide, by decide, by decide⟩ dX9_digit_9 ?_
    refine V_i2l hf hr dX9_digit_12 ?_
    refine V_ldc2 (a := 48) hf (by decide +kernel) wcl_X9_253 dX9_digit_13 ?_
    refine V_ldc2 (a := 57) hf (by decide +kernel) wcl_X9_255 dX9_digit_16 ?_
    refine B_callSi hf (As := [_, _, _]) (d_in hl0 (qM σ q) (mHere ch len q.1) 48 57 hr ⟨by decide, by decide⟩ ⟨by decide, by decide⟩) cvs_X9_63 rfl (Nat.le_of_ble_eq_true rfl) ⟨by decide, by decide, by decide, by decide⟩ dX9_digit_19 ?_
    refine V_if_ne (tgt := 29) hf (by split <;> exact ⟨by decide, by decide⟩) dX9_digit_22 (by decide) (fun h22 => ?_) (fun h22 => ?_)
    · exact absurd h22 (by rw [if_neg (fun z => hz ⟨by omega, z⟩)]; decide)
    · refine V_iconst hf dX9_digit_25 ?_
      refine V_goto (tgt := 30) hf dX9_digit_26 (by decide) ?_
      refine B_putI (kI := 22) hf rfl l01 rfl fp_X9_246_12 (by decide +kernel) rfl (Nat.le_of_ble_eq_true rfl) (by decide) (cs_40_22 _ _ _ _ _) dX9_digit_30 ?_
      rw [qM_w]
      refine V_aload_n hf dX9_digit_33 rfl rfl ?_
      refine B_get hf l01 rfl fl_X9_246_12 rfl dX9_digit_34 ?_
      refine V_if_eq (tgt := 44) hf (hRf _ _ _ (by decide)) dX9_digit_37 (by decide) (fun h37 => ?_) (fun h37 => ?_)
      · exact absurd h37 (by omega)
      · refine V_iconst hf dX9_digit_40 ?_
        refine V_goto (tgt := 51) hf dX9_digit_41 (by decide) ?_
        refine V_istore_n (ls2 := [_, _]) hf dX9_digit_51 rfl (by decide) rfl rfl ?_
        refine V_aload_n hf dX9_digit_52 rfl rfl ?_
        refine V_dup hf dX9_digit_53 rfl ?_
        refine B_get hf l01 rfl fl_X9_240_12 rfl dX9_digit_54 ?_
        refine V_aload_n hf dX9_digit_57 rfl rfl ?_
        refine B_get hf l01 rfl fl_X9_246_12 rfl dX9_digit_58 ?_
        refine V_if_eq (tgt := 68) hf (hRf _ _ _ (by decide)) dX9_digit_61 (by decide) (fun h61 => ?_) (fun h61 => ?_)
        · exact absurd h61 (by omega)
        · refine V_iconst hf dX9_digit_64 ?_
          refine V_goto (tgt := 69) hf dX9_digit_65 (by decide) ?_
          refine V_iadd hf dX9_digit_69 ?_
          refine B_putI (kI := 20) hf rfl l01 rfl fp_X9_240_12 rfl rfl (Nat.le_of_ble_eq_true rfl) (by decide) (cs_40_20 _ _ _ _ _) dX9_digit_70 ?_
          rw [qM_p, f20, Int.add_zero]
          refine V_iload_n hf dX9_digit_73 rfl rfl ?_
          exact B_iret hf he rfl dX9_digit_74 (by decide) (by decide) rfl rfl

theorem g_dig {l : Launch} {D : va_G} {K : Nat → ClassId} {ad : Adr} (hl0 : l.stackTraces = false) (σ : Mem) (ch : Int → Int) (len : Int) (hP : P46 σ ch len) (q : Int × Int) (hq : Qk q) : Cb l D K ad yX9_digit (.code yX9_digit cX9_digit 2 (some .int)) 2 0 0 (qM σ q) [.ref (ad 0 40)] (.inl (some (.int (iN (mDig ch len q).1)))) (qM σ (mDig ch len q).2) := by
  by_cases hz : q.2 = 0 ∧ 48 ≤ mHere ch len q.1 ∧ mHere ch len q.1 ≤ 57
  · rw [show mDig ch len q = (mHere ch len q.1 - 48, q.1 + 1, 0) from if_pos hz]
    exact g_dig_o hl0 σ ch len hP q hq hz
  · rw [show mDig ch len q = (0, q.1, 1) from if_neg hz]
    exact g_dig_n hl0 σ ch len hP q hq hz
set_option maxHeartbeats 4000000 in
set_option maxRecDepth 100000 in
theorem g_num_o {l : Launch} {D : va_G} {K : Nat → ClassId} {ad : Adr} (hl0 : l.stackTraces = false) (σ : Mem) (ch : Int → Int) (len : Int) (hP : P46 σ ch len) (q : Int × Int) (hq : Qk q) (hz : (mDig ch len q).2.2 = 0 ∧ 48 ≤ mHere ch len (mDig ch len q).2.1 ∧ mHere ch len (mDig ch len q).2.1 ≤ 57) : Cb l D K ad yX9_number (.code yX9_number cX9_number 2 (some .int)) 3 0 0 (qM σ q) [.ref (ad 0 40)] (.inl (some (.int (iN (10 * (mDig ch len q).1 + (mDig ch len (mDig ch len q).2).1))))) (qM σ (mDig ch len (mDig ch len q).2).2) := by
  refine Cb.of (own := RX9) (ls0 := [some (.ref (ad 0 40)), none]) hl0 (by decide) rfl (Nat.le_of_ble_eq_true rfl) rfl ?_
  intro X hX1 hX2 hX3 hf he hh
  subst hX1 hX2 hX3
  have q0 := hq.1
  have q1 := hq.2
  have hl := hP.2.2.1
  have hRq := qM_R hP.2.2.2 hq
  have e46 := qM_46 hP (q := q)
  have e21 := qM_21 hP (q := q)
  have e20 : qM σ q 0 40 20 = q.1 := qM_20
  have e22 : qM σ q 0 40 22 = q.2 := qM_22
  have d1 := mDig_q (ch := ch) hq hl
  have f22 : qM σ (mDig ch len q).2 0 40 22 = (mDig ch len q).2.2 := qM_22
  have hRd := qM_R hP.2.2.2 d1.1
  have hr : inR (mHere ch len (mDig ch len q).2.1) := by
    unfold mHere
    split
    · rw [← hP.1]
      exact hP.2.2.2 _ _ _ (by decide)
    · exact ⟨by decide, by decide⟩
  refine V_aload_n hf dX9_number_0 rfl rfl ?_
  refine B_callVi hf (As := []) (g_dig hl0 σ ch len hP q hq) cv_X9_257 l01 rfl rfl rfl (Nat.le_of_ble_eq_true rfl) ⟨by decide, by decide, by decide, by decide⟩ dX9_number_1 ?_
  refine V_istore_n (ls2 := [_, _]) hf dX9_number_4 rfl (by decide) rfl rfl ?_
  refine V_aload_n hf dX9_number_5 rfl rfl ?_
  refine B_get hf l01 rfl fl_X9_246_12 rfl dX9_number_6 ?_
  refine V_if_ne (tgt := 41) hf (hRd _ _ _ (by decide)) dX9_number_9 (by decide) (fun h9 => ?_) (fun h9 => ?_)
  · exact absurd h9 (by omega)
  · refine V_aload_n hf dX9_number_12 rfl rfl ?_
    refine B_callVi hf (As := []) (g_here hl0 σ ch len hP (mDig ch len q).2 d1.1) cv_X9_250 l01 rfl rfl rfl (Nat.le_of_ble_eq_true rfl) ⟨by decide, by decide, by decide, by decide⟩ dX9_number_13 ?_
    refine V_i2l hf hr dX9_number_16 ?_
    refine V_ldc2 (a := 48) hf (by decide +kernel) wcl_X9_253 dX9_number_17 ?_
    refine V_ldc2 (a := 57) hf (by decide +kernel) wcl_X9_255 dX9_number_20 ?_
    refine B_callSi hf (As := [_, _, _]) (d_in hl0 (qM σ (mDig ch len q).2) (mHere ch len (mDig ch len q).2.1) 48 57 hr ⟨by decide, by decide⟩ ⟨by decide, by decide⟩) cvs_X9_63 rfl (Nat.le_of_ble_eq_true rfl) ⟨by decide, by decide, by decide, by decide⟩ dX9_number_23 ?_
    refine V_if_eq (tgt := 41) hf (by split <;> exact ⟨by decide, by decide⟩) dX9_number_26 (by decide) (fun h26 => ?_) (fun h26 => ?_)
    · exact absurd h26 (by rw [if_pos hz.2]; decide)
    · refine V_bipush hf dX9_number_29 (by decide +kernel) ?_
      refine V_iload_n hf dX9_number_31 rfl rfl ?_
      refine V_imul hf dX9_number_32 ?_
      refine V_aload_n hf dX9_number_33 rfl rfl ?_
      refine B_callVi hf (As := []) (g_dig hl0 σ ch len hP (mDig ch len q).2 d1.1) cv_X9_257 l01 rfl rfl rfl (Nat.le_of_ble_eq_true rfl) ⟨by decide, by decide, by decide, by decide⟩ dX9_number_34 ?_
      refine V_iadd hf dX9_number_37 ?_
      refine V_goto (tgt := 42) hf dX9_number_38 (by decide) ?_
      exact B_iret hf he rfl dX9_number_42 (by decide) (by decide) rfl rfl

set_option maxHeartbeats 4000000 in
set_option maxRecDepth 100000 in
theorem g_num_n {l : Launch} {D : va_G} {K : Nat → ClassId} {ad : Adr} (hl0 : l.stackTraces = false) (σ : Mem) (ch : Int → Int) (len : Int) (hP : P46 σ ch len) (q : Int × Int) (hq : Qk q) (hz : ¬ ((mDig ch len q).2.2 = 0 ∧ 48 ≤ mHere ch len (mDig ch len q).2.1 ∧ mHere ch len (mDig ch len q).2.1 ≤ 57)) : Cb l D K ad yX9_number (.code yX9_number cX9_number 2 (some .int)) 3 0 0 (qM σ q) [.ref (ad 0 40)] (.inl (some (.int (iN ((mDig ch len q).1))))) (qM σ (mDig ch len q).2) := by
  refine Cb.of (own := RX9) (ls0 := [some (.ref (ad 0 40)), none]) hl0 (by decide) rfl (Nat.le_of_ble_eq_true rfl) rfl ?_
  intro X hX1 hX2 hX3 hf he hh
  subst hX1 hX2 hX3
  have q0 := hq.1
  have q1 := hq.2
  have hl := hP.2.2.1
  have hRq := qM_R hP.2.2.2 hq
  have e46 := qM_46 hP (q := q)
  have e21 := qM_21 hP (q := q)
  have e20 : qM σ q 0 40 20 = q.1 := qM_20
  have e22 : qM σ q 0 40 22 = q.2 := qM_22
  have d1 := mDig_q (ch := ch) hq hl
  have f22 : qM σ (mDig ch len q).2 0 40 22 = (mDig ch len q).2.2 := qM_22
  have hRd := qM_R hP.2.2.2 d1.1
  have hr : inR (mHere ch len (mDig ch len q).2.1) := by
    unfold mHere
    split
    · rw [← hP.1]
      exact hP.2.2.2 _ _ _ (by decide)
    · exact ⟨by decide, by decide⟩
  refine V_aload_n hf dX9_number_0 rfl rfl ?_
  refine B_callVi hf (As := []) (g_dig hl0 σ ch len hP q hq) cv_X9_257 l01 rfl rfl rfl (Nat.le_of_ble_eq_true rfl) ⟨by decide, by decide, by decide, by decide⟩ dX9_number_1 ?_
  refine V_istore_n (ls2 := [_, _]) hf dX9_number_4 rfl (by decide) rfl rfl ?_
  refine V_aload_n hf dX9_number_5 rfl rfl ?_
  refine B_get hf l01 rfl fl_X9_246_12 rfl dX9_number_6 ?_
  refine V_if_ne (tgt := 41) hf (hRd _ _ _ (by decide)) dX9_number_9 (by decide) (fun h9 => ?_) (fun h9 => ?_)
  · refine V_iload_n hf dX9_number_41 rfl rfl ?_
    exact B_iret hf he rfl dX9_number_42 (by decide) (by decide) rfl rfl
  · refine V_aload_n hf dX9_number_12 rfl rfl ?_
    refine B_callVi hf (As := []) (g_here hl0 σ ch len hP (mDig ch len q).2 d1.1) cv_X9_250 l01 rfl rfl rfl (Nat.le_of_ble_eq_true rfl) ⟨by decide, by decide, by decide, by decide⟩ dX9_number_13 ?_
    refine V_i2l hf hr dX9_number_16 ?_
    refine V_ldc2 (a := 48) hf (by decide +kernel) wcl_X9_253 dX9_number_17 ?_
    refine V_ldc2 (a := 57) hf (by decide +kernel) wcl_X9_255 dX9_number_20 ?_
    refine B_callSi hf (As := [_, _, _]) (d_in hl0 (qM σ (mDig ch len q).2) (mHere ch len (mDig ch len q).2.1) 48 57 hr ⟨by decide, by decide⟩ ⟨by decide, by decide⟩) cvs_X9_63 rfl (Nat.le_of_ble_eq_true rfl) ⟨by decide, by decide, by decide, by decide⟩ dX9_number_23 ?_
    refine V_if_eq (tgt := 41) hf (by split <;> exact ⟨by decide, by decide⟩) dX9_number_26 (by decide) (fun h26 => ?_) (fun h26 => ?_)
    · refine V_iload_n hf dX9_number_41 rfl rfl ?_
      exact B_iret hf he rfl dX9_number_42 (by decide) (by decide) rfl rfl
    · exact absurd h26 (by rw [if_neg (fun z => hz ⟨by omega, z⟩)]; decide)

theorem g_num {l : Launch} {D : va_G} {K : Nat → ClassId} {ad : Adr} (hl0 : l.stackTraces = false) (σ : Mem) (ch : Int → Int) (len : Int) (hP : P46 σ ch len) (q : Int × Int) (hq : Qk q) : Cb l D K ad yX9_number (.code yX9_number cX9_number 2 (some .int)) 3 0 0 (qM σ q) [.ref (ad 0 40)] (.inl (some (.int (iN (mNum ch len q).1)))) (qM σ (mNum ch len q).2) := by
  by_cases hz : (mDig ch len q).2.2 = 0 ∧ 48 ≤ mHere ch len (mDig ch len q).2.1 ∧ mHere ch len (mDig ch len q).2.1 ≤ 57
  · rw [show mNum ch len q = (10 * (mDig ch len q).1 + (mDig ch len (mDig ch len q).2).1, (mDig ch len (mDig ch len q).2).2) from if_pos hz]
    exact g_num_o hl0 σ ch len hP q hq hz
  · rw [show mNum ch len q = (mDig ch len q) from if_neg hz]
    exact g_num_n hl0 σ ch len hP q hq hz
set_option maxHeartbeats 4000000 in
set_option maxRecDepth 100000 in
theorem g_nb {l : Launch} {D : va_G} {K : Nat → ClassId} {ad : Adr} (hl0 : l.stackTraces = false) (σ : Mem) (ch : Int → Int) (len : Int) (hP : P46 σ ch len) (q : Int × Int) (hq : Qk q) (c : Int) (hc : 0 ≤ c ∧ c < 200) : Cb l D K ad yX9_numberBehind (.code yX9_numberBehind cX9_numberBehind 2 (some .int)) 4 0 0 (qM σ q) [.ref (ad 0 40), .int (iN c)] (.inl (some (.int (iN ((mNB ch len c q).1))))) (qM σ (mNB ch len c q).2) := by
  refine Cb.of (own := RX9) (ls0 := [some (.ref (ad 0 40)), some (.int (iN c))]) hl0 (by decide) rfl (Nat.le_of_ble_eq_true rfl) rfl ?_
  intro X hX1 hX2 hX3 hf he hh
  subst hX1 hX2 hX3
  have q0 := hq.1
  have q1 := hq.2
  have hl := hP.2.2.1
  have hRq := qM_R hP.2.2.2 hq
  have e46 := qM_46 hP (q := q)
  have e21 := qM_21 hP (q := q)
  have e20 : qM σ q 0 40 20 = q.1 := qM_20
  have e22 : qM σ q 0 40 22 = q.2 := qM_22
  refine V_aload_n hf dX9_numberBehind_0 rfl rfl ?_
  refine V_iload_n hf dX9_numberBehind_1 rfl rfl ?_
  refine B_callVv hf (As := [_]) (g_exp hl0 σ ch len hP q hq c ⟨by omega, by omega⟩) cv_X9_260 l01 rfl rfl rfl (Nat.le_of_ble_eq_true rfl) ⟨by decide, by decide, by decide, by decide⟩ dX9_numberBehind_2 ?_
  refine V_aload_n hf dX9_numberBehind_5 rfl rfl ?_
  refine B_callVi hf (As := []) (g_num hl0 σ ch len hP (mExp ch len c q) (mExp_q hq hl hc.1).1) cv_X9_263 l01 rfl rfl rfl (Nat.le_of_ble_eq_true rfl) ⟨by decide, by decide, by decide, by decide⟩ dX9_numberBehind_6 ?_
  exact B_iret hf he rfl dX9_numberBehind_9 (by decide) (by decide) rfl rfl

set_option maxHeartbeats 4000000 in
set_option maxRecDepth 100000 in
theorem g_ra_s {l : Launch} {D : va_G} {K : Nat → ClassId} {ad : Adr} (hl0 : l.stackTraces = false) (σ : Mem) (ch : Int → Int) (len : Int) (hP : P46 σ ch len) (q : Int × Int) (hq : Qk q) (t : Int) (ht : 0 ≤ t ∧ t < 240) : Cb l D K ad yX9_readArguments (.code yX9_readArguments cX9_readArguments 3 none) 5 0 0 (qM σ q) [.ref (ad 0 40), .int (iN 115), .int (iN t)] (.inl none) (qM (st3 (st3 σ 0 48 t (mNum ch len q).1) 0 48 (t + 1) (mDig ch len (mExp ch len 47 (mNum ch len q).2)).1) (mDig ch len (mExp ch len 47 (mNum ch len q).2)).2) := by
  refine Cb.of (own := RX9) (ls0 := [some (.ref (ad 0 40)), some (.int (iN 115)), some (.int (iN t))]) hl0 (by decide) rfl (Nat.le_of_ble_eq_true rfl) rfl ?_
  intro X hX1 hX2 hX3 hf he hh
  subst hX1 hX2 hX3
  have q0 := hq.1
  have q1 := hq.2
  have hl := hP.2.2.1
  have hRq := qM_R hP.2.2.2 hq
  have e46 := qM_46 hP (q := q)
  have e21 := qM_21 hP (q := q)
  have e20 : qM σ q 0 40 20 = q.1 := qM_20
  have e22 : qM σ q 0 40 22 = q.2 := qM_22
  have k0 := hq
  have m1 := mNum_q (ch := ch) k0 hl
  have k1 := m1.1
  have b1 : P46 (st3 σ 0 48 t (mNum ch len q).1) ch len := hP.st ⟨by have := m1.2; omega, by have := m1.2; omega⟩
  have k2 := (mExp_q (ch := ch) k1 hl (by decide : (0 : Int) ≤ 47)).1
  have m3 := mDig_q (ch := ch) k2 hl
  have k3 := m3.1
  have b3 : P46 (st3 (st3 σ 0 48 t (mNum ch len q).1) 0 48 (t + 1) (mDig ch len (mExp ch len 47 (mNum ch len q).2)).1) ch len := b1.st ⟨by have := m3.2; omega, by have := m3.2; omega⟩
  refine V_iload_n hf dX9_readArguments_0 rfl rfl ?_
  refine V_tswIn (tgt := 116) hf ⟨by decide, by decide⟩ dX9_readArguments_1 (by decide) (by decide) rfl (by decide) ?_
  refine V_aload_n hf dX9_readArguments_116 rfl rfl ?_
  refine B_get hf l01 rfl fl_X9_35_12 rfl dX9_readArguments_117 ?_
  refine V_iload_n hf dX9_readArguments_120 rfl rfl ?_
  refine V_aload_n hf dX9_readArguments_121 rfl rfl ?_
  refine B_callVi hf (As := []) (g_num hl0 σ ch len hP q k0) cv_X9_263 l01 rfl rfl rfl (Nat.le_of_ble_eq_true rfl) ⟨by decide, by decide, by decide, by decide⟩ dX9_readArguments_122 ?_
  refine B_iast hf l01 (by decide) (fun _ => rfl) ⟨by omega, by omega⟩ (by omega) (by omega) dX9_readArguments_125 ?_
  rw [qM_c (by decide)]
  refine V_aload_n hf dX9_readArguments_126 rfl rfl ?_
  refine V_bipush hf dX9_readArguments_127 (by decide +kernel) ?_
  refine B_callVv hf (As := [_]) (g_exp hl0 (st3 σ 0 48 t (mNum ch len q).1) ch len b1 (mNum ch len q).2 k1 47 ⟨by decide, by decide⟩) cv_X9_260 l01 rfl rfl rfl (Nat.le_of_ble_eq_true rfl) ⟨by decide, by decide, by decide, by decide⟩ dX9_readArguments_129 ?_
  refine V_aload_n hf dX9_readArguments_132 rfl rfl ?_
  refine B_get hf l01 rfl fl_X9_35_12 rfl dX9_readArguments_133 ?_
  refine V_iload_n hf dX9_readArguments_136 rfl rfl ?_
  refine V_iconst hf dX9_readArguments_137 ?_
  refine V_iadd hf dX9_readArguments_138 ?_
  refine V_aload_n hf dX9_readArguments_139 rfl rfl ?_
  refine B_callVi hf (As := []) (g_dig hl0 (st3 σ 0 48 t (mNum ch len q).1) ch len b1 (mExp ch len 47 (mNum ch len q).2) k2) cv_X9_257 l01 rfl rfl rfl (Nat.le_of_ble_eq_true rfl) ⟨by decide, by decide, by decide, by decide⟩ dX9_readArguments_140 ?_
  refine B_iast hf l01 (by decide) (fun _ => rfl) ⟨by omega, by omega⟩ (by omega) (by omega) dX9_readArguments_143 ?_
  rw [qM_c (by decide)]
  refine V_goto (tgt := 309) hf dX9_readArguments_144 (by decide) ?_
  exact B_vret hf he dX9_readArguments_309 (by decide) (by decide) rfl

set_option maxHeartbeats 4000000 in
set_option maxRecDepth 100000 in
theorem g_ra_a {l : Launch} {D : va_G} {K : Nat → ClassId} {ad : Adr} (hl0 : l.stackTraces = false) (σ : Mem) (ch : Int → Int) (len : Int) (hP : P46 σ ch len) (q : Int × Int) (hq : Qk q) (t : Int) (ht : 0 ≤ t ∧ t < 240) : Cb l D K ad yX9_readArguments (.code yX9_readArguments cX9_readArguments 3 none) 5 0 0 (qM σ q) [.ref (ad 0 40), .int (iN 97), .int (iN t)] (.inl none) (qM (st3 (st3 σ 0 48 t (mDig ch len q).1) 0 48 (t + 1) (mDig ch len (mDig ch len q).2).1) (mDig ch len (mDig ch len q).2).2) := by
  refine Cb.of (own := RX9) (ls0 := [some (.ref (ad 0 40)), some (.int (iN 97)), some (.int (iN t))]) hl0 (by decide) rfl (Nat.le_of_ble_eq_true rfl) rfl ?_
  intro X hX1 hX2 hX3 hf he hh
  subst hX1 hX2 hX3
  have q0 := hq.1
  have q1 := hq.2
  have hl := hP.2.2.1
  have hRq := qM_R hP.2.2.2 hq
  have e46 := qM_46 hP (q := q)
  have e21 := qM_21 hP (q := q)
  have e20 : qM σ q 0 40 20 = q.1 := qM_20
  have e22 : qM σ q 0 40 22 = q.2 := qM_22
  have k0 := hq
  have m1 := mDig_q (ch := ch) k0 hl
  have k1 := m1.1
  have b1 : P46 (st3 σ 0 48 t (mDig ch len q).1) ch len := hP.st ⟨by have := m1.2; omega, by have := m1.2; omega⟩
  have m2 := mDig_q (ch := ch) k1 hl
  have k2 := m2.1
  have b2 : P46 (st3 (st3 σ 0 48 t (mDig ch len q).1) 0 48 (t + 1) (mDig ch len (mDig ch len q).2).1) ch len := b1.st ⟨by have := m2.2; omega, by have := m2.2; omega⟩
  refine V_iload_n hf dX9_readArguments_0 rfl rfl ?_
  refine V_tswIn (tgt := 147) hf ⟨by decide, by decide⟩ dX9_readArguments_1 (by decide) (by decide) rfl (by decide) ?_
  refine V_aload_n hf dX9_readArguments_147 rfl rfl ?_
  refine B_get hf l01 rfl fl_X9_35_12 rfl dX9_readArguments_148 ?_
  refine V_iload_n hf dX9_readArguments_151 rfl rfl ?_
  refine V_aload_n hf dX9_readArguments_152 rfl rfl ?_
  refine B_callVi hf (As := []) (g_dig hl0 σ ch len hP q k0) cv_X9_257 l01 rfl rfl rfl (Nat.le_of_ble_eq_true rfl) ⟨by decide, by decide, by decide, by decide⟩ dX9_readArguments_153 ?_
  refine B_iast hf l01 (by decide) (fun _ => rfl) ⟨by omega, by omega⟩ (by omega) (by omega) dX9_readArguments_156 ?_
  rw [qM_c (by decide)]
  refine V_aload_n hf dX9_readArguments_157 rfl rfl ?_
  refine B_get hf l01 rfl fl_X9_35_12 rfl dX9_readArguments_158 ?_
  refine V_iload_n hf dX9_readArguments_161 rfl rfl ?_
  refine V_iconst hf dX9_readArguments_162 ?_
  refine V_iadd hf dX9_readArguments_163 ?_
  refine V_aload_n hf dX9_readArguments_164 rfl rfl ?_
  refine B_callVi hf (As := []) (g_dig hl0 (st3 σ 0 48 t (mDig ch len q).1) ch len b1 (mDig ch len q).2 k1) cv_X9_257 l01 rfl rfl rfl (Nat.le_of_ble_eq_true rfl) ⟨by decide, by decide, by decide, by decide⟩ dX9_readArguments_165 ?_
  refine B_iast hf l01 (by decide) (fun _ => rfl) ⟨by omega, by omega⟩ (by omega) (by omega) dX9_readArguments_168 ?_
  rw [qM_c (by decide)]
  refine V_goto (tgt := 309) hf dX9_readArguments_169 (by decide) ?_
  exact B_vret hf he dX9_readArguments_309 (by decide) (by decide) rfl

set_option maxHeartbeats 4000000 in
set_option maxRecDepth 100000 in
theorem g_ra_c {l : Launch} {D : va_G} {K : Nat → ClassId} {ad : Adr} (hl0 : l.stackTraces = false) (σ : Mem) (ch : Int → Int) (len : Int) (hP : P46 σ ch len) (q : Int × Int) (hq : Qk q) (t : Int) (ht : 0 ≤ t ∧ t < 240) : Cb l D K ad yX9_readArguments (.code yX9_readArguments cX9_readArguments 3 none) 5 0 0 (qM σ q) [.ref (ad 0 40), .int (iN 99), .int (iN t)] (.inl none) (qM (st3 (st3 σ 0 48 t (mDig ch len q).1) 0 48 (t + 1) (mNB ch len 43 (mDig ch len q).2).1) (mNB ch len 43 (mDig ch len q).2).2) := by
  refine Cb.of (own := RX9) (ls0 := [some (.ref (ad 0 40)), some (.int (iN 99)), some (.int (iN t))]) hl0 (by decide) rfl (Nat.le_of_ble_eq_true rfl) rfl ?_
  intro X hX1 hX2 hX3 hf he hh
  subst hX1 hX2 hX3
  have q0 := hq.1
  have q1 := hq.2
  have hl := hP.2.2.1
  have hRq := qM_R hP.2.2.2 hq
  have e46 := qM_46 hP (q := q)
  have e21 := qM_21 hP (q := q)
  have e20 : qM σ q 0 40 20 = q.1 := qM_20
  have e22 : qM σ q 0 40 22 = q.2 := qM_22
  have k0 := hq
  have m1 := mDig_q (ch := ch) k0 hl
  have k1 := m1.1
  have b1 : P46 (st3 σ 0 48 t (mDig ch len q).1) ch len := hP.st ⟨by have := m1.2; omega, by have := m1.2; omega⟩
  have m2 := mNB_q (ch := ch) k1 hl (by decide : (0 : Int) ≤ 43)
  have k2 := m2.1
  have b2 : P46 (st3 (st3 σ 0 48 t (mDig ch len q).1) 0 48 (t + 1) (mNB ch len 43 (mDig ch len q).2).1) ch len := b1.st ⟨by have := m2.2; omega, by have := m2.2; omega⟩
  refine V_iload_n hf dX9_readArguments_0 rfl rfl ?_
  refine V_tswIn (tgt := 172) hf ⟨by decide, by decide⟩ dX9_readArguments_1 (by decide) (by decide) rfl (by decide) ?_
  refine V_aload_n hf dX9_readArguments_172 rfl rfl ?_
  refine B_get hf l01 rfl fl_X9_35_12 rfl dX9_readArguments_173 ?_
  refine V_iload_n hf dX9_readArguments_176 rfl rfl ?_
  refine V_aload_n hf dX9_readArguments_177 rfl rfl ?_
  refine B_callVi hf (As := []) (g_dig hl0 σ ch len hP q k0) cv_X9_257 l01 rfl rfl rfl (Nat.le_of_ble_eq_true rfl) ⟨by decide, by decide, by decide, by decide⟩ dX9_readArguments_178 ?_
  refine B_iast hf l01 (by decide) (fun _ => rfl) ⟨by omega, by omega⟩ (by omega) (by omega) dX9_readArguments_181 ?_
  rw [qM_c (by decide)]
  refine V_aload_n hf dX9_readArguments_182 rfl rfl ?_
  refine B_get hf l01 rfl fl_X9_35_12 rfl dX9_readArguments_183 ?_
  refine V_iload_n hf dX9_readArguments_186 rfl rfl ?_
  refine V_iconst hf dX9_readArguments_187 ?_
  refine V_iadd hf dX9_readArguments_188 ?_
  refine V_aload_n hf dX9_readArguments_189 rfl rfl ?_
  refine V_bipush hf dX9_readArguments_190 (by decide +kernel) ?_
  refine B_callVi hf (As := [_]) (g_nb hl0 (st3 σ 0 48 t (mDig ch len q).1) ch len b1 (mDig ch len q).2 k1 43 (by decide)) cv_X9_266 l01 rfl rfl rfl (Nat.le_of_ble_eq_true rfl) ⟨by decide, by decide, by decide, by decide⟩ dX9_readArguments_192 ?_
  refine B_iast hf l01 (by decide) (fun _ => rfl) ⟨by omega, by omega⟩ (by omega) (by omega) dX9_readArguments_195 ?_
  rw [qM_c (by decide)]
  refine V_goto (tgt := 309) hf dX9_readArguments_196 (by decide) ?_
  exact B_vret hf he dX9_readArguments_309 (by decide) (by decide) rfl

set_option maxHeartbeats 4000000 in
set_option maxRecDepth 100000 in
theorem g_ra_b {l : Launch} {D : va_G} {K : Nat → ClassId} {ad : Adr} (hl0 : l.stackTraces = false) (σ : Mem) (ch : Int → Int) (len : Int) (hP : P46 σ ch len) (q : Int × Int) (hq : Qk q) (t : Int) (ht : 0 ≤ t ∧ t < 240) : Cb l D K ad yX9_readArguments (.code yX9_readArguments cX9_readArguments 3 none) 5 0 0 (qM σ q) [.ref (ad 0 40), .int (iN 98), .int (iN t)] (.inl none) (qM (st3 (st3 (st3 σ 0 48 t (mDig ch len q).1) 0 48 (t + 1) (mDig ch len (mDig ch len q).2).1) 0 48 (t + 2) (mNB ch len 64 (mDig ch len (mDig ch len q).2).2).1) (mNB ch len 64 (mDig ch len (mDig ch len q).2).2).2) := by
  refine Cb.of (own := RX9) (ls0 := [some (.ref (ad 0 40)), some (.int (iN 98)), some (.int (iN t))]) hl0 (by decide) rfl (Nat.le_of_ble_eq_true rfl) rfl ?_
  intro X hX1 hX2 hX3 hf he hh
  subst hX1 hX2 hX3
  have q0 := hq.1
  have q1 := hq.2
  have hl := hP.2.2.1
  have hRq := qM_R hP.2.2.2 hq
  have e46 := qM_46 hP (q := q)
  have e21 := qM_21 hP (q := q)
  have e20 : qM σ q 0 40 20 = q.1 := qM_20
  have e22 : qM σ q 0 40 22 = q.2 := qM_22
  have k0 := hq
  have m1 := mDig_q (ch := ch) k0 hl
  have k1 := m1.1
  have b1 : P46 (st3 σ 0 48 t (mDig ch len q).1) ch len := hP.st ⟨by have := m1.2; omega, by have := m1.2; omega⟩
  have m2 := mDig_q (ch := ch) k1 hl
  have k2 := m2.1
  have b2 : P46 (st3 (st3 σ 0 48 t (mDig ch len q).1) 0 48 (t + 1) (mDig ch len (mDig ch len q).2).1) ch len := b1.st ⟨by have := m2.2; omega, by have := m2.2; omega⟩
  have m3 := mNB_q (ch := ch) k2 hl (by decide : (0 : Int) ≤ 64)
  have k3 := m3.1
  have b3 : P46 (st3 (st3 (st3 σ 0 48 t (mDig ch len q).1) 0 48 (t + 1) (mDig ch len (mDig ch len q).2).1) 0 48 (t + 2) (mNB ch len 64 (mDig ch len (mDig ch len q).2).2).1) ch len := b2.st ⟨by have := m3.2; omega, by have := m3.2; omega⟩
  refine V_iload_n hf dX9_readArguments_0 rfl rfl ?_
  refine V_tswIn (tgt := 199) hf ⟨by decide, by decide⟩ dX9_readArguments_1 (by decide) (by decide) rfl (by decide) ?_
  refine V_aload_n hf dX9_readArguments_199 rfl rfl ?_
  refine B_get hf l01 rfl fl_X9_35_12 rfl dX9_readArguments_200 ?_
  refine V_iload_n hf dX9_readArguments_203 rfl rfl ?_
  refine V_aload_n hf dX9_readArguments_204 rfl rfl ?_
  refine B_callVi hf (As := []) (g_dig hl0 σ ch len hP q k0) cv_X9_257 l01 rfl rfl rfl (Nat.le_of_ble_eq_true rfl) ⟨by decide, by decide, by decide, by decide⟩ dX9_readArguments_205 ?_
  refine B_iast hf l01 (by decide) (fun _ => rfl) ⟨by omega, by omega⟩ (by omega) (by omega) dX9_readArguments_208 ?_
  rw [qM_c (by decide)]
  refine V_aload_n hf dX9_readArguments_209 rfl rfl ?_
  refine B_get hf l01 rfl fl_X9_35_12 rfl dX9_readArguments_210 ?_
  refine V_iload_n hf dX9_readArguments_213 rfl rfl ?_
  refine V_iconst hf dX9_readArguments_214 ?_
  refine V_iadd hf dX9_readArguments_215 ?_
  refine V_aload_n hf dX9_readArguments_216 rfl rfl ?_
  refine B_callVi hf (As := []) (g_dig hl0 (st3 σ 0 48 t (mDig ch len q).1) ch len b1 (mDig ch len q).2 k1) cv_X9_257 l01 rfl rfl rfl (Nat.le_of_ble_eq_true rfl) ⟨by decide, by decide, by decide, by decide⟩ dX9_readArguments_217 ?_
  refine B_iast hf l01 (by decide) (fun _ => rfl) ⟨by omega, by omega⟩ (by omega) (by omega) dX9_readArguments_220 ?_
  rw [qM_c (by decide)]
  refine V_aload_n hf dX9_readArguments_221 rfl rfl ?_
  refine B_get hf l01 rfl fl_X9_35_12 rfl dX9_readArguments_222 ?_
  refine V_iload_n hf dX9_readArguments_225 rfl rfl ?_
  refine V_iconst hf dX9_readArguments_226 ?_
  refine V_iadd hf dX9_readArguments_227 ?_
  refine V_aload_n hf dX9_readArguments_228 rfl rfl ?_
  refine V_bipush hf dX9_readArguments_229 (by decide +kernel) ?_
  refine B_callVi hf (As := [_]) (g_nb hl0 (st3 (st3 σ 0 48 t (mDig ch len q).1) 0 48 (t + 1) (mDig ch len (mDig ch len q).2).1) ch len b2 (mDig ch len (mDig ch len q).2).2 k2 64 (by decide)) cv_X9_266 l01 rfl rfl rfl (Nat.le_of_ble_eq_true rfl) ⟨by decide, by decide, by decide, by decide⟩ dX9_readArguments_231 ?_
  refine B_iast hf l01 (by decide) (fun _ => rfl) ⟨by omega, by omega⟩ (by omega) (by omega) dX9_readArguments_234 ?_
  rw [qM_c (by decide)]
  refine V_goto (tgt := 309) hf dX9_readArguments_235 (by decide) ?_
  exact B_vret hf he dX9_readArguments_309 (by decide) (by decide) rfl

set_option maxHeartbeats 4000000 in
set_option maxRecDepth 100000 in
theorem g_ra_o {l : Launch} {D : va_G} {K : Nat → ClassId} {ad : Adr} (hl0 : l.stackTraces = false) (σ : Mem) (ch : Int → Int) (len : Int) (hP : P46 σ ch len) (q : Int × Int) (hq : Qk q) (t : Int) (ht : 0 ≤ t ∧ t < 240) : Cb l D K ad yX9_readArguments (.code yX9_readArguments cX9_readArguments 3 none) 5 0 0 (qM σ q) [.ref (ad 0 40), .int (iN 111), .int (iN t)] (.inl none) (qM (st3 (st3 σ 0 48 t (mNum ch len q).1) 0 48 (t + 1) (mNB ch len 64 (mNum ch len q).2).1) (mNB ch len 64 (mNum ch len q).2).2) := by
  refine Cb.of (own := RX9) (ls0 := [some (.ref (ad 0 40)), some (.int (iN 111)), some (.int (iN t))]) hl0 (by decide) rfl (Nat.le_of_ble_eq_true rfl) rfl ?_
  intro X hX1 hX2 hX3 hf he hh
  subst hX1 hX2 hX3
  have q0 := hq.1
  have q1 := hq.2
  have hl := hP.2.2.1
  have hRq := qM_R hP.2.2.2 hq
  have e46 := qM_46 hP (q := q)
  have e21 := qM_21 hP (q := q)
  have e20 : qM σ q 0 40 20 = q.1 := qM_20
  have e22 : qM σ q 0 40 22 = q.2 := qM_22
  have k0 := hq
  have m1 := mNum_q (ch := ch) k0 hl
  have k1 := m1.1
  have b1 : P46 (st3 σ 0 48 t (mNum ch len q).1) ch len := hP.st ⟨by have := m1.2; omega, by have := m1.2; omega⟩
  have m2 := mNB_q (ch := ch) k1 hl (by decide : (0 : Int) ≤ 64)
  have k2 := m2.1
  have b2 : P46 (st3 (st3 σ 0 48 t (mNum ch len q).1) 0 48 (t + 1) (mNB ch len 64 (mNum ch len q).2).1) ch len := b1.st ⟨by have := m2.2; omega, by have := m2.2; omega⟩
  refine V_iload_n hf dX9_readArguments_0 rfl rfl ?_
  refine V_tswIn (tgt := 238) hf ⟨by decide, by decide⟩ dX9_readArguments_1 (by decide) (by decide) rfl (by decide) ?_
  refine V_aload_n hf dX9_readArguments_238 rfl rfl ?_
  refine B_get hf l01 rfl fl_X9_35_12 rfl dX9_readArguments_239 ?_
  refine V_iload_n hf dX9_readArguments_242 rfl rfl ?_
  refine V_aload_n hf dX9_readArguments_243 rfl rfl ?_
  refine B_callVi hf (As := []) (g_num hl0 σ ch len hP q k0) cv_X9_263 l01 rfl rfl rfl (Nat.le_of_ble_eq_true rfl) ⟨by decide, by decide, by decide, by decide⟩ dX9_readArguments_244 ?_
  refine B_iast hf l01 (by decide) (fun _ => rfl) ⟨by omega, by omega⟩ (by omega) (by omega) dX9_readArguments_247 ?_
  rw [qM_c (by decide)]
  refine V_aload_n hf dX9_readArguments_248 rfl rfl ?_
  refine B_get hf l01 rfl fl_X9_35_12 rfl dX9_readArguments_249 ?_
  refine V_iload_n hf dX9_readArguments_252 rfl rfl ?_
  refine V_iconst hf dX9_readArguments_253 ?_
  refine V_iadd hf dX9_readArguments_254 ?_
  refine V_aload_n hf dX9_readArguments_255 rfl rfl ?_
  refine V_bipush hf dX9_readArguments_256 (by decide +kernel) ?_
  refine B_callVi hf (As := [_]) (g_nb hl0 (st3 σ 0 48 t (mNum ch len q).1) ch len b1 (mNum ch len q).2 k1 64 (by decide)) cv_X9_266 l01 rfl rfl rfl (Nat.le_of_ble_eq_true rfl) ⟨by decide, by decide, by decide, by decide⟩ dX9_readArguments_258 ?_
  refine B_iast hf l01 (by decide) (fun _ => rfl) ⟨by omega, by omega⟩ (by omega) (by omega) dX9_readArguments_261 ?_
  rw [qM_c (by decide)]
  refine V_goto (tgt := 309) hf dX9_readArguments_262 (by decide) ?_
  exact B_vret hf he dX9_readArguments_309 (by decide) (by decide) rfl

set_option maxHeartbeats 4000000 in
set_option maxRecDepth 100000 in
theorem g_ra_x {l : Launch} {D : va_G} {K : Nat → ClassId} {ad : Adr} (hl0 : l.stackTraces = false) (σ : Mem) (ch : Int → Int) (len : Int) (hP : P46 σ ch len) (q : Int × Int) (hq : Qk q) (t : Int) (ht : 0 ≤ t ∧ t < 240) : Cb l D K ad yX9_readArguments (.code yX9_readArguments cX9_readArguments 3 none) 5 0 0 (qM σ q) [.ref (ad 0 40), .int (iN 120), .int (iN t)] (.inl none) (qM (st3 σ 0 48 t (mNum ch len q).1) (mNum ch len q).2) := by
  refine Cb.of (own := RX9) (ls0 := [some (.ref (ad 0 40)), some (.int (iN 120)), some (.int (iN t))]) hl0 (by decide) rfl (Nat.le_of_ble_eq_true rfl) rfl ?_
  intro X hX1 hX2 hX3 hf he hh
  subst hX1 hX2 hX3
  have q0 := hq.1
  have q1 := hq.2
  have hl := hP.2.2.1
  have hRq := qM_R hP.2.2.2 hq
  have e46 := qM_46 hP (q := q)
  have e21 := qM_21 hP (q := q)
  have e20 : qM σ q 0 40 20 = q.1 := qM_20
  have e22 : qM σ q 0 40 22 = q.2 := qM_22
  have k0 := hq
  have m1 := mNum_q (ch := ch) k0 hl
  have k1 := m1.1
  have b1 : P46 (st3 σ 0 48 t (mNum ch len q).1) ch len := hP.st ⟨by have := m1.2; omega, by have := m1.2; omega⟩
  refine V_iload_n hf dX9_readArguments_0 rfl rfl ?_
  refine V_tswIn (tgt := 265) hf ⟨by decide, by decide⟩ dX9_readArguments_1 (by decide) (by decide) rfl (by decide) ?_
  refine V_aload_n hf dX9_readArguments_265 rfl rfl ?_
  refine B_get hf l01 rfl fl_X9_35_12 rfl dX9_readArguments_266 ?_
  refine V_iload_n hf dX9_readArguments_269 rfl rfl ?_
  refine V_aload_n hf dX9_readArguments_270 rfl rfl ?_
  refine B_callVi hf (As := []) (g_num hl0 σ ch len hP q k0) cv_X9_263 l01 rfl rfl rfl (Nat.le_of_ble_eq_true rfl) ⟨by decide, by decide, by decide, by decide⟩ dX9_readArguments_271 ?_
  refine B_iast hf l01 (by decide) (fun _ => rfl) ⟨by omega, by omega⟩ (by omega) (by omega) dX9_readArguments_274 ?_
  rw [qM_c (by decide)]
  refine V_goto (tgt := 309) hf dX9_readArguments_275 (by decide) ?_
  exact B_vret hf he dX9_readArguments_309 (by decide) (by decide) rfl

set_option maxHeartbeats 4000000 in
set_option maxRecDepth 100000 in
theorem g_ra_y {l : Launch} {D : va_G} {K : Nat → ClassId} {ad : Adr} (hl0 : l.stackTraces = false) (σ : Mem) (ch : Int → Int) (len : Int) (hP : P46 σ ch len) (q : Int × Int) (hq : Qk q) (t : Int) (ht : 0 ≤ t ∧ t < 240) : Cb l D K ad yX9_readArguments (.code yX9_readArguments cX9_readArguments 3 none) 5 0 0 (qM σ q) [.ref (ad 0 40), .int (iN 121), .int (iN t)] (.inl none) (qM (st3 σ 0 48 t (mNum ch len q).1) (mNum ch len q).2) := by
  refine Cb.of (own := RX9) (ls0 := [some (.ref (ad 0 40)), some (.int (iN 121)), some (.int (iN t))]) hl0 (by decide) rfl (Nat.le_of_ble_eq_true rfl) rfl ?_
  intro X hX1 hX2 hX3 hf he hh
  subst hX1 hX2 hX3
  have q0 := hq.1
  have q1 := hq.2
  have hl := hP.2.2.1
  have hRq := qM_R hP.2.2.2 hq
  have e46 := qM_46 hP (q := q)
  have e21 := qM_21 hP (q := q)
  have e20 : qM σ q 0 40 20 = q.1 := qM_20
  have e22 : qM σ q 0 40 22 = q.2 := qM_22
  have k0 := hq
  have m1 := mNum_q (ch := ch) k0 hl
  have k1 := m1.1
  have b1 : P46 (st3 σ 0 48 t (mNum ch len q).1) ch len := hP.st ⟨by have := m1.2; omega, by have := m1.2; omega⟩
  refine V_iload_n hf dX9_readArguments_0 rfl rfl ?_
  refine V_tswIn (tgt := 265) hf ⟨by decide, by decide⟩ dX9_readArguments_1 (by decide) (by decide) rfl (by decide) ?_
  refine V_aload_n hf dX9_readArguments_265 rfl rfl ?_
  refine B_get hf l01 rfl fl_X9_35_12 rfl dX9_readArguments_266 ?_
  refine V_iload_n hf dX9_readArguments_269 rfl rfl ?_
  refine V_aload_n hf dX9_readArguments_270 rfl rfl ?_
  refine B_callVi hf (As := []) (g_num hl0 σ ch len hP q k0) cv_X9_263 l01 rfl rfl rfl (Nat.le_of_ble_eq_true rfl) ⟨by decide, by decide, by decide, by decide⟩ dX9_readArguments_271 ?_
  refine B_iast hf l01 (by decide) (fun _ => rfl) ⟨by omega, by omega⟩ (by omega) (by omega) dX9_readArguments_274 ?_
  rw [qM_c (by decide)]
  refine V_goto (tgt := 309) hf dX9_readArguments_275 (by decide) ?_
  exact B_vret hf he dX9_readArguments_309 (by decide) (by decide) rfl

set_option maxHeartbeats 4000000 in
set_option maxRecDepth 100000 in
theorem g_ra_f {l : Launch} {D : va_G} {K : Nat → ClassId} {ad : Adr} (hl0 : l.stackTraces = false) (σ : Mem) (ch : Int → Int) (len : Int) (hP : P46 σ ch len) (q : Int × Int) (hq : Qk q) (t : Int) (ht : 0 ≤ t ∧ t < 240) : Cb l D K ad yX9_readArguments (.code yX9_readArguments cX9_readArguments 3 none) 5 0 0 (qM σ q) [.ref (ad 0 40), .int (iN 102), .int (iN t)] (.inl none) (qM (st3 σ 0 48 t (mDig ch len q).1) (mDig ch len q).2) := by
  refine Cb.of (own := RX9) (ls0 := [some (.ref (ad 0 40)), some (.int (iN 102)), some (.int (iN t))]) hl0 (by decide) rfl (Nat.le_of_ble_eq_true rfl) rfl ?_
  intro X hX1 hX2 hX3 hf he hh
  subst hX1 hX2 hX3
  have q0 := hq.1
  have q1 := hq.2
  have hl := hP.2.2.1
  have hRq := qM_R hP.2.2.2 hq
  have e46 := qM_46 hP (q := q)
  have e21 := qM_21 hP (q := q)
  have e20 : qM σ q 0 40 20 = q.1 := qM_20
  have e22 : qM σ q 0 40 22 = q.2 := qM_22
  have k0 := hq
  have m1 := mDig_q (ch := ch) k0 hl
  have k1 := m1.1
  have b1 : P46 (st3 σ 0 48 t (mDig ch len q).1) ch len := hP.st ⟨by have := m1.2; omega, by have := m1.2; omega⟩
  refine V_iload_n hf dX9_readArguments_0 rfl rfl ?_
  refine V_tswIn (tgt := 278) hf ⟨by decide, by decide⟩ dX9_readArguments_1 (by decide) (by decide) rfl (by decide) ?_
  refine V_aload_n hf dX9_readArguments_278 rfl rfl ?_
  refine B_get hf l01 rfl fl_X9_35_12 rfl dX9_readArguments_279 ?_
  refine V_iload_n hf dX9_readArguments_282 rfl rfl ?_
  refine V_aload_n hf dX9_readArguments_283 rfl rfl ?_
  refine B_callVi hf (As := []) (g_dig hl0 σ ch len hP q k0) cv_X9_257 l01 rfl rfl rfl (Nat.le_of_ble_eq_true rfl) ⟨by decide, by decide, by decide, by decide⟩ dX9_readArguments_284 ?_
  refine B_iast hf l01 (by decide) (fun _ => rfl) ⟨by omega, by omega⟩ (by omega) (by omega) dX9_readArguments_287 ?_
  rw [qM_c (by decide)]
  refine V_goto (tgt := 309) hf dX9_readArguments_288 (by decide) ?_
  exact B_vret hf he dX9_readArguments_309 (by decide) (by decide) rfl

set_option maxHeartbeats 4000000 in
set_option maxRecDepth 100000 in
theorem g_ra_t {l : Launch} {D : va_G} {K : Nat → ClassId} {ad : Adr} (hl0 : l.stackTraces = false) (σ : Mem) (ch : Int → Int) (len : Int) (hP : P46 σ ch len) (q : Int × Int) (hq : Qk q) (t : Int) (ht : 0 ≤ t ∧ t < 240) : Cb l D K ad yX9_readArguments (.code yX9_readArguments cX9_readArguments 3 none) 5 0 0 (qM σ q) [.ref (ad 0 40), .int (iN 116), .int (iN t)] (.inl none) (qM σ q) := by
  refine Cb.of (own := RX9) (ls0 := [some (.ref (ad 0 40)), some (.int (iN 116)), some (.int (iN t))]) hl0 (by decide) rfl (Nat.le_of_ble_eq_true rfl) rfl ?_
  intro X hX1 hX2 hX3 hf he hh
  subst hX1 hX2 hX3
  have q0 := hq.1
  have q1 := hq.2
  have hl := hP.2.2.1
  have hRq := qM_R hP.2.2.2 hq
  have e46 := qM_46 hP (q := q)
  have e21 := qM_21 hP (q := q)
  have e20 : qM σ q 0 40 20 = q.1 := qM_20
  have e22 : qM σ q 0 40 22 = q.2 := qM_22
  have k0 := hq
  refine V_iload_n hf dX9_readArguments_0 rfl rfl ?_
  refine V_tswIn (tgt := 291) hf ⟨by decide, by decide⟩ dX9_readArguments_1 (by decide) (by decide) rfl (by decide) ?_
  refine V_goto (tgt := 309) hf dX9_readArguments_291 (by decide) ?_
  exact B_vret hf he dX9_readArguments_309 (by decide) (by decide) rfl

set_option maxHeartbeats 4000000 in
set_option maxRecDepth 100000 in
theorem g_ra_100 {l : Launch} {D : va_G} {K : Nat → ClassId} {ad : Adr} (hl0 : l.stackTraces = false) (σ : Mem) (ch : Int → Int) (len : Int) (hP : P46 σ ch len) (q : Int × Int) (hq : Qk q) (t : Int) (ht : 0 ≤ t ∧ t < 240) : Cb l D K ad yX9_readArguments (.code yX9_readArguments cX9_readArguments 3 none) 5 0 0 (qM σ q) [.ref (ad 0 40), .int (iN 100), .int (iN t)] (.inl none) (qM σ (q.1 - 1, 1)) := by
  refine Cb.of (own := RX9) (ls0 := [some (.ref (ad 0 40)), some (.int (iN 100)), some (.int (iN t))]) hl0 (by decide) rfl (Nat.le_of_ble_eq_true rfl) rfl ?_
  intro X hX1 hX2 hX3 hf he hh
  subst hX1 hX2 hX3
  have q0 := hq.1
  have q1 := hq.2
  have hl := hP.2.2.1
  have hRq := qM_R hP.2.2.2 hq
  have e46 := qM_46 hP (q := q)
  have e21 := qM_21 hP (q := q)
  have e20 : qM σ q 0 40 20 = q.1 := qM_20
  have e22 : qM σ q 0 40 22 = q.2 := qM_22
  refine V_iload_n hf dX9_readArguments_0 rfl rfl ?_
  refine V_tswIn (tgt := 294) hf ⟨by decide, by decide⟩ dX9_readArguments_1 (by decide) (by decide) rfl (by decide) ?_
  refine V_aload_n hf dX9_readArguments_294 rfl rfl ?_
  refine V_iconst hf dX9_readArguments_295 ?_
  refine B_putI (kI := 22) hf rfl l01 rfl fp_X9_246_12 (by decide +kernel) rfl (Nat.le_of_ble_eq_true rfl) (by decide) (cs_40_22 _ _ _ _ _) dX9_readArguments_296 ?_
  rw [qM_w]
  refine V_aload_n hf dX9_readArguments_299 rfl rfl ?_
  refine V_dup hf dX9_readArguments_300 rfl ?_
  refine B_get hf l01 rfl fl_X9_240_12 rfl dX9_readArguments_301 ?_
  refine V_iconst hf dX9_readArguments_304 ?_
  refine V_isub hf dX9_readArguments_305 ?_
  refine B_putI (kI := 20) hf rfl l01 rfl fp_X9_240_12 rfl rfl (Nat.le_of_ble_eq_true rfl) (by decide) (cs_40_20 _ _ _ _ _) dX9_readArguments_306 ?_
  rw [qM_p, show qM σ (q.1, (1 : Int)) 0 40 20 = q.1 from qM_20]
  exact B_vret hf he dX9_readArguments_309 (by decide) (by decide) rfl

set_option maxHeartbeats 4000000 in
set_option maxRecDepth 100000 in
theorem g_ra_101 {l : Launch} {D : va_G} {K : Nat → ClassId} {ad : Adr} (hl0 : l.stackTraces = false) (σ : Mem) (ch : Int → Int) (len : Int) (hP : P46 σ ch len) (q : Int × Int) (hq : Qk q) (t : Int) (ht : 0 ≤ t ∧ t < 240) : Cb l D K ad yX9_readArguments (.code yX9_readArguments cX9_readArguments 3 none) 5 0 0 (qM σ q) [.ref (ad 0 40), .int (iN 101), .int (iN t)] (.inl none) (qM σ (q.1 - 1, 1)) := by
  refine Cb.of (own := RX9) (ls0 := [some (.ref (ad 0 40)), some (.int (iN 101)), some (.int (iN t))]) hl0 (by decide) rfl (Nat.le_of_ble_eq_true rfl) rfl ?_
  intro X hX1 hX2 hX3 hf he hh
  subst hX1 hX2 hX3
  have q0 := hq.1
  have q1 := hq.2
  have hl := hP.2.2.1
  have hRq := qM_R hP.2.2.2 hq
  have e46 := qM_46 hP (q := q)
  have e21 := qM_21 hP (q := q)
  have e20 : qM σ q 0 40 20 = q.1 := qM_20
  have e22 : qM σ q 0 40 22 = q.2 := qM_22
  refine V_iload_n hf dX9_readArguments_0 rfl rfl ?_
  refine V_tswIn (tgt := 294) hf ⟨by decide, by decide⟩ dX9_readArguments_1 (by decide) (by decide) rfl (by decide) ?_
  refine V_aload_n hf dX9_readArguments_294 rfl rfl ?_
  refine V_iconst hf dX9_readArguments_295 ?_
  refine B_putI (kI := 22) hf rfl l01 rfl fp_X9_246_12 (by decide +kernel) rfl (Nat.le_of_ble_eq_true rfl) (by decide) (cs_40_22 _ _ _ _ _) dX9_readArguments_296 ?_
  rw [qM_w]
  refine V_aload_n hf dX9_readArguments_299 rfl rfl ?_
  refine V_dup hf dX9_readArguments_300 rfl ?_
  refine B_get hf l01 rfl fl_X9_240_12 rfl dX9_readArguments_301 ?_
  refine V_iconst hf dX9_readArguments_304 ?_
  refine V_isub hf dX9_readArguments_305 ?_
  refine B_putI (kI := 20) hf rfl l01 rfl fp_X9_240_12 rfl rfl (Nat.le_of_ble_eq_true rfl) (by decide) (cs_40_20 _ _ _ _ _) dX9_readArguments_306 ?_
  rw [qM_p, show qM σ (q.1, (1 : Int)) 0 40 20 = q.1 from qM_20]
  exact B_vret hf he dX9_readArguments_309 (by decide) (by decide) rfl

set_option maxHeartbeats 4000000 in
set_option maxRecDepth 100000 in
theorem g_ra_103 {l : Launch} {D : va_G} {K : Nat → ClassId} {ad : Adr} (hl0 : l.stackTraces = false) (σ : Mem) (ch : Int → Int) (len : Int) (hP : P46 σ ch len) (q : Int × Int) (hq : Qk q) (t : Int) (ht : 0 ≤ t ∧ t < 240) : Cb l D K ad yX9_readArguments (.code yX9_readArguments cX9_readArguments 3 none) 5 0 0 (qM σ q) [.ref (ad 0 40), .int (iN 103), .int (iN t)] (.inl none) (qM σ (q.1 - 1, 1)) := by
  refine Cb.of (own := RX9) (ls0 := [some (.ref (ad 0 40)), some (.int (iN 103)), some (.int (iN t))]) hl0 (by decide) rfl (Nat.le_of_ble_eq_true rfl) rfl ?_
  intro X hX1 hX2 hX3 hf he hh
  subst hX1 hX2 hX3
  have q0 := hq.1
  have q1 := hq.2
  have hl := hP.2.2.1
  have hRq := qM_R hP.2.2.2 hq
  have e46 := qM_46 hP (q := q)
  have e21 := qM_21 hP (q := q)
  have e20 : qM σ q 0 40 20 = q.1 := qM_20
  have e22 : qM σ q 0 40 22 = q.2 := qM_22
  refine V_iload_n hf dX9_readArguments_0 rfl rfl ?_
  refine V_tswIn (tgt := 294) hf ⟨by decide, by decide⟩ dX9_readArguments_1 (by decide) (by decide) rfl (by decide) ?_
  refine V_aload_n hf dX9_readArguments_294 rfl rfl ?_
  refine V_iconst hf dX9_readArguments_295 ?_
  refine B_putI (kI := 22) hf rfl l01 rfl fp_X9_246_12 (by decide +kernel) rfl (Nat.le_of_ble_eq_true rfl) (by decide) (cs_40_22 _ _ _ _ _) dX9_readArguments_296 ?_
  rw [qM_w]
  refine V_aload_n hf dX9_readArguments_299 rfl rfl ?_
  refine V_dup hf dX9_readArguments_300 rfl ?_
  refine B_get hf l01 rfl fl_X9_240_12 rfl dX9_readArguments_301 ?_
  refine V_iconst hf dX9_readArguments_304 ?_
  refine V_isub hf dX9_readArguments_305 ?_
  refine B_putI (kI := 20) hf rfl l01 rfl fp_X9_240_12 rfl rfl (Nat.le_of_ble_eq_true rfl) (by decide) (cs_40_20 _ _ _ _ _) dX9_readArguments_306 ?_
  rw [qM_p, show qM σ (q.1, (1 : Int)) 0 40 20 = q.1 from qM_20]
  exact B_vret hf he dX9_readArguments_309 (by decide) (by decide) rfl

set_option maxHeartbeats 4000000 in
set_option maxRecDepth 100000 in
theorem g_ra_104 {l : Launch} {D : va_G} {K : Nat → ClassId} {ad : Adr} (hl0 : l.stackTraces = false) (σ : Mem) (ch : Int → Int) (len : Int) (hP : P46 σ ch len) (q : Int × Int) (hq : Qk q) (t : Int) (ht : 0 ≤ t ∧ t < 240) : Cb l D K ad yX9_readArguments (.code yX9_readArguments cX9_readArguments 3 none) 5 0 0 (qM σ q) [.ref (ad 0 40), .int (iN 104), .int (iN t)] (.inl none) (qM σ (q.1 - 1, 1)) := by
  refine Cb.of (own := RX9) (ls0 := [some (.ref (ad 0 40)), some (.int (iN 104)), some (.int (iN t))]) hl0 (by decide) rfl (Nat.le_of_ble_eq_true rfl) rfl ?_
  intro X hX1 hX2 hX3 hf he hh
  subst hX1 hX2 hX3
  have q0 := hq.1
  have q1 := hq.2
  have hl := hP.2.2.1
  have hRq := qM_R hP.2.2.2 hq
  have e46 := qM_46 hP (q := q)
  have e21 := qM_21 hP (q := q)
  have e20 : qM σ q 0 40 20 = q.1 := qM_20
  have e22 : qM σ q 0 40 22 = q.2 := qM_22
  refine V_iload_n hf dX9_readArguments_0 rfl rfl ?_
  refine V_tswIn (tgt := 294) hf ⟨by decide, by decide⟩ dX9_readArguments_1 (by decide) (by decide) rfl (by decide) ?_
  refine V_aload_n hf dX9_readArguments_294 rfl rfl ?_
  refine V_iconst hf dX9_readArguments_295 ?_
  refine B_putI (kI := 22) hf rfl l01 rfl fp_X9_246_12 (by decide +kernel) rfl (Nat.le_of_ble_eq_true rfl) (by decide) (cs_40_22 _ _ _ _ _) dX9_readArguments_296 ?_
  rw [qM_w]
  refine V_aload_n hf dX9_readArguments_299 rfl rfl ?_
  refine V_dup hf dX9_readArguments_300 rfl ?_
  refine B_get hf l01 rfl fl_X9_240_12 rfl dX9_readArguments_301 ?_
  refine V_iconst hf dX9_readArguments_304 ?_
  refine V_isub hf dX9_readArguments_305 ?_
  refine B_putI (kI := 20) hf rfl l01 rfl fp_X9_240_12 rfl rfl (Nat.le_of_ble_eq_true rfl) (by decide) (cs_40_20 _ _ _ _ _) dX9_readArguments_306 ?_
  rw [qM_p, show qM σ (q.1, (1 : Int)) 0 40 20 = q.1 from qM_20]
  exact B_vret hf he dX9_readArguments_309 (by decide) (by decide) rfl

set_option maxHeartbeats 4000000 in
set_option maxRecDepth 100000 in
theorem g_ra_105 {l : Launch} {D : va_G} {K : Nat → ClassId} {ad : Adr} (hl0 : l.stackTraces = false) (σ : Mem) (ch : Int → Int) (len : Int) (hP : P46 σ ch len) (q : Int × Int) (hq : Qk q) (t : Int) (ht : 0 ≤ t ∧ t < 240) : Cb l D K ad yX9_readArguments (.code yX9_readArguments cX9_readArguments 3 none) 5 0 0 (qM σ q) [.ref (ad 0 40), .int (iN 105), .int (iN t)] (.inl none) (qM σ (q.1 - 1, 1)) := by
  refine Cb.of (own := RX9) (ls0 := [some (.ref (ad 0 40)), some (.int (iN 105)), some (.int (iN t))]) hl0 (by decide) rfl (Nat.le_of_ble_eq_true rfl) rfl ?_
  intro X hX1 hX2 hX3 hf he hh
  subst hX1 hX2 hX3
  have q0 := hq.1
  have q1 := hq.2
  have hl := hP.2.2.1
  have hRq := qM_R hP.2.2.2 hq
  have e46 := qM_46 hP (q := q)
  have e21 := qM_21 hP (q := q)
  have e20 : qM σ q 0 40 20 = q.1 := qM_20
  have e22 : qM σ q 0 40 22 = q.2 := qM_22
  refine V_iload_n hf dX9_readArguments_0 rfl rfl ?_
  refine V_tswIn (tgt := 294) hf ⟨by decide, by decide⟩ dX9_readArguments_1 (by decide) (by decide) rfl (by decide) ?_
  refine V_aload_n hf dX9_readArguments_294 rfl rfl ?_
  refine V_iconst hf dX9_readArguments_295 ?_
  refine B_putI (kI := 22) hf rfl l01 rfl fp_X9_246_12 (by decide +kernel) rfl (Nat.le_of_ble_eq_true rfl) (by decide) (cs_40_22 _ _ _ _ _) dX9_readArguments_296 ?_
  rw [qM_w]
  refine V_aload_n hf dX9_readArguments_299 rfl rfl ?_
  refine V_dup hf dX9_readArguments_300 rfl ?_
  refine B_get hf l01 rfl fl_X9_240_12 rfl dX9_readArguments_301 ?_
  refine V_iconst hf dX9_readArguments_304 ?_
  refine V_isub hf dX9_readArguments_305 ?_
  refine B_putI (kI := 20) hf rfl l01 rfl fp_X9_240_12 rfl rfl (Nat.le_of_ble_eq_true rfl) (by decide) (cs_40_20 _ _ _ _ _) dX9_readArguments_306 ?_
  rw [qM_p, show qM σ (q.1, (1 : Int)) 0 40 20 = q.1 from qM_20]
  exact B_vret hf he dX9_readArguments_309 (by decide) (by decide) rfl

set_option maxHeartbeats 4000000 in
set_option maxRecDepth 100000 in
theorem g_ra_106 {l : Launch} {D : va_G} {K : Nat → ClassId} {ad : Adr} (hl0 : l.stackTraces = false) (σ : Mem) (ch : Int → Int) (len : Int) (hP : P46 σ ch len) (q : Int × Int) (hq : Qk q) (t : Int) (ht : 0 ≤ t ∧ t < 240) : Cb l D K ad yX9_readArguments (.code yX9_readArguments cX9_readArguments 3 none) 5 0 0 (qM σ q) [.ref (ad 0 40), .int (iN 106), .int (iN t)] (.inl none) (qM σ (q.1 - 1, 1)) := by
  refine Cb.of (own := RX9) (ls0 := [some (.ref (ad 0 40)), some (.int (iN 106)), some (.int (iN t))]) hl0 (by decide) rfl (Nat.le_of_ble_eq_true rfl) rfl ?_
  intro X hX1 hX2 hX3 hf he hh
  subst hX1 hX2 hX3
  have q0 := hq.1
  have q1 := hq.2
  have hl := hP.2.2.1
  have hRq := qM_R hP.2.2.2 hq
  have e46 := qM_46 hP (q := q)
  have e21 := qM_21 hP (q := q)
  have e20 : qM σ q 0 40 20 = q.1 := qM_20
  have e22 : qM σ q 0 40 22 = q.2 := qM_22
  refine V_iload_n hf dX9_readArguments_0 rfl rfl ?_
  refine V_tswIn (tgt := 294) hf ⟨by decide, by decide⟩ dX9_readArguments_1 (by decide) (by decide) rfl (by decide) ?_
  refine V_aload_n hf dX9_readArguments_294 rfl rfl ?_
  refine V_iconst hf dX9_readArguments_295 ?_
  refine B_putI (kI := 22) hf rfl l01 rfl fp_X9_246_12 (by decide +kernel) rfl (Nat.le_of_ble_eq_true rfl) (by decide) (cs_40_22 _ _ _ _ _) dX9_readArguments_296 ?_
  rw [qM_w]
  refine V_aload_n hf dX9_readArguments_299 rfl rfl ?_
  refine V_dup hf dX9_readArguments_300 rfl ?_
  refine B_get hf l01 rfl fl_X9_240_12 rfl dX9_readArguments_301 ?_
  refine V_iconst hf dX9_readArguments_304 ?_
  refine V_isub hf dX9_readArguments_305 ?_
  refine B_putI (kI := 20) hf rfl l01 rfl fp_X9_240_12 rfl rfl (Nat.le_of_ble_eq_true rfl) (by decide) (cs_40_20 _ _ _ _ _) dX9_readArguments_306 ?_
  rw [qM_p, show qM σ (q.1, (1 : Int)) 0 40 20 = q.1 from qM_20]
  exact B_vret hf he dX9_readArguments_309 (by decide) (by decide) rfl

set_option maxHeartbeats 4000000 in
set_option maxRecDepth 100000 in
theorem g_ra_107 {l : Launch} {D : va_G} {K : Nat → ClassId} {ad : Adr} (hl0 : l.stackTraces = false) (σ : Mem) (ch : Int → Int) (len : Int) (hP : P46 σ ch len) (q : Int × Int) (hq : Qk q) (t : Int) (ht : 0 ≤ t ∧ t < 240) : Cb l D K ad yX9_readArguments (.code yX9_readArguments cX9_readArguments 3 none) 5 0 0 (qM σ q) [.ref (ad 0 40), .int (iN 107), .int (iN t)] (.inl none) (qM σ (q.1 - 1, 1)) := by
  refine Cb.of (own := RX9) (ls0 := [some (.ref (ad 0 40)), some (.int (iN 107)), some (.int (iN t))]) hl0 (by decide) rfl (Nat.le_of_ble_eq_true rfl) rfl ?_
  intro X hX1 hX2 hX3 hf he hh
  subst hX1 hX2 hX3
  have q0 := hq.1
  have q1 := hq.2
  have hl := hP.2.2.1
  have hRq := qM_R hP.2.2.2 hq
  have e46 := qM_46 hP (q := q)
  have e21 := qM_21 hP (q := q)
  have e20 : qM σ q 0 40 20 = q.1 := qM_20
  have e22 : qM σ q 0 40 22 = q.2 := qM_22
  refine V_iload_n hf dX9_readArguments_0 rfl rfl ?_
  refine V_tswIn (tgt := 294) hf ⟨by decide, by decide⟩ dX9_readArguments_1 (by decide) (by decide) rfl (by decide) ?_
  refine V_aload_n hf dX9_readArguments_294 rfl rfl ?_
  refine V_iconst hf dX9_readArguments_295 ?_
  refine B_putI (kI := 22) hf rfl l01 rfl fp_X9_246_12 (by decide +kernel) rfl (Nat.le_of_ble_eq_true rfl) (by decide) (cs_40_22 _ _ _ _ _) dX9_readArguments_296 ?_
  rw [qM_w]
  refine V_aload_n hf dX9_readArguments_299 rfl rfl ?_
  refine V_dup hf dX9_readArguments_300 rfl ?_
  refine B_get hf l01 rfl fl_X9_240_12 rfl dX9_readArguments_301 ?_
  refine V_iconst hf dX9_readArguments_304 ?_
  refine V_isub hf dX9_readArguments_305 ?_
  refine B_putI (kI := 20) hf rfl l01 rfl fp_X9_240_12 rfl rfl (Nat.le_of_ble_eq_true rfl) (by decide) (cs_40_20 _ _ _ _ _) dX9_readArguments_306 ?_
  rw [qM_p, show qM σ (q.1, (1 : Int)) 0 40 20 = q.1 from qM_20]
  exact B_vret hf he dX9_readArguments_309 (by decide) (by decide) rfl

set_option maxHeartbeats 4000000 in
set_option maxRecDepth 100000 in
theorem g_ra_108 {l : Launch} {D : va_G} {K : Nat → ClassId} {ad : Adr} (hl0 : l.stackTraces = false) (σ : Mem) (ch : Int → Int) (len : Int) (hP : P46 σ ch len) (q : Int × Int) (hq : Qk q) (t : Int) (ht : 0 ≤ t ∧ t < 240) : Cb l D K ad yX9_readArguments (.code yX9_readArguments cX9_readArguments 3 none) 5 0 0 (qM σ q) [.ref (ad 0 40), .int (iN 108), .int (iN t)] (.inl none) (qM σ (q.1 - 1, 1)) := by
  refine Cb.of (own := RX9) (ls0 := [some (.ref (ad 0 40)), some (.int (iN 108)), some (.int (iN t))]) hl0 (by decide) rfl (Nat.le_of_ble_eq_true rfl) rfl ?_
  intro X hX1 hX2 hX3 hf he hh
  subst hX1 hX2 hX3
  have q0 := hq.1
  have q1 := hq.2
  have hl := hP.2.2.1
  have hRq := qM_R hP.2.2.2 hq
  have e46 := qM_46 hP (q := q)
  have e21 := qM_21 hP (q := q)
  have e20 : qM σ q 0 40 20 = q.1 := qM_20
  have e22 : qM σ q 0 40 22 = q.2 := qM_22
  refine V_iload_n hf dX9_readArguments_0 rfl rfl ?_
  refine V_tswIn (tgt := 294) hf ⟨by decide, by decide⟩ dX9_readArguments_1 (by decide) (by decide) rfl (by decide) ?_
  refine V_aload_n hf dX9_readArguments_294 rfl rfl ?_
  refine V_iconst hf dX9_readArguments_295 ?_
  refine B_putI (kI := 22) hf rfl l01 rfl fp_X9_246_12 (by decide +kernel) rfl (Nat.le_of_ble_eq_true rfl) (by decide) (cs_40_22 _ _ _ _ _) dX9_readArguments_296 ?_
  rw [qM_w]
  refine V_aload_n hf dX9_readArguments_299 rfl rfl ?_
  refine V_dup hf dX9_readArguments_300 rfl ?_
  refine B_get hf l01 rfl fl_X9_240_12 rfl dX9_readArguments_301 ?_
  refine V_iconst hf dX9_readArguments_304 ?_
  refine V_isub hf dX9_readArguments_305 ?_
  refine B_putI (kI := 20) hf rfl l01 rfl fp_X9_240_12 rfl rfl (Nat.le_of_ble_eq_true rfl) (by decide) (cs_40_20 _ _ _ _ _) dX9_readArguments_306 ?_
  rw [qM_p, show qM σ (q.1, (1 : Int)) 0 40 20 = q.1 from qM_20]
  exact B_vret hf he dX9_readArguments_309 (by decide) (by decide) rfl

set_option maxHeartbeats 4000000 in
set_option maxRecDepth 100000 in
theorem g_ra_109 {l : Launch} {D : va_G} {K : Nat → ClassId} {ad : Adr} (hl0 : l.stackTraces = false) (σ : Mem) (ch : Int → Int) (len : Int) (hP : P46 σ ch len) (q : Int × Int) (hq : Qk q) (t : Int) (ht : 0 ≤ t ∧ t < 240) : Cb l D K ad yX9_readArguments (.code yX9_readArguments cX9_readArguments 3 none) 5 0 0 (qM σ q) [.ref (ad 0 40), .int (iN 109), .int (iN t)] (.inl none) (qM σ (q.1 - 1, 1)) := by
  refine Cb.of (own := RX9) (ls0 := [some (.ref (ad 0 40)), some (.int (iN 109)), some (.int (iN t))]) hl0 (by decide) rfl (Nat.le_of_ble_eq_true rfl) rfl ?_
  intro X hX1 hX2 hX3 hf he hh
  subst hX1 hX2 hX3
  have q0 := hq.1
  have q1 := hq.2
  have hl := hP.2.2.1
  have hRq := qM_R hP.2.2.2 hq
  have e46 := qM_46 hP (q := q)
  have e21 := qM_21 hP (q := q)
  have e20 : qM σ q 0 40 20 = q.1 := qM_20
  have e22 : qM σ q 0 40 22 = q.2 := qM_22
  refine V_iload_n hf dX9_readArguments_0 rfl rfl ?_
  refine V_tswIn (tgt := 294) hf ⟨by decide, by decide⟩ dX9_readArguments_1 (by decide) (by decide) rfl (by decide) ?_
  refine V_aload_n hf dX9_readArguments_294 rfl rfl ?_
  refine V_iconst hf dX9_readArguments_295 ?_
  refine B_putI (kI := 22) hf rfl l01 rfl fp_X9_246_12 (by decide +kernel) rfl (Nat.le_of_ble_eq_true rfl) (by decide) (cs_40_22 _ _ _ _ _) dX9_readArguments_296 ?_
  rw [qM_w]
  refine V_aload_n hf dX9_readArguments_299 rfl rfl ?_
  refine V_dup hf dX9_readArguments_300 rfl ?_
  refine B_get hf l01 rfl fl_X9_240_12 rfl dX9_readArguments_301 ?_
  refine V_iconst hf dX9_readArguments_304 ?_
  refine V_isub hf dX9_readArguments_305 ?_
  refine B_putI (kI := 20) hf rfl l01 rfl fp_X9_240_12 rfl rfl (Nat.le_of_ble_eq_true rfl) (by decide) (cs_40_20 _ _ _ _ _) dX9_readArguments_306 ?_
  rw [qM_p, show qM σ (q.1, (1 : Int)) 0 40 20 = q.1 from qM_20]
  exact B_vret hf he dX9_readArguments_309 (by decide) (by decide) rfl

set_option maxHeartbeats 4000000 in
set_option maxRecDepth 100000 in
theorem g_ra_110 {l : Launch} {D : va_G} {K : Nat → ClassId} {ad : Adr} (hl0 : l.stackTraces = false) (σ : Mem) (ch : Int → Int) (len : Int) (hP : P46 σ ch len) (q : Int × Int) (hq : Qk q) (t : Int) (ht : 0 ≤ t ∧ t < 240) : Cb l D K ad yX9_readArguments (.code yX9_readArguments cX9_readArguments 3 none) 5 0 0 (qM σ q) [.ref (ad 0 40), .int (iN 110), .int (iN t)] (.inl none) (qM σ (q.1 - 1, 1)) := by
  refine Cb.of (own := RX9) (ls0 := [some (.ref (ad 0 40)), some (.int (iN 110)), some (.int (iN t))]) hl0 (by decide) rfl (Nat.le_of_ble_eq_true rfl) rfl ?_
  intro X hX1 hX2 hX3 hf he hh
  subst hX1 hX2 hX3
  have q0 := hq.1
  have q1 := hq.2
  have hl := hP.2.2.1
  have hRq := qM_R hP.2.2.2 hq
  have e46 := qM_46 hP (q := q)
  have e21 := qM_21 hP (q := q)
  have e20 : qM σ q 0 40 20 = q.1 := qM_20
  have e22 : qM σ q 0 40 22 = q.2 := qM_22
  refine V_iload_n hf dX9_readArguments_0 rfl rfl ?_
  refine V_tswIn (tgt := 294) hf ⟨by decide, by decide⟩ dX9_readArguments_1 (by decide) (by decide) rfl (by decide) ?_
  refine V_aload_n hf dX9_readArguments_294 rfl rfl ?_
  refine V_iconst hf dX9_readArguments_295 ?_
  refine B_putI (kI := 22) hf rfl l01 rfl fp_X9_246_12 (by decide +kernel) rfl (Nat.le_of_ble_eq_true rfl) (by decide) (cs_40_22 _ _ _ _ _) dX9_readArguments_296 ?_
  rw [qM_w]
  refine V_aload_n hf dX9_readArguments_299 rfl rfl ?_
  refine V_dup hf dX9_readArguments_300 rfl ?_
  refine B_get hf l01 rfl fl_X9_240_12 rfl dX9_readArguments_301 ?_
  refine V_iconst hf dX9_readArguments_304 ?_
  refine V_isub hf dX9_readArguments_305 ?_
  refine B_putI (kI := 20) hf rfl l01 rfl fp_X9_240_12 rfl rfl (Nat.le_of_ble_eq_true rfl) (by decide) (cs_40_20 _ _ _ _ _) dX9_readArguments_306 ?_
  rw [qM_p, show qM σ (q.1, (1 : Int)) 0 40 20 = q.1 from qM_20]
  exact B_vret hf he dX9_readArguments_309 (by decide) (by decide) rfl

set_option maxHeartbeats 4000000 in
set_option maxRecDepth 100000 in
theorem g_ra_112 {l : Launch} {D : va_G} {K : Nat → ClassId} {ad : Adr} (hl0 : l.stackTraces = false) (σ : Mem) (ch : Int → Int) (len : Int) (hP : P46 σ ch len) (q : Int × Int) (hq : Qk q) (t : Int) (ht : 0 ≤ t ∧ t < 240) : Cb l D K ad yX9_readArguments (.code yX9_readArguments cX9_readArguments 3 none) 5 0 0 (qM σ q) [.ref (ad 0 40), .int (iN 112), .int (iN t)] (.inl none) (qM σ (q.1 - 1, 1)) := by
  refine Cb.of (own := RX9) (ls0 := [some (.ref (ad 0 40)), some (.int (iN 112)), some (.int (iN t))]) hl0 (by decide) rfl (Nat.le_of_ble_eq_true rfl) rfl ?_
  intro X hX1 hX2 hX3 hf he hh
  subst hX1 hX2 hX3
  have q0 := hq.1
  have q1 := hq.2
  have hl := hP.2.2.1
  have hRq := qM_R hP.2.2.2 hq
  have e46 := qM_46 hP (q := q)
  have e21 := qM_21 hP (q := q)
  have e20 : qM σ q 0 40 20 = q.1 := qM_20
  have e22 : qM σ q 0 40 22 = q.2 := qM_22
  refine V_iload_n hf dX9_readArguments_0 rfl rfl ?_
  refine V_tswIn (tgt := 294) hf ⟨by decide, by decide⟩ dX9_readArguments_1 (by decide) (by decide) rfl (by decide) ?_
  refine V_aload_n hf dX9_readArguments_294 rfl rfl ?_
  refine V_iconst hf dX9_readArguments_295 ?_
  refine B_putI (kI := 22) hf rfl l01 rfl fp_X9_246_12 (by decide +kernel) rfl (Nat.le_of_ble_eq_true rfl) (by decide) (cs_40_22 _ _ _ _ _) dX9_readArguments_296 ?_
  rw [qM_w]
  refine V_aload_n hf dX9_readArguments_299 rfl rfl ?_
  refine V_dup hf dX9_readArguments_300 rfl ?_
  refine B_get hf l01 rfl fl_X9_240_12 rfl dX9_readArguments_301 ?_
  refine V_iconst hf dX9_readArguments_304 ?_
  refine V_isub hf dX9_readArguments_305 ?_
  refine B_putI (kI := 20) hf rfl l01 rfl fp_X9_240_12 rfl rfl (Nat.le_of_ble_eq_true rfl) (by decide) (cs_40_20 _ _ _ _ _) dX9_readArguments_306 ?_
  rw [qM_p, show qM σ (q.1, (1 : Int)) 0 40 20 = q.1 from qM_20]
  exact B_vret hf he dX9_readArguments_309 (by decide) (by decide) rfl

set_option maxHeartbeats 4000000 in
set_option maxRecDepth 100000 in
theorem g_ra_113 {l : Launch} {D : va_G} {K : Nat → ClassId} {ad : Adr} (hl0 : l.stackTraces = false) (σ : Mem) (ch : Int → Int) (len : Int) (hP : P46 σ ch len) (q : Int × Int) (hq : Qk q) (t : Int) (ht : 0 ≤ t ∧ t < 240) : Cb l D K ad yX9_readArguments (.code yX9_readArguments cX9_readArguments 3 none) 5 0 0 (qM σ q) [.ref (ad 0 40), .int (iN 113), .int (iN t)] (.inl none) (qM σ (q.1 - 1, 1)) := by
  refine Cb.of (own := RX9) (ls0 := [some (.ref (ad 0 40)), some (.int (iN 113)), some (.int (iN t))]) hl0 (by decide) rfl (Nat.le_of_ble_eq_true rfl) rfl ?_
  intro X hX1 hX2 hX3 hf he hh
  subst hX1 hX2 hX3
  have q0 := hq.1
  have q1 := hq.2
  have hl := hP.2.2.1
  have hRq := qM_R hP.2.2.2 hq
  have e46 := qM_46 hP (q := q)
  have e21 := qM_21 hP (q := q)
  have e20 : qM σ q 0 40 20 = q.1 := qM_20
  have e22 : qM σ q 0 40 22 = q.2 := qM_22
  refine V_iload_n hf dX9_readArguments_0 rfl rfl ?_
  refine V_tswIn (tgt := 294) hf ⟨by decide, by decide⟩ dX9_readArguments_1 (by decide) (by decide) rfl (by decide) ?_
  refine V_aload_n hf dX9_readArguments_294 rfl rfl ?_
  refine V_iconst hf dX9_readArguments_295 ?_
  refine B_putI (kI := 22) hf rfl l01 rfl fp_X9_246_12 (by decide +kernel) rfl (Nat.le_of_ble_eq_true rfl) (by decide) (cs_40_22 _ _ _ _ _) dX9_readArguments_296 ?_
  rw [qM_w]
  refine V_aload_n hf dX9_readArguments_299 rfl rfl ?_
  refine V_dup hf dX9_readArguments_300 rfl ?_
  refine B_get hf l01 rfl fl_X9_240_12 rfl dX9_readArguments_301 ?_
  refine V_iconst hf dX9_readArguments_304 ?_
  refine V_isub hf dX9_readArguments_305 ?_
  refine B_putI (kI := 20) hf rfl l01 rfl fp_X9_240_12 rfl rfl (Nat.le_of_ble_eq_true rfl) (by decide) (cs_40_20 _ _ _ _ _) dX9_readArguments_306 ?_
  rw [qM_p, show qM σ (q.1, (1 : Int)) 0 40 20 = q.1 from qM_20]
  exact B_vret hf he dX9_readArguments_309 (by decide) (by decide) rfl

set_option maxHeartbeats 4000000 in
set_option maxRecDepth 100000 in
theorem g_ra_114 {l : Launch} {D : va_G} {K : Nat → ClassId} {ad : Adr} (hl0 : l.stackTraces = false) (σ : Mem) (ch : Int → Int) (len : Int) (hP : P46 σ ch len) (q : Int × Int) (hq : Qk q) (t : Int) (ht : 0 ≤ t ∧ t < 240) : Cb l D K ad yX9_readArguments (.code yX9_readArguments cX9_readArguments 3 none) 5 0 0 (qM σ q) [.ref (ad 0 40), .int (iN 114), .int (iN t)] (.inl none) (qM σ (q.1 - 1, 1)) := by
  refine Cb.of (own := RX9) (ls0 := [some (.ref (ad 0 40)), some (.int (iN 114)), some (.int (iN t))]) hl0 (by decide) rfl (Nat.le_of_ble_eq_true rfl) rfl ?_
  intro X hX1 hX2 hX3 hf he hh
  subst hX1 hX2 hX3
  have q0 := hq.1
  have q1 := hq.2
  have hl := hP.2.2.1
  have hRq := qM_R hP.2.2.2 hq
  have e46 := qM_46 hP (q := q)
  have e21 := qM_21 hP (q := q)
  have e20 : qM σ q 0 40 20 = q.1 := qM_20
  have e22 : qM σ q 0 40 22 = q.2 := qM_22
  refine V_iload_n hf dX9_readArguments_0 rfl rfl ?_
  refine V_tswIn (tgt := 294) hf ⟨by decide, by decide⟩ dX9_readArguments_1 (by decide) (by decide) rfl (by decide) ?_
  refine V_aload_n hf dX9_readArguments_294 rfl rfl ?_
  refine V_iconst hf dX9_readArguments_295 ?_
  refine B_putI (kI := 22) hf rfl l01 rfl fp_X9_246_12 (by decide +kernel) rfl (Nat.le_of_ble_eq_true rfl) (by decide) (cs_40_22 _ _ _ _ _) dX9_readArguments_296 ?_
  rw [qM_w]
  refine V_aload_n hf dX9_readArguments_299 rfl rfl ?_
  refine V_dup hf dX9_readArguments_300 rfl ?_
  refine B_get hf l01 rfl fl_X9_240_12 rfl dX9_readArguments_301 ?_
  refine V_iconst hf dX9_readArguments_304 ?_
  refine V_isub hf dX9_readArguments_305 ?_
  refine B_putI (kI := 20) hf rfl l01 rfl fp_X9_240_12 rfl rfl (Nat.le_of_ble_eq_true rfl) (by decide) (cs_40_20 _ _ _ _ _) dX9_readArguments_306 ?_
  rw [qM_p, show qM σ (q.1, (1 : Int)) 0 40 20 = q.1 from qM_20]
  exact B_vret hf he dX9_readArguments_309 (by decide) (by decide) rfl

set_option maxHeartbeats 4000000 in
set_option maxRecDepth 100000 in
theorem g_ra_117 {l : Launch} {D : va_G} {K : Nat → ClassId} {ad : Adr} (hl0 : l.stackTraces = false) (σ : Mem) (ch : Int → Int) (len : Int) (hP : P46 σ ch len) (q : Int × Int) (hq : Qk q) (t : Int) (ht : 0 ≤ t ∧ t < 240) : Cb l D K ad yX9_readArguments (.code yX9_readArguments cX9_readArguments 3 none) 5 0 0 (qM σ q) [.ref (ad 0 40), .int (iN 117), .int (iN t)] (.inl none) (qM σ (q.1 - 1, 1)) := by
  refine Cb.of (own := RX9) (ls0 := [some (.ref (ad 0 40)), some (.int (iN 117)), some (.int (iN t))]) hl0 (by decide) rfl (Nat.le_of_ble_eq_true rfl) rfl ?_
  intro X hX1 hX2 hX3 hf he hh
  subst hX1 hX2 hX3
  have q0 := hq.1
  have q1 := hq.2
  have hl := hP.2.2.1
  have hRq := qM_R hP.2.2.2 hq
  have e46 := qM_46 hP (q := q)
  have e21 := qM_21 hP (q := q)
  have e20 : qM σ q 0 40 20 = q.1 := qM_20
  have e22 : qM σ q 0 40 22 = q.2 := qM_22
  refine V_iload_n hf dX9_readArguments_0 rfl rfl ?_
  refine V_tswIn (tgt := 294) hf ⟨by decide, by decide⟩ dX9_readArguments_1 (by decide) (by decide) rfl (by decide) ?_
  refine V_aload_n hf dX9_readArguments_294 rfl rfl ?_
  refine V_iconst hf dX9_readArguments_295 ?_
  refine B_putI (kI := 22) hf rfl l01 rfl fp_X9_246_12 (by decide +kernel) rfl (Nat.le_of_ble_eq_true rfl) (by decide) (cs_40_22 _ _ _ _ _) dX9_readArguments_296 ?_
  rw [qM_w]
  refine V_aload_n hf dX9_readArguments_299 rfl rfl ?_
  refine V_dup hf dX9_readArguments_300 rfl ?_
  refine B_get hf l01 rfl fl_X9_240_12 rfl dX9_readArguments_301 ?_
  refine V_iconst hf dX9_readArguments_304 ?_
  refine V_isub hf dX9_readArguments_305 ?_
  refine B_putI (kI := 20) hf rfl l01 rfl fp_X9_240_12 rfl rfl (Nat.le_of_ble_eq_true rfl) (by decide) (cs_40_20 _ _ _ _ _) dX9_readArguments_306 ?_
  rw [qM_p, show qM σ (q.1, (1 : Int)) 0 40 20 = q.1 from qM_20]
  exact B_vret hf he dX9_readArguments_309 (by decide) (by decide) rfl

set_option maxHeartbeats 4000000 in
set_option maxRecDepth 100000 in
theorem g_ra_118 {l : Launch} {D : va_G} {K : Nat → ClassId} {ad : Adr} (hl0 : l.stackTraces = false) (σ : Mem) (ch : Int → Int) (len : Int) (hP : P46 σ ch len) (q : Int × Int) (hq : Qk q) (t : Int) (ht : 0 ≤ t ∧ t < 240) : Cb l D K ad yX9_readArguments (.code yX9_readArguments cX9_readArguments 3 none) 5 0 0 (qM σ q) [.ref (ad 0 40), .int (iN 118), .int (iN t)] (.inl none) (qM σ (q.1 - 1, 1)) := by
  refine Cb.of (own := RX9) (ls0 := [some (.ref (ad 0 40)), some (.int (iN 118)), some (.int (iN t))]) hl0 (by decide) rfl (Nat.le_of_ble_eq_true rfl) rfl ?_
  intro X hX1 hX2 hX3 hf he hh
  subst hX1 hX2 hX3
  have q0 := hq.1
  have q1 := hq.2
  have hl := hP.2.2.1
  have hRq := qM_R hP.2.2.2 hq
  have e46 := qM_46 hP (q := q)
  have e21 := qM_21 hP (q := q)
  have e20 : qM σ q 0 40 20 = q.1 := qM_20
  have e22 : qM σ q 0 40 22 = q.2 := qM_22
  refine V_iload_n hf dX9_readArguments_0 rfl rfl ?_
  refine V_tswIn (tgt := 294) hf ⟨by decide, by decide⟩ dX9_readArguments_1 (by decide) (by decide) rfl (by decide) ?_
  refine V_aload_n hf dX9_readArguments_294 rfl rfl ?_
  refine V_iconst hf dX9_readArguments_295 ?_
  refine B_putI (kI := 22) hf rfl l01 rfl fp_X9_246_12 (by decide +kernel) rfl (Nat.le_of_ble_eq_true rfl) (by decide) (cs_40_22 _ _ _ _ _) dX9_readArguments_296 ?_
  rw [qM_w]
  refine V_aload_n hf dX9_readArguments_299 rfl rfl ?_
  refine V_dup hf dX9_readArguments_300 rfl ?_
  refine B_get hf l01 rfl fl_X9_240_12 rfl dX9_readArguments_301 ?_
  refine V_iconst hf dX9_readArguments_304 ?_
  refine V_isub hf dX9_readArguments_305 ?_
  refine B_putI (kI := 20) hf rfl l01 rfl fp_X9_240_12 rfl rfl (Nat.le_of_ble_eq_true rfl) (by decide) (cs_40_20 _ _ _ _ _) dX9_readArguments_306 ?_
  rw [qM_p, show qM σ (q.1, (1 : Int)) 0 40 20 = q.1 from qM_20]
  exact B_vret hf he dX9_readArguments_309 (by decide) (by decide) rfl

set_option maxHeartbeats 4000000 in
set_option maxRecDepth 100000 in
theorem g_ra_119 {l : Launch} {D : va_G} {K : Nat → ClassId} {ad : Adr} (hl0 : l.stackTraces = false) (σ : Mem) (ch : Int → Int) (len : Int) (hP : P46 σ ch len) (q : Int × Int) (hq : Qk q) (t : Int) (ht : 0 ≤ t ∧ t < 240) : Cb l D K ad yX9_readArguments (.code yX9_readArguments cX9_readArguments 3 none) 5 0 0 (qM σ q) [.ref (ad 0 40), .int (iN 119), .int (iN t)] (.inl none) (qM σ (q.1 - 1, 1)) := by
  refine Cb.of (own := RX9) (ls0 := [some (.ref (ad 0 40)), some (.int (iN 119)), some (.int (iN t))]) hl0 (by decide) rfl (Nat.le_of_ble_eq_true rfl) rfl ?_
  intro X hX1 hX2 hX3 hf he hh
  subst hX1 hX2 hX3
  have q0 := hq.1
  have q1 := hq.2
  have hl := hP.2.2.1
  have hRq := qM_R hP.2.2.2 hq
  have e46 := qM_46 hP (q := q)
  have e21 := qM_21 hP (q := q)
  have e20 : qM σ q 0 40 20 = q.1 := qM_20
  have e22 : qM σ q 0 40 22 = q.2 := qM_22
  refine V_iload_n hf dX9_readArguments_0 rfl rfl ?_
  refine V_tswIn (tgt := 294) hf ⟨by decide, by decide⟩ dX9_readArguments_1 (by decide) (by decide) rfl (by decide) ?_
  refine V_aload_n hf dX9_readArguments_294 rfl rfl ?_
  refine V_iconst hf dX9_readArguments_295 ?_
  refine B_putI (kI := 22) hf rfl l01 rfl fp_X9_246_12 (by decide +kernel) rfl (Nat.le_of_ble_eq_true rfl) (by decide) (cs_40_22 _ _ _ _ _) dX9_readArguments_296 ?_
  rw [qM_w]
  refine V_aload_n hf dX9_readArguments_299 rfl rfl ?_
  refine V_dup hf dX9_readArguments_300 rfl ?_
  refine B_get hf l01 rfl fl_X9_240_12 rfl dX9_readArguments_301 ?_
  refine V_iconst hf dX9_readArguments_304 ?_
  refine V_isub hf dX9_readArguments_305 ?_
  refine B_putI (kI := 20) hf rfl l01 rfl fp_X9_240_12 rfl rfl (Nat.le_of_ble_eq_true rfl) (by decide) (cs_40_20 _ _ _ _ _) dX9_readArguments_306 ?_
  rw [qM_p, show qM σ (q.1, (1 : Int)) 0 40 20 = q.1 from qM_20]
  exact B_vret hf he dX9_readArguments_309 (by decide) (by decide) rfl

set_option maxHeartbeats 4000000 in
set_option maxRecDepth 100000 in
theorem g_ra_out {l : Launch} {D : va_G} {K : Nat → ClassId} {ad : Adr} (hl0 : l.stackTraces = false) (σ : Mem) (ch : Int → Int) (len : Int) (hP : P46 σ ch len) (q : Int × Int) (hq : Qk q) (t : Int) (ht : 0 ≤ t ∧ t < 240) (z : Int) (hz : inR z) (ho : z < 97 ∨ 121 < z) : Cb l D K ad yX9_readArguments (.code yX9_readArguments cX9_readArguments 3 none) 5 0 0 (qM σ q) [.ref (ad 0 40), .int (iN z), .int (iN t)] (.inl none) (qM σ (q.1 - 1, 1)) := by
  refine Cb.of (own := RX9) (ls0 := [some (.ref (ad 0 40)), some (.int (iN z)), some (.int (iN t))]) hl0 (by decide) rfl (Nat.le_of_ble_eq_true rfl) rfl ?_
  intro X hX1 hX2 hX3 hf he hh
  subst hX1 hX2 hX3
  have q0 := hq.1
  have q1 := hq.2
  have hl := hP.2.2.1
  have hRq := qM_R hP.2.2.2 hq
  have e46 := qM_46 hP (q := q)
  have e21 := qM_21 hP (q := q)
  have e20 : qM σ q 0 40 20 = q.1 := qM_20
  have e22 : qM σ q 0 40 22 = q.2 := qM_22
  refine V_iload_n hf dX9_readArguments_0 rfl rfl ?_
  refine V_tswOut (tgt := 294) hf hz dX9_readArguments_1 ho (by decide) ?_
  refine V_aload_n hf dX9_readArguments_294 rfl rfl ?_
  refine V_iconst hf dX9_readArguments_295 ?_
  refine B_putI (kI := 22) hf rfl l01 rfl fp_X9_246_12 (by decide +kernel) rfl (Nat.le_of_ble_eq_true rfl) (by decide) (cs_40_22 _ _ _ _ _) dX9_readArguments_296 ?_
  rw [qM_w]
  refine V_aload_n hf dX9_readArguments_299 rfl rfl ?_
  refine V_dup hf dX9_readArguments_300 rfl ?_
  refine B_get hf l01 rfl fl_X9_240_12 rfl dX9_readArguments_301 ?_
  refine V_iconst hf dX9_readArguments_304 ?_
  refine V_isub hf dX9_readArguments_305 ?_
  refine B_putI (kI := 20) hf rfl l01 rfl fp_X9_240_12 rfl rfl (Nat.le_of_ble_eq_true rfl) (by decide) (cs_40_20 _ _ _ _ _) dX9_readArguments_306 ?_
  rw [qM_p, show qM σ (q.1, (1 : Int)) 0 40 20 = q.1 from qM_20]
  exact B_vret hf he dX9_readArguments_309 (by decide) (by decide) rfl

theorem g_ra_none {l : Launch} {D : va_G} {K : Nat → ClassId} {ad : Adr} (hl0 : l.stackTraces = false) (σ : Mem) (ch : Int → Int) (len : Int) (hP : P46 σ ch len) (q : Int × Int) (hq : Qk q) (t : Int) (ht : 0 ≤ t ∧ t < 240) (z : Int) (hz : inR z) (hn : z ≠ 115 ∧ z ≠ 97 ∧ z ≠ 99 ∧ z ≠ 98 ∧ z ≠ 111 ∧ z ≠ 120 ∧ z ≠ 121 ∧ z ≠ 116 ∧ z ≠ 102) : Cb l D K ad yX9_readArguments (.code yX9_readArguments cX9_readArguments 3 none) 5 0 0 (qM σ q) [.ref (ad 0 40), .int (iN z), .int (iN t)] (.inl none) (qM σ (q.1 - 1, 1)) := by
  by_cases ho : z < 97 ∨ 121 < z
  · exact g_ra_out hl0 σ ch len hP q hq t ht z hz ho
  · rcases (show z = 100 ∨ z = 101 ∨ z = 103 ∨ z = 104 ∨ z = 105 ∨ z = 106 ∨ z = 107 ∨ z = 108 ∨ z = 109 ∨ z = 110 ∨ z = 112 ∨ z = 113 ∨ z = 114 ∨ z = 117 ∨ z = 118 ∨ z = 119 by omega) with rfl | rfl | rfl | rfl | rfl | rfl | rfl | rfl | rfl | rfl | rfl | rfl | rfl | rfl | rfl | rfl
    · exact g_ra_100 hl0 σ ch len hP q hq t ht
    · exact g_ra_101 hl0 σ ch len hP q hq t ht
    · exact g_ra_103 hl0 σ ch len hP q hq t ht
    · exact g_ra_104 hl0 σ ch len hP q hq t ht
    · exact g_ra_105 hl0 σ ch len hP q hq t ht
    · exact g_ra_106 hl0 σ ch len hP q hq t ht
    · exact g_ra_107 hl0 σ ch len hP q hq t ht
    · exact g_ra_108 hl0 σ ch len hP q hq t ht
    · exact g_ra_109 hl0 σ ch len hP q hq t ht
    · exact g_ra_110 hl0 σ ch len hP q hq t ht
    · exact g_ra_112 hl0 σ ch len hP q hq t ht
    · exact g_ra_113 hl0 σ ch len hP q hq t ht
    · exact g_ra_114 hl0 σ ch len hP q hq t ht
    · exact g_ra_117 hl0 σ ch len hP q hq t ht
    · exact g_ra_118 hl0 σ ch len hP q hq t ht
    · exact g_ra_119 hl0 σ ch len hP q hq t ht