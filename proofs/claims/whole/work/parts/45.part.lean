/-! the parts of a command -/
def cStep (ch : Int → Int) (len n c : Int) (σ : Mem) (p : Int) : Mem × Int × Int :=
  if c ≠ 78 ∧ c ≠ 68 then (if mHere ch len p = c then (σ, p + 1, 1) else (σ, p, 0))
  else if c = 78 then (if (mNum ch len (p, 0)).2.2 = 0 then (st3 (st3 σ n 30 (σ 0 26 4) (mNum ch len (p, 0)).1) 0 26 4 (σ 0 26 4 + 1), (mNum ch len (p, 0)).2.1, 1) else (σ, p, 0))
  else (if (mDig ch len (p, 0)).2.2 = 0 then (st3 (st3 σ n 30 (σ 0 26 4) (mDig ch len (p, 0)).1) 0 26 4 (σ 0 26 4 + 1), (mDig ch len (p, 0)).2.1, 1) else (σ, p, 0))
def fmN (i : Nat) (k : Int) : Int := (([[0, 0, 1, 1, 2, 2], [0, 0, 1, 2, 2, 2], [0, 0, 1, 1, 2, 2], [0, 0, 1, 2, 2, 3], [0, 0, 1, 1, 2, 2], [0, 0, 1, 1, 1, 1], [0, 0, 1, 1, 1, 1], [0, 0, 0, 0, 0, 0], [0, 0, 1, 1, 1, 1], [0, 0, 0, 0, 0, 0]] : List (List Int)).getD i []).getD k.toNat 0
theorem fmN_ok : ∀ i : Nat, i < 10 → ∀ k : Nat, k < 5 → (((k : Int) < fmL i ∧ 1 ≤ k ∧ (fmB i (k : Int) = 78 ∨ fmB i (k : Int) = 68)) → fmN i (k : Int) < 3 ∧ fmN i ((k : Int) + 1) = fmN i (k : Int) + 1) ∧ (((k : Int) < fmL i ∧ 1 ≤ k ∧ ¬ (fmB i (k : Int) = 78 ∨ fmB i (k : Int) = 68)) → fmN i ((k : Int) + 1) = fmN i (k : Int)) ∧ 0 ≤ fmN i (k : Int) := by decide +kernel
/-- the parts of a form from the j-th on -/
def cRun (ch : Int → Int) (len n : Int) (i : Nat) : Nat → Int → Mem → Int → Mem × Int × Int
  | 0, _, σ, p => (σ, p, 1)
  | f + 1, j, σ, p =>
    if j < fmL i then (if (cStep ch len n (fmB i j) σ p).2.2 = 0 then cStep ch len n (fmB i j) σ p else cRun ch len n i f (j + 1) (cStep ch len n (fmB i j) σ p).1 (cStep ch len n (fmB i j) σ p).2.1)
    else (σ, p, 1)
def fmI (z : Int) : Nat := if z = 115 then 0 else if z = 97 then 1 else if z = 99 then 2 else if z = 98 then 3 else if z = 111 then 4 else if z = 120 then 5 else if z = 121 then 6 else if z = 116 then 7 else if z = 102 then 8 else 9
theorem fmI_r (z : Int) : fmI z < 10 := by
  unfold fmI
  repeat' split
  all_goals decide
def cRead (ch : Int → Int) (len n : Int) (σ : Mem) (p : Int) : Mem × Int × Int :=
  if len ≤ p then (σ, p, 0)
  else if fmL (fmI (ch p)) = 0 then (σ, p, 0)
  else cRun ch len n (fmI (ch p)) 5 1 (st3 (st3 σ 0 28 n (ch p)) 0 26 4 0) (p + 1)
theorem mDig_0 {ch : Int → Int} {len p : Int} : (mDig ch len (p, 0)).2.2 = 0 ↔ 48 ≤ mHere ch len p ∧ mHere ch len p ≤ 57 := by
  unfold mDig
  dsimp only
  split
  · rename_i h
    exact ⟨fun _ => h.2, fun _ => rfl⟩
  · rename_i h
    exact ⟨fun z => absurd z (by dsimp only; decide), fun z => absurd ⟨rfl, z⟩ h⟩
theorem mDig_v {ch : Int → Int} {len p : Int} (h : 48 ≤ mHere ch len p ∧ mHere ch len p ≤ 57) : mDig ch len (p, 0) = (mHere ch len p - 48, p + 1, 0) := if_pos ⟨rfl, h⟩
theorem mHere_d {ch : Int → Int} {len p : Int} (h : 48 ≤ mHere ch len p) : p < len ∧ mHere ch len p = ch p := by
  unfold mHere at h ⊢
  split at h
  · rename_i q
    exact ⟨q, if_pos q⟩
  · omega
theorem mNum_1 {ch : Int → Int} {len p : Int} (h : 48 ≤ mHere ch len p ∧ mHere ch len p ≤ 57) (h2 : ¬ (48 ≤ mHere ch len (p + 1) ∧ mHere ch len (p + 1) ≤ 57)) : mNum ch len (p, 0) = (mHere ch len p - 48, p + 1, 0) := by
  unfold mNum
  rw [mDig_v h, if_neg (fun z => h2 z.2)]
theorem mNum_2 {ch : Int → Int} {len p : Int} (h : 48 ≤ mHere ch len p ∧ mHere ch len p ≤ 57) (h2 : 48 ≤ mHere ch len (p + 1) ∧ mHere ch len (p + 1) ≤ 57) : mNum ch len (p, 0) = (10 * (mHere ch len p - 48) + (mHere ch len (p + 1) - 48), p + 1 + 1, 0) := by
  unfold mNum
  rw [mDig_v h, if_pos ⟨rfl, h2⟩, mDig_v h2]
theorem mNum_0 {ch : Int → Int} {len p : Int} : (mNum ch len (p, 0)).2.2 = 0 ↔ 48 ≤ mHere ch len p ∧ mHere ch len p ≤ 57 := by
  by_cases h : 48 ≤ mHere ch len p ∧ mHere ch len p ≤ 57
  · by_cases h2 : 48 ≤ mHere ch len (p + 1) ∧ mHere ch len (p + 1) ≤ 57
    · rw [mNum_2 h h2]
      exact ⟨fun _ => h, fun _ => rfl⟩
    · rw [mNum_1 h h2]
      exact ⟨fun _ => h, fun _ => rfl⟩
  · unfold mNum
    have e : (mDig ch len (p, 0)).2.2 ≠ 0 := fun z => h (mDig_0.mp z)
    rw [if_neg (fun z => e z.1)]
    exact mDig_0
theorem cStep_p {ch : Int → Int} {len n c : Int} {σ : Mem} {p : Int} (hP : C6 σ ch len) (hp : 0 ≤ p ∧ p ≤ 60) (hc : 0 ≤ c) (hf : c = 78 ∨ c = 68 → 0 ≤ σ 0 26 4 ∧ σ 0 26 4 < 3) : C6 (cStep ch len n c σ p).1 ch len ∧ ((cStep ch len n c σ p).2.2 = 0 ∨ (cStep ch len n c σ p).2.2 = 1) ∧ 0 ≤ (cStep ch len n c σ p).2.1 ∧ (cStep ch len n c σ p).2.1 ≤ 60 ∧ ((cStep ch len n c σ p).2.2 = 1 → (cStep ch len n c σ p).1 0 26 4 = if c = 78 ∨ c = 68 then σ 0 26 4 + 1 else σ 0 26 4) ∧ ((cStep ch len n c σ p).2.2 = 1 → p + 1 ≤ (cStep ch len n c σ p).2.1) ∧ ((cStep ch len n c σ p).2.2 = 0 → (cStep ch len n c σ p).2.1 = p) := by
  have hl := hP.2.2.1
  unfold cStep
  split
  · rename_i h1
    split
    · rename_i h2
      have h3 : p < len := by
        unfold mHere at h2
        split at h2 <;> omega
      exact ⟨hP, Or.inr rfl, by dsimp only; omega, by dsimp only; omega, fun _ => (if_neg (by omega)).symm, fun _ => Int.le_refl _, fun z => absurd z (by dsimp only; decide)⟩
    · exact ⟨hP, Or.inl rfl, hp.1, hp.2, fun z => absurd z (by dsimp only; decide), fun z => absurd z (by dsimp only; decide), fun _ => rfl⟩
  · rename_i h1
    have h9 : c = 78 ∨ c = 68 := by omega
    have hf := hf h9
    split
    · split
      · rename_i h2 h3
        have hz := mNum_0.mp h3
        have hq := mNum_q (ch := ch) (len := len) (q := (p, 0)) ⟨⟨hp.1, by dsimp only; omega⟩, by dsimp only; decide, by dsimp only; decide⟩ hl.2
        have hm := mDig_m (ch := ch) (len := len) (q := (p, 0))
        have h6 := hq.2.2.2.2 h3
        have hge : p + 1 ≤ (mNum ch len (p, 0)).2.1 := by
          by_cases hy : 48 ≤ mHere ch len (p + 1) ∧ mHere ch len (p + 1) ≤ 57
          · rw [mNum_2 hz hy]; dsimp only; omega
          · rw [mNum_1 hz hy]; exact Int.le_refl _
        exact ⟨(hP.st ⟨by omega, by omega⟩ (by decide) (fun q => absurd q.1 (by decide))).st ⟨by omega, by omega⟩ (by decide) (by decide), Or.inr rfl, by dsimp only; omega, h6, fun _ => by dsimp only; rw [st3_self]; first | done | rw [if_pos h9], fun _ => hge, fun z => absurd z (by dsimp only; decide)⟩
      · exact ⟨hP, Or.inl rfl, hp.1, hp.2, fun z => absurd z (by dsimp only; decide), fun z => absurd z (by dsimp only; decide), fun _ => rfl⟩
    · split
      · rename_i h2 h3
        have hz := mDig_0.mp h3
        have hh := mHere_d hz.1
        rw [mDig_v hz]
        exact ⟨(hP.st ⟨by dsimp only; omega, by dsimp only; omega⟩ (by decide) (fun q => absurd q.1 (by decide))).st ⟨by omega, by omega⟩ (by decide) (by decide), Or.inr rfl, by dsimp only; omega, by dsimp only; omega, fun _ => by dsimp only; rw [st3_self]; first | done | rw [if_pos h9], fun _ => Int.le_refl _, fun z => absurd z (by dsimp only; decide)⟩
      · exact ⟨hP, Or.inl rfl, hp.1, hp.2, fun z => absurd z (by dsimp only; decide), fun z => absurd z (by dsimp only; decide), fun _ => rfl⟩
set_option maxHeartbeats 4000000 in
set_option maxRecDepth 100000 in
theorem y_ps_o {l : Launch} {D : va_G} {K : Nat → ClassId} {ad : Adr} (hl0 : l.stackTraces = false) (σ : Mem) (ch : Int → Int) (len : Int) (hP : C6 σ ch len) (p : Int) (hp : 0 ≤ p ∧ p ≤ 60) (n c : Int) (hc : 0 ≤ c ∧ c < 128) (hc2 : c ≠ 78 ∧ c ≠ 68) (hz : mHere ch len p = c) : Cb l D K ad yX6_readPart (.code yX6_readPart cX6_readPart 4 (some .boolean)) 2 0 0 (aM σ p) [.ref (ad 0 26), .int (iN n), .int (iN c)] (.inl (some (.int (iN (1))))) (aM σ (p + 1)) := by
  refine Cb.of (own := RX6) (ls0 := [some (.ref (ad 0 26)), some (.int (iN n)), some (.int (iN c)), none]) hl0 (by decide) rfl (Nat.le_of_ble_eq_true rfl) rfl ?_
  intro X hX1 hX2 hX3 hf he hh
  subst hX1 hX2 hX3
  have hl := hP.2.2.1
  have hRp := aM_R hP.2.2.2.2 (p := p) ⟨hp.1, by omega⟩
  have e2 : aM σ p 0 26 2 = p := aM_2
  have e1 : aM σ p 0 26 1 = len := (aM_k (by decide)).trans hP.2.1
  have ec : ∀ k : Int, 0 ≤ k → k < len → aM σ p 0 27 k = ch k := fun k h0 h1 => (aM_j (by decide)).trans (hP.1 k h0 h1)
  have eh : p < len → mHere ch len p = ch p := fun h => if_pos h
  have eh2 : ¬ p < len → mHere ch len p = -1 := fun h => if_neg h
  refine V_iload_n hf dX6_readPart_0 rfl rfl ?_
  refine V_bipush hf dX6_readPart_1 (by decide +kernel) ?_
  refine V_icmp_eq (tgt := 18) hf ⟨by omega, by omega⟩ ⟨by decide, by decide⟩ dX6_readPart_3 (by decide) (fun h3 => ?_) (fun h3 => ?_)
  · exact absurd h3 (by omega)
  · refine V_iload_n hf dX6_readPart_6 rfl rfl ?_
    refine V_bipush hf dX6_readPart_7 (by decide +kernel) ?_
    refine V_icmp_eq (tgt := 18) hf ⟨by omega, by omega⟩ ⟨by decide, by decide⟩ dX6_readPart_9 (by decide) (fun h9 => ?_) (fun h9 => ?_)
    · exact absurd h9 (by omega)
    · refine V_aload_n hf dX6_readPart_12 rfl rfl ?_
      refine V_iload_n hf dX6_readPart_13 rfl rfl ?_
      refine B_callVi hf (As := [_]) (y_sign_o hl0 σ ch len hP p hp c hc hz) cv_X6_40 l01 rfl rfl rfl (Nat.le_of_ble_eq_true rfl) ⟨by decide, by decide, by decide, by decide⟩ dX6_readPart_14 ?_
      exact B_iret hf he (by decide +kernel) dX6_readPart_17 (by decide) (by decide) rfl rfl

set_option maxHeartbeats 4000000 in
set_option maxRecDepth 100000 in
theorem y_ps_n {l : Launch} {D : va_G} {K : Nat → ClassId} {ad : Adr} (hl0 : l.stackTraces = false) (σ : Mem) (ch : Int → Int) (len : Int) (hP : C6 σ ch len) (p : Int) (hp : 0 ≤ p ∧ p ≤ 60) (n c : Int) (hc : 0 ≤ c ∧ c < 128) (hc2 : c ≠ 78 ∧ c ≠ 68) (hz : ¬ mHere ch len p = c) : Cb l D K ad yX6_readPart (.code yX6_readPart cX6_readPart 4 (some .boolean)) 2 0 0 (aM σ p) [.ref (ad 0 26), .int (iN n), .int (iN c)] (.inl (some (.int (iN (0))))) (aM σ p) := by
  refine Cb.of (own := RX6) (ls0 := [some (.ref (ad 0 26)), some (.int (iN n)), some (.int (iN c)), none]) hl0 (by decide) rfl (Nat.le_of_ble_eq_true rfl) rfl ?_
  intro X hX1 hX2 hX3 hf he hh
  subst hX1 hX2 hX3
  have hl := hP.2.2.1
  have hRp := aM_R hP.2.2.2.2 (p := p) ⟨hp.1, by omega⟩
  have e2 : aM σ p 0 26 2 = p := aM_2
  have e1 : aM σ p 0 26 1 = len := (aM_k (by decide)).trans hP.2.1
  have ec : ∀ k : Int, 0 ≤ k → k < len → aM σ p 0 27 k = ch k := fun k h0 h1 => (aM_j (by decide)).trans (hP.1 k h0 h1)
  have eh : p < len → mHere ch len p = ch p := fun h => if_pos h
  have eh2 : ¬ p < len → mHere ch len p = -1 := fun h => if_neg h
  refine V_iload_n hf dX6_readPart_0 rfl rfl ?_
  refine V_bipush hf dX6_readPart_1 (by decide +kernel) ?_
  refine V_icmp_eq (tgt := 18) hf ⟨by omega, by omega⟩ ⟨by decide, by decide⟩ dX6_readPart_3 (by decide) (fun h3 => ?_) (fun h3 => ?_)
  · exact absurd h3 (by omega)
  · refine V_iload_n hf dX6_readPart_6 rfl rfl ?_
    refine V_bipush hf dX6_readPart_7 (by decide +kernel) ?_
    refine V_icmp_eq (tgt := 18) hf ⟨by omega, by omega⟩ ⟨by decide, by decide⟩ dX6_readPart_9 (by decide) (fun h9 => ?_) (fun h9 => ?_)
    · exact absurd h9 (by omega)
    · refine V_aload_n hf dX6_readPart_12 rfl rfl ?_
      refine V_iload_n hf dX6_readPart_13 rfl rfl ?_
      refine B_callVi hf (As := [_]) (y_sign_n hl0 σ ch len hP p hp c hc hz) cv_X6_40 l01 rfl rfl rfl (Nat.le_of_ble_eq_true rfl) ⟨by decide, by decide, by decide, by decide⟩ dX6_readPart_14 ?_
      exact B_iret hf he (by decide +kernel) dX6_readPart_17 (by decide) (by decide) rfl rfl

set_option maxHeartbeats 4000000 in
set_option maxRecDepth 100000 in
theorem y_pd_o {l : Launch} {D : va_G} {K : Nat → ClassId} {ad : Adr} (hl0 : l.stackTraces = false) (σ : Mem) (ch : Int → Int) (len : Int) (hP : C6 σ ch len) (p : Int) (hp : 0 ≤ p ∧ p ≤ 60) (n : Int) (hn : 0 ≤ n ∧ n < 30) (hf4 : 0 ≤ σ 0 26 4 ∧ σ 0 26 4 < 3) (hz : 48 ≤ mHere ch len p ∧ mHere ch len p ≤ 57) : Cb l D K ad yX6_readPart (.code yX6_readPart cX6_readPart 4 (some .boolean)) 2 0 0 (aM σ p) [.ref (ad 0 26), .int (iN n), .int (iN 68)] (.inl (some (.int (iN (1))))) (aM (st3 (st3 σ n 30 (σ 0 26 4) (mHere ch len p - 48)) 0 26 4 (σ 0 26 4 + 1)) (p + 1)) := by
  refine Cb.of (own := RX6) (ls0 := [some (.ref (ad 0 26)), some (.int (iN n)), some (.int (iN 68)), none]) hl0 (by decide) rfl (Nat.le_of_ble_eq_true rfl) rfl ?_
  intro X hX1 hX2 hX3 hf he hh
  subst hX1 hX2 hX3
  have hl := hP.2.2.1
  have hRp := aM_R hP.2.2.2.2 (p := p) ⟨hp.1, by omega⟩
  have e2 : aM σ p 0 26 2 = p := aM_2
  have e1 : aM σ p 0 26 1 = len := (aM_k (by decide)).trans hP.2.1
  have ec : ∀ k : Int, 0 ≤ k → k < len → aM σ p 0 27 k = ch k := fun k h0 h1 => (aM_j (by decide)).trans (hP.1 k h0 h1)
  have eh : p < len → mHere ch len p = ch p := fun h => if_pos h
  have eh2 : ¬ p < len → mHere ch len p = -1 := fun h => if_neg h
  refine V_iload_n hf dX6_readPart_0 rfl rfl ?_
  refine V_bipush hf dX6_readPart_1 (by decide +kernel) ?_
  refine V_icmp_eq (tgt := 18) hf ⟨by decide, by decide⟩ ⟨by decide, by decide⟩ dX6_readPart_3 (by decide) (fun h3 => ?_) (fun h3 => ?_)
  · exact absurd h3 (by decide)
  · refine V_iload_n hf dX6_readPart_6 rfl rfl ?_
    refine V_bipush hf dX6_readPart_7 (by decide +kernel) ?_
    refine V_icmp_eq (tgt := 18) hf ⟨by decide, by decide⟩ ⟨by decide, by decide⟩ dX6_readPart_9 (by decide) (fun h9 => ?_) (fun h9 => ?_)
    · refine V_aload_n hf dX6_readPart_18 rfl rfl ?_
      refine B_callVi hf (As := []) (y_isDig hl0 σ ch len hP p hp) cv_X6_85 l01 rfl rfl rfl (Nat.le_of_ble_eq_true rfl) ⟨by decide, by decide, by decide, by decide⟩ dX6_readPart_19 ?_
      rw [if_pos hz]
      refine V_if_ne (tgt := 27) hf ⟨by decide, by decide⟩ dX6_readPart_22 (by decide) (fun h22 => ?_) (fun h22 => ?_)
      · refine V_aload_n hf dX6_readPart_27 rfl rfl ?_
        refine B_callVi hf (As := []) (y_take hl0 σ ch len hP p hp (mHere_d hz.1).1) cv_X6_88 l01 rfl rfl rfl (Nat.le_of_ble_eq_true rfl) ⟨by decide, by decide, by decide, by decide⟩ dX6_readPart_28 ?_
        rw [← (mHere_d hz.1).2]
        refine V_istore_n (ls2 := [_, _, _, _]) hf dX6_readPart_31 rfl (by decide) rfl rfl ?_
        refine V_iload_n hf dX6_readPart_32 rfl rfl ?_
        refine V_bipush hf dX6_readPart_33 (by decide +kernel) ?_
        refine V_icmp_ne (tgt := 55) hf ⟨by decide, by decide⟩ ⟨by decide, by decide⟩ dX6_readPart_35 (by decide) (fun h35 => ?_) (fun h35 => ?_)
        · have g4 : aM σ (p + 1) 0 26 4 = σ 0 26 4 := aM_k (by decide)
          refine V_aload_n hf dX6_readPart_55 rfl rfl ?_
          refine B_get hf l01 rfl fl_X6_33_9 rfl dX6_readPart_56 ?_
          refine V_iload_n hf dX6_readPart_59 rfl rfl ?_
          refine B_row hf ⟨by omega, by omega⟩ (by omega) (by omega) dX6_readPart_60 ?_
          refine V_aload_n hf dX6_readPart_61 rfl rfl ?_
          refine B_get hf l01 rfl fl_X6_25_9 rfl dX6_readPart_62 ?_
          refine V_iload_n hf dX6_readPart_65 rfl rfl ?_
          refine B_iast hf (show 0 ≤ n ∧ n < (30 : Int) from hn) (by decide) (fun _ => rfl) (by rw [g4]; exact ⟨by omega, by omega⟩) (by rw [g4]; omega) (by rw [g4]; omega) dX6_readPart_66 ?_
          rw [aM_c (fun q => absurd q.1 (by decide)), g4]
          refine V_aload_n hf dX6_readPart_67 rfl rfl ?_
          refine V_dup hf dX6_readPart_68 rfl ?_
          refine B_get hf l01 rfl fl_X6_25_9 rfl dX6_readPart_69 ?_
          refine V_iconst hf dX6_readPart_72 ?_
          refine V_iadd hf dX6_readPart_73 ?_
          refine B_putI (kI := 4) hf rfl l01 rfl fp_X6_25_9 rfl rfl (Nat.le_of_ble_eq_true rfl) (by decide) (cs_26_4 _ _ _ _ _) dX6_readPart_74 ?_
          rw [aM_c (by decide), aM_k (by decide), st3_j (by decide)]
          refine V_iconst hf dX6_readPart_77 ?_
          exact B_iret hf he (by decide +kernel) dX6_readPart_78 (by decide) (by decide) rfl rfl
        · exact absurd h35 (by decide)
      · exact absurd h22 (by decide)
    · exact absurd rfl h9

set_option maxHeartbeats 4000000 in
set_option maxRecDepth 100000 in
theorem y_pd_n {l : Launch} {D : va_G} {K : Nat → ClassId} {ad : Adr} (hl0 : l.stackTraces = false) (σ : Mem) (ch : Int → Int) (len : Int) (hP : C6 σ ch len) (p : Int) (hp : 0 ≤ p ∧ p ≤ 60) (n : Int) (hz : ¬ (48 ≤ mHere ch len p ∧ mHere ch len p ≤ 57)) : Cb l D K ad yX6_readPart (.code yX6_readPart cX6_readPart 4 (some .boolean)) 2 0 0 (aM σ p) [.ref (ad 0 26), .int (iN n), .int (iN 68)] (.inl (some (.int (iN (0))))) (aM σ p) := by
  refine Cb.of (own := RX6) (ls0 := [some (.ref (ad 0 26)), some (.int (iN n)), some (.int (iN 68)), none]) hl0 (by decide) rfl (Nat.le_of_ble_eq_true rfl) rfl ?_
  intro X hX1 hX2 hX3 hf he hh
  subst hX1 hX2 hX3
  have hl := hP.2.2.1
  have hRp := aM_R hP.2.2.2.2 (p := p) ⟨hp.1, by omega⟩
  have e2 : aM σ p 0 26 2 = p := aM_2
  have e1 : aM σ p 0 26 1 = len := (aM_k (by decide)).trans hP.2.1
  have ec : ∀ k : Int, 0 ≤ k → k < len → aM σ p 0 27 k = ch k := fun k h0 h1 => (aM_j (by decide)).trans (hP.1 k h0 h1)
  have eh : p < len → mHere ch len p = ch p := fun h => if_pos h
  have eh2 : ¬ p < len → mHere ch len p = -1 := fun h => if_neg h
  refine V_iload_n hf dX6_readPart_0 rfl rfl ?_
  refine V_bipush hf dX6_readPart_1 (by decide +kernel) ?_
  refine V_icmp_eq (tgt := 18) hf ⟨by decide, by decide⟩ ⟨by decide, by decide⟩ dX6_readPart_3 (by decide) (fun h3 => ?_) (fun h3 => ?_)
  · exact absurd h3 (by decide)
  · refine V_iload_n hf dX6_readPart_6 rfl rfl ?_
    refine V_bipush hf dX6_readPart_7 (by decide +kernel) ?_
    refine V_icmp_eq (tgt := 18) hf ⟨by decide, by decide⟩ ⟨by decide, by decide⟩ dX6_readPart_9 (by decide) (fun h9 => ?_) (fun h9 => ?_)
    · refine V_aload_n hf dX6_readPart_18 rfl rfl ?_
      refine B_callVi hf (As := []) (y_isDig hl0 σ ch len hP p hp) cv_X6_85 l01 rfl rfl rfl (Nat.le_of_ble_eq_true rfl) ⟨by decide, by decide, by decide, by decide⟩ dX6_readPart_19 ?_
      rw [if_neg hz]
      refine V_if_ne (tgt := 27) hf ⟨by decide, by decide⟩ dX6_readPart_22 (by decide) (fun h22 => ?_) (fun h22 => ?_)
      · exact absurd rfl h22
      · refine V_iconst hf dX6_readPart_25 ?_
        exact B_iret hf he (by decide +kernel) dX6_readPart_26 (by decide) (by decide) rfl rfl
    · exact absurd rfl h9

set_option maxHeartbeats 4000000 in
set_option maxRecDepth 100000 in
theorem y_pn_n {l : Launch} {D : va_G} {K : Nat → ClassId} {ad : Adr} (hl0 : l.stackTraces = false) (σ : Mem) (ch : Int → Int) (len : Int) (hP : C6 σ ch len) (p : Int) (hp : 0 ≤ p ∧ p ≤ 60) (n : Int) (hz : ¬ (48 ≤ mHere ch len p ∧ mHere ch len p ≤ 57)) : Cb l D K ad yX6_readPart (.code yX6_readPart cX6_readPart 4 (some .boolean)) 2 0 0 (aM σ p) [.ref (ad 0 26), .int (iN n), .int (iN 78)] (.inl (some (.int (iN (0))))) (aM σ p) := by
  refine Cb.of (own := RX6) (ls0 := [some (.ref (ad 0 26)), some (.int (iN n)), some (.int (iN 78)), none]) hl0 (by decide) rfl (Nat.le_of_ble_eq_true rfl) rfl ?_
  intro X hX1 hX2 hX3 hf he hh
  subst hX1 hX2 hX3
  have hl := hP.2.2.1
  have hRp := aM_R hP.2.2.2.2 (p := p) ⟨hp.1, by omega⟩
  have e2 : aM σ p 0 26 2 = p := aM_2
  have e1 : aM σ p 0 26 1 = len := (aM_k (by decide)).trans hP.2.1
  have ec : ∀ k : Int, 0 ≤ k → k < len → aM σ p 0 27 k = ch k := fun k h0 h1 => (aM_j (by decide)).trans (hP.1 k h0 h1)
  have eh : p < len → mHere ch len p = ch p := fun h => if_pos h
  have eh2 : ¬ p < len → mHere ch len p = -1 := fun h => if_neg h
  refine V_iload_n hf dX6_readPart_0 rfl rfl ?_
  refine V_bipush hf dX6_readPart_1 (by decide +kernel) ?_
  refine V_icmp_eq (tgt := 18) hf ⟨by decide, by decide⟩ ⟨by decide, by decide⟩ dX6_readPart_3 (by decide) (fun h3 => ?_) (fun h3 => ?_)
  · refine V_aload_n hf dX6_readPart_18 rfl rfl ?_
    refine B_callVi hf (As := []) (y_isDig hl0 σ ch len hP p hp) cv_X6_85 l01 rfl rfl rfl (Nat.le_of_ble_eq_true rfl) ⟨by decide, by decide, by decide, by decide⟩ dX6_readPart_19 ?_
    rw [if_neg hz]
    refine V_if_ne (tgt := 27) hf ⟨by decide, by decide⟩ dX6_readPart_22 (by decide) (fun h22 => ?_) (fun h22 => ?_)
    · exact absurd rfl h22
    · refine V_iconst hf dX6_readPart_25 ?_
      exact B_iret hf he (by decide +kernel) dX6_readPart_26 (by decide) (by decide) rfl rfl
  · exact absurd rfl h3

set_option maxHeartbeats 4000000 in
set_option maxRecDepth 100000 in
theorem y_pn_1 {l : Launch} {D : va_G} {K : Nat → ClassId} {ad : Adr} (hl0 : l.stackTraces = false) (σ : Mem) (ch : Int → Int) (len : Int) (hP : C6 σ ch len) (p : Int) (hp : 0 ≤ p ∧ p ≤ 60) (n : Int) (hn : 0 ≤ n ∧ n < 30) (hf4 : 0 ≤ σ 0 26 4 ∧ σ 0 26 4 < 3) (hz : 48 ≤ mHere ch len p ∧ mHere ch len p ≤ 57) (hy : ¬ (48 ≤ mHere ch len (p + 1) ∧ mHere ch len (p + 1) ≤ 57)) : Cb l D K ad yX6_readPart (.code yX6_readPart cX6_readPart 4 (some .boolean)) 2 0 0 (aM σ p) [.ref (ad 0 26), .int (iN n), .int (iN 78)] (.inl (some (.int (iN (1))))) (aM (st3 (st3 σ n 30 (σ 0 26 4) (mHere ch len p - 48)) 0 26 4 (σ 0 26 4 + 1)) (p + 1)) := by
  refine Cb.of (own := RX6) (ls0 := [some (.ref (ad 0 26)), some (.int (iN n)), some (.int (iN 78)), none]) hl0 (by decide) rfl (Nat.le_of_ble_eq_true rfl) rfl ?_
  intro X hX1 hX2 hX3 hf he hh
  subst hX1 hX2 hX3
  have hl := hP.2.2.1
  have hRp := aM_R hP.2.2.2.2 (p := p) ⟨hp.1, by omega⟩
  have e2 : aM σ p 0 26 2 = p := aM_2
  have e1 : aM σ p 0 26 1 = len := (aM_k (by decide)).trans hP.2.1
  have ec : ∀ k : Int, 0 ≤ k → k < len → aM σ p 0 27 k = ch k := fun k h0 h1 => (aM_j (by decide)).trans (hP.1 k h0 h1)
  have eh : p < len → mHere ch len p = ch p := fun h => if_pos h
  have eh2 : ¬ p < len → mHere ch len p = -1 := fun h => if_neg h
  have hp1 : 0 ≤ p + 1 ∧ p + 1 ≤ 60 := by have := (mHere_d hz.1).1; omega
  refine V_iload_n hf dX6_readPart_0 rfl rfl ?_
  refine V_bipush hf dX6_readPart_1 (by decide +kernel) ?_
  refine V_icmp_eq (tgt := 18) hf ⟨by decide, by decide⟩ ⟨by decide, by decide⟩ dX6_readPart_3 (by decide) (fun h3 => ?_) (fun h3 => ?_)
  · refine V_aload_n hf dX6_readPart_18 rfl rfl ?_
    refine B_callVi hf (As := []) (y_isDig hl0 σ ch len hP p hp) cv_X6_85 l01 rfl rfl rfl (Nat.le_of_ble_eq_true rfl) ⟨by decide, by decide, by decide, by decide⟩ dX6_readPart_19 ?_
    rw [if_pos hz]
    refine V_if_ne (tgt := 27) hf ⟨by decide, by decide⟩ dX6_readPart_22 (by decide) (fun h22 => ?_) (fun h22 => ?_)
    · refine V_aload_n hf dX6_readPart_27 rfl rfl ?_
      refine B_callVi hf (As := []) (y_take hl0 σ ch len hP p hp (mHere_d hz.1).1) cv_X6_88 l01 rfl rfl rfl (Nat.le_of_ble_eq_true rfl) ⟨by decide, by decide, by decide, by decide⟩ dX6_readPart_28 ?_
      rw [← (mHere_d hz.1).2]
      refine V_istore_n (ls2 := [_, _, _, _]) hf dX6_readPart_31 rfl (by decide) rfl rfl ?_
      refine V_iload_n hf dX6_readPart_32 rfl rfl ?_
      refine V_bipush hf dX6_readPart_33 (by decide +kernel) ?_
      refine V_icmp_ne (tgt := 55) hf ⟨by decide, by decide⟩ ⟨by decide, by decide⟩ dX6_readPart_35 (by decide) (fun h35 => ?_) (fun h35 => ?_)
      · exact absurd rfl h35
      · refine V_aload_n hf dX6_readPart_38 rfl rfl ?_
        refine B_callVi hf (As := []) (y_isDig hl0 σ ch len hP (p + 1) hp1) cv_X6_85 l01 rfl rfl rfl (Nat.le_of_ble_eq_true rfl) ⟨by decide, by decide, by decide, by decide⟩ dX6_readPart_39 ?_
        rw [if_neg hy]
        refine V_if_eq (tgt := 55) hf ⟨by decide, by decide⟩ dX6_readPart_42 (by decide) (fun h42 => ?_) (fun h42 => ?_)
        · have g4 : aM σ (p + 1) 0 26 4 = σ 0 26 4 := aM_k (by decide)
          refine V_aload_n hf dX6_readPart_55 rfl rfl ?_
          refine B_get hf l01 rfl fl_X6_33_9 rfl dX6_readPart_56 ?_
          refine V_iload_n hf dX6_readPart_59 rfl rfl ?_
          refine B_row hf ⟨by omega, by omega⟩ (by omega) (by omega) dX6_readPart_60 ?_
          refine V_aload_n hf dX6_readPart_61 rfl rfl ?_
          refine B_get hf l01 rfl fl_X6_25_9 rfl dX6_readPart_62 ?_
          refine V_iload_n hf dX6_readPart_65 rfl rfl ?_
          refine B_iast hf (show 0 ≤ n ∧ n < (30 : Int) from hn) (by decide) (fun _ => rfl) (by rw [g4]; exact ⟨by omega, by omega⟩) (by rw [g4]; omega) (by rw [g4]; omega) dX6_readPart_66 ?_
          rw [aM_c (fun q => absurd q.1 (by decide)), g4]
          refine V_aload_n hf dX6_readPart_67 rfl rfl ?_
          refine V_dup hf dX6_readPart_68 rfl ?_
          refine B_get hf l01 rfl fl_X6_25_9 rfl dX6_readPart_69 ?_
          refine V_iconst hf dX6_readPart_72 ?_
          refine V_iadd hf dX6_readPart_73 ?_
          refine B_putI (kI := 4) hf rfl l01 rfl fp_X6_25_9 rfl rfl (Nat.le_of_ble_eq_true rfl) (by decide) (cs_26_4 _ _ _ _ _) dX6_readPart_74 ?_
          rw [aM_c (by decide), aM_k (by decide), st3_j (by decide)]
          refine V_iconst hf dX6_readPart_77 ?_
          exact B_iret hf he (by decide +kernel) dX6_readPart_78 (by decide) (by decide) rfl rfl
        · exact absurd rfl h42
    · exact absurd h22 (by decide)
  · exact absurd rfl h3

set_option maxHeartbeats 4000000 in
set_option maxRecDepth 100000 in
theorem y_pn_2 {l : Launch} {D : va_G} {K : Nat → ClassId} {ad : Adr} (hl0 : l.stackTraces = false) (σ : Mem) (ch : Int → Int) (len : Int) (hP : C6 σ ch len) (p : Int) (hp : 0 ≤ p ∧ p ≤ 60) (n : Int) (hn : 0 ≤ n ∧ n < 30) (hf4 : 0 ≤ σ 0 26 4 ∧ σ 0 26 4 < 3) (hz : 48 ≤ mHere ch len p ∧ mHere ch len p ≤ 57) (hy : 48 ≤ mHere ch len (p + 1) ∧ mHere ch len (p + 1) ≤ 57) : Cb l D K ad yX6_readPart (.code yX6_readPart cX6_readPart 4 (some .boolean)) 2 0 0 (aM σ p) [.ref (ad 0 26), .int (iN n), .int (iN 78)] (.inl (some (.int (iN (1))))) (aM (st3 (st3 σ n 30 (σ 0 26 4) (10 * (mHere ch len p - 48) + (mHere ch len (p + 1) - 48))) 0 26 4 (σ 0 26 4 + 1)) (p + 1 + 1)) := by
  refine Cb.of (own := RX6) (ls0 := [some (.ref (ad 0 26)), some (.int (iN n)), some (.int (iN 78)), none]) hl0 (by decide) rfl (Nat.le_of_ble_eq_true rfl) rfl ?_
  intro X hX1 hX2 hX3 hf he hh
  subst hX1 hX2 hX3
  have hl := hP.2.2.1
  have hRp := aM_R hP.2.2.2.2 (p := p) ⟨hp.1, by omega⟩
  have e2 : aM σ p 0 26 2 = p := aM_2
  have e1 : aM σ p 0 26 1 = len := (aM_k (by decide)).trans hP.2.1
  have ec : ∀ k : Int, 0 ≤ k → k < len → aM σ p 0 27 k = ch k := fun k h0 h1 => (aM_j (by decide)).trans (hP.1 k h0 h1)
  have eh : p < len → mHere ch len p = ch p := fun h => if_pos h
  have eh2 : ¬ p < len → mHere ch len p = -1 := fun h => if_neg h
  have hp1 : 0 ≤ p + 1 ∧ p + 1 ≤ 60 := by have := (mHere_d hz.1).1; omega
  refine V_iload_n hf dX6_readPart_0 rfl rfl ?_
  refine V_bipush hf dX6_readPart_1 (by decide +kernel) ?_
  refine V_icmp_eq (tgt := 18) hf ⟨by decide, by decide⟩ ⟨by decide, by decide⟩ dX6_readPart_3 (by decide) (fun h3 => ?_) (fun h3 => ?_)
  · refine V_aload_n hf dX6_readPart_18 rfl rfl ?_
    refine B_callVi hf (As := []) (y_isDig hl0 σ ch len hP p hp) cv_X6_85 l01 rfl rfl rfl (Nat.le_of_ble_eq_true rfl) ⟨by decide, by decide, by decide, by decide⟩ dX6_readPart_19 ?_
    rw [if_pos hz]
    refine V_if_ne (tgt := 27) hf ⟨by decide, by decide⟩ dX6_readPart_22 (by decide) (fun h22 => ?_) (fun h22 => ?_)
    · refine V_aload_n hf dX6_readPart_27 rfl rfl ?_
      refine B_callVi hf (As := []) (y_take hl0 σ ch len hP p hp (mHere_d hz.1).1) cv_X6_88 l01 rfl rfl rfl (Nat.le_of_ble_eq_true rfl) ⟨by decide, by decide, by decide, by decide⟩ dX6_readPart_28 ?_
      rw [← (mHere_d hz.1).2]
      refine V_istore_n (ls2 := [_, _, _, _]) hf dX6_readPart_31 rfl (by decide) rfl rfl ?_
      refine V_iload_n hf dX6_readPart_32 rfl rfl ?_
      refine V_bipush hf dX6_readPart_33 (by decide +kernel) ?_
      refine V_icmp_ne (tgt := 55) hf ⟨by decide, by decide⟩ ⟨by decide, by decide⟩ dX6_readPart_35 (by decide) (fun h35 => ?_) (fun h35 => ?_)
      · exact absurd rfl h35
      · refine V_aload_n hf dX6_readPart_38 rfl rfl ?_
        refine B_callVi hf (As := []) (y_isDig hl0 σ ch len hP (p + 1) hp1) cv_X6_85 l01 rfl rfl rfl (Nat.le_of_ble_eq_true rfl) ⟨by decide, by decide, by decide, by decide⟩ dX6_readPart_39 ?_
        rw [if_pos hy]
        refine V_if_eq (tgt := 55) hf ⟨by decide, by decide⟩ dX6_readPart_42 (by decide) (fun h42 => ?_) (fun h42 => ?_)
        · exact absurd h42 (by decide)
        · refine V_iload_n hf dX6_readPart_45 rfl rfl ?_
          refine V_bipush hf dX6_readPart_46 (by decide +kernel) ?_
          refine V_imul hf dX6_readPart_48 ?_
          refine V_aload_n hf dX6_readPart_49 rfl rfl ?_
          refine B_callVi hf (As := []) (y_take hl0 σ ch len hP (p + 1) hp1 (mHere_d hy.1).1) cv_X6_88 l01 rfl rfl rfl (Nat.le_of_ble_eq_true rfl) ⟨by decide, by decide, by decide, by decide⟩ dX6_readPart_50 ?_
          rw [← (mHere_d hy.1).2]
          refine V_iadd hf dX6_readPart_53 ?_
          rw [Int.mul_comm (mHere ch len p - 48) 10]
          refine V_istore_n (ls2 := [_, _, _, _]) hf dX6_readPart_54 rfl (by decide) rfl rfl ?_
          have g4 : aM σ (p + 1 + 1) 0 26 4 = σ 0 26 4 := aM_k (by decide)
          refine V_aload_n hf dX6_readPart_55 rfl rfl ?_
          refine B_get hf l01 rfl fl_X6_33_9 rfl dX6_readPart_56 ?_
          refine V_iload_n hf dX6_readPart_59 rfl rfl ?_
          refine B_row hf ⟨by omega, by omega⟩ (by omega) (by omega) dX6_readPart_60 ?_
          refine V_aload_n hf dX6_readPart_61 rfl rfl ?_
          refine B_get hf l01 rfl fl_X6_25_9 rfl dX6_readPart_62 ?_
          refine V_iload_n hf dX6_readPart_65 rfl rfl ?_
          refine B_iast hf (show 0 ≤ n ∧ n < (30 : Int) from hn) (by decide) (fun _ => rfl) (by rw [g4]; exact ⟨by omega, by omega⟩) (by rw [g4]; omega) (by rw [g4]; omega) dX6_readPart_66 ?_
          rw [aM_c (fun q => absurd q.1 (by decide)), g4]
          refine V_aload_n hf dX6_readPart_67 rfl rfl ?_
          refine V_dup hf dX6_readPart_68 rfl ?_
          refine B_get hf l01 rfl fl_X6_25_9 rfl dX6_readPart_69 ?_
          refine V_iconst hf dX6_readPart_72 ?_
          refine V_iadd hf dX6_readPart_73 ?_
          refine B_putI (kI := 4) hf rfl l01 rfl fp_X6_25_9 rfl rfl (Nat.le_of_ble_eq_true rfl) (by decide) (cs_26_4 _ _ _ _ _) dX6_readPart_74 ?_
          rw [aM_c (by decide), aM_k (by decide), st3_j (by decide)]
          refine V_iconst hf dX6_readPart_77 ?_
          exact B_iret hf he (by decide +kernel) dX6_readPart_78 (by decide) (by decide) rfl rfl
    · exact absurd h22 (by decide)
  · exact absurd rfl h3

theorem y_part {l : Launch} {D : va_G} {K : Nat → ClassId} {ad : Adr} (hl0 : l.stackTraces = false) (σ : Mem) (ch : Int → Int) (len : Int) (hP : C6 σ ch len) (p : Int) (hp : 0 ≤ p ∧ p ≤ 60) (n : Int) (hn : 0 ≤ n ∧ n < 30) (c : Int) (hc : 0 ≤ c ∧ c < 128) (hf4 : c = 78 ∨ c = 68 → 0 ≤ σ 0 26 4 ∧ σ 0 26 4 < 3) : Cb l D K ad yX6_readPart (.code yX6_readPart cX6_readPart 4 (some .boolean)) 2 0 0 (aM σ p) [.ref (ad 0 26), .int (iN n), .int (iN c)] (.inl (some (.int (iN (cStep ch len n c σ p).2.2)))) (aM (cStep ch len n c σ p).1 (cStep ch len n c σ p).2.1) := by
  by_cases h1 : c ≠ 78 ∧ c ≠ 68
  · by_cases hz : mHere ch len p = c
    · rw [show cStep ch len n c σ p = (σ, p + 1, 1) from (if_pos h1).trans (if_pos hz)]
      exact y_ps_o hl0 σ ch len hP p hp n c hc h1 hz
    · rw [show cStep ch len n c σ p = (σ, p, 0) from (if_pos h1).trans (if_neg hz)]
      exact y_ps_n hl0 σ ch len hP p hp n c hc h1 hz
  · by_cases h2 : c = 78
    · subst h2
      by_cases hz : 48 ≤ mHere ch len p ∧ mHere ch len p ≤ 57
      · rw [show cStep ch len n 78 σ p = (st3 (st3 σ n 30 (σ 0 26 4) (mNum ch len (p, 0)).1) 0 26 4 (σ 0 26 4 + 1), (mNum ch len (p, 0)).2.1, 1) from (if_neg h1).trans ((if_pos rfl).trans (if_pos (mNum_0.mpr hz)))]
        by_cases hy : 48 ≤ mHere ch len (p + 1) ∧ mHere ch len (p + 1) ≤ 57
        · rw [mNum_2 hz hy]
          exact y_pn_2 hl0 σ ch len hP p hp n hn (hf4 (Or.inl rfl)) hz hy
        · rw [mNum_1 hz hy]
          exact y_pn_1 hl0 σ ch len hP p hp n hn (hf4 (Or.inl rfl)) hz hy
      · rw [show cStep ch len n 78 σ p = (σ, p, 0) from (if_neg h1).trans ((if_pos rfl).trans (if_neg (fun q => hz (mNum_0.mp q))))]
        exact y_pn_n hl0 σ ch len hP p hp n hz
    · have h3 : c = 68 := by omega
      subst h3
      by_cases hz : 48 ≤ mHere ch len p ∧ mHere ch len p ≤ 57
      · rw [show cStep ch len n 68 σ p = (st3 (st3 σ n 30 (σ 0 26 4) (mDig ch len (p, 0)).1) 0 26 4 (σ 0 26 4 + 1), (mDig ch len (p, 0)).2.1, 1) from (if_neg h1).trans ((if_neg h2).trans (if_pos (mDig_0.mpr hz))), mDig_v hz]
        exact y_pd_o hl0 σ ch len hP p hp n hn (hf4 (Or.inr rfl)) hz
      · rw [show cStep ch len n 68 σ p = (σ, p, 0) from (if_neg h1).trans ((if_neg h2).trans (if_neg (fun q => hz (mDig_0.mp q))))]
        exact y_pd_n hl0 σ ch len hP p hp n hz