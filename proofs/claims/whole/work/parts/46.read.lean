/-! the commands of the input -/
theorem cRun_p {ch : Int → Int} {len n : Int} {i : Nat} (hi : i < 10) (hn : 0 ≤ n ∧ n < 30) : ∀ (f : Nat) (j : Int) (σ : Mem) (p : Int), C6 σ ch len → 0 ≤ p ∧ p ≤ 60 → 1 ≤ j → σ 0 26 4 = fmN i j → C6 (cRun ch len n i f j σ p).1 ch len ∧ (0 ≤ (cRun ch len n i f j σ p).2.1 ∧ (cRun ch len n i f j σ p).2.1 ≤ 60) ∧ ((cRun ch len n i f j σ p).2.2 = 0 ∨ (cRun ch len n i f j σ p).2.2 = 1)
  | 0, j, σ, p, hP, hp, hj, hN => ⟨hP, hp, Or.inr rfl⟩
  | f + 1, j, σ, p, hP, hp, hj, hN => by
    unfold cRun
    by_cases h1 : j < fmL i
    · rw [if_pos h1]
      have hL := fmL_r i hi
      have hb := fmB_ok i hi j.toNat (by omega)
      have hm := fmN_ok i hi j.toNat (by omega)
      rw [Int.toNat_of_nonneg (by omega : 0 ≤ j)] at hb hm
      have hs := cStep_p (n := n) (c := fmB i j) hP hp hb.2.1 (fun q => by have := (hm.1 ⟨h1, by omega, q⟩).1; have := hm.2.2; omega)
      by_cases h2 : (cStep ch len n (fmB i j) σ p).2.2 = 0
      · rw [if_pos h2]
        exact ⟨hs.1, ⟨hs.2.2.1, hs.2.2.2.1⟩, Or.inl h2⟩
      · rw [if_neg h2]
        have h3 := hs.2.1.resolve_left h2
        refine cRun_p hi hn f (j + 1) _ _ hs.1 ⟨hs.2.2.1, hs.2.2.2.1⟩ (by omega) ?_
        rw [hs.2.2.2.2.1 h3]
        split
        · rename_i q
          rw [(hm.1 ⟨h1, by omega, q⟩).2, hN]
        · rename_i q
          rw [hm.2.1 ⟨h1, by omega, q⟩, hN]
    · rw [if_neg h1]
      exact ⟨hP, hp, Or.inr rfl⟩
theorem cRead_0 {ch : Int → Int} {len n : Int} {σ : Mem} {p : Int} (hP : C6 σ ch len) (hn : 0 ≤ n ∧ n < 30) (hk : p < len) (hp : 0 ≤ p) : C6 (st3 (st3 σ 0 28 n (ch p)) 0 26 4 0) ch len ∧ st3 (st3 σ 0 28 n (ch p)) 0 26 4 0 0 26 4 = fmN (fmI (ch p)) 1 := by
  have hc := hP.2.2.2.1 p hp hk
  refine ⟨(hP.st ⟨by omega, by omega⟩ (by decide) (fun q => absurd q.1 (by decide))).st ⟨by decide, by decide⟩ (by decide) (by decide), ?_⟩
  rw [st3_self]
  have : ∀ i : Nat, i < 10 → (0 : Int) = fmN i 1 := by decide +kernel
  exact this _ (fmI_r _)
theorem cRead_p {ch : Int → Int} {len n : Int} {σ : Mem} {p : Int} (hP : C6 σ ch len) (hn : 0 ≤ n ∧ n < 30) (hp : 0 ≤ p ∧ p ≤ 60) : C6 (cRead ch len n σ p).1 ch len ∧ (0 ≤ (cRead ch len n σ p).2.1 ∧ (cRead ch len n σ p).2.1 ≤ 60) ∧ ((cRead ch len n σ p).2.2 = 0 ∨ (cRead ch len n σ p).2.2 = 1) := by
  have hl := hP.2.2.1
  unfold cRead
  split
  · exact ⟨hP, hp, Or.inl rfl⟩
  · split
    · exact ⟨hP, hp, Or.inl rfl⟩
    · rename_i h1 h2
      have h0 := cRead_0 hP hn (by omega : p < len) hp.1
      exact cRun_p (fmI_r _) hn 5 1 _ (p + 1) h0.1 ⟨by omega, by omega⟩ (by decide) h0.2
theorem cStep_3 {ch : Int → Int} {len n c : Int} {σ : Mem} {p : Int} : (cStep ch len n c σ p).1 0 26 3 = σ 0 26 3 := by
  unfold cStep
  repeat' split
  all_goals dsimp only
  all_goals first | rfl | (rw [st3_k (by decide), st3_j (by decide)])
theorem cRun_3 {ch : Int → Int} {len n : Int} {i : Nat} : ∀ (f : Nat) (j : Int) (σ : Mem) (p : Int), (cRun ch len n i f j σ p).1 0 26 3 = σ 0 26 3
  | 0, _, _, _ => rfl
  | f + 1, j, σ, p => by
    unfold cRun
    repeat' split
    · exact cStep_3
    · rw [cRun_3 f, cStep_3]
    · rfl
theorem cRead_3 {ch : Int → Int} {len n : Int} {σ : Mem} {p : Int} : (cRead ch len n σ p).1 0 26 3 = σ 0 26 3 := by
  unfold cRead
  repeat' split
  · rfl
  · rfl
  · rw [cRun_3, st3_k (by decide), st3_j (by decide)]
def cAll (ch : Int → Int) (len : Int) : Nat → Mem → Int → Mem × Int × Int
  | 0, σ, p => (σ, p, 0)
  | f + 1, σ, p =>
    if 30 ≤ σ 0 26 3 then (σ, p, 0)
    else if (cRead ch len (σ 0 26 3) σ p).2.2 = 0 then ((cRead ch len (σ 0 26 3) σ p).1, (cRead ch len (σ 0 26 3) σ p).2.1, 0)
    else if (cRead ch len (σ 0 26 3) σ p).2.1 = len then (st3 (cRead ch len (σ 0 26 3) σ p).1 0 26 3 (σ 0 26 3 + 1), (cRead ch len (σ 0 26 3) σ p).2.1, 1)
    else if mHere ch len (cRead ch len (σ 0 26 3) σ p).2.1 = 59 then cAll ch len f (st3 (cRead ch len (σ 0 26 3) σ p).1 0 26 3 (σ 0 26 3 + 1)) ((cRead ch len (σ 0 26 3) σ p).2.1 + 1)
    else ((cRead ch len (σ 0 26 3) σ p).1, (cRead ch len (σ 0 26 3) σ p).2.1, 0)
set_option maxHeartbeats 4000000 in
set_option maxRecDepth 100000 in
theorem y_fo_115 {l : Launch} {D : va_G} {K : Nat → ClassId} {ad : Adr} (hl0 : l.stackTraces = false) (σ : Mem) : Cb l D K ad yX6_formOf (.code yX6_formOf cX6_formOf 1 (some (.object "java/lang/String"))) 1 0 0 σ [.int (iN 115)] (.inl (some (.ref (K (100 + 0))))) σ := by
  refine Cb.of (own := RX6) (ls0 := [some (.int (iN 115))]) hl0 (by decide) rfl (Nat.le_of_ble_eq_true rfl) rfl ?_
  intro X hX1 hX2 hX3 hf he hh
  subst hX1 hX2 hX3
  refine V_iload_n hf dX6_formOf_0 rfl rfl ?_
  refine V_tswIn (tgt := 116) hf ⟨by decide, by decide⟩ dX6_formOf_1 (by decide) (by decide) rfl (by decide) ?_
  refine V_ldcF (i := 0) hf rfl (by decide) rfl dX6_formOf_116 ?_
  exact B_aret hf he (Or.inl ⟨_, rfl⟩) dX6_formOf_118 (by decide) (by decide) rfl rfl

set_option maxHeartbeats 4000000 in
set_option maxRecDepth 100000 in
theorem y_fo_97 {l : Launch} {D : va_G} {K : Nat → ClassId} {ad : Adr} (hl0 : l.stackTraces = false) (σ : Mem) : Cb l D K ad yX6_formOf (.code yX6_formOf cX6_formOf 1 (some (.object "java/lang/String"))) 1 0 0 σ [.int (iN 97)] (.inl (some (.ref (K (100 + 1))))) σ := by
  refine Cb.of (own := RX6) (ls0 := [some (.int (iN 97))]) hl0 (by decide) rfl (Nat.le_of_ble_eq_true rfl) rfl ?_
  intro X hX1 hX2 hX3 hf he hh
  subst hX1 hX2 hX3
  refine V_iload_n hf dX6_formOf_0 rfl rfl ?_
  refine V_tswIn (tgt := 119) hf ⟨by decide, by decide⟩ dX6_formOf_1 (by decide) (by decide) rfl (by decide) ?_
  refine V_ldcF (i := 1) hf rfl (by decide) rfl dX6_formOf_119 ?_
  exact B_aret hf he (Or.inl ⟨_, rfl⟩) dX6_formOf_121 (by decide) (by decide) rfl rfl

set_option maxHeartbeats 4000000 in
set_option maxRecDepth 100000 in
theorem y_fo_99 {l : Launch} {D : va_G} {K : Nat → ClassId} {ad : Adr} (hl0 : l.stackTraces = false) (σ : Mem) : Cb l D K ad yX6_formOf (.code yX6_formOf cX6_formOf 1 (some (.object "java/lang/String"))) 1 0 0 σ [.int (iN 99)] (.inl (some (.ref (K (100 + 2))))) σ := by
  refine Cb.of (own := RX6) (ls0 := [some (.int (iN 99))]) hl0 (by decide) rfl (Nat.le_of_ble_eq_true rfl) rfl ?_
  intro X hX1 hX2 hX3 hf he hh
  subst hX1 hX2 hX3
  refine V_iload_n hf dX6_formOf_0 rfl rfl ?_
  refine V_tswIn (tgt := 122) hf ⟨by decide, by decide⟩ dX6_formOf_1 (by decide) (by decide) rfl (by decide) ?_
  refine V_ldcF (i := 2) hf rfl (by decide) rfl dX6_formOf_122 ?_
  exact B_aret hf he (Or.inl ⟨_, rfl⟩) dX6_formOf_124 (by decide) (by decide) rfl rfl

set_option maxHeartbeats 4000000 in
set_option maxRecDepth 100000 in
theorem y_fo_98 {l : Launch} {D : va_G} {K : Nat → ClassId} {ad : Adr} (hl0 : l.stackTraces = false) (σ : Mem) : Cb l D K ad yX6_formOf (.code yX6_formOf cX6_formOf 1 (some (.object "java/lang/String"))) 1 0 0 σ [.int (iN 98)] (.inl (some (.ref (K (100 + 3))))) σ := by
  refine Cb.of (own := RX6) (ls0 := [some (.int (iN 98))]) hl0 (by decide) rfl (Nat.le_of_ble_eq_true rfl) rfl ?_
  intro X hX1 hX2 hX3 hf he hh
  subst hX1 hX2 hX3
  refine V_iload_n hf dX6_formOf_0 rfl rfl ?_
  refine V_tswIn (tgt := 125) hf ⟨by decide, by decide⟩ dX6_formOf_1 (by decide) (by decide) rfl (by decide) ?_
  refine V_ldcF (i := 3) hf rfl (by decide) rfl dX6_formOf_125 ?_
  exact B_aret hf he (Or.inl ⟨_, rfl⟩) dX6_formOf_127 (by decide) (by decide) rfl rfl

set_option maxHeartbeats 4000000 in
set_option maxRecDepth 100000 in
theorem y_fo_111 {l : Launch} {D : va_G} {K : Nat → ClassId} {ad : Adr} (hl0 : l.stackTraces = false) (σ : Mem) : Cb l D K ad yX6_formOf (.code yX6_formOf cX6_formOf 1 (some (.object "java/lang/String"))) 1 0 0 σ [.int (iN 111)] (.inl (some (.ref (K (100 + 4))))) σ := by
  refine Cb.of (own := RX6) (ls0 := [some (.int (iN 111))]) hl0 (by decide) rfl (Nat.le_of_ble_eq_true rfl) rfl ?_
  intro X hX1 hX2 hX3 hf he hh
  subst hX1 hX2 hX3
  refine V_iload_n hf dX6_formOf_0 rfl rfl ?_
  refine V_tswIn (tgt := 128) hf ⟨by decide, by decide⟩ dX6_formOf_1 (by decide) (by decide) rfl (by decide) ?_
  refine V_ldcF (i := 4) hf rfl (by decide) rfl dX6_formOf_128 ?_
  exact B_aret hf he (Or.inl ⟨_, rfl⟩) dX6_formOf_130 (by decide) (by decide) rfl rfl

set_option maxHeartbeats 4000000 in
set_option maxRecDepth 100000 in
theorem y_fo_120 {l : Launch} {D : va_G} {K : Nat → ClassId} {ad : Adr} (hl0 : l.stackTraces = false) (σ : Mem) : Cb l D K ad yX6_formOf (.code yX6_formOf cX6_formOf 1 (some (.object "java/lang/String"))) 1 0 0 σ [.int (iN 120)] (.inl (some (.ref (K (100 + 5))))) σ := by
  refine Cb.of (own := RX6) (ls0 := [some (.int (iN 120))]) hl0 (by decide) rfl (Nat.le_of_ble_eq_true rfl) rfl ?_
  intro X hX1 hX2 hX3 hf he hh
  subst hX1 hX2 hX3
  refine V_iload_n hf dX6_formOf_0 rfl rfl ?_
  refine V_tswIn (tgt := 131) hf ⟨by decide, by decide⟩ dX6_formOf_1 (by decide) (by decide) rfl (by decide) ?_
  refine V_ldcF (i := 5) hf rfl (by decide) rfl dX6_formOf_131 ?_
  exact B_aret hf he (Or.inl ⟨_, rfl⟩) dX6_formOf_133 (by decide) (by decide) rfl rfl

set_option maxHeartbeats 4000000 in
set_option maxRecDepth 100000 in
theorem y_fo_121 {l : Launch} {D : va_G} {K : Nat → ClassId} {ad : Adr} (hl0 : l.stackTraces = false) (σ : Mem) : Cb l D K ad yX6_formOf (.code yX6_formOf cX6_formOf 1 (some (.object "java/lang/String"))) 1 0 0 σ [.int (iN 121)] (.inl (some (.ref (K (100 + 6))))) σ := by
  refine Cb.of (own := RX6) (ls0 := [some (.int (iN 121))]) hl0 (by decide) rfl (Nat.le_of_ble_eq_true rfl) rfl ?_
  intro X hX1 hX2 hX3 hf he hh
  subst hX1 hX2 hX3
  refine V_iload_n hf dX6_formOf_0 rfl rfl ?_
  refine V_tswIn (tgt := 134) hf ⟨by decide, by decide⟩ dX6_formOf_1 (by decide) (by decide) rfl (by decide) ?_
  refine V_ldcF (i := 6) hf rfl (by decide) rfl dX6_formOf_134 ?_
  exact B_aret hf he (Or.inl ⟨_, rfl⟩) dX6_formOf_136 (by decide) (by decide) rfl rfl

set_option maxHeartbeats 4000000 in
set_option maxRecDepth 100000 in
theorem y_fo_116 {l : Launch} {D : va_G} {K : Nat → ClassId} {ad : Adr} (hl0 : l.stackTraces = false) (σ : Mem) : Cb l D K ad yX6_formOf (.code yX6_formOf cX6_formOf 1 (some (.object "java/lang/String"))) 1 0 0 σ [.int (iN 116)] (.inl (some (.ref (K (100 + 7))))) σ := by
  refine Cb.of (own := RX6) (ls0 := [some (.int (iN 116))]) hl0 (by decide) rfl (Nat.le_of_ble_eq_true rfl) rfl ?_
  intro X hX1 hX2 hX3 hf he hh
  subst hX1 hX2 hX3
  refine V_iload_n hf dX6_formOf_0 rfl rfl ?_
  refine V_tswIn (tgt := 137) hf ⟨by decide, by decide⟩ dX6_formOf_1 (by decide) (by decide) rfl (by decide) ?_
  refine V_ldcF (i := 7) hf rfl (by decide) rfl dX6_formOf_137 ?_
  exact B_aret hf he (Or.inl ⟨_, rfl⟩) dX6_formOf_139 (by decide) (by decide) rfl rfl

set_option maxHeartbeats 4000000 in
set_option maxRecDepth 100000 in
theorem y_fo_102 {l : Launch} {D : va_G} {K : Nat → ClassId} {ad : Adr} (hl0 : l.stackTraces = false) (σ : Mem) : Cb l D K ad yX6_formOf (.code yX6_formOf cX6_formOf 1 (some (.object "java/lang/String"))) 1 0 0 σ [.int (iN 102)] (.inl (some (.ref (K (100 + 8))))) σ := by
  refine Cb.of (own := RX6) (ls0 := [some (.int (iN 102))]) hl0 (by decide) rfl (Nat.le_of_ble_eq_true rfl) rfl ?_
  intro X hX1 hX2 hX3 hf he hh
  subst hX1 hX2 hX3
  refine V_iload_n hf dX6_formOf_0 rfl rfl ?_
  refine V_tswIn (tgt := 140) hf ⟨by decide, by decide⟩ dX6_formOf_1 (by decide) (by decide) rfl (by decide) ?_
  refine V_ldcF (i := 8) hf rfl (by decide) rfl dX6_formOf_140 ?_
  exact B_aret hf he (Or.inl ⟨_, rfl⟩) dX6_formOf_142 (by decide) (by decide) rfl rfl

set_option maxHeartbeats 4000000 in
set_option maxRecDepth 100000 in
theorem y_fo_100 {l : Launch} {D : va_G} {K : Nat → ClassId} {ad : Adr} (hl0 : l.stackTraces = false) (σ : Mem) : Cb l D K ad yX6_formOf (.code yX6_formOf cX6_formOf 1 (some (.object "java/lang/String"))) 1 0 0 σ [.int (iN 100)] (.inl (some (.ref (K (100 + 9))))) σ := by
  refine Cb.of (own := RX6) (ls0 := [some (.int (iN 100))]) hl0 (by decide) rfl (Nat.le_of_ble_eq_true rfl) rfl ?_
  intro X hX1 hX2 hX3 hf he hh
  subst hX1 hX2 hX3
  refine V_iload_n hf dX6_formOf_0 rfl rfl ?_
  refine V_tswIn (tgt := 143) hf ⟨by decide, by decide⟩ dX6_formOf_1 (by decide) (by decide) rfl (by decide) ?_
  refine V_ldcF (i := 9) hf rfl (by decide) rfl dX6_formOf_143 ?_
  exact B_aret hf he (Or.inl ⟨_, rfl⟩) dX6_formOf_145 (by decide) (by decide) rfl rfl

set_option maxHeartbeats 4000000 in
set_option maxRecDepth 100000 in
theorem y_fo_101 {l : Launch} {D : va_G} {K : Nat → ClassId} {ad : Adr} (hl0 : l.stackTraces = false) (σ : Mem) : Cb l D K ad yX6_formOf (.code yX6_formOf cX6_formOf 1 (some (.object "java/lang/String"))) 1 0 0 σ [.int (iN 101)] (.inl (some (.ref (K (100 + 9))))) σ := by
  refine Cb.of (own := RX6) (ls0 := [some (.int (iN 101))]) hl0 (by decide) rfl (Nat.le_of_ble_eq_true rfl) rfl ?_
  intro X hX1 hX2 hX3 hf he hh
  subst hX1 hX2 hX3
  refine V_iload_n hf dX6_formOf_0 rfl rfl ?_
  refine V_tswIn (tgt := 143) hf ⟨by decide, by decide⟩ dX6_formOf_1 (by decide) (by decide) rfl (by decide) ?_
  refine V_ldcF (i := 9) hf rfl (by decide) rfl dX6_formOf_143 ?_
  exact B_aret hf he (Or.inl ⟨_, rfl⟩) dX6_formOf_145 (by decide) (by decide) rfl rfl

set_option maxHeartbeats 4000000 in
set_option maxRecDepth 100000 in
theorem y_fo_103 {l : Launch} {D : va_G} {K : Nat → ClassId} {ad : Adr} (hl0 : l.stackTraces = false) (σ : Mem) : Cb l D K ad yX6_formOf (.code yX6_formOf cX6_formOf 1 (some (.object "java/lang/String"))) 1 0 0 σ [.int (iN 103)] (.inl (some (.ref (K (100 + 9))))) σ := by
  refine Cb.of (own := RX6) (ls0 := [some (.int (iN 103))]) hl0 (by decide) rfl (Nat.le_of_ble_eq_true rfl) rfl ?_
  intro X hX1 hX2 hX3 hf he hh
  subst hX1 hX2 hX3
  refine V_iload_n hf dX6_formOf_0 rfl rfl ?_
  refine V_tswIn (tgt := 143) hf ⟨by decide, by decide⟩ dX6_formOf_1 (by decide) (by decide) rfl (by decide) ?_
  refine V_ldcF (i := 9) hf rfl (by decide) rfl dX6_formOf_143 ?_
  exact B_aret hf he (Or.inl ⟨_, rfl⟩) dX6_formOf_145 (by decide) (by decide) rfl rfl

set_option maxHeartbeats 4000000 in
set_option maxRecDepth 100000 in
theorem y_fo_104 {l : Launch} {D : va_G} {K : Nat → ClassId} {ad : Adr} (hl0 : l.stackTraces = false) (σ : Mem) : Cb l D K ad yX6_formOf (.code yX6_formOf cX6_formOf 1 (some (.object "java/lang/String"))) 1 0 0 σ [.int (iN 104)] (.inl (some (.ref (K (100 + 9))))) σ := by
  refine Cb.of (own := RX6) (ls0 := [some (.int (iN 104))]) hl0 (by decide) rfl (Nat.le_of_ble_eq_true rfl) rfl ?_
  intro X hX1 hX2 hX3 hf he hh
  subst hX1 hX2 hX3
  refine V_iload_n hf dX6_formOf_0 rfl rfl ?_
  refine V_tswIn (tgt := 143) hf ⟨by decide, by decide⟩ dX6_formOf_1 (by decide) (by decide) rfl (by decide) ?_
  refine V_ldcF (i := 9) hf rfl (by decide) rfl dX6_formOf_143 ?_
  exact B_aret hf he (Or.inl ⟨_, rfl⟩) dX6_formOf_145 (by decide) (by decide) rfl rfl

set_option maxHeartbeats 4000000 in
set_option maxRecDepth 100000 in
theorem y_fo_105 {l : Launch} {D : va_G} {K : Nat → ClassId} {ad : Adr} (hl0 : l.stackTraces = false) (σ : Mem) : Cb l D K ad yX6_formOf (.code yX6_formOf cX6_formOf 1 (some (.object "java/lang/String"))) 1 0 0 σ [.int (iN 105)] (.inl (some (.ref (K (100 + 9))))) σ := by
  refine Cb.of (own := RX6) (ls0 := [some (.int (iN 105))]) hl0 (by decide) rfl (Nat.le_of_ble_eq_true rfl) rfl ?_
  intro X hX1 hX2 hX3 hf he hh
  subst hX1 hX2 hX3
  refine V_iload_n hf dX6_formOf_0 rfl rfl ?_
  refine V_tswIn (tgt := 143) hf ⟨by decide, by decide⟩ dX6_formOf_1 (by decide) (by decide) rfl (by decide) ?_
  refine V_ldcF (i := 9) hf rfl (by decide) rfl dX6_formOf_143 ?_
  exact B_aret hf he (Or.inl ⟨_, rfl⟩) dX6_formOf_145 (by decide) (by decide) rfl rfl

set_option maxHeartbeats 4000000 in
set_option maxRecDepth 100000 in
theorem y_fo_106 {l : Launch} {D : va_G} {K : Nat → ClassId} {ad : Adr} (hl0 : l.stackTraces = false) (σ : Mem) : Cb l D K ad yX6_formOf (.code yX6_formOf cX6_formOf 1 (some (.object "java/lang/String"))) 1 0 0 σ [.int (iN 106)] (.inl (some (.ref (K (100 + 9))))) σ := by
  refine Cb.of (own := RX6) (ls0 := [some (.int (iN 106))]) hl0 (by decide) rfl (Nat.le_of_ble_eq_true rfl) rfl ?_
  intro X hX1 hX2 hX3 hf he hh
  subst hX1 hX2 hX3
  refine V_iload_n hf dX6_formOf_0 rfl rfl ?_
  refine V_tswIn (tgt := 143) hf ⟨by decide, by decide⟩ dX6_formOf_1 (by decide) (by decide) rfl (by decide) ?_
  refine V_ldcF (i := 9) hf rfl (by decide) rfl dX6_formOf_143 ?_
  exact B_aret hf he (Or.inl ⟨_, rfl⟩) dX6_formOf_145 (by decide) (by decide) rfl rfl

set_option maxHeartbeats 4000000 in
set_option maxRecDepth 100000 in
theorem y_fo_107 {l : Launch} {D : va_G} {K : Nat → ClassId} {ad : Adr} (hl0 : l.stackTraces = false) (σ : Mem) : Cb l D K ad yX6_formOf (.code yX6_formOf cX6_formOf 1 (some (.object "java/lang/String"))) 1 0 0 σ [.int (iN 107)] (.inl (some (.ref (K (100 + 9))))) σ := by
  refine Cb.of (own := RX6) (ls0 := [some (.int (iN 107))]) hl0 (by decide) rfl (Nat.le_of_ble_eq_true rfl) rfl ?_
  intro X hX1 hX2 hX3 hf he hh
  subst hX1 hX2 hX3
  refine V_iload_n hf dX6_formOf_0 rfl rfl ?_
  refine V_tswIn (tgt := 143) hf ⟨by decide, by decide⟩ dX6_formOf_1 (by decide) (by decide) rfl (by decide) ?_
  refine V_ldcF (i := 9) hf rfl (by decide) rfl dX6_formOf_143 ?_
  exact B_aret hf he (Or.inl ⟨_, rfl⟩) dX6_formOf_145 (by decide) (by decide) rfl rfl

set_option maxHeartbeats 4000000 in
set_option maxRecDepth 100000 in
theorem y_fo_108 {l : Launch} {D : va_G} {K : Nat → ClassId} {ad : Adr} (hl0 : l.stackTraces = false) (σ : Mem) : Cb l D K ad yX6_formOf (.code yX6_formOf cX6_formOf 1 (some (.object "java/lang/String"))) 1 0 0 σ [.int (iN 108)] (.inl (some (.ref (K (100 + 9))))) σ := by
  refine Cb.of (own := RX6) (ls0 := [some (.int (iN 108))]) hl0 (by decide) rfl (Nat.le_of_ble_eq_true rfl) rfl ?_
  intro X hX1 hX2 hX3 hf he hh
  subst hX1 hX2 hX3
  refine V_iload_n hf dX6_formOf_0 rfl rfl ?_
  refine V_tswIn (tgt := 143) hf ⟨by decide, by decide⟩ dX6_formOf_1 (by decide) (by decide) rfl (by decide) ?_
  refine V_ldcF (i := 9) hf rfl (by decide) rfl dX6_formOf_143 ?_
  exact B_aret hf he (Or.inl ⟨_, rfl⟩) dX6_formOf_145 (by decide) (by decide) rfl rfl

set_option maxHeartbeats 4000000 in
set_option maxRecDepth 100000 in
theorem y_fo_109 {l : Launch} {D : va_G} {K : Nat → ClassId} {ad : Adr} (hl0 : l.stackTraces = false) (σ : Mem) : Cb l D K ad yX6_formOf (.code yX6_formOf cX6_formOf 1 (some (.object "java/lang/String"))) 1 0 0 σ [.int (iN 109)] (.inl (some (.ref (K (100 + 9))))) σ := by
  refine Cb.of (own := RX6) (ls0 := [some (.int (iN 109))]) hl0 (by decide) rfl (Nat.le_of_ble_eq_true rfl) rfl ?_
  intro X hX1 hX2 hX3 hf he hh
  subst hX1 hX2 hX3
  refine V_iload_n hf dX6_formOf_0 rfl rfl ?_
  refine V_tswIn (tgt := 143) hf ⟨by decide, by decide⟩ dX6_formOf_1 (by decide) (by decide) rfl (by decide) ?_
  refine V_ldcF (i := 9) hf rfl (by decide) rfl dX6_formOf_143 ?_
  exact B_aret hf he (Or.inl ⟨_, rfl⟩) dX6_formOf_145 (by decide) (by decide) rfl rfl

set_option maxHeartbeats 4000000 in
set_option maxRecDepth 100000 in
theorem y_fo_110 {l : Launch} {D : va_G} {K : Nat → ClassId} {ad : Adr} (hl0 : l.stackTraces = false) (σ : Mem) : Cb l D K ad yX6_formOf (.code yX6_formOf cX6_formOf 1 (some (.object "java/lang/String"))) 1 0 0 σ [.int (iN 110)] (.inl (some (.ref (K (100 + 9))))) σ := by
  refine Cb.of (own := RX6) (ls0 := [some (.int (iN 110))]) hl0 (by decide) rfl (Nat.le_of_ble_eq_true rfl) rfl ?_
  intro X hX1 hX2 hX3 hf he hh
  subst hX1 hX2 hX3
  refine V_iload_n hf dX6_formOf_0 rfl rfl ?_
  refine V_tswIn (tgt := 143) hf ⟨by decide, by decide⟩ dX6_formOf_1 (by decide) (by decide) rfl (by decide) ?_
  refine V_ldcF (i := 9) hf rfl (by decide) rfl dX6_formOf_143 ?_
  exact B_aret hf he (Or.inl ⟨_, rfl⟩) dX6_formOf_145 (by decide) (by decide) rfl rfl

set_option maxHeartbeats 4000000 in
set_option maxRecDepth 100000 in
theorem y_fo_112 {l : Launch} {D : va_G} {K : Nat → ClassId} {ad : Adr} (hl0 : l.stackTraces = false) (σ : Mem) : Cb l D K ad yX6_formOf (.code yX6_formOf cX6_formOf 1 (some (.object "java/lang/String"))) 1 0 0 σ [.int (iN 112)] (.inl (some (.ref (K (100 + 9))))) σ := by
  refine Cb.of (own := RX6) (ls0 := [some (.int (iN 112))]) hl0 (by decide) rfl (Nat.le_of_ble_eq_true rfl) rfl ?_
  intro X hX1 hX2 hX3 hf he hh
  subst hX1 hX2 hX3
  refine V_iload_n hf dX6_formOf_0 rfl rfl ?_
  refine V_tswIn (tgt := 143) hf ⟨by decide, by decide⟩ dX6_formOf_1 (by decide) (by decide) rfl (by decide) ?_
  refine V_ldcF (i := 9) hf rfl (by decide) rfl dX6_formOf_143 ?_
  exact B_aret hf he (Or.inl ⟨_, rfl⟩) dX6_formOf_145 (by decide) (by decide) rfl rfl

set_option maxHeartbeats 4000000 in
set_option maxRecDepth 100000 in
theorem y_fo_113 {l : Launch} {D : va_G} {K : Nat → ClassId} {ad : Adr} (hl0 : l.stackTraces = false) (σ : Mem) : Cb l D K ad yX6_formOf (.code yX6_formOf cX6_formOf 1 (some (.object "java/lang/String"))) 1 0 0 σ [.int (iN 113)] (.inl (some (.ref (K (100 + 9))))) σ := by
  refine Cb.of (own := RX6) (ls0 := [some (.int (iN 113))]) hl0 (by decide) rfl (Nat.le_of_ble_eq_true rfl) rfl ?_
  intro X hX1 hX2 hX3 hf he hh
  subst hX1 hX2 hX3
  refine V_iload_n hf dX6_formOf_0 rfl rfl ?_
  refine V_tswIn (tgt := 143) hf ⟨by decide, by decide⟩ dX6_formOf_1 (by decide) (by decide) rfl (by decide) ?_
  refine V_ldcF (i := 9) hf rfl (by decide) rfl dX6_formOf_143 ?_
  exact B_aret hf he (Or.inl ⟨_, rfl⟩) dX6_formOf_145 (by decide) (by decide) rfl rfl

set_option maxHeartbeats 4000000 in
set_option maxRecDepth 100000 in
theorem y_fo_114 {l : Launch} {D : va_G} {K : Nat → ClassId} {ad : Adr} (hl0 : l.stackTraces = false) (σ : Mem) : Cb l D K ad yX6_formOf (.code yX6_formOf cX6_formOf 1 (some (.object "java/lang/String"))) 1 0 0 σ [.int (iN 114)] (.inl (some (.ref (K (100 + 9))))) σ := by
  refine Cb.of (own := RX6) (ls0 := [some (.int (iN 114))]) hl0 (by decide) rfl (Nat.le_of_ble_eq_true rfl) rfl ?_
  intro X hX1 hX2 hX3 hf he hh
  subst hX1 hX2 hX3
  refine V_iload_n hf dX6_formOf_0 rfl rfl ?_
  refine V_tswIn (tgt := 143) hf ⟨by decide, by decide⟩ dX6_formOf_1 (by decide) (by decide) rfl (by decide) ?_
  refine V_ldcF (i := 9) hf rfl (by decide) rfl dX6_formOf_143 ?_
  exact B_aret hf he (Or.inl ⟨_, rfl⟩) dX6_formOf_145 (by decide) (by decide) rfl rfl

set_option maxHeartbeats 4000000 in
set_option maxRecDepth 100000 in
theorem y_fo_117 {l : Launch} {D : va_G} {K : Nat → ClassId} {ad : Adr} (hl0 : l.stackTraces = false) (σ : Mem) : Cb l D K ad yX6_formOf (.code yX6_formOf cX6_formOf 1 (some (.object "java/lang/String"))) 1 0 0 σ [.int (iN 117)] (.inl (some (.ref (K (100 + 9))))) σ := by
  refine Cb.of (own := RX6) (ls0 := [some (.int (iN 117))]) hl0 (by decide) rfl (Nat.le_of_ble_eq_true rfl) rfl ?_
  intro X hX1 hX2 hX3 hf he hh
  subst hX1 hX2 hX3
  refine V_iload_n hf dX6_formOf_0 rfl rfl ?_
  refine V_tswIn (tgt := 143) hf ⟨by decide, by decide⟩ dX6_formOf_1 (by decide) (by decide) rfl (by decide) ?_
  refine V_ldcF (i := 9) hf rfl (by decide) rfl dX6_formOf_143 ?_
  exact B_aret hf he (Or.inl ⟨_, rfl⟩) dX6_formOf_145 (by decide) (by decide) rfl rfl

set_option maxHeartbeats 4000000 in
set_option maxRecDepth 100000 in
theorem y_fo_118 {l : Launch} {D : va_G} {K : Nat → ClassId} {ad : Adr} (hl0 : l.stackTraces = false) (σ : Mem) : Cb l D K ad yX6_formOf (.code yX6_formOf cX6_formOf 1 (some (.object "java/lang/String"))) 1 0 0 σ [.int (iN 118)] (.inl (some (.ref (K (100 + 9))))) σ := by
  refine Cb.of (own := RX6) (ls0 := [some (.int (iN 118))]) hl0 (by decide) rfl (Nat.le_of_ble_eq_true rfl) rfl ?_
  intro X hX1 hX2 hX3 hf he hh
  subst hX1 hX2 hX3
  refine V_iload_n hf dX6_formOf_0 rfl rfl ?_
  refine V_tswIn (tgt := 143) hf ⟨by decide, by decide⟩ dX6_formOf_1 (by decide) (by decide) rfl (by decide) ?_
  refine V_ldcF (i := 9) hf rfl (by decide) rfl dX6_formOf_143 ?_
  exact B_aret hf he (Or.inl ⟨_, rfl⟩) dX6_formOf_145 (by decide) (by decide) rfl rfl

set_option maxHeartbeats 4000000 in
set_option maxRecDepth 100000 in
theorem y_fo_119 {l : Launch} {D : va_G} {K : Nat → ClassId} {ad : Adr} (hl0 : l.stackTraces = false) (σ : Mem) : Cb l D K ad yX6_formOf (.code yX6_formOf cX6_formOf 1 (some (.object "java/lang/String"))) 1 0 0 σ [.int (iN 119)] (.inl (some (.ref (K (100 + 9))))) σ := by
  refine Cb.of (own := RX6) (ls0 := [some (.int (iN 119))]) hl0 (by decide) rfl (Nat.le_of_ble_eq_true rfl) rfl ?_
  intro X hX1 hX2 hX3 hf he hh
  subst hX1 hX2 hX3
  refine V_iload_n hf dX6_formOf_0 rfl rfl ?_
  refine V_tswIn (tgt := 143) hf ⟨by decide, by decide⟩ dX6_formOf_1 (by decide) (by decide) rfl (by decide) ?_
  refine V_ldcF (i := 9) hf rfl (by decide) rfl dX6_formOf_143 ?_
  exact B_aret hf he (Or.inl ⟨_, rfl⟩) dX6_formOf_145 (by decide) (by decide) rfl rfl

set_option maxHeartbeats 4000000 in
set_option maxRecDepth 100000 in
theorem y_fo_out {l : Launch} {D : va_G} {K : Nat → ClassId} {ad : Adr} (hl0 : l.stackTraces = false) (σ : Mem) (z : Int) (hz : inR z) (ho : z < 97 ∨ 121 < z) : Cb l D K ad yX6_formOf (.code yX6_formOf cX6_formOf 1 (some (.object "java/lang/String"))) 1 0 0 σ [.int (iN z)] (.inl (some (.ref (K (100 + 9))))) σ := by
  refine Cb.of (own := RX6) (ls0 := [some (.int (iN z))]) hl0 (by decide) rfl (Nat.le_of_ble_eq_true rfl) rfl ?_
  intro X hX1 hX2 hX3 hf he hh
  subst hX1 hX2 hX3
  refine V_iload_n hf dX6_formOf_0 rfl rfl ?_
  refine V_tswOut (tgt := 143) hf hz dX6_formOf_1 ho (by decide) ?_
  refine V_ldcF (i := 9) hf rfl (by decide) rfl dX6_formOf_143 ?_
  exact B_aret hf he (Or.inl ⟨_, rfl⟩) dX6_formOf_145 (by decide) (by decide) rfl rfl

theorem y_form {l : Launch} {D : va_G} {K : Nat → ClassId} {ad : Adr} (hl0 : l.stackTraces = false) (σ : Mem) (z : Int) (hz : inR z) : Cb l D K ad yX6_formOf (.code yX6_formOf cX6_formOf 1 (some (.object "java/lang/String"))) 1 0 0 σ [.int (iN z)] (.inl (some (.ref (K (100 + fmI z))))) σ := by
  by_cases h115 : z = 115
  · subst h115
    exact y_fo_115 hl0 σ
  by_cases h97 : z = 97
  · subst h97
    exact y_fo_97 hl0 σ
  by_cases h99 : z = 99
  · subst h99
    exact y_fo_99 hl0 σ
  by_cases h98 : z = 98
  · subst h98
    exact y_fo_98 hl0 σ
  by_cases h111 : z = 111
  · subst h111
    exact y_fo_111 hl0 σ
  by_cases h120 : z = 120
  · subst h120
    exact y_fo_120 hl0 σ
  by_cases h121 : z = 121
  · subst h121
    exact y_fo_121 hl0 σ
  by_cases h116 : z = 116
  · subst h116
    exact y_fo_116 hl0 σ
  by_cases h102 : z = 102
  · subst h102
    exact y_fo_102 hl0 σ
  rw [show fmI z = 9 by unfold fmI; rw [if_neg h115, if_neg h97, if_neg h99, if_neg h98, if_neg h111, if_neg h120, if_neg h121, if_neg h116, if_neg h102]]
  by_cases ho : z < 97 ∨ 121 < z
  · exact y_fo_out hl0 σ z hz ho
  · rcases (show z = 100 ∨ z = 101 ∨ z = 103 ∨ z = 104 ∨ z = 105 ∨ z = 106 ∨ z = 107 ∨ z = 108 ∨ z = 109 ∨ z = 110 ∨ z = 112 ∨ z = 113 ∨ z = 114 ∨ z = 117 ∨ z = 118 ∨ z = 119 by omega) with rfl | rfl | rfl | rfl | rfl | rfl | rfl | rfl | rfl | rfl | rfl | rfl | rfl | rfl | rfl | rfl
    · exact y_fo_100 hl0 σ
    · exact y_fo_101 hl0 σ
    · exact y_fo_103 hl0 σ
    · exact y_fo_104 hl0 σ
    · exact y_fo_105 hl0 σ
    · exact y_fo_106 hl0 σ
    · exact y_fo_107 hl0 σ
    · exact y_fo_108 hl0 σ
    · exact y_fo_109 hl0 σ
    · exact y_fo_110 hl0 σ
    · exact y_fo_112 hl0 σ
    · exact y_fo_113 hl0 σ
    · exact y_fo_114 hl0 σ
    · exact y_fo_117 hl0 σ
    · exact y_fo_118 hl0 σ
    · exact y_fo_119 hl0 σ
set_option maxHeartbeats 4000000 in
set_option maxRecDepth 100000 in
theorem y_read {l : Launch} {D : va_G} {K : Nat → ClassId} {ad : Adr} (hl0 : l.stackTraces = false) (σ : Mem) (ch : Int → Int) (len : Int) (hP : C6 σ ch len) (p : Int) (hp : 0 ≤ p ∧ p ≤ 60) (n : Int) (hn : 0 ≤ n ∧ n < 30) : Cb l D K ad yX6_readCommand (.code yX6_readCommand cX6_readCommand 5 (some .boolean)) 5 0 0 (aM σ p) [.ref (ad 0 26), .int (iN n)] (.inl (some (.int (iN (cRead ch len n σ p).2.2)))) (aM (cRead ch len n σ p).1 (cRead ch len n σ p).2.1) := by
  refine Cb.of (own := RX6) (ls0 := [some (.ref (ad 0 26)), some (.int (iN n)), none, none, none]) hl0 (by decide) rfl (Nat.le_of_ble_eq_true rfl) rfl ?_
  intro X hX1 hX2 hX3 hf he hh
  subst hX1 hX2 hX3
  have hl := hP.2.2.1
  have hRp := aM_R hP.2.2.2.2 (p := p) ⟨hp.1, by omega⟩
  have e2 : aM σ p 0 26 2 = p := aM_2
  have e1 : aM σ p 0 26 1 = len := (aM_k (by decide)).trans hP.2.1
  have ec : ∀ k : Int, 0 ≤ k → k < len → aM σ p 0 27 k = ch k := fun k h0 h1 => (aM_j (by decide)).trans (hP.1 k h0 h1)
  have eh : p < len → mHere ch len p = ch p := fun h => if_pos h
  have eh2 : ¬ p < len → mHere ch len p = -1 := fun h => if_neg h
  have loop : ∀ (f : Nat) (j : Int) (τ : Mem) (q : Int), C6 τ ch len → 0 ≤ q ∧ q ≤ 60 → 1 ≤ j → τ 0 26 4 = fmN (fmI (ch p)) j → j ≤ fmL (fmI (ch p)) + 1 → fmL (fmI (ch p)) - j < f → Be X (some .boolean) ad (.inl (some (.int (iN (cRun ch len n (fmI (ch p)) f j τ q).2.2)))) (aM (cRun ch len n (fmI (ch p)) f j τ q).1 (cRun ch len n (fmI (ch p)) f j τ q).2.1) 0 0 → B X ad (aM τ q) 62 [some (.ref (ad 0 26)), some (.int (iN n)), some (.int (iN (ch p))), some (.ref (xK X (100 + fmI (ch p)))), some (.int (iN j))] [] 0 0 := by
    have hL := fmL_r (fmI (ch p)) (fmI_r _)
    intro f
    induction f with
    | zero =>
      intro j τ q hτ hq hj hN hj2 hjf he
      refine V_iload hf dX6_readCommand_62 rfl ?_
      refine V_aload_n hf dX6_readCommand_64 rfl rfl ?_
      refine B_callVoi hf (As := []) (z_length hl0 (fmI_r (ch p)) (aM τ q)) cv_X6_54 (fmI_r _) rfl (Nat.le_of_ble_eq_true rfl) ⟨by decide, by decide, by decide, by decide⟩ dX6_readCommand_65 ?_
      refine V_icmp_ge (tgt := 93) hf ⟨by omega, by omega⟩ ⟨by omega, by omega⟩ dX6_readCommand_68 (by decide) (fun h68 => ?_) (fun h68 => ?_)
      · refine V_iconst hf dX6_readCommand_93 ?_
        exact B_iret hf he (show narrow .boolean (.int (iN 1)) = .int (iN 1) from by decide +kernel) dX6_readCommand_94 (by decide) (by decide) rfl rfl
      · exact absurd h68 (by omega)
    | succ f ih =>
      intro j τ q hτ hq hj hN hj2 hjf he
      refine V_iload hf dX6_readCommand_62 rfl ?_
      refine V_aload_n hf dX6_readCommand_64 rfl rfl ?_
      refine B_callVoi hf (As := []) (z_length hl0 (fmI_r (ch p)) (aM τ q)) cv_X6_54 (fmI_r _) rfl (Nat.le_of_ble_eq_true rfl) ⟨by decide, by decide, by decide, by decide⟩ dX6_readCommand_65 ?_
      refine V_icmp_ge (tgt := 93) hf ⟨by omega, by omega⟩ ⟨by omega, by omega⟩ dX6_readCommand_68 (by decide) (fun h68 => ?_) (fun h68 => ?_)
      · rw [show (cRun ch len n (fmI (ch p)) (f + 1) j τ q) = (τ, q, 1) from if_neg (by omega)] at he
        refine V_iconst hf dX6_readCommand_93 ?_
        exact B_iret hf he (show narrow .boolean (.int (iN 1)) = .int (iN 1) from by decide +kernel) dX6_readCommand_94 (by decide) (by decide) rfl rfl
      · have hb := fmB_ok (fmI (ch p)) (fmI_r _) j.toNat (by omega)
        have hm := fmN_ok (fmI (ch p)) (fmI_r _) j.toNat (by omega)
        rw [Int.toNat_of_nonneg (by omega : 0 ≤ j)] at hb hm
        have hff : fmB (fmI (ch p)) j = 78 ∨ fmB (fmI (ch p)) j = 68 → 0 ≤ τ 0 26 4 ∧ τ 0 26 4 < 3 := fun z => by have := (hm.1 ⟨h68, by omega, z⟩).1; have := hm.2.2; omega
        have hs := cStep_p (n := n) (c := fmB (fmI (ch p)) j) hτ hq hb.2.1 hff
        refine V_aload_n hf dX6_readCommand_71 rfl rfl ?_
        refine V_iload_n hf dX6_readCommand_72 rfl rfl ?_
        refine V_aload_n hf dX6_readCommand_73 rfl rfl ?_
        refine V_iload hf dX6_readCommand_74 rfl ?_
        refine B_callVoi hf (As := [_]) (z_charAt hl0 (fmI_r (ch p)) (aM τ q) j (by omega) h68) cv_X6_57 (fmI_r _) rfl (Nat.le_of_ble_eq_true rfl) ⟨by decide, by decide, by decide, by decide⟩ dX6_readCommand_76 ?_
        refine B_callVi hf (As := [_, _]) (y_part hl0 τ ch len hτ q hq n hn (fmB (fmI (ch p)) j) hb.2 hff) cv_X6_61 l01 rfl rfl rfl (Nat.le_of_ble_eq_true rfl) ⟨by decide, by decide, by decide, by decide⟩ dX6_readCommand_79 ?_
        refine V_if_ne (tgt := 87) hf (by rcases hs.2.1 with h | h <;> rw [h] <;> exact ⟨by decide, by decide⟩) dX6_readCommand_82 (by decide) (fun h82 => ?_) (fun h82 => ?_)
        · rw [show (cRun ch len n (fmI (ch p)) (f + 1) j τ q) = (cRun ch len n (fmI (ch p)) f (j + 1) (cStep ch len n (fmB (fmI (ch p)) j) τ q).1 (cStep ch len n (fmB (fmI (ch p)) j) τ q).2.1) from (if_pos h68).trans (if_neg h82)] at he
          refine V_iinc (ls2 := [_, _, _, _, _]) hf dX6_readCommand_87 (by decide) rfl rfl rfl ?_
          refine V_goto (tgt := 62) hf dX6_readCommand_90 (by decide) ?_
          refine ih (j + 1) _ _ hs.1 ⟨hs.2.2.1, hs.2.2.2.1⟩ (by omega) ?_ (by omega) (by omega) he
          rw [hs.2.2.2.2.1 (hs.2.1.resolve_left h82)]
          split
          · rename_i z9
            rw [(hm.1 ⟨h68, by omega, z9⟩).2, hN]
          · rename_i z9
            rw [hm.2.1 ⟨h68, by omega, z9⟩, hN]
        · rw [show (cRun ch len n (fmI (ch p)) (f + 1) j τ q) = (cStep ch len n (fmB (fmI (ch p)) j) τ q) from (if_pos h68).trans (if_pos (by omega))] at he
          refine V_iconst hf dX6_readCommand_85 ?_
          exact B_iret hf he (by rw [h82]; decide +kernel) dX6_readCommand_86 (by decide) (by decide) h82.symm rfl
  refine V_aload_n hf dX6_readCommand_0 rfl rfl ?_
  refine B_get hf l01 rfl fl_X6_19_9 rfl dX6_readCommand_1 ?_
  refine V_aload_n hf dX6_readCommand_4 rfl rfl ?_
  refine B_get hf l01 rfl fl_X6_15_9 rfl dX6_readCommand_5 ?_
  refine V_icmp_lt (tgt := 13) hf (by first | exact hRp _ _ _ (by decide) | exact ⟨by omega, by omega⟩) (by first | exact hRp _ _ _ (by decide) | exact ⟨by omega, by omega⟩) dX6_readCommand_8 (by decide) (fun h8 => ?_) (fun h8 => ?_)
  · have hcr := hP.2.2.2.1 p hp.1 (by omega)
    refine V_aload_n hf dX6_readCommand_13 rfl rfl ?_
    refine B_get hf l01 rfl fl_X6_11_9 rfl dX6_readCommand_14 ?_
    refine V_aload_n hf dX6_readCommand_17 rfl rfl ?_
    refine B_get hf l01 rfl fl_X6_19_9 rfl dX6_readCommand_18 ?_
    refine B_cald hf l01 (fun _ => rfl) (by first | exact hRp _ _ _ (by decide) | exact ⟨by omega, by omega⟩) (by omega) (by omega) dX6_readCommand_21 ?_
    rw [e2, ec p hp.1 (by omega)]
    refine V_istore_n (ls2 := [_, _, _, _, _]) hf dX6_readCommand_22 rfl (by decide) rfl rfl ?_
    refine V_iload_n hf dX6_readCommand_23 rfl rfl ?_
    refine B_callSi hf (As := [_]) (y_form hl0 (aM σ p) (ch p) ⟨by omega, by omega⟩) cvs_X6_44 rfl (Nat.le_of_ble_eq_true rfl) ⟨by decide, by decide, by decide, by decide⟩ dX6_readCommand_24 ?_
    refine V_astore_n (ls2 := [_, _, _, _, _]) hf dX6_readCommand_27 rfl (by decide) rfl rfl ?_
    refine V_aload_n hf dX6_readCommand_28 rfl rfl ?_
    refine B_callVoi hf (As := []) (z_empty hl0 (fmI_r (ch p)) (aM σ p)) cv_X6_48 (fmI_r _) rfl (Nat.le_of_ble_eq_true rfl) ⟨by decide, by decide, by decide, by decide⟩ dX6_readCommand_29 ?_
    refine V_if_eq (tgt := 37) hf (by split <;> exact ⟨by decide, by decide⟩) dX6_readCommand_32 (by decide) (fun h32 => ?_) (fun h32 => ?_)
    · have hz : ¬ fmL (fmI (ch p)) = 0 := fun z => by rw [if_pos z] at h32; omega
      have hL := fmL_r (fmI (ch p)) (fmI_r _)
      rw [show cRead ch len n σ p = cRun ch len n (fmI (ch p)) 5 1 (st3 (st3 σ 0 28 n (ch p)) 0 26 4 0) (p + 1) from (if_neg (by omega)).trans (if_neg hz)] at he
      refine V_aload_n hf dX6_readCommand_37 rfl rfl ?_
      refine V_dup hf dX6_readCommand_38 rfl ?_
      refine B_get hf l01 rfl fl_X6_19_9 rfl dX6_readCommand_39 ?_
      refine V_iconst hf dX6_readCommand_42 ?_
      refine V_iadd hf dX6_readCommand_43 ?_
      refine B_putI (kI := 2) hf rfl l01 rfl fp_X6_19_9 rfl rfl (Nat.le_of_ble_eq_true rfl) (by decide) (cs_26_2 _ _ _ _ _) dX6_readCommand_44 ?_
      rw [aM_a, e2]
      refine V_aload_n hf dX6_readCommand_47 rfl rfl ?_
      refine B_get hf l01 rfl fl_X6_28_9 rfl dX6_readCommand_48 ?_
      refine V_iload_n hf dX6_readCommand_51 rfl rfl ?_
      refine V_iload_n hf dX6_readCommand_52 rfl rfl ?_
      refine B_cast hf l01 (by decide) (fun _ => rfl) (by first | exact hRp _ _ _ (by decide) | exact ⟨by omega, by omega⟩) (by omega) (by omega) (by omega) (by omega) dX6_readCommand_53 ?_
      rw [aM_c (fun q => absurd q.1 (by decide))]
      refine V_aload_n hf dX6_readCommand_54 rfl rfl ?_
      refine V_iconst hf dX6_readCommand_55 ?_
      refine B_putI (kI := 4) hf rfl l01 rfl fp_X6_25_9 rfl rfl (Nat.le_of_ble_eq_true rfl) (by decide) (cs_26_4 _ _ _ _ _) dX6_readCommand_56 ?_
      rw [aM_c (fun q => absurd q.2 (by decide))]
      refine V_iconst hf dX6_readCommand_59 ?_
      refine V_istore (ls2 := [_, _, _, _, _]) hf dX6_readCommand_60 (by decide) rfl rfl ?_
      have h0 := cRead_0 hP hn (by omega : p < len) hp.1
      exact loop 5 1 _ (p + 1) h0.1 ⟨by omega, by omega⟩ (by decide) h0.2 (by omega) (by omega) he
    · have hz : fmL (fmI (ch p)) = 0 := Classical.byContradiction fun z => h32 (if_neg z)
      rw [show cRead ch len n σ p = (σ, p, 0) from (if_neg (by omega)).trans (if_pos hz)] at he
      refine V_iconst hf dX6_readCommand_35 ?_
      exact B_iret hf he (show narrow .boolean (.int (iN 0)) = .int (iN 0) from by decide +kernel) dX6_readCommand_36 (by decide) (by decide) (by first | rfl | omega) rfl
  · rw [show cRead ch len n σ p = (σ, p, 0) from if_pos (by omega)] at he
    refine V_iconst hf dX6_readCommand_11 ?_
    exact B_iret hf he (show narrow .boolean (.int (iN 0)) = .int (iN 0) from by decide +kernel) dX6_readCommand_12 (by decide) (by decide) (by first | rfl | omega) rfl

set_option maxHeartbeats 4000000 in
set_option maxRecDepth 100000 in
theorem y_reads {l : Launch} {D : va_G} {K : Nat → ClassId} {ad : Adr} (hl0 : l.stackTraces = false) (σ : Mem) (ch : Int → Int) (len : Int) (hP : C6 σ ch len) : Cb l D K ad yX6_readCommands (.code yX6_readCommands cX6_readCommands 1 (some .int)) 6 0 0 σ [.ref (ad 0 26)] (.inl (some (.int (iN (if (cAll ch len 31 (st3 σ 0 26 3 0) 0).2.2 = 1 then -1 else (cAll ch len 31 (st3 σ 0 26 3 0) 0).2.1))))) (aM (cAll ch len 31 (st3 σ 0 26 3 0) 0).1 (cAll ch len 31 (st3 σ 0 26 3 0) 0).2.1) := by
  refine Cb.of (own := RX6) (ls0 := [some (.ref (ad 0 26))]) hl0 (by decide) rfl (Nat.le_of_ble_eq_true rfl) rfl ?_
  intro X hX1 hX2 hX3 hf he hh
  subst hX1 hX2 hX3
  have loop : ∀ (f : Nat) (τ : Mem) (p : Int), C6 τ ch len → 0 ≤ p ∧ p ≤ 60 → 0 ≤ τ 0 26 3 ∧ τ 0 26 3 ≤ 30 → 31 ≤ τ 0 26 3 + f → Be X (some .int) ad (.inl (some (.int (iN (if (cAll ch len f τ p).2.2 = 1 then -1 else (cAll ch len f τ p).2.1))))) (aM (cAll ch len f τ p).1 (cAll ch len f τ p).2.1) 0 0 → B X ad (aM τ p) 10 [some (.ref (ad 0 26))] [] 0 0 := by
    intro f
    induction f with
    | zero =>
      intros; omega
    | succ f ih =>
      intro τ p hP hp h3 hf3 he
      have hl := hP.2.2.1
      have e3 : aM τ p 0 26 3 = τ 0 26 3 := aM_k (by decide)
      refine V_aload_n hf dX6_readCommands_10 rfl rfl ?_
      refine B_get hf l01 rfl fl_X6_22_9 rfl dX6_readCommands_11 ?_
      refine V_bipush hf dX6_readCommands_14 (by decide +kernel) ?_
      refine V_icmp_ge (tgt := 85) hf ⟨by omega, by omega⟩ ⟨by decide, by decide⟩ dX6_readCommands_16 (by decide) (fun h16 => ?_) (fun h16 => ?_)
      · rw [show (cAll ch len (f + 1) τ p) = (τ, p, 0) from if_pos (by omega)] at he
        refine V_aload_n hf dX6_readCommands_85 rfl rfl ?_
        refine B_get hf l01 rfl fl_X6_19_9 rfl dX6_readCommands_86 ?_
        exact B_iret hf he rfl dX6_readCommands_89 (by decide) (by decide) (by first | rfl | omega) rfl
      · refine V_aload_n hf dX6_readCommands_19 rfl rfl ?_
        refine V_aload_n hf dX6_readCommands_20 rfl rfl ?_
        refine B_get hf l01 rfl fl_X6_22_9 rfl dX6_readCommands_21 ?_
        refine B_callVi hf (As := [_]) (y_read hl0 τ ch len hP p hp (τ 0 26 3) ⟨by omega, by omega⟩) cv_X6_36 l01 rfl rfl rfl (Nat.le_of_ble_eq_true rfl) ⟨by decide, by decide, by decide, by decide⟩ dX6_readCommands_24 ?_
        have hr := cRead_p (n := τ 0 26 3) hP ⟨by omega, by omega⟩ hp
        have r3 : (cRead ch len (τ 0 26 3) τ p).1 0 26 3 = τ 0 26 3 := cRead_3
        have r1 : aM (cRead ch len (τ 0 26 3) τ p).1 (cRead ch len (τ 0 26 3) τ p).2.1 0 26 1 = len := (aM_k (by decide)).trans hr.1.2.1
        refine V_if_ne (tgt := 35) hf (by rcases hr.2.2 with h | h <;> rw [h] <;> exact ⟨by decide, by decide⟩) dX6_readCommands_27 (by decide) (fun h27 => ?_) (fun h27 => ?_)
        · refine V_aload_n hf dX6_readCommands_35 rfl rfl ?_
          refine B_get hf l01 rfl fl_X6_19_9 rfl dX6_readCommands_36 ?_
          refine V_aload_n hf dX6_readCommands_39 rfl rfl ?_
          refine B_get hf l01 rfl fl_X6_15_9 rfl dX6_readCommands_40 ?_
          refine V_icmp_ne (tgt := 58) hf (by rw [aM_2]; exact ⟨by omega, by omega⟩) (by rw [r1]; exact ⟨by omega, by omega⟩) dX6_readCommands_43 (by decide) (fun h43 => ?_) (fun h43 => ?_)
          · rw [aM_2, r1] at h43
            by_cases hz : mHere ch len (cRead ch len (τ 0 26 3) τ p).2.1 = 59
            · refine V_aload_n hf dX6_readCommands_58 rfl rfl ?_
              refine V_bipush hf dX6_readCommands_59 (by decide +kernel) ?_
              refine B_callVi hf (As := [_]) (y_sign_o hl0 (cRead ch len (τ 0 26 3) τ p).1 ch len hr.1 (cRead ch len (τ 0 26 3) τ p).2.1 hr.2.1 59 (by decide) hz) cv_X6_40 l01 rfl rfl rfl (Nat.le_of_ble_eq_true rfl) ⟨by decide, by decide, by decide, by decide⟩ dX6_readCommands_61 ?_
              refine V_if_ne (tgt := 72) hf ⟨by decide, by decide⟩ dX6_readCommands_64 (by decide) (fun h64 => ?_) (fun h64 => ?_)
              · refine V_aload_n hf dX6_readCommands_72 rfl rfl ?_
                refine V_dup hf dX6_readCommands_73 rfl ?_
                refine B_get hf l01 rfl fl_X6_22_9 rfl dX6_readCommands_74 ?_
                refine V_iconst hf dX6_readCommands_77 ?_
                refine V_iadd hf dX6_readCommands_78 ?_
                refine B_putI (kI := 3) hf rfl l01 rfl fp_X6_22_9 rfl rfl (Nat.le_of_ble_eq_true rfl) (by decide) (cs_26_3 _ _ _ _ _) dX6_readCommands_79 ?_
                rw [aM_c (by decide), aM_k (by decide), r3]
                refine V_goto (tgt := 10) hf dX6_readCommands_82 (by decide) ?_
                rw [show (cAll ch len (f + 1) τ p) = (cAll ch len f (st3 (cRead ch len (τ 0 26 3) τ p).1 0 26 3 (τ 0 26 3 + 1)) ((cRead ch len (τ 0 26 3) τ p).2.1 + 1)) from (if_neg (by omega)).trans ((if_neg h27).trans ((if_neg h43).trans (if_pos hz)))] at he
                have hlt : (cRead ch len (τ 0 26 3) τ p).2.1 < len := by
                  unfold mHere at hz
                  split at hz <;> omega
                exact ih _ _ (hr.1.st ⟨by omega, by omega⟩ (by decide) (by decide)) ⟨by omega, by omega⟩ (by rw [st3_self]; omega) (by rw [st3_self]; omega) he
              · exact absurd h64 (by decide)
            · refine V_aload_n hf dX6_readCommands_58 rfl rfl ?_
              refine V_bipush hf dX6_readCommands_59 (by decide +kernel) ?_
              refine B_callVi hf (As := [_]) (y_sign_n hl0 (cRead ch len (τ 0 26 3) τ p).1 ch len hr.1 (cRead ch len (τ 0 26 3) τ p).2.1 hr.2.1 59 (by decide) hz) cv_X6_40 l01 rfl rfl rfl (Nat.le_of_ble_eq_true rfl) ⟨by decide, by decide, by decide, by decide⟩ dX6_readCommands_61 ?_
              refine V_if_ne (tgt := 72) hf ⟨by decide, by decide⟩ dX6_readCommands_64 (by decide) (fun h64 => ?_) (fun h64 => ?_)
              · exact absurd rfl h64
              · refine V_aload_n hf dX6_readCommands_67 rfl rfl ?_
                refine B_get hf l01 rfl fl_X6_19_9 rfl dX6_readCommands_68 ?_
                rw [show (cAll ch len (f + 1) τ p) = ((cRead ch len (τ 0 26 3) τ p).1, (cRead ch len (τ 0 26 3) τ p).2.1, 0) from (if_neg (by omega)).trans ((if_neg h27).trans ((if_neg h43).trans (if_neg hz)))] at he
                rw [aM_2]
                exact B_iret hf he rfl dX6_readCommands_71 (by decide) (by decide) (if_neg (fun q => absurd (show (0 : Int) = 1 from q) (by decide))).symm rfl
          · rw [aM_2, r1] at h43
            rw [show (cAll ch len (f + 1) τ p) = (st3 (cRead ch len (τ 0 26 3) τ p).1 0 26 3 (τ 0 26 3 + 1), (cRead ch len (τ 0 26 3) τ p).2.1, 1) from (if_neg (by omega)).trans ((if_neg h27).trans (if_pos h43))] at he
            refine V_aload_n hf dX6_readCommands_46 rfl rfl ?_
            refine V_dup hf dX6_readCommands_47 rfl ?_
            refine B_get hf l01 rfl fl_X6_22_9 rfl dX6_readCommands_48 ?_
            refine V_iconst hf dX6_readCommands_51 ?_
            refine V_iadd hf dX6_readCommands_52 ?_
            refine B_putI (kI := 3) hf rfl l01 rfl fp_X6_22_9 rfl rfl (Nat.le_of_ble_eq_true rfl) (by decide) (cs_26_3 _ _ _ _ _) dX6_readCommands_53 ?_
            rw [aM_c (by decide), aM_k (by decide), r3]
            refine V_iconst hf dX6_readCommands_56 ?_
            exact B_iret hf he rfl dX6_readCommands_57 (by decide) (by decide) (if_pos rfl).symm rfl
        · rw [show (cAll ch len (f + 1) τ p) = ((cRead ch len (τ 0 26 3) τ p).1, (cRead ch len (τ 0 26 3) τ p).2.1, 0) from (if_neg (by omega)).trans (if_pos h27)] at he
          refine V_aload_n hf dX6_readCommands_30 rfl rfl ?_
          refine B_get hf l01 rfl fl_X6_19_9 rfl dX6_readCommands_31 ?_
          rw [aM_2]
          exact B_iret hf he rfl dX6_readCommands_34 (by decide) (by decide) (if_neg (fun q => absurd (show (0 : Int) = 1 from q) (by decide))).symm rfl
  refine V_aload_n hf dX6_readCommands_0 rfl rfl ?_
  refine V_iconst hf dX6_readCommands_1 ?_
  refine B_putI (kI := 2) hf rfl l01 rfl fp_X6_19_9 rfl rfl (Nat.le_of_ble_eq_true rfl) (by decide) (cs_26_2 _ _ _ _ _) dX6_readCommands_2 ?_
  refine V_aload_n hf dX6_readCommands_5 rfl rfl ?_
  refine V_iconst hf dX6_readCommands_6 ?_
  refine B_putI (kI := 3) hf rfl l01 rfl fp_X6_22_9 rfl rfl (Nat.le_of_ble_eq_true rfl) (by decide) (cs_26_3 _ _ _ _ _) dX6_readCommands_7 ?_
  rw [show st3 (st3 σ 0 26 2 0) 0 26 3 0 = aM (st3 σ 0 26 3 0) 0 from aM_c (σ := σ) (p := 0) (by decide)]
  exact loop 31 _ 0 (hP.st ⟨by decide, by decide⟩ (by decide) (by decide)) ⟨by decide, by decide⟩ (by rw [st3_self]; decide) (by rw [st3_self]; decide) he
