/-! the class writes a line -/
set_option maxHeartbeats 4000000 in
set_option maxRecDepth 100000 in
theorem c_wb {l : Launch} {D : va_G} {K : Nat → ClassId} {ad : Adr} (hl0 : l.stackTraces = false) (σ : Mem) {ν : Int → Int} (m : MR (σ 0) ν) {σ0 : Mem} {L : List Int} (h : Tx σ0 σ L) (b : Int) (hbR : inR b) (hb : 0 ≤ b ∧ b < ν 1) (hL : (L.length : Int) ≤ 190) : Cg l D K ad yX8_writeBarnacle (.code yX8_writeBarnacle cX8_writeBarnacle 2 none) 6 (gcap (σ 0 33 0) ((L.length : Int) + ([32] ++ dl b ++ [103] ++ dl (mgr ν b) ++ (if mofferFor ν b = -1 then [] else [33])).length) - σ 0 33 0).toNat (3 * (gcap (σ 0 33 0) ((L.length : Int) + ([32] ++ dl b ++ [103] ++ dl (mgr ν b) ++ (if mofferFor ν b = -1 then [] else [33])).length) - σ 0 33 0).toNat) σ [.ref (ad 0 23), .int (iN b)] none (fun σ' => Tx σ0 σ' (L ++ ([32] ++ dl b ++ [103] ++ dl (mgr ν b) ++ (if mofferFor ν b = -1 then [] else [33]))) ∧ σ' 0 33 0 = gcap (σ 0 33 0) ((L.length : Int) + ([32] ++ dl b ++ [103] ++ dl (mgr ν b) ++ (if mofferFor ν b = -1 then [] else [33])).length)) := by
  refine Cg.of (own := RX8) (ls0 := [some (.ref (ad 0 23)), some (.int (iN b))]) hl0 (by decide) rfl (Nat.le_of_ble_eq_true rfl) rfl ?_
  intro X hX1 hX2 hX3 hX4 hf he hh
  subst hX1 hX2 hX3
  obtain ⟨hR, hB, hcap, hn, ht, hfr⟩ := id h
  have hc := hB.2.1
  have hLc : (L.length : Int) ≤ σ 0 33 0 := by have := hB.2.2.1; omega
  have hN := m.ni
  have n1 := hN.n1
  have sc := m.sc
  have dlb := dl_len (v := b)
  have dlg := dl_len (v := mgr ν b)
  have dpb := dl_pos (v := b)
  have dpg := dl_pos (v := mgr ν b)
  have hgr : 0 ≤ mgr ν b ∧ mgr ν b ≤ 9 := by
    have := hN.ba b hb.1 hb.2
    unfold mgr
    omega
  have db2 := dlb.2.2 (by omega)
  have dg1 := dlg.2.1 (by omega)
  have hT : ∀ x : Int, x ≤ (L.length : Int) + ([32] ++ dl b ++ [103] ++ dl (mgr ν b) ++ (if mofferFor ν b = -1 then [] else [33])).length → gcap (σ 0 33 0) x - σ 0 33 0 ≤ (((gcap (σ 0 33 0) ((L.length : Int) + ([32] ++ dl b ++ [103] ++ dl (mgr ν b) ++ (if mofferFor ν b = -1 then [] else [33])).length) - σ 0 33 0).toNat : Nat) : Int) := fun x hx => by
    have := gcap_le (c := σ 0 33 0) (by omega) hx
    omega
  have hML : ((([32] ++ dl b ++ [103] ++ dl (mgr ν b) ++ (if mofferFor ν b = -1 then [] else [33])).length : Nat) : Int) = 1 + (dl b).length + 1 + (dl (mgr ν b)).length + (if mofferFor ν b = -1 then 0 else 1) := by
    split <;> simp only [List.length_append, List.length_cons, List.length_nil] <;> omega
  generalize hMM : ([32] ++ dl b ++ [103] ++ dl (mgr ν b) ++ (if mofferFor ν b = -1 then [] else [33])) = MM at hf he hT hML
  have hif : (0 : Int) ≤ (if mofferFor ν b = -1 then 0 else 1) ∧ (if mofferFor ν b = -1 then (0 : Int) else 1) ≤ 1 := by split <;> decide
  have K0 : Kc (σ 0 33 0) 0 0 (σ 0 33 0) := ⟨by omega, by omega⟩
  have mσ : ∀ σx : Mem, (∀ (i : Int) (j : Nat), ¬ (i = 0 ∧ (j = 31 ∨ j = 32 ∨ j = 33)) → σx i j = σ0 i j) → ∀ (i : Int) (j : Nat), ¬ (i = 0 ∧ (j = 31 ∨ j = 32 ∨ j = 33)) → σx i j = σ i j := fun σx q i j z => by rw [q i j z, hfr i j z]
  refine V_aload_n hf dX8_writeBarnacle_0 rfl rfl ?_
  refine B_get hf l01 rfl fl_X8_10_11 rfl dX8_writeBarnacle_1 ?_
  refine B_get hf lm0 rfl fl_X8_64_7 rfl dX8_writeBarnacle_4 ?_
  refine V_iload_n hf dX8_writeBarnacle_7 rfl rfl ?_
  refine B_callVi hf (As := [_]) (c_hasBarn hl0 0 lm0 σ hR b hbR) cv_X8_352 lm0 rfl rfl rfl (Nat.le_of_ble_eq_true rfl) ⟨(Nat.le_of_ble_eq_true rfl), (Nat.le_of_ble_eq_true rfl), by simp only [rmd]; omega, by simp only [rmd]; omega⟩ dX8_writeBarnacle_8 ?_
  rw [if_pos ⟨hb.1, by rw [sc.2.1]; exact hb.2⟩]
  refine V_if_ne (tgt := 15) hf ⟨by decide, by decide⟩ dX8_writeBarnacle_11 (by decide) (fun h11 => ?_) (fun h11 => absurd h11 (by decide))
  refine V_aload_n hf dX8_writeBarnacle_15 rfl rfl ?_
  refine B_get hf l01 rfl fl_X8_43_11 rfl dX8_writeBarnacle_16 ?_
  refine V_bipush hf dX8_writeBarnacle_19 (by decide +kernel) ?_
  have l1 : ((L ++ [32]).length : Int) = L.length + 1 := by simp only [List.length_append, List.length_cons, List.length_nil]; omega
  have l2 : ((L ++ [32] ++ dl b).length : Int) = L.length + 1 + (dl b).length := by simp only [List.length_append, List.length_cons, List.length_nil]; omega
  have l3 : ((L ++ [32] ++ dl b ++ [103]).length : Int) = L.length + 1 + (dl b).length + 1 := by simp only [List.length_append, List.length_cons, List.length_nil]; omega
  have l4 : ((L ++ [32] ++ dl b ++ [103] ++ dl (mgr ν b)).length : Int) = L.length + 1 + (dl b).length + 1 + (dl (mgr ν b)).length := by simp only [List.length_append, List.length_cons, List.length_nil]; omega
  have l5 : ((L ++ [32] ++ dl b ++ [103] ++ dl (mgr ν b) ++ [33]).length : Int) = L.length + 1 + (dl b).length + 1 + (dl (mgr ν b)).length + 1 := by simp only [List.length_append, List.length_cons, List.length_nil]; omega
  refine B_tC hf hl0 h K0 ⟨by decide, by decide⟩ (by omega) cv_X8_237 (Nat.le_of_ble_eq_true rfl) ⟨(Nat.le_of_ble_eq_true rfl), (Nat.le_of_ble_eq_true rfl)⟩ ⟨?_, ?_⟩ dX8_writeBarnacle_21 (fun a1 σ1 cs1 ss1 s1 T1 q1 K1 => ?_)
  · have := hT ((L.length : Int) + 1) (by rw [hML]; omega)
    simp only [rmd]
    omega
  · have := hT ((L.length : Int) + 1) (by rw [hML]; omega)
    simp only [rmd]
    omega
  refine V_iload_n hf dX8_writeBarnacle_24 rfl rfl ?_
  refine B_tI hf hl0 T1 K1 ⟨by omega, by omega⟩ (by rw [l1]; omega) cv_X8_233 (Nat.le_of_ble_eq_true rfl) ⟨(Nat.le_of_ble_eq_true rfl), (Nat.le_of_ble_eq_true rfl)⟩ ⟨?_, ?_⟩ dX8_writeBarnacle_25 (fun a2 σ2 cs2 ss2 s2 T2 q2 K2 => ?_)
  · have := hT ((L.length : Int) + 1 + (dl b).length) (by rw [hML]; omega)
    rw [q1, l1, gcap_add (by omega) (by omega)]
    simp only [rmd]
    omega
  · have := hT ((L.length : Int) + 1 + (dl b).length) (by rw [hML]; omega)
    rw [q1, l1, gcap_add (by omega) (by omega)]
    simp only [rmd]
    omega
  rw [q1, l1, gcap_add (by omega) (by omega)] at q2
  refine V_bipush hf dX8_writeBarnacle_28 (by decide +kernel) ?_
  refine B_tC hf hl0 T2 K2 ⟨by decide, by decide⟩ (by rw [l2]; omega) cv_X8_237 (Nat.le_of_ble_eq_true rfl) ⟨(Nat.le_of_ble_eq_true rfl), (Nat.le_of_ble_eq_true rfl)⟩ ⟨?_, ?_⟩ dX8_writeBarnacle_30 (fun a3 σ3 cs3 ss3 s3 T3 q3 K3 => ?_)
  · have := hT ((L.length : Int) + 1 + (dl b).length + 1) (by rw [hML]; omega)
    rw [q2, l2, gcap_add (by omega) (by omega)]
    simp only [rmd]
    omega
  · have := hT ((L.length : Int) + 1 + (dl b).length + 1) (by rw [hML]; omega)
    rw [q2, l2, gcap_add (by omega) (by omega)]
    simp only [rmd]
    omega
  rw [q2, l2, gcap_add (by omega) (by omega)] at q3
  have s03 := (s1.tr s2).tr s3
  have f3 := mσ σ3 T3.2.2.2.2.2
  rw [show ad 0 23 = a3 0 23 from (s03.e 0 23 (by decide)).symm]
  refine V_aload_n hf dX8_writeBarnacle_33 rfl rfl ?_
  refine B_get hf l01 rfl fl_X8_10_11 rfl dX8_writeBarnacle_34 ?_
  refine B_get hf lm0 rfl fl_X8_64_7 rfl dX8_writeBarnacle_37 ?_
  refine B_get hf lm0 rfl fl_X8_120_5 rfl dX8_writeBarnacle_40 ?_
  refine V_iload_n hf dX8_writeBarnacle_43 rfl rfl ?_
  refine B_iald hf lm0 (fun _ => rfl) hbR hb.1 (by omega) dX8_writeBarnacle_44 ?_
  rw [show σ3 0 4 b = mgr ν b by rw [f3 0 4 (by decide)]; exact (m.ba b hb.1 hb.2).2]
  refine B_tI hf hl0 T3 K3 ⟨by omega, by omega⟩ (by rw [l3]; omega) cv_X8_233 (Nat.le_of_ble_eq_true rfl) ⟨(Nat.le_of_ble_eq_true rfl), (Nat.le_of_ble_eq_true rfl)⟩ ⟨?_, ?_⟩ dX8_writeBarnacle_45 (fun a4 σ4 cs4 ss4 s4 T4 q4 K4 => ?_)
  · have := hT ((L.length : Int) + 1 + (dl b).length + 1 + (dl (mgr ν b)).length) (by rw [hML]; omega)
    rw [q3, l3, gcap_add (by omega) (by omega)]
    simp only [rmd]
    omega
  · have := hT ((L.length : Int) + 1 + (dl b).length + 1 + (dl (mgr ν b)).length) (by rw [hML]; omega)
    rw [q3, l3, gcap_add (by omega) (by omega)]
    simp only [rmd]
    omega
  rw [q3, l3, gcap_add (by omega) (by omega)] at q4
  have f4 := mσ σ4 T4.2.2.2.2.2
  have m4 : MR (σ4 0) ν := MR_same m (fun j hj => f4 0 j (by omega)) (fun _ _ _ => rfl)
  have hT4 := hT ((L.length : Int) + 1 + (dl b).length + 1 + (dl (mgr ν b)).length) (by rw [hML]; omega)
  have K41 := K4.1
  have K42 := K4.2
  rw [q4] at K41 K42
  rw [show a3 0 23 = a4 0 23 from (s4.e 0 23 (by decide)).symm]
  refine V_pop hf dX8_writeBarnacle_48 rfl ?_
  refine V_aload_n hf dX8_writeBarnacle_49 rfl rfl ?_
  refine B_get hf l01 rfl fl_X8_10_11 rfl dX8_writeBarnacle_50 ?_
  refine B_get hf lm0 rfl fl_X8_123_7 rfl dX8_writeBarnacle_53 ?_
  refine V_iload_n hf dX8_writeBarnacle_56 rfl rfl ?_
  refine B_callUi hf (As := [_]) (c_rowOwnO hl0 0 lm0 σ4 T4.1 m4.mi.no b hbR) cu_X8_126_8 lm0 rfl rfl rfl (Nat.le_of_ble_eq_true rfl) ⟨(Nat.le_of_ble_eq_true rfl), (Nat.le_of_ble_eq_true rfl), by simp only [rmd]; omega, by simp only [rmd]; omega⟩ dX8_writeBarnacle_57 ?_
  refine V_iconst hf dX8_writeBarnacle_60 ?_
  have hown := (m4.ownO b).1
  have hrow : inR (rowOwn (σ4 0) 12 b) := by
    have z := rowOwn_r (σ4 0) 12 b
    have z2 := m4.mi.no
    exact ⟨by omega, by omega⟩
  have s04 := s03.tr s4
  obtain ⟨w4, hw4⟩ := s04
  refine V_icmp_eq (tgt := 74) hf hrow ⟨by decide, by decide⟩ dX8_writeBarnacle_61 (by decide) (fun h61 => ?_) (fun h61 => ?_)
  · have hm := hown.mp h61
    rw [if_pos hm] at hMM hML
    refine G_vret hf he (v := w4) dX8_writeBarnacle_74 (by omega) (by omega) hw4 ⟨?_, ?_⟩
    · rw [← hMM, List.append_nil]
      simp only [List.append_assoc] at T4 ⊢
      exact T4
    · rw [q4, hML]
      congr 1
      omega
  · have hm : ¬ mofferFor ν b = -1 := fun q => h61 (hown.mpr q)
    rw [if_neg hm] at hMM hML
    refine V_aload_n hf dX8_writeBarnacle_64 rfl rfl ?_
    refine B_get hf l01 rfl fl_X8_43_11 rfl dX8_writeBarnacle_65 ?_
    refine V_bipush hf dX8_writeBarnacle_68 (by decide +kernel) ?_
    refine B_tC hf hl0 T4 (cs := cs4 + 0) (ss := ss4 + 0) K4 ⟨by decide, by decide⟩ (by rw [l4]; omega) cv_X8_237 (Nat.le_of_ble_eq_true rfl) ⟨(Nat.le_of_ble_eq_true rfl), (Nat.le_of_ble_eq_true rfl)⟩ ⟨?_, ?_⟩ dX8_writeBarnacle_70 (fun a5 σ5 cs5 ss5 s5 T5 q5 K5 => ?_)
    · have := hT ((L.length : Int) + 1 + (dl b).length + 1 + (dl (mgr ν b)).length + 1) (by rw [hML]; omega)
      rw [q4, l4, gcap_add (by omega) (by omega)]
      simp only [rmd]
      omega
    · have := hT ((L.length : Int) + 1 + (dl b).length + 1 + (dl (mgr ν b)).length + 1) (by rw [hML]; omega)
      rw [q4, l4, gcap_add (by omega) (by omega)]
      simp only [rmd]
      omega
    rw [q4, l4, gcap_add (by omega) (by omega)] at q5
    have K51 := K5.1
    have K52 := K5.2
    rw [q5] at K51 K52
    have hT5 := hT ((L.length : Int) + 1 + (dl b).length + 1 + (dl (mgr ν b)).length + 1) (by rw [hML]; omega)
    obtain ⟨w5, hw5⟩ := s5
    subst hw4
    rw [ast_twice] at hw5
    refine V_pop hf dX8_writeBarnacle_73 rfl ?_
    refine G_vret hf he (v := w5) dX8_writeBarnacle_74 (by omega) (by omega) hw5 ⟨?_, ?_⟩
    · rw [← hMM]
      simp only [List.append_assoc] at T5 ⊢
      exact T5
    · rw [q5, hML]
      congr 1
      omega
