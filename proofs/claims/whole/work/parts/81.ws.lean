/-! the class writes a ship's line -/
theorem gcap_499 {c m : Int} (hc : c ≤ 499) (hm : m ≤ 200) : gcap c m ≤ 499 := by
  unfold gcap
  split <;> omega
theorem setM_T {σ : Mem} (hR : Rng σ) (hB : Bl σ) (hcap : σ 0 33 0 ≤ 499) : Tx σ (setM σ) [] ∧ setM σ 0 33 0 = σ 0 33 0 := by
  obtain ⟨b1, b2, b3, b4⟩ := hB
  have e : ∀ (i : Int) (j : Nat), ¬ (i = 0 ∧ j = 31) → setM σ i j = σ i j := fun i j hij => by
    unfold setM
    rw [st3_oj hij]
    split
    · rfl
    · exact st3_oj hij
  have e1 : setM σ 0 31 1 = 0 := by
    unfold setM
    rw [st3_k (by decide)]
    split
    · exact b1
    · rw [st3_k (by decide), b1]
  have e3 : setM σ 0 31 3 = 0 := by
    unfold setM
    exact st3_self
  refine ⟨⟨?_, ⟨e1, by rw [e 0 33 (by decide)]; exact b2, by rw [e3, e 0 33 (by decide)]; omega, fun k k0 => by rw [e 0 32 (by decide)]; exact b4 k k0⟩, by rw [e 0 33 (by decide)]; exact hcap, e3, fun k hk => absurd hk (Nat.not_lt_zero k), fun i j hij => e i j (by omega)⟩, by rw [e 0 33 (by decide)]⟩
  unfold setM
  refine Rng.st ?_ ⟨by decide, by decide⟩
  split
  · exact hR
  · exact hR.st ⟨by decide, by decide⟩
set_option maxHeartbeats 4000000 in
set_option maxRecDepth 100000 in
theorem c_ws {l : Launch} {D : va_G} {K : Nat → ClassId} {ad : Adr} (hl0 : l.stackTraces = false) (σ : Mem) {ν : Int → Int} (m : MR (σ 0) ν) (hR : Rng σ) (hB : Bl σ) (hcap : σ 0 33 0 ≤ 499) (s : Int) (hs : inR s) (h : 0 ≤ s ∧ s < ν 0) : Cg l D K ad yX8_writeShip (.code yX8_writeShip cX8_writeShip 5 (some .int)) 9 500 1500 σ [.ref (ad 0 23), .int (iN s)] (some (.int (iN ((lineN ν s (mload ν s).toNat).length : Int)))) (fun σ' => Tx σ σ' (lineN ν s (mload ν s).toNat)) := by
  refine Cg.of (own := RX8) (ls0 := [some (.ref (ad 0 23)), some (.int (iN s)), none, none, none]) hl0 (by decide) rfl (Nat.le_of_ble_eq_true rfl) rfl ?_
  intro X hX1 hX2 hX3 hX4 hf he hh
  subst hX1 hX2 hX3
  obtain ⟨hB1, hc, hB3, hB4⟩ := id hB
  have hN := m.ni
  have n1 := hN.n1
  have n0 := hN.n0
  have sc := m.sc
  have hsh := hN.sh s h.1 h.2
  have msh := m.sh s h.1 h.2
  have hld := mload_r hN.n1 s
  have hne : ∀ p : Int, 0 ≤ p → p < mload ν s → mbarn ν s p ≠ -1 := fun p p0 p1 => mbarn_ne hN p0 p1
  have dp : ∀ v : Int, 1 ≤ (dl v).length ∧ (dl v).length ≤ 9 := fun v => ⟨dl_pos, (dl_len (v := v)).1⟩
  have hfl := m.mi.fl.2.1
  refine V_aload_n hf dX8_writeShip_0 rfl rfl ?_
  refine V_iload_n hf dX8_writeShip_1 rfl rfl ?_
  refine B_callVv hf (As := [_]) (c_reqShip hl0 σ hR s hs ⟨h.1, by rw [sc.1]; exact h.2⟩) cv_X8_73 l01 rfl rfl rfl (Nat.le_of_ble_eq_true rfl) ⟨by decide, by decide, by decide, by decide⟩ dX8_writeShip_2 ?_
  refine V_aload_n hf dX8_writeShip_5 rfl rfl ?_
  refine B_get hf l01 rfl fl_X8_10_11 rfl dX8_writeShip_6 ?_
  refine B_get hf lm0 rfl fl_X8_64_7 rfl dX8_writeShip_9 ?_
  refine V_astore_n (ls2 := [_, _, _, _, _]) hf dX8_writeShip_12 rfl (by decide) rfl rfl ?_
  refine V_aload_n hf dX8_writeShip_13 rfl rfl ?_
  refine V_iload_n hf dX8_writeShip_14 rfl rfl ?_
  refine B_callVi hf (As := [_]) (c_loadOn hl0 0 lm0 σ hR hfl s hs) cv_X8_94 lm0 rfl rfl rfl (Nat.le_of_ble_eq_true rfl) ⟨by decide, by decide, by decide, by decide⟩ dX8_writeShip_15 ?_
  rw [m.load s]
  refine V_istore_n (ls2 := [_, _, _, _, _]) hf dX8_writeShip_18 rfl (by decide) rfl rfl ?_
  refine V_aload_n hf dX8_writeShip_19 rfl rfl ?_
  refine B_get hf l01 rfl fl_X8_43_11 rfl dX8_writeShip_20 ?_
  refine V_iconst hf dX8_writeShip_23 ?_
  refine B_gV hf (As := [_]) (b4_setL hl0 σ hR hB) cv_X8_230 l01 rfl rfl rfl (Nat.le_of_ble_eq_true rfl) ⟨by decide, by decide, by decide, by decide⟩ dX8_writeShip_24 (fun v σ1 hσ => ?_)
  obtain ⟨T0, q0⟩ := setM_T hR hB hcap
  rw [← hσ] at T0 q0
  have s0 : Sa ad (ast ad 0 32 v) := ⟨v, rfl⟩
  change B X (ast ad 0 32 v) σ1 27 [some (.ref (ad 0 23)), some (.int (iN s)), some (.ref (ad 0 1)), some (.int (iN (mload ν s))), none] [] 0 0
  generalize ast ad 0 32 v = a0 at s0 ⊢
  have K0 : Kc (σ 0 33 0) 0 0 (σ1 0 33 0) := by rw [q0]; exact ⟨by omega, by omega⟩
  have mσ : ∀ (σx : Mem) (L : List Int), Tx σ σx L → MR (σx 0) ν := fun σx L q => MR_same m (fun j hj => q.2.2.2.2.2 0 j (by omega)) (fun _ _ _ => rfl)
  have loop : ∀ (n k : Nat), (k : Int) + n = mload ν s → ∀ (a : Adr) (σk : Mem) (cs ss : Nat), Sa ad a → Tx σ σk (lineN ν s k) → Kc (σ 0 33 0) cs ss (σk 0 33 0) → B X a σk 86 [some (.ref (ad 0 23)), some (.int (iN s)), some (.ref (ad 0 1)), some (.int (iN (mload ν s))), some (.int (iN (k : Int)))] [] cs ss := by
    intro n
    induction n with
    | zero =>
      intro k hk a σk cs ss sa T Kk
      have Kb := Kk.1; have Kd := Kk.2; have Tc := T.2.2.1
      refine V_iload hf dX8_writeShip_86 rfl ?_
      refine V_iload_n hf dX8_writeShip_88 rfl rfl ?_
      refine V_icmp_ge (tgt := 109) hf ⟨by omega, by omega⟩ ⟨by omega, by omega⟩ dX8_writeShip_89 (by decide) (fun h89 => ?_) (fun h89 => absurd h89 (by omega))
      rw [show ad 0 23 = a 0 23 from (sa.e 0 23 (by decide)).symm]
      refine V_aload_n hf dX8_writeShip_109 rfl rfl ?_
      refine B_get hf l01 rfl fl_X8_43_11 rfl dX8_writeShip_110 ?_
      refine B_callVi hf (As := []) (b4_len hl0 σk) cv_X8_243 l01 rfl rfl rfl (Nat.le_of_ble_eq_true rfl) ⟨(Nat.le_of_ble_eq_true rfl), (Nat.le_of_ble_eq_true rfl), by simp only [rmd]; omega, by simp only [rmd]; omega⟩ dX8_writeShip_113 ?_
      obtain ⟨w, hw⟩ := sa
      have ek : (mload ν s).toNat = k := by omega
      rw [ek] at he
      exact G_iret hf he (v := w) rfl dX8_writeShip_116 (by omega) (by omega) T.2.2.2.1 hw T
    | succ n ih =>
      intro k hk a σk cs ss sa T Kk
      have Kb := Kk.1; have Kd := Kk.2; have Tc := T.2.2.1; have Tb := T.2.1.2.1
      have mk := mσ σk _ T
      have hlr := (lineN_r hN h.1 h.2 k (fun p p0 p1 => hne p p0 (by omega))).1
      have hbr := (lineB_r hN (hne k (by omega) (by omega))).1
      have hbn := fst_in (hne k (by omega) (by omega))
      change 0 ≤ mbarn ν s k ∧ mbarn ν s k < ν 1 ∧ _ at hbn
      refine V_iload hf dX8_writeShip_86 rfl ?_
      refine V_iload_n hf dX8_writeShip_88 rfl rfl ?_
      refine V_icmp_ge (tgt := 109) hf ⟨by omega, by omega⟩ ⟨by omega, by omega⟩ dX8_writeShip_89 (by decide) (fun h89 => absurd h89 (by omega)) (fun h89 => ?_)
      rw [show ad 0 23 = a 0 23 from (sa.e 0 23 (by decide)).symm, show ad 0 1 = a 0 1 from (sa.e 0 1 (by decide)).symm]
      refine V_aload_n hf dX8_writeShip_92 rfl rfl ?_
      refine V_aload_n hf dX8_writeShip_93 rfl rfl ?_
      refine V_iload_n hf dX8_writeShip_94 rfl rfl ?_
      refine V_iload hf dX8_writeShip_95 rfl ?_
      refine B_callVi hf (As := [_, _]) (c_inOrder hl0 0 lm0 σk T.1 mk.mi.fl.2.1 s k hs ⟨by omega, by omega⟩) cv_X8_100 lm0 rfl rfl rfl (Nat.le_of_ble_eq_true rfl) ⟨(Nat.le_of_ble_eq_true rfl), (Nat.le_of_ble_eq_true rfl), by simp only [rmd]; omega, by simp only [rmd]; omega⟩ dX8_writeShip_97 ?_
      rw [mk.order s k]
      have hg := gcap_499 (c := σk 0 33 0) (m := ((lineN ν s k).length : Int) + (lineB ν s k).length) Tc (by omega)
      have hg2 := gcap_ge (c := σk 0 33 0) (a := ((lineN ν s k).length : Int) + (lineB ν s k).length) (by omega)
      refine B_gV hf (As := [_]) (Φ := fun σ' => Tx σ σ' (lineN ν s k ++ lineB ν s k) ∧ σ' 0 33 0 = gcap (σk 0 33 0) (((lineN ν s k).length : Int) + (lineB ν s k).length)) (mc := (gcap (σk 0 33 0) (((lineN ν s k).length : Int) + (lineB ν s k).length) - σk 0 33 0).toNat) (ms := 3 * (gcap (σk 0 33 0) (((lineN ν s k).length : Int) + (lineB ν s k).length) - σk 0 33 0).toNat) (c_wb hl0 σk mk T (mbarn ν s k) ⟨by omega, by omega⟩ ⟨hbn.1, hbn.2.1⟩ (by omega)) cv_X8_240 l01 rfl rfl rfl (Nat.le_of_ble_eq_true rfl) ⟨(Nat.le_of_ble_eq_true rfl), (Nat.le_of_ble_eq_true rfl), by simp only [rmd]; omega, by simp only [rmd]; omega⟩ dX8_writeShip_100 (fun w σn hσn => ?_)
      obtain ⟨Tn, qn⟩ := hσn
      refine V_iinc (ls2 := [_, _, _, _, _]) hf dX8_writeShip_103 (by decide) rfl rfl rfl ?_
      refine V_goto (tgt := 86) hf dX8_writeShip_106 (by decide) ?_
      have bk := ih (k + 1) (by omega) (ast a 0 32 w) σn (cs + 0 + (gcap (σk 0 33 0) (((lineN ν s k).length : Int) + (lineB ν s k).length) - σk 0 33 0).toNat) (ss + 0 + 3 * (gcap (σk 0 33 0) (((lineN ν s k).length : Int) + (lineB ν s k).length) - σk 0 33 0).toNat) (sa.tr ⟨w, rfl⟩) Tn ⟨by rw [qn]; omega, by rw [qn]; omega⟩
      rw [show ad 0 23 = a 0 23 from (sa.e 0 23 (by decide)).symm, show ad 0 1 = a 0 1 from (sa.e 0 1 (by decide)).symm] at bk
      exact bk
  have d1 := dp s
  have d2 := dp (ν (14 + 2 * s))
  have d3 := dp (mload ν s)
  have d4 := dp (mcap ν s)
  have hcp : 0 ≤ mcap ν s ∧ mcap ν s ≤ 9 := by unfold mcap; omega
  rw [show ad 0 23 = a0 0 23 by rw [s0.e 0 23 (by decide)]]
  refine V_aload_n hf dX8_writeShip_27 rfl rfl ?_
  refine B_get hf l01 rfl fl_X8_43_11 rfl dX8_writeShip_28 ?_
  refine V_iload_n hf dX8_writeShip_31 rfl rfl ?_
  have len0 : ((([] : List Int) : List Int).length : Int) = 0 := by simp only [List.length_append, List.length_cons, List.length_nil]; omega
  refine B_tI hf hl0 (L := ([] : List Int)) T0 K0 ⟨h.1, by omega⟩ (by rw [len0]; omega) cv_X8_233 (Nat.le_of_ble_eq_true rfl) ⟨(Nat.le_of_ble_eq_true rfl), (Nat.le_of_ble_eq_true rfl)⟩ ⟨?_, ?_⟩ dX8_writeShip_32 (fun a1 σ2 cs1 ss1 t1 T1 q1 K1 => ?_)
  · have := gcap_499 (m := ((([] : List Int) : List Int).length : Int) + (dl s).length) T0.2.2.1 (by rw [len0]; omega)
    simp only [rmd]
    omega
  · have := gcap_499 (m := ((([] : List Int) : List Int).length : Int) + (dl s).length) T0.2.2.1 (by rw [len0]; omega)
    simp only [rmd]
    omega
  have u1 := s0.tr t1
  refine V_bipush hf dX8_writeShip_35 (by decide +kernel) ?_
  have len1 : (((([] : List Int) ++ dl s) : List Int).length : Int) = 0 + (dl s).length := by simp only [List.length_append, List.length_cons, List.length_nil]; omega
  refine B_tC hf hl0 (L := (([] : List Int) ++ dl s)) T1 K1 ⟨by decide, by decide⟩ (by rw [len1]; omega) cv_X8_237 (Nat.le_of_ble_eq_true rfl) ⟨(Nat.le_of_ble_eq_true rfl), (Nat.le_of_ble_eq_true rfl)⟩ ⟨?_, ?_⟩ dX8_writeShip_37 (fun a2 σ3 cs2 ss2 t2 T2 q2 K2 => ?_)
  · have := gcap_499 (m := (((([] : List Int) ++ dl s) : List Int).length : Int) + 1) T1.2.2.1 (by rw [len1]; omega)
    simp only [rmd]
    omega
  · have := gcap_499 (m := (((([] : List Int) ++ dl s) : List Int).length : Int) + 1) T1.2.2.1 (by rw [len1]; omega)
    simp only [rmd]
    omega
  have u2 := u1.tr t2
  rw [show ad 0 1 = a2 0 1 by rw [u2.e 0 1 (by decide)]]
  refine V_aload_n hf dX8_writeShip_40 rfl rfl ?_
  refine B_get hf lm0 rfl fl_X8_77_5 rfl dX8_writeShip_41 ?_
  refine V_iload_n hf dX8_writeShip_44 rfl rfl ?_
  refine B_iald hf lm0 (fun _ => rfl) hs h.1 (by omega) dX8_writeShip_45 ?_
  rw [show σ3 0 2 s = ν (14 + 2 * s) by rw [T2.2.2.2.2.2 0 2 (by decide)]; exact msh.1]
  have len2 : ((((([] : List Int) ++ dl s) ++ [36]) : List Int).length : Int) = 0 + (dl s).length + 1 := by simp only [List.length_append, List.length_cons, List.length_nil]; omega
  refine B_tI hf hl0 (L := ((([] : List Int) ++ dl s) ++ [36])) T2 K2 ⟨by omega, by omega⟩ (by rw [len2]; omega) cv_X8_233 (Nat.le_of_ble_eq_true rfl) ⟨(Nat.le_of_ble_eq_true rfl), (Nat.le_of_ble_eq_true rfl)⟩ ⟨?_, ?_⟩ dX8_writeShip_46 (fun a3 σ4 cs3 ss3 t3 T3 q3 K3 => ?_)
  · have := gcap_499 (m := ((((([] : List Int) ++ dl s) ++ [36]) : List Int).length : Int) + (dl (ν (14 + 2 * s))).length) T2.2.2.1 (by rw [len2]; omega)
    simp only [rmd]
    omega
  · have := gcap_499 (m := ((((([] : List Int) ++ dl s) ++ [36]) : List Int).length : Int) + (dl (ν (14 + 2 * s))).length) T2.2.2.1 (by rw [len2]; omega)
    simp only [rmd]
    omega
  have u3 := u2.tr t3
  refine V_pop hf dX8_writeShip_49 rfl ?_
  rw [show a0 0 23 = a3 0 23 by rw [u3.e 0 23 (by decide), s0.e 0 23 (by decide)]]
  refine V_aload_n hf dX8_writeShip_50 rfl rfl ?_
  refine B_get hf l01 rfl fl_X8_43_11 rfl dX8_writeShip_51 ?_
  refine V_bipush hf dX8_writeShip_54 (by decide +kernel) ?_
  have len3 : (((((([] : List Int) ++ dl s) ++ [36]) ++ dl (ν (14 + 2 * s))) : List Int).length : Int) = 0 + (dl s).length + 1 + (dl (ν (14 + 2 * s))).length := by simp only [List.length_append, List.length_cons, List.length_nil]; omega
  refine B_tC hf hl0 (L := (((([] : List Int) ++ dl s) ++ [36]) ++ dl (ν (14 + 2 * s)))) T3 K3 ⟨by decide, by decide⟩ (by rw [len3]; omega) cv_X8_237 (Nat.le_of_ble_eq_true rfl) ⟨(Nat.le_of_ble_eq_true rfl), (Nat.le_of_ble_eq_true rfl)⟩ ⟨?_, ?_⟩ dX8_writeShip_56 (fun a4 σ5 cs4 ss4 t4 T4 q4 K4 => ?_)
  · have := gcap_499 (m := (((((([] : List Int) ++ dl s) ++ [36]) ++ dl (ν (14 + 2 * s))) : List Int).length : Int) + 1) T3.2.2.1 (by rw [len3]; omega)
    simp only [rmd]
    omega
  · have := gcap_499 (m := (((((([] : List Int) ++ dl s) ++ [36]) ++ dl (ν (14 + 2 * s))) : List Int).length : Int) + 1) T3.2.2.1 (by rw [len3]; omega)
    simp only [rmd]
    omega
  have u4 := u3.tr t4
  refine V_iload_n hf dX8_writeShip_59 rfl rfl ?_
  have len4 : ((((((([] : List Int) ++ dl s) ++ [36]) ++ dl (ν (14 + 2 * s))) ++ [40]) : List Int).length : Int) = 0 + (dl s).length + 1 + (dl (ν (14 + 2 * s))).length + 1 := by simp only [List.length_append, List.length_cons, List.length_nil]; omega
  refine B_tI hf hl0 (L := ((((([] : List Int) ++ dl s) ++ [36]) ++ dl (ν (14 + 2 * s))) ++ [40])) T4 K4 ⟨by omega, by omega⟩ (by rw [len4]; omega) cv_X8_233 (Nat.le_of_ble_eq_true rfl) ⟨(Nat.le_of_ble_eq_true rfl), (Nat.le_of_ble_eq_true rfl)⟩ ⟨?_, ?_⟩ dX8_writeShip_60 (fun a5 σ6 cs5 ss5 t5 T5 q5 K5 => ?_)
  · have := gcap_499 (m := ((((((([] : List Int) ++ dl s) ++ [36]) ++ dl (ν (14 + 2 * s))) ++ [40]) : List Int).length : Int) + (dl (mload ν s)).length) T4.2.2.1 (by rw [len4]; omega)
    simp only [rmd]
    omega
  · have := gcap_499 (m := ((((((([] : List Int) ++ dl s) ++ [36]) ++ dl (ν (14 + 2 * s))) ++ [40]) : List Int).length : Int) + (dl (mload ν s)).length) T4.2.2.1 (by rw [len4]; omega)
    simp only [rmd]
    omega
  have u5 := u4.tr t5
  refine V_bipush hf dX8_writeShip_63 (by decide +kernel) ?_
  have len5 : (((((((([] : List Int) ++ dl s) ++ [36]) ++ dl (ν (14 + 2 * s))) ++ [40]) ++ dl (mload ν s)) : List Int).length : Int) = 0 + (dl s).length + 1 + (dl (ν (14 + 2 * s))).length + 1 + (dl (mload ν s)).length := by simp only [List.length_append, List.length_cons, List.length_nil]; omega
  refine B_tC hf hl0 (L := (((((([] : List Int) ++ dl s) ++ [36]) ++ dl (ν (14 + 2 * s))) ++ [40]) ++ dl (mload ν s))) T5 K5 ⟨by decide, by decide⟩ (by rw [len5]; omega) cv_X8_237 (Nat.le_of_ble_eq_true rfl) ⟨(Nat.le_of_ble_eq_true rfl), (Nat.le_of_ble_eq_true rfl)⟩ ⟨?_, ?_⟩ dX8_writeShip_65 (fun a6 σ7 cs6 ss6 t6 T6 q6 K6 => ?_)
  · have := gcap_499 (m := (((((((([] : List Int) ++ dl s) ++ [36]) ++ dl (ν (14 + 2 * s))) ++ [40]) ++ dl (mload ν s)) : List Int).length : Int) + 1) T5.2.2.1 (by rw [len5]; omega)
    simp only [rmd]
    omega
  · have := gcap_499 (m := (((((((([] : List Int) ++ dl s) ++ [36]) ++ dl (ν (14 + 2 * s))) ++ [40]) ++ dl (mload ν s)) : List Int).length : Int) + 1) T5.2.2.1 (by rw [len5]; omega)
    simp only [rmd]
    omega
  have u6 := u5.tr t6
  rw [show a2 0 1 = a6 0 1 by rw [u6.e 0 1 (by decide), u2.e 0 1 (by decide)]]
  refine V_aload_n hf dX8_writeShip_68 rfl rfl ?_
  refine B_get hf lm0 rfl fl_X8_91_5 rfl dX8_writeShip_69 ?_
  refine V_iload_n hf dX8_writeShip_72 rfl rfl ?_
  refine B_iald hf lm0 (fun _ => rfl) hs h.1 (by omega) dX8_writeShip_73 ?_
  rw [show σ7 0 3 s = mcap ν s by rw [T6.2.2.2.2.2 0 3 (by decide)]; exact msh.2]
  have len6 : ((((((((([] : List Int) ++ dl s) ++ [36]) ++ dl (ν (14 + 2 * s))) ++ [40]) ++ dl (mload ν s)) ++ [47]) : List Int).length : Int) = 0 + (dl s).length + 1 + (dl (ν (14 + 2 * s))).length + 1 + (dl (mload ν s)).length + 1 := by simp only [List.length_append, List.length_cons, List.length_nil]; omega
  refine B_tI hf hl0 (L := ((((((([] : List Int) ++ dl s) ++ [36]) ++ dl (ν (14 + 2 * s))) ++ [40]) ++ dl (mload ν s)) ++ [47])) T6 K6 ⟨by omega, by omega⟩ (by rw [len6]; omega) cv_X8_233 (Nat.le_of_ble_eq_true rfl) ⟨(Nat.le_of_ble_eq_true rfl), (Nat.le_of_ble_eq_true rfl)⟩ ⟨?_, ?_⟩ dX8_writeShip_74 (fun a7 σ8 cs7 ss7 t7 T7 q7 K7 => ?_)
  · have := gcap_499 (m := ((((((((([] : List Int) ++ dl s) ++ [36]) ++ dl (ν (14 + 2 * s))) ++ [40]) ++ dl (mload ν s)) ++ [47]) : List Int).length : Int) + (dl (mcap ν s)).length) T6.2.2.1 (by rw [len6]; omega)
    simp only [rmd]
    omega
  · have := gcap_499 (m := ((((((((([] : List Int) ++ dl s) ++ [36]) ++ dl (ν (14 + 2 * s))) ++ [40]) ++ dl (mload ν s)) ++ [47]) : List Int).length : Int) + (dl (mcap ν s)).length) T6.2.2.1 (by rw [len6]; omega)
    simp only [rmd]
    omega
  have u7 := u6.tr t7
  refine V_bipush hf dX8_writeShip_77 (by decide +kernel) ?_
  have len7 : (((((((((([] : List Int) ++ dl s) ++ [36]) ++ dl (ν (14 + 2 * s))) ++ [40]) ++ dl (mload ν s)) ++ [47]) ++ dl (mcap ν s)) : List Int).length : Int) = 0 + (dl s).length + 1 + (dl (ν (14 + 2 * s))).length + 1 + (dl (mload ν s)).length + 1 + (dl (mcap ν s)).length := by simp only [List.length_append, List.length_cons, List.length_nil]; omega
  refine B_tC hf hl0 (L := (((((((([] : List Int) ++ dl s) ++ [36]) ++ dl (ν (14 + 2 * s))) ++ [40]) ++ dl (mload ν s)) ++ [47]) ++ dl (mcap ν s))) T7 K7 ⟨by decide, by decide⟩ (by rw [len7]; omega) cv_X8_237 (Nat.le_of_ble_eq_true rfl) ⟨(Nat.le_of_ble_eq_true rfl), (Nat.le_of_ble_eq_true rfl)⟩ ⟨?_, ?_⟩ dX8_writeShip_79 (fun a8 σ9 cs8 ss8 t8 T8 q8 K8 => ?_)
  · have := gcap_499 (m := (((((((((([] : List Int) ++ dl s) ++ [36]) ++ dl (ν (14 + 2 * s))) ++ [40]) ++ dl (mload ν s)) ++ [47]) ++ dl (mcap ν s)) : List Int).length : Int) + 1) T7.2.2.1 (by rw [len7]; omega)
    simp only [rmd]
    omega
  · have := gcap_499 (m := (((((((((([] : List Int) ++ dl s) ++ [36]) ++ dl (ν (14 + 2 * s))) ++ [40]) ++ dl (mload ν s)) ++ [47]) ++ dl (mcap ν s)) : List Int).length : Int) + 1) T7.2.2.1 (by rw [len7]; omega)
    simp only [rmd]
    omega
  have u8 := u7.tr t8
  refine V_pop hf dX8_writeShip_82 rfl ?_
  refine V_iconst hf dX8_writeShip_83 ?_
  refine V_istore (ls2 := [_, _, _, _, _]) hf dX8_writeShip_84 (by decide) rfl rfl ?_
  have bk := loop (mload ν s).toNat 0 (by omega) a8 σ9 _ _ u8 T8 K8
  rw [show ad 0 23 = a3 0 23 from (u3.e 0 23 (by decide)).symm] at bk
  rw [show ad 0 1 = a6 0 1 from (u6.e 0 1 (by decide)).symm] at bk
  exact bk
