/-! the reference: the line of a ship -/
theorem putL_snoc {σ : Mem} {L : List Int} {c : Int} : signM (putL σ L) c = putL σ (L ++ [c]) := (putL_app L [c] σ).symm
set_option maxHeartbeats 4000000 in
set_option maxRecDepth 100000 in
theorem g_ws {l : Launch} {D : va_G} {K : Nat → ClassId} {ad : Adr} (hl0 : l.stackTraces = false) (σ : Mem) (hR : Rng σ) (hN : NI (σ 0 41)) (s : Int) (hs : 0 ≤ s ∧ s < σ 0 41 0) (hB : ∀ p : Int, 0 ≤ p → p < mload (σ 0 41) s → mbarn (σ 0 41) s p ≠ -1) : Cb l D K ad yX9_writeShip (.code yX9_writeShip cX9_writeShip 4 (some .int)) 6 0 0 σ [.ref (ad 0 40), .int (iN s)] (.inl (some (.int (iN (mlineM σ s 0 40 17))))) (mlineM σ s) := by
  refine Cb.of (own := RX9) (ls0 := [some (.ref (ad 0 40)), some (.int (iN s)), none, none]) hl0 (by decide) rfl (Nat.le_of_ble_eq_true rfl) rfl ?_
  intro X hX1 hX2 hX3 hf he hh
  subst hX1 hX2 hX3
  have e41 : ∀ L, putL (st3 (st3 σ 0 40 8 0) 0 40 17 0) L 0 41 = σ 0 41 := fun L => by
    funext k
    rw [putL_o (fun q => absurd q.1 (by decide)) (by decide), st3_j (by decide), st3_j (by decide)]
  have s17 : (st3 (st3 σ 0 40 8 0) 0 40 17 0) 0 40 17 = 0 := st3_self
  have hRS : Rng (st3 (st3 σ 0 40 8 0) 0 40 17 0) := (hR.st ⟨by decide, by decide⟩).st ⟨by decide, by decide⟩
  have hRL : ∀ L, (∀ c ∈ L, inR c) → L.length ≤ 200 → Rng (putL (st3 (st3 σ 0 40 8 0) 0 40 17 0) L) := fun L h1 h2 => putL_R L _ hRS h1 (by rw [s17]; decide) (by rw [s17]; omega)
  have l17 : ∀ L, putL (st3 (st3 σ 0 40 8 0) 0 40 17 0) L 0 40 17 = L.length := fun L => by rw [putL_17, s17, Int.zero_add]
  have hH := lineH_r hN hs.1 hs.2
  have n0 := hN.n0
  have n1 := hN.n1
  have a1 := hN.sh s hs.1 hs.2
  have a2 := mload_r n1 s
  have loop : ∀ (m k : Nat), (k : Int) ≤ mload (σ 0 41) s → (mload (σ 0 41) s).toNat - k < m → B X ad (putL (st3 (st3 σ 0 40 8 0) 0 40 17 0) (lineN (σ 0 41) s k)) 86 [some (.ref (ad 0 40)), some (.int (iN (s))), some (.int (iN ((k : Int)))), none] [] 0 0 := by
    intro m
    induction m with
    | zero => intros; omega
    | succ m ih =>
      intro k hk1 hk2
      have hLN := lineN_r hN hs.1 hs.2 k (fun p q1 q2 => hB p q1 (by omega))
      have hRk := hRL _ hLN.2 (by omega)
      refine V_iload_n hf dX9_writeShip_86 rfl rfl ?_
      refine V_aload_n hf dX9_writeShip_87 rfl rfl ?_
      refine V_iload_n hf dX9_writeShip_88 rfl rfl ?_
      refine B_callVi hf (As := [_]) (d_load hl0 _ hRk (by rw [e41]; exact hN) s ⟨by omega, by omega⟩) cv_X9_79 l01 rfl rfl rfl (Nat.le_of_ble_eq_true rfl) ⟨by decide, by decide, by decide, by decide⟩ dX9_writeShip_89 ?_
      rw [e41]
      refine V_icmp_ge (tgt := 149) hf ⟨by omega, by omega⟩ ⟨by omega, by omega⟩ dX9_writeShip_92 (by decide) (fun h92 => ?_) (fun h92 => ?_)
      · have ek : k = (mload (σ 0 41) s).toNat := by omega
        subst ek
        refine V_aload_n hf dX9_writeShip_149 rfl rfl ?_
        refine B_get hf l01 rfl fl_X9_224_12 rfl dX9_writeShip_150 ?_
        exact B_iret hf he rfl dX9_writeShip_153 (by decide) (by decide) rfl rfl
      · have hp := hB k (by omega) (by omega)
        have hLN := lineN_r hN hs.1 hs.2 k (fun p q1 q2 => hB p q1 (by omega))
        have hLB := lineB_r hN hp
        have r9 : -1 ≤ mbarn (σ 0 41) s (k : Int) ∧ (mbarn (σ 0 41) s (k : Int) < σ 0 41 1 ∨ mbarn (σ 0 41) s (k : Int) = -1) := fst_r (P := fun b => σ 0 41 (26 + 2 * b) = s ∧ sumI (mbaF (σ 0 41) s b) (σ 0 41 1) = (k : Int))
        have r8 : -1 ≤ mofferFor (σ 0 41) (mbarn (σ 0 41) s (k : Int)) ∧ (mofferFor (σ 0 41) (mbarn (σ 0 41) s (k : Int)) < σ 0 41 3 ∨ mofferFor (σ 0 41) (mbarn (σ 0 41) s (k : Int)) = -1) := fst_r (P := fun x => σ 0 41 (108 + 4 * x + 1) = mbarn (σ 0 41) s (k : Int))
        have n3 := hN.n3
        have g9 : 1 ≤ mgr (σ 0 41) (mbarn (σ 0 41) s (k : Int)) ∧ mgr (σ 0 41) (mbarn (σ 0 41) s (k : Int)) ≤ 9 := (hN.ba (mbarn (σ 0 41) s (k : Int)) (by omega) (by omega)).2
        have hlen : ((lineN (σ 0 41) s k) ++ [32] ++ dl (mbarn (σ 0 41) s (k : Int)) ++ [103] ++ dl (mgr (σ 0 41) (mbarn (σ 0 41) s (k : Int)))).length ≤ 17 + 6 * k + 6 := by
          have hz := hLB.1
          unfold lineB at hz
          simp only [List.length_append, List.length_cons, List.length_nil] at hz ⊢
          have hy := hLN.1
          omega
        have hI : ∀ c ∈ ((lineN (σ 0 41) s k) ++ [32] ++ dl (mbarn (σ 0 41) s (k : Int)) ++ [103] ++ dl (mgr (σ 0 41) (mbarn (σ 0 41) s (k : Int)))), inR c := by
          intro c hc
          rw [List.append_assoc, List.append_assoc, List.append_assoc] at hc
          rcases List.mem_append.mp hc with h | h
          · exact hLN.2 c h
          · exact hLB.2 c (by unfold lineB; exact List.mem_append_left _ (by rw [List.append_assoc, List.append_assoc]; exact h))
        refine V_aload_n hf dX9_writeShip_95 rfl rfl ?_
        refine V_iload_n hf dX9_writeShip_96 rfl rfl ?_
        refine V_iload_n hf dX9_writeShip_97 rfl rfl ?_
        refine B_callVi hf (As := [_, _]) (d_barn hl0 _ hRk (by rw [e41]; exact hN) s ⟨by omega, by omega⟩ (k : Int) ⟨by omega, by omega⟩) cv_X9_203 l01 rfl rfl rfl (Nat.le_of_ble_eq_true rfl) ⟨by decide, by decide, by decide, by decide⟩ dX9_writeShip_98 ?_
        rw [e41]
        refine V_istore_n (ls2 := [_, _, _, _]) hf dX9_writeShip_101 rfl (by decide) rfl rfl ?_
        refine V_aload_n hf dX9_writeShip_102 rfl rfl ?_
        refine V_bipush hf dX9_writeShip_103 (by decide +kernel) ?_
        refine B_callVv hf (As := [_]) (f_sign hl0 _ hRk 32 ⟨by rw [l17]; omega, by rw [l17]; have hz := hlen; simp only [List.length_append, List.length_cons, List.length_nil] at hz ⊢; omega⟩) cv_X9_227 l01 rfl rfl rfl (Nat.le_of_ble_eq_true rfl) ⟨by decide, by decide, by decide, by decide⟩ dX9_writeShip_105 ?_
        rw [putL_snoc]
        refine V_aload_n hf dX9_writeShip_108 rfl rfl ?_
        refine V_iload_n hf dX9_writeShip_109 rfl rfl ?_
        refine B_callVv hf (As := [_]) (g_wn hl0 _ (hRL ((lineN (σ 0 41) s k) ++ [32]) (fun c hc => hI c (List.mem_append_left _ (List.mem_append_left _ (List.mem_append_left _ hc)))) (by have hz := hlen; simp only [List.length_append, List.length_cons, List.length_nil] at hz ⊢; omega)) (mbarn (σ 0 41) s (k : Int)) ⟨by omega, by omega⟩ ⟨by rw [l17]; omega, by rw [l17]; have hz := hlen; simp only [List.length_append, List.length_cons, List.length_nil] at hz ⊢; omega⟩) cv_X9_230 l01 rfl rfl rfl (Nat.le_of_ble_eq_true rfl) ⟨by decide, by decide, by decide, by decide⟩ dX9_writeShip_110 ?_
        rw [← putL_app]
        refine V_aload_n hf dX9_writeShip_113 rfl rfl ?_
        refine V_bipush hf dX9_writeShip_114 (by decide +kernel) ?_
        refine B_callVv hf (As := [_]) (f_sign hl0 _ (hRL ((lineN (σ 0 41) s k) ++ [32] ++ dl (mbarn (σ 0 41) s (k : Int))) (fun c hc => hI c (List.mem_append_left _ (List.mem_append_left _ hc))) (by have hz := hlen; simp only [List.length_append, List.length_cons, List.length_nil] at hz ⊢; omega)) 103 ⟨by rw [l17]; omega, by rw [l17]; have hz := hlen; simp only [List.length_append, List.length_cons, List.length_nil] at hz ⊢; omega⟩) cv_X9_227 l01 rfl rfl rfl (Nat.le_of_ble_eq_true rfl) ⟨by decide, by decide, by decide, by decide⟩ dX9_writeShip_116 ?_
        rw [putL_snoc]
        refine V_aload_n hf dX9_writeShip_119 rfl rfl ?_
        refine V_aload_n hf dX9_writeShip_120 rfl rfl ?_
        refine V_iload_n hf dX9_writeShip_121 rfl rfl ?_
        refine B_callVi hf (As := [_]) (d_gr hl0 _ (hRL ((lineN (σ 0 41) s k) ++ [32] ++ dl (mbarn (σ 0 41) s (k : Int)) ++ [103]) (fun c hc => hI c (List.mem_append_left _ hc)) (by have hz := hlen; simp only [List.length_append, List.length_cons, List.length_nil] at hz ⊢; omega)) (mbarn (σ 0 41) s (k : Int)) ⟨by omega, by omega⟩) cv_X9_85 l01 rfl rfl rfl (Nat.le_of_ble_eq_true rfl) ⟨by decide, by decide, by decide, by decide⟩ dX9_writeShip_122 ?_
        rw [e41]
        refine B_callVv hf (As := [_]) (g_wn hl0 _ (hRL ((lineN (σ 0 41) s k) ++ [32] ++ dl (mbarn (σ 0 41) s (k : Int)) ++ [103]) (fun c hc => hI c (List.mem_append_left _ hc)) (by have hz := hlen; simp only [List.length_append, List.length_cons, List.length_nil] at hz ⊢; omega)) (mgr (σ 0 41) (mbarn (σ 0 41) s (k : Int))) ⟨by omega, by omega⟩ ⟨by rw [l17]; omega, by rw [l17]; have hz := hlen; simp only [List.length_append, List.length_cons, List.length_nil] at hz ⊢; omega⟩) cv_X9_230 l01 rfl rfl rfl (Nat.le_of_ble_eq_true rfl) ⟨by decide, by decide, by decide, by decide⟩ dX9_writeShip_125 ?_
        rw [← putL_app]
        refine V_aload_n hf dX9_writeShip_128 rfl rfl ?_
        refine V_iload_n hf dX9_writeShip_129 rfl rfl ?_
        refine B_callVi hf (As := [_]) (d_offerFor hl0 _ (hRL ((lineN (σ 0 41) s k) ++ [32] ++ dl (mbarn (σ 0 41) s (k : Int)) ++ [103] ++ dl (mgr (σ 0 41) (mbarn (σ 0 41) s (k : Int)))) (fun c hc => hI c hc) (by have hz := hlen; simp only [List.length_append, List.length_cons, List.length_nil] at hz ⊢; omega)) (by rw [e41]; exact hN) (mbarn (σ 0 41) s (k : Int)) ⟨by omega, by omega⟩) cv_X9_147 l01 rfl rfl rfl (Nat.le_of_ble_eq_true rfl) ⟨by decide, by decide, by decide, by decide⟩ dX9_writeShip_130 ?_
        rw [e41]
        refine V_iconst hf dX9_writeShip_133 ?_
        refine V_icmp_eq (tgt := 143) hf ⟨by omega, by omega⟩ ⟨by decide, by decide⟩ dX9_writeShip_134 (by decide) (fun h134 => ?_) (fun h134 => ?_)
        · refine V_iinc (ls2 := [_, _, _, _]) hf dX9_writeShip_143 (by decide) rfl rfl rfl ?_
          refine V_goto (tgt := 86) hf dX9_writeShip_146 (by decide) ?_
          refine V_fg (ls2 := [some _, some _, some _, none]) ⟨rfl, rfl, rfl, trivial⟩ ?_
          have bk := ih (k + 1) (by omega) (by omega)
          rw [show ((k + 1 : Nat) : Int) = (k : Int) + 1 by omega] at bk
          first | (rw [show lineN (σ 0 41) s (k + 1) = ((lineN (σ 0 41) s k) ++ [32] ++ dl (mbarn (σ 0 41) s (k : Int)) ++ [103] ++ dl (mgr (σ 0 41) (mbarn (σ 0 41) s (k : Int)))) by rw [lineN, lineB, if_pos h134, List.append_nil, ← List.append_assoc, ← List.append_assoc, ← List.append_assoc]] at bk; exact bk) | (rw [show lineN (σ 0 41) s (k + 1) = ((lineN (σ 0 41) s k) ++ [32] ++ dl (mbarn (σ 0 41) s (k : Int)) ++ [103] ++ dl (mgr (σ 0 41) (mbarn (σ 0 41) s (k : Int)))) ++ [33] by rw [lineN, lineB, if_neg h134, ← List.append_assoc, ← List.append_assoc, ← List.append_assoc, ← List.append_assoc]] at bk; exact bk)
        · refine V_aload_n hf dX9_writeShip_137 rfl rfl ?_
          refine V_bipush hf dX9_writeShip_138 (by decide +kernel) ?_
          refine B_callVv hf (As := [_]) (f_sign hl0 _ (hRL ((lineN (σ 0 41) s k) ++ [32] ++ dl (mbarn (σ 0 41) s (k : Int)) ++ [103] ++ dl (mgr (σ 0 41) (mbarn (σ 0 41) s (k : Int)))) (fun c hc => hI c hc) (by have hz := hlen; simp only [List.length_append, List.length_cons, List.length_nil] at hz ⊢; omega)) 33 ⟨by rw [l17]; omega, by rw [l17]; have hz := hlen; simp only [List.length_append, List.length_cons, List.length_nil] at hz ⊢; omega⟩) cv_X9_227 l01 rfl rfl rfl (Nat.le_of_ble_eq_true rfl) ⟨by decide, by decide, by decide, by decide⟩ dX9_writeShip_140 ?_
          rw [putL_snoc]
          refine V_iinc (ls2 := [_, _, _, _]) hf dX9_writeShip_143 (by decide) rfl rfl rfl ?_
          refine V_goto (tgt := 86) hf dX9_writeShip_146 (by decide) ?_
          refine V_fg (ls2 := [some _, some _, some _, none]) ⟨rfl, rfl, rfl, trivial⟩ ?_
          have bk := ih (k + 1) (by omega) (by omega)
          rw [show ((k + 1 : Nat) : Int) = (k : Int) + 1 by omega] at bk
          first | (rw [show lineN (σ 0 41) s (k + 1) = ((lineN (σ 0 41) s k) ++ [32] ++ dl (mbarn (σ 0 41) s (k : Int)) ++ [103] ++ dl (mgr (σ 0 41) (mbarn (σ 0 41) s (k : Int)))) by rw [lineN, lineB, if_pos h134, List.append_nil, ← List.append_assoc, ← List.append_assoc, ← List.append_assoc]] at bk; exact bk) | (rw [show lineN (σ 0 41) s (k + 1) = ((lineN (σ 0 41) s k) ++ [32] ++ dl (mbarn (σ 0 41) s (k : Int)) ++ [103] ++ dl (mgr (σ 0 41) (mbarn (σ 0 41) s (k : Int)))) ++ [33] by rw [lineN, lineB, if_neg h134, ← List.append_assoc, ← List.append_assoc, ← List.append_assoc, ← List.append_assoc]] at bk; exact bk)
  refine V_aload_n hf dX9_writeShip_0 rfl rfl ?_
  refine V_iconst hf dX9_writeShip_1 ?_
  refine B_putI (kI := 8) hf rfl l01 rfl fp_X9_38_12 rfl rfl (Nat.le_of_ble_eq_true rfl) (by decide) (cs_40_8 _ _ _ _ _) dX9_writeShip_2 ?_
  refine V_aload_n hf dX9_writeShip_5 rfl rfl ?_
  refine V_iload_n hf dX9_writeShip_6 rfl rfl ?_
  refine B_callVi hf (As := [_]) (d_isShip hl0 (st3 σ 0 40 8 0) (hR.st ⟨by decide, by decide⟩) (by rw [show st3 σ 0 40 8 0 0 41 = σ 0 41 from funext fun k => st3_j (by decide)]; exact hN) s ⟨by omega, by omega⟩) cv_X9_120 l01 rfl rfl rfl (Nat.le_of_ble_eq_true rfl) ⟨by decide, by decide, by decide, by decide⟩ dX9_writeShip_7 ?_
  rw [show st3 σ 0 40 8 0 0 41 0 = σ 0 41 0 from st3_j (by decide)]
  refine V_if_ne (tgt := 19) hf (by split <;> exact ⟨by decide, by decide⟩) dX9_writeShip_10 (by decide) (fun h10 => ?_) (fun h10 => ?_)
  · refine V_aload_n hf dX9_writeShip_19 rfl rfl ?_
    refine V_iconst hf dX9_writeShip_20 ?_
    refine B_putI (kI := 17) hf rfl l01 rfl fp_X9_224_12 rfl rfl (Nat.le_of_ble_eq_true rfl) (by decide) (cs_40_17 _ _ _ _ _) dX9_writeShip_21 ?_
    refine V_aload_n hf dX9_writeShip_24 rfl rfl ?_
    refine V_iload_n hf dX9_writeShip_25 rfl rfl ?_
    refine B_callVv hf (As := [_]) (g_wn hl0 (st3 (st3 σ 0 40 8 0) 0 40 17 0) hRS s ⟨hs.1, by omega⟩ ⟨by rw [s17]; decide, by rw [s17]; decide⟩) cv_X9_230 l01 rfl rfl rfl (Nat.le_of_ble_eq_true rfl) ⟨by decide, by decide, by decide, by decide⟩ dX9_writeShip_26 ?_
    refine V_aload_n hf dX9_writeShip_29 rfl rfl ?_
    refine V_bipush hf dX9_writeShip_30 (by decide +kernel) ?_
    refine B_callVv hf (As := [_]) (f_sign hl0 _ (hRL (dl s) (fun c hc => hH.2 c (List.mem_append_left _ (List.mem_append_left _ (List.mem_append_left _ (List.mem_append_left _ (List.mem_append_left _ (List.mem_append_left _ (List.mem_append_left _ hc)))))))) (by have hz := hH.1; unfold lineH at hz; simp only [List.length_append, List.length_cons, List.length_nil] at hz ⊢; omega)) 36 ⟨by rw [l17]; omega, by rw [l17]; have hz := hH.1; unfold lineH at hz; simp only [List.length_append, List.length_cons, List.length_nil] at hz ⊢; omega⟩) cv_X9_227 l01 rfl rfl rfl (Nat.le_of_ble_eq_true rfl) ⟨by decide, by decide, by decide, by decide⟩ dX9_writeShip_32 ?_
    rw [putL_snoc]
    refine V_aload_n hf dX9_writeShip_35 rfl rfl ?_
    refine V_aload_n hf dX9_writeShip_36 rfl rfl ?_
    refine B_get hf l01 rfl fl_X9_9_12 rfl dX9_writeShip_37 ?_
    refine V_iload_n hf dX9_writeShip_40 rfl rfl ?_
    refine B_callSi hf (As := [_]) (d_shipAt hl0 _ s) cvs_X9_67 rfl (Nat.le_of_ble_eq_true rfl) ⟨by decide, by decide, by decide, by decide⟩ dX9_writeShip_41 ?_
    refine B_iald hf l01 (fun _ => rfl) ⟨by omega, by omega⟩ (by omega) (by omega) dX9_writeShip_44 ?_
    rw [e41]
    refine B_callVv hf (As := [_]) (g_wn hl0 _ (hRL (dl s ++ [36]) (fun c hc => hH.2 c (List.mem_append_left _ (List.mem_append_left _ (List.mem_append_left _ (List.mem_append_left _ (List.mem_append_left _ (List.mem_append_left _ hc))))))) (by have hz := hH.1; unfold lineH at hz; simp only [List.length_append, List.length_cons, List.length_nil] at hz ⊢; omega)) (σ 0 41 (14 + 2 * s)) ⟨by omega, by omega⟩ ⟨by rw [l17]; omega, by rw [l17]; have hz := hH.1; unfold lineH at hz; simp only [List.length_append, List.length_cons, List.length_nil] at hz ⊢; omega⟩) cv_X9_230 l01 rfl rfl rfl (Nat.le_of_ble_eq_true rfl) ⟨by decide, by decide, by decide, by decide⟩ dX9_writeShip_45 ?_
    rw [← putL_app]
    refine V_aload_n hf dX9_writeShip_48 rfl rfl ?_
    refine V_bipush hf dX9_writeShip_49 (by decide +kernel) ?_
    refine B_callVv hf (As := [_]) (f_sign hl0 _ (hRL (dl s ++ [36] ++ dl (σ 0 41 (14 + 2 * s))) (fun c hc => hH.2 c (List.mem_append_left _ (List.mem_append_left _ (List.mem_append_left _ (List.mem_append_left _ (List.mem_append_left _ hc)))))) (by have hz := hH.1; unfold lineH at hz; simp only [List.length_append, List.length_cons, List.length_nil] at hz ⊢; omega)) 40 ⟨by rw [l17]; omega, by rw [l17]; have hz := hH.1; unfold lineH at hz; simp only [List.length_append, List.length_cons, List.length_nil] at hz ⊢; omega⟩) cv_X9_227 l01 rfl rfl rfl (Nat.le_of_ble_eq_true rfl) ⟨by decide, by decide, by decide, by decide⟩ dX9_writeShip_51 ?_
    rw [putL_snoc]
    refine V_aload_n hf dX9_writeShip_54 rfl rfl ?_
    refine V_aload_n hf dX9_writeShip_55 rfl rfl ?_
    refine V_iload_n hf dX9_writeShip_56 rfl rfl ?_
    refine B_callVi hf (As := [_]) (d_load hl0 _ (hRL (dl s ++ [36] ++ dl (σ 0 41 (14 + 2 * s)) ++ [40]) (fun c hc => hH.2 c (List.mem_append_left _ (List.mem_append_left _ (List.mem_append_left _ (List.mem_append_left _ hc))))) (by have hz := hH.1; unfold lineH at hz; simp only [List.length_append, List.length_cons, List.length_nil] at hz ⊢; omega)) (by rw [e41]; exact hN) s ⟨by omega, by omega⟩) cv_X9_79 l01 rfl rfl rfl (Nat.le_of_ble_eq_true rfl) ⟨by decide, by decide, by decide, by decide⟩ dX9_writeShip_57 ?_
    rw [e41]
    refine B_callVv hf (As := [_]) (g_wn hl0 _ (hRL (dl s ++ [36] ++ dl (σ 0 41 (14 + 2 * s)) ++ [40]) (fun c hc => hH.2 c (List.mem_append_left _ (List.mem_append_left _ (List.mem_append_left _ (List.mem_append_left _ hc))))) (by have hz := hH.1; unfold lineH at hz; simp only [List.length_append, List.length_cons, List.length_nil] at hz ⊢; omega)) (mload (σ 0 41) s) ⟨by omega, by omega⟩ ⟨by rw [l17]; omega, by rw [l17]; have hz := hH.1; unfold lineH at hz; simp only [List.length_append, List.length_cons, List.length_nil] at hz ⊢; omega⟩) cv_X9_230 l01 rfl rfl rfl (Nat.le_of_ble_eq_true rfl) ⟨by decide, by decide, by decide, by decide⟩ dX9_writeShip_60 ?_
    rw [← putL_app]
    refine V_aload_n hf dX9_writeShip_63 rfl rfl ?_
    refine V_bipush hf dX9_writeShip_64 (by decide +kernel) ?_
    refine B_callVv hf (As := [_]) (f_sign hl0 _ (hRL (dl s ++ [36] ++ dl (σ 0 41 (14 + 2 * s)) ++ [40] ++ dl (mload (σ 0 41) s)) (fun c hc => hH.2 c (List.mem_append_left _ (List.mem_append_left _ (List.mem_append_left _ hc)))) (by have hz := hH.1; unfold lineH at hz; simp only [List.length_append, List.length_cons, List.length_nil] at hz ⊢; omega)) 47 ⟨by rw [l17]; omega, by rw [l17]; have hz := hH.1; unfold lineH at hz; simp only [List.length_append, List.length_cons, List.length_nil] at hz ⊢; omega⟩) cv_X9_227 l01 rfl rfl rfl (Nat.le_of_ble_eq_true rfl) ⟨by decide, by decide, by decide, by decide⟩ dX9_writeShip_66 ?_
    rw [putL_snoc]
    refine V_aload_n hf dX9_writeShip_69 rfl rfl ?_
    refine V_aload_n hf dX9_writeShip_70 rfl rfl ?_
    refine V_iload_n hf dX9_writeShip_71 rfl rfl ?_
    refine B_callVi hf (As := [_]) (d_cap hl0 _ (hRL (dl s ++ [36] ++ dl (σ 0 41 (14 + 2 * s)) ++ [40] ++ dl (mload (σ 0 41) s) ++ [47]) (fun c hc => hH.2 c (List.mem_append_left _ (List.mem_append_left _ hc))) (by have hz := hH.1; unfold lineH at hz; simp only [List.length_append, List.length_cons, List.length_nil] at hz ⊢; omega)) s ⟨by omega, by omega⟩) cv_X9_76 l01 rfl rfl rfl (Nat.le_of_ble_eq_true rfl) ⟨by decide, by decide, by decide, by decide⟩ dX9_writeShip_72 ?_
    rw [e41]
    refine B_callVv hf (As := [_]) (g_wn hl0 _ (hRL (dl s ++ [36] ++ dl (σ 0 41 (14 + 2 * s)) ++ [40] ++ dl (mload (σ 0 41) s) ++ [47]) (fun c hc => hH.2 c (List.mem_append_left _ (List.mem_append_left _ hc))) (by have hz := hH.1; unfold lineH at hz; simp only [List.length_append, List.length_cons, List.length_nil] at hz ⊢; omega)) (mcap (σ 0 41) s) ⟨by show 0 ≤ σ 0 41 (14 + 2 * s + 1); omega, by show σ 0 41 (14 + 2 * s + 1) ≤ 100000000; omega⟩ ⟨by rw [l17]; omega, by rw [l17]; have hz := hH.1; unfold lineH at hz; simp only [List.length_append, List.length_cons, List.length_nil] at hz ⊢; omega⟩) cv_X9_230 l01 rfl rfl rfl (Nat.le_of_ble_eq_true rfl) ⟨by decide, by decide, by decide, by decide⟩ dX9_writeShip_75 ?_
    rw [← putL_app]
    refine V_aload_n hf dX9_writeShip_78 rfl rfl ?_
    refine V_bipush hf dX9_writeShip_79 (by decide +kernel) ?_
    refine B_callVv hf (As := [_]) (f_sign hl0 _ (hRL (dl s ++ [36] ++ dl (σ 0 41 (14 + 2 * s)) ++ [40] ++ dl (mload (σ 0 41) s) ++ [47] ++ dl (mcap (σ 0 41) s)) (fun c hc => hH.2 c (List.mem_append_left _ hc)) (by have hz := hH.1; unfold lineH at hz; simp only [List.length_append, List.length_cons, List.length_nil] at hz ⊢; omega)) 41 ⟨by rw [l17]; omega, by rw [l17]; have hz := hH.1; unfold lineH at hz; simp only [List.length_append, List.length_cons, List.length_nil] at hz ⊢; omega⟩) cv_X9_227 l01 rfl rfl rfl (Nat.le_of_ble_eq_true rfl) ⟨by decide, by decide, by decide, by decide⟩ dX9_writeShip_81 ?_
    rw [putL_snoc]
    refine V_iconst hf dX9_writeShip_84 ?_
    refine V_istore_n (ls2 := [_, _, _, _]) hf dX9_writeShip_85 rfl (by decide) rfl rfl ?_
    exact loop ((mload (σ 0 41) s).toNat + 1) 0 (by omega) (by omega)
  · exact absurd h10 (by first | omega | (split at h10 <;> omega))

set_option maxHeartbeats 4000000 in
set_option maxRecDepth 100000 in
theorem gx_ws {l : Launch} {D : va_G} {K : Nat → ClassId} {ad : Adr} (hl0 : l.stackTraces = false) (σ : Mem) (hR : Rng σ) (hN : NI (σ 0 41)) (s : Int) (hs : inR s) (hk : ¬ (0 ≤ s ∧ s < σ 0 41 0)) : Cb l D K ad yX9_writeShip (.code yX9_writeShip cX9_writeShip 4 (some .int)) 6 0 0 σ [.ref (ad 0 40), .int (iN s)] (.inl (some (.int (iN (-1))))) (thrM (st3 σ 0 40 8 0) 1) := by
  refine Cb.of (own := RX9) (ls0 := [some (.ref (ad 0 40)), some (.int (iN s)), none, none]) hl0 (by decide) rfl (Nat.le_of_ble_eq_true rfl) rfl ?_
  intro X hX1 hX2 hX3 hf he hh
  subst hX1 hX2 hX3
  have n0 := hN.n0
  have hR1 : Rng (st3 σ 0 40 8 0) := hR.st ⟨by decide, by decide⟩
  refine V_aload_n hf dX9_writeShip_0 rfl rfl ?_
  refine V_iconst hf dX9_writeShip_1 ?_
  refine B_putI (kI := 8) hf rfl l01 rfl fp_X9_38_12 rfl rfl (Nat.le_of_ble_eq_true rfl) (by decide) (cs_40_8 _ _ _ _ _) dX9_writeShip_2 ?_
  refine V_aload_n hf dX9_writeShip_5 rfl rfl ?_
  refine V_iload_n hf dX9_writeShip_6 rfl rfl ?_
  refine B_callVi hf (As := [_]) (d_isShip hl0 (st3 σ 0 40 8 0) hR1 (by rw [show st3 σ 0 40 8 0 0 41 = σ 0 41 from funext fun k => st3_j (by decide)]; exact hN) s hs) cv_X9_120 l01 rfl rfl rfl (Nat.le_of_ble_eq_true rfl) ⟨by decide, by decide, by decide, by decide⟩ dX9_writeShip_7 ?_
  rw [show st3 σ 0 40 8 0 0 41 0 = σ 0 41 0 from st3_j (by decide)]
  refine V_if_ne (tgt := 19) hf (by split <;> exact ⟨by decide, by decide⟩) dX9_writeShip_10 (by decide) (fun h10 => ?_) (fun h10 => ?_)
  · exact absurd h10 (by first | omega | (split at h10 <;> omega))
  · refine V_aload_n hf dX9_writeShip_13 rfl rfl ?_
    refine V_iconst hf dX9_writeShip_14 ?_
    refine B_callVi hf (As := [_]) (d_throwing hl0 (st3 σ 0 40 8 0) hR1 1) cv_X9_47 l01 rfl rfl rfl (Nat.le_of_ble_eq_true rfl) ⟨by decide, by decide, by decide, by decide⟩ dX9_writeShip_15 ?_
    exact B_iret hf he rfl dX9_writeShip_18 (by decide) (by decide) rfl rfl
