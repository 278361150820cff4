/-! the market: verdicts, changes -/
/-- a book whose rows may grow older -/
def bkOk (σ : Mem) (g : Int) (p : Nat) (n : Int) : Prop := Rng σ ∧ (0 ≤ σ g p 0 ∧ σ g p 0 ≤ n) ∧ ∀ k : Int, 0 ≤ k → k < σ g p 0 → 0 ≤ σ g (p+5) k ∧ σ g (p+5) k ≤ 2
def tideOk (g : Int) (σ : Mem) : Prop := (0 ≤ σ g 6 0 ∧ σ g 6 0 ≤ 10) ∧ aucOk g (σ g 6 0).toNat σ 0 ∧ bkOk (tide1 g σ) g 6 10 ∧ bkOk (tide2 g σ) g 12 16
def giftM (σ0 : Mem) (g s c : Int) : Mem :=
  let σ1 := st3 σ0 g 0 8 (σ0 g 0 8 + c)
  st3 σ1 g 2 s (σ1 g 2 s + c)
def shipM (σ0 : Mem) (g a b : Int) : Mem := launchM (st3 σ0 g 0 8 (σ0 g 0 8 + a)) g a b
noncomputable def bidM (σ0 : Mem) (g s a p : Int) : Mem := enterM σ0 g 6 (slotI (caB (σ0 g) a p) (σ0 g 6 0)) s a p
noncomputable def offerM (σ0 : Mem) (g b p : Int) : Mem := enterM σ0 g 12 (slotI (caO (σ0 g) (σ0 g 4 b) p) (σ0 g 12 0)) b (σ0 g 4 b) p
theorem placesL_r {μ : MM} (h : MI μ) {s : Int} (h0 : 0 ≤ s) (h1 : s < μ 1 0) : -26 ≤ placesL μ s ∧ placesL μ s ≤ 5 := by
  have := countB_r h.nb.1 s
  have := loadOn_r h.fl.2.1 s
  have := h.fl.2.2.1 s h0 h1
  have := h.nb
  unfold placesL
  omega
theorem coinsL_r {μ : MM} (h : MI μ) {s : Int} (h0 : 0 ≤ s) (h1 : s < μ 1 0) : -990 ≤ coinsL μ s ∧ coinsL μ s ≤ 100000000 := by
  have := psumB_r h s
  have := h.fl.2.2.1 s h0 h1
  unfold coinsL
  omega
set_option maxHeartbeats 4000000 in
set_option maxRecDepth 100000 in
theorem c_tide {l : Launch} {D : va_G} {K : Nat → ClassId} {ad : Adr} (hl0 : l.stackTraces = false) (g : Int) (hg : 0 ≤ g ∧ g < 11) (σ : Mem) (hR : Rng σ) (hT : tideOk g σ) : Cb l D K ad yX3_letTidePass (.code yX3_letTidePass cX3_letTidePass 2 (some .int)) 4 0 0 σ [.ref (ad g 0)] (.inl (some (.int (iN (tideM g σ g 18 0 - σ g 18 0))))) (tideM g σ) := by
  refine Cb.of (own := RX3) (ls0 := [some (.ref (ad g 0)), none]) hl0 (by decide) rfl (Nat.le_of_ble_eq_true rfl) rfl ?_
  intro X hX1 hX2 hX3 hf he hh
  subst hX1 hX2 hX3
  refine V_aload_n hf dX3_letTidePass_0 rfl rfl ?_
  refine B_get hf hg rfl fl_X3_34_7 rfl dX3_letTidePass_1 ?_
  refine B_get hf hg rfl fl_X3_187_10 rfl dX3_letTidePass_4 ?_
  refine V_istore_n (ls2 := [_, _]) hf dX3_letTidePass_7 rfl (by decide) rfl rfl ?_
  refine V_aload_n hf dX3_letTidePass_8 rfl rfl ?_
  refine B_callVv hf (As := []) (c_auction hl0 g hg σ hR hT.1.1 hT.1.2 hT.2.1) cv_X3_190 hg rfl rfl rfl (Nat.le_of_ble_eq_true rfl) ⟨by decide, by decide, by decide, by decide⟩ dX3_letTidePass_9 ?_
  refine V_aload_n hf dX3_letTidePass_12 rfl rfl ?_
  refine V_dup hf dX3_letTidePass_13 rfl ?_
  refine B_get hf hg rfl fl_X3_45_7 rfl dX3_letTidePass_14 ?_
  refine V_aload_n hf dX3_letTidePass_17 rfl rfl ?_
  refine B_get hf hg rfl fl_X3_21_7 rfl dX3_letTidePass_18 ?_
  refine B_callUi hf (As := []) (c_growB hl0 g hg (tide1 g σ) hT.2.2.1.1 hT.2.2.1.2.1 hT.2.2.1.2.2) cu_X3_193_4 hg rfl rfl rfl (Nat.le_of_ble_eq_true rfl) ⟨by decide, by decide, by decide, by decide⟩ dX3_letTidePass_21 ?_
  refine V_iadd hf dX3_letTidePass_24 ?_
  refine B_putI (kI := 6) hf rfl hg rfl fp_X3_45_7 rfl rfl (Nat.le_of_ble_eq_true rfl) (by decide) (cs_0_6 _ _ _ _ _) dX3_letTidePass_25 ?_
  refine V_aload_n hf dX3_letTidePass_28 rfl rfl ?_
  refine V_dup hf dX3_letTidePass_29 rfl ?_
  refine B_get hf hg rfl fl_X3_45_7 rfl dX3_letTidePass_30 ?_
  refine V_aload_n hf dX3_letTidePass_33 rfl rfl ?_
  refine B_get hf hg rfl fl_X3_28_7 rfl dX3_letTidePass_34 ?_
  refine B_callUi hf (As := []) (c_growO hl0 g hg (tide2 g σ) hT.2.2.2.1 hT.2.2.2.2.1 hT.2.2.2.2.2) cu_X3_193_8 hg rfl rfl rfl (Nat.le_of_ble_eq_true rfl) ⟨by decide, by decide, by decide, by decide⟩ dX3_letTidePass_37 ?_
  refine V_iadd hf dX3_letTidePass_40 ?_
  refine B_putI (kI := 6) hf rfl hg rfl fp_X3_45_7 rfl rfl (Nat.le_of_ble_eq_true rfl) (by decide) (cs_0_6 _ _ _ _ _) dX3_letTidePass_41 ?_
  refine V_aload_n hf dX3_letTidePass_44 rfl rfl ?_
  refine V_dup hf dX3_letTidePass_45 rfl ?_
  refine B_get hf hg rfl fl_X3_42_7 rfl dX3_letTidePass_46 ?_
  refine V_iconst hf dX3_letTidePass_49 ?_
  refine V_iadd hf dX3_letTidePass_50 ?_
  refine B_putI (kI := 5) hf rfl hg rfl fp_X3_42_7 rfl rfl (Nat.le_of_ble_eq_true rfl) (by decide) (cs_0_5 _ _ _ _ _) dX3_letTidePass_51 ?_
  refine V_aload_n hf dX3_letTidePass_54 rfl rfl ?_
  refine B_get hf hg rfl fl_X3_34_7 rfl dX3_letTidePass_55 ?_
  refine B_get hf hg rfl fl_X3_187_10 rfl dX3_letTidePass_58 ?_
  refine V_iload_n hf dX3_letTidePass_61 rfl rfl ?_
  refine V_isub hf dX3_letTidePass_62 ?_
  exact B_iret hf he rfl dX3_letTidePass_63 (by decide) (by decide) (by first | rfl | omega | (rw [if_pos (by omega)]) | (rw [if_neg (by omega)])) rfl

set_option maxHeartbeats 4000000 in
set_option maxRecDepth 100000 in
theorem c_jShip {l : Launch} {D : va_G} {K : Nat → ClassId} {ad : Adr} (hl0 : l.stackTraces = false) (g : Int) (hg : 0 ≤ g ∧ g < 11) (σ : Mem) (hR : Rng σ) (hM : MI (σ g)) (a b : Int) (ha : inR a) (hb : inR b) : Cb l D K ad yX3_judgeShip (.code yX3_judgeShip cX3_judgeShip 3 (some .int)) 2 0 0 σ [.ref (ad g 0), .int (iN a), .int (iN b)] (.inl (some (.int (iN (vShip (σ g) a b))))) σ := by
  refine Cb.of (own := RX3) (ls0 := [some (.ref (ad g 0)), some (.int (iN a)), some (.int (iN b))]) hl0 (by decide) rfl (Nat.le_of_ble_eq_true rfl) rfl ?_
  intro X hX1 hX2 hX3 hf he hh
  subst hX1 hX2 hX3
  have h1 := hM.fl.1
  have h2 := hM.fl.2.1
  have h3 := hM.nb
  have h4 := hM.no
  refine V_iload_n hf dX3_judgeShip_0 rfl rfl ?_
  refine V_iconst hf dX3_judgeShip_1 ?_
  refine V_bipush hf dX3_judgeShip_2 (by decide +kernel) ?_
  refine B_callSNi hf (As := [_, _, _]) (c_within hl0 σ (a) (0) (99) ha ⟨by decide, by decide⟩ ⟨by decide, by decide⟩) nst_X3_87 rfl (Nat.le_of_ble_eq_true rfl) ⟨by decide, by decide, by decide, by decide⟩ dX3_judgeShip_4 ?_
  refine V_if_eq (tgt := 19) hf (by split <;> exact ⟨by omega, by omega⟩) dX3_judgeShip_7 (by decide) (fun h7 => ?_) (fun h7 => ?_)
  · refine V_bipush hf dX3_judgeShip_19 (by decide +kernel) ?_
    exact B_iret hf he rfl dX3_judgeShip_21 (by decide) (by decide) (by unfold vShip; first | omega | rfl | (repeat (first | rfl | (rw [if_pos (by omega)]) | (rw [if_neg (by omega)])))) rfl
  · refine V_iload_n hf dX3_judgeShip_10 rfl rfl ?_
    refine V_iconst hf dX3_judgeShip_11 ?_
    refine V_iconst hf dX3_judgeShip_12 ?_
    refine B_callSNi hf (As := [_, _, _]) (c_within hl0 σ (b) (1) (5) hb ⟨by decide, by decide⟩ ⟨by decide, by decide⟩) nst_X3_87 rfl (Nat.le_of_ble_eq_true rfl) ⟨by decide, by decide, by decide, by decide⟩ dX3_judgeShip_13 ?_
    refine V_if_ne (tgt := 22) hf (by split <;> exact ⟨by omega, by omega⟩) dX3_judgeShip_16 (by decide) (fun h16 => ?_) (fun h16 => ?_)
    · refine V_aload_n hf dX3_judgeShip_22 rfl rfl ?_
      refine B_get hf hg rfl fl_X3_12_7 rfl dX3_judgeShip_23 ?_
      refine B_get hf hg rfl fl_X3_121_5 rfl dX3_judgeShip_26 ?_
      refine V_bipush hf dX3_judgeShip_29 (by decide +kernel) ?_
      refine V_icmp_lt (tgt := 38) hf (by first | exact hR _ _ _ (by decide) | exact ⟨by omega, by omega⟩) (by first | exact hR _ _ _ (by decide) | exact ⟨by omega, by omega⟩) dX3_judgeShip_31 (by decide) (fun h31 => ?_) (fun h31 => ?_)
      · refine V_iconst hf dX3_judgeShip_38 ?_
        exact B_iret hf he rfl dX3_judgeShip_39 (by decide) (by decide) (by unfold vShip; first | omega | rfl | (repeat (first | rfl | (rw [if_pos (by omega)]) | (rw [if_neg (by omega)])))) rfl
      · refine V_iconst hf dX3_judgeShip_34 ?_
        refine V_goto (tgt := 39) hf dX3_judgeShip_35 (by decide) ?_
        exact B_iret hf he rfl dX3_judgeShip_39 (by decide) (by decide) (by unfold vShip; first | omega | rfl | (repeat (first | rfl | (rw [if_pos (by omega)]) | (rw [if_neg (by omega)])))) rfl
    · refine V_bipush hf dX3_judgeShip_19 (by decide +kernel) ?_
      exact B_iret hf he rfl dX3_judgeShip_21 (by decide) (by decide) (by unfold vShip; first | omega | rfl | (repeat (first | rfl | (rw [if_pos (by omega)]) | (rw [if_neg (by omega)])))) rfl

set_option maxHeartbeats 4000000 in
set_option maxRecDepth 100000 in
theorem c_jBarn {l : Launch} {D : va_G} {K : Nat → ClassId} {ad : Adr} (hl0 : l.stackTraces = false) (g : Int) (hg : 0 ≤ g ∧ g < 11) (σ : Mem) (hR : Rng σ) (hM : MI (σ g)) (s a : Int) (hs : inR s) (ha : inR a) : Cb l D K ad yX3_judgeBarnacle (.code yX3_judgeBarnacle cX3_judgeBarnacle 3 (some .int)) 3 0 0 σ [.ref (ad g 0), .int (iN s), .int (iN a)] (.inl (some (.int (iN (vBarn (σ g) s a))))) σ := by
  refine Cb.of (own := RX3) (ls0 := [some (.ref (ad g 0)), some (.int (iN s)), some (.int (iN a))]) hl0 (by decide) rfl (Nat.le_of_ble_eq_true rfl) rfl ?_
  intro X hX1 hX2 hX3 hf he hh
  subst hX1 hX2 hX3
  have h1 := hM.fl.1
  have h2 := hM.fl.2.1
  have h3 := hM.nb
  have h4 := hM.no
  refine V_aload_n hf dX3_judgeBarnacle_0 rfl rfl ?_
  refine B_get hf hg rfl fl_X3_12_7 rfl dX3_judgeBarnacle_1 ?_
  refine V_iload_n hf dX3_judgeBarnacle_4 rfl rfl ?_
  refine B_callVi hf (As := [_]) (c_hasShip hl0 g hg σ hR s hs) cv_X3_124 hg rfl rfl rfl (Nat.le_of_ble_eq_true rfl) ⟨by decide, by decide, by decide, by decide⟩ dX3_judgeBarnacle_5 ?_
  refine V_if_ne (tgt := 13) hf (by split <;> exact ⟨by omega, by omega⟩) dX3_judgeBarnacle_8 (by decide) (fun h8 => ?_) (fun h8 => ?_)
  · refine V_iload_n hf dX3_judgeBarnacle_13 rfl rfl ?_
    refine V_iconst hf dX3_judgeBarnacle_14 ?_
    refine V_bipush hf dX3_judgeBarnacle_15 (by decide +kernel) ?_
    refine B_callSNi hf (As := [_, _, _]) (c_within hl0 σ (a) (1) (9) ha ⟨by decide, by decide⟩ ⟨by decide, by decide⟩) nst_X3_87 rfl (Nat.le_of_ble_eq_true rfl) ⟨by decide, by decide, by decide, by decide⟩ dX3_judgeBarnacle_17 ?_
    refine V_if_ne (tgt := 26) hf (by split <;> exact ⟨by omega, by omega⟩) dX3_judgeBarnacle_20 (by decide) (fun h20 => ?_) (fun h20 => ?_)
    · refine V_aload_n hf dX3_judgeBarnacle_26 rfl rfl ?_
      refine B_get hf hg rfl fl_X3_12_7 rfl dX3_judgeBarnacle_27 ?_
      refine B_get hf hg rfl fl_X3_128_5 rfl dX3_judgeBarnacle_30 ?_
      refine V_bipush hf dX3_judgeBarnacle_33 (by decide +kernel) ?_
      refine V_icmp_lt (tgt := 40) hf (by first | exact hR _ _ _ (by decide) | exact ⟨by omega, by omega⟩) (by first | exact hR _ _ _ (by decide) | exact ⟨by omega, by omega⟩) dX3_judgeBarnacle_35 (by decide) (fun h35 => ?_) (fun h35 => ?_)
      · refine V_aload_n hf dX3_judgeBarnacle_40 rfl rfl ?_
        refine V_iload_n hf dX3_judgeBarnacle_41 rfl rfl ?_
        refine B_callVi hf (As := [_]) (c_placesL hl0 g hg σ hR hM s ⟨by omega, by omega⟩) cv_X3_131 hg rfl rfl rfl (Nat.le_of_ble_eq_true rfl) ⟨by decide, by decide, by decide, by decide⟩ dX3_judgeBarnacle_42 ?_
        refine V_iconst hf dX3_judgeBarnacle_45 ?_
        refine V_icmp_ge (tgt := 53) hf (by have := placesL_r hM (s := s) (by omega) (by omega); exact ⟨by omega, by omega⟩) (by first | exact hR _ _ _ (by decide) | exact ⟨by omega, by omega⟩) dX3_judgeBarnacle_46 (by decide) (fun h46 => ?_) (fun h46 => ?_)
        · refine V_iconst hf dX3_judgeBarnacle_53 ?_
          exact B_iret hf he rfl dX3_judgeBarnacle_54 (by decide) (by decide) (by unfold vBarn; first | omega | rfl | (repeat (first | rfl | (rw [if_pos (by omega)]) | (rw [if_neg (by omega)])))) rfl
        · refine V_iconst hf dX3_judgeBarnacle_49 ?_
          refine V_goto (tgt := 54) hf dX3_judgeBarnacle_50 (by decide) ?_
          exact B_iret hf he rfl dX3_judgeBarnacle_54 (by decide) (by decide) (by unfold vBarn; first | omega | rfl | (repeat (first | rfl | (rw [if_pos (by omega)]) | (rw [if_neg (by omega)])))) rfl
      · refine V_iconst hf dX3_judgeBarnacle_38 ?_
        exact B_iret hf he rfl dX3_judgeBarnacle_39 (by decide) (by decide) (by unfold vBarn; first | omega | rfl | (repeat (first | rfl | (rw [if_pos (by omega)]) | (rw [if_neg (by omega)])))) rfl
    · refine V_bipush hf dX3_judgeBarnacle_23 (by decide +kernel) ?_
      exact B_iret hf he rfl dX3_judgeBarnacle_25 (by decide) (by decide) (by unfold vBarn; first | omega | rfl | (repeat (first | rfl | (rw [if_pos (by omega)]) | (rw [if_neg (by omega)])))) rfl
  · refine V_iconst hf dX3_judgeBarnacle_11 ?_
    exact B_iret hf he rfl dX3_judgeBarnacle_12 (by decide) (by decide) (by unfold vBarn; first | omega | rfl | (repeat (first | rfl | (rw [if_pos (by omega)]) | (rw [if_neg (by omega)])))) rfl

set_option maxHeartbeats 4000000 in
set_option maxRecDepth 100000 in
theorem c_jGift {l : Launch} {D : va_G} {K : Nat → ClassId} {ad : Adr} (hl0 : l.stackTraces = false) (g : Int) (hg : 0 ≤ g ∧ g < 11) (σ : Mem) (hR : Rng σ) (hM : MI (σ g)) (s a : Int) (hs : inR s) (ha : inR a) : Cb l D K ad yX3_judgeGift (.code yX3_judgeGift cX3_judgeGift 3 (some .int)) 2 0 0 σ [.ref (ad g 0), .int (iN s), .int (iN a)] (.inl (some (.int (iN (vGift (σ g) s a))))) σ := by
  refine Cb.of (own := RX3) (ls0 := [some (.ref (ad g 0)), some (.int (iN s)), some (.int (iN a))]) hl0 (by decide) rfl (Nat.le_of_ble_eq_true rfl) rfl ?_
  intro X hX1 hX2 hX3 hf he hh
  subst hX1 hX2 hX3
  have h1 := hM.fl.1
  have h2 := hM.fl.2.1
  have h3 := hM.nb
  have h4 := hM.no
  refine V_aload_n hf dX3_judgeGift_0 rfl rfl ?_
  refine B_get hf hg rfl fl_X3_12_7 rfl dX3_judgeGift_1 ?_
  refine V_iload_n hf dX3_judgeGift_4 rfl rfl ?_
  refine B_callVi hf (As := [_]) (c_hasShip hl0 g hg σ hR s hs) cv_X3_124 hg rfl rfl rfl (Nat.le_of_ble_eq_true rfl) ⟨by decide, by decide, by decide, by decide⟩ dX3_judgeGift_5 ?_
  refine V_if_ne (tgt := 13) hf (by split <;> exact ⟨by omega, by omega⟩) dX3_judgeGift_8 (by decide) (fun h8 => ?_) (fun h8 => ?_)
  · refine V_iload_n hf dX3_judgeGift_13 rfl rfl ?_
    refine V_iconst hf dX3_judgeGift_14 ?_
    refine V_bipush hf dX3_judgeGift_15 (by decide +kernel) ?_
    refine B_callSNi hf (As := [_, _, _]) (c_within hl0 σ (a) (1) (99) ha ⟨by decide, by decide⟩ ⟨by decide, by decide⟩) nst_X3_87 rfl (Nat.le_of_ble_eq_true rfl) ⟨by decide, by decide, by decide, by decide⟩ dX3_judgeGift_17 ?_
    refine V_if_eq (tgt := 27) hf (by split <;> exact ⟨by omega, by omega⟩) dX3_judgeGift_20 (by decide) (fun h20 => ?_) (fun h20 => ?_)
    · refine V_bipush hf dX3_judgeGift_27 (by decide +kernel) ?_
      exact B_iret hf he rfl dX3_judgeGift_29 (by decide) (by decide) (by unfold vGift; first | omega | rfl | (repeat (first | rfl | (rw [if_pos (by omega)]) | (rw [if_neg (by omega)])))) rfl
    · refine V_iconst hf dX3_judgeGift_23 ?_
      refine V_goto (tgt := 29) hf dX3_judgeGift_24 (by decide) ?_
      exact B_iret hf he rfl dX3_judgeGift_29 (by decide) (by decide) (by unfold vGift; first | omega | rfl | (repeat (first | rfl | (rw [if_pos (by omega)]) | (rw [if_neg (by omega)])))) rfl
  · refine V_iconst hf dX3_judgeGift_11 ?_
    exact B_iret hf he rfl dX3_judgeGift_12 (by decide) (by decide) (by unfold vGift; first | omega | rfl | (repeat (first | rfl | (rw [if_pos (by omega)]) | (rw [if_neg (by omega)])))) rfl

set_option maxHeartbeats 4000000 in
set_option maxRecDepth 100000 in
theorem c_jBid {l : Launch} {D : va_G} {K : Nat → ClassId} {ad : Adr} (hl0 : l.stackTraces = false) (g : Int) (hg : 0 ≤ g ∧ g < 11) (σ : Mem) (hR : Rng σ) (hM : MI (σ g)) (s a : Int) (hs : inR s) (ha : inR a) (p : Int) (hp : inR p) : Cb l D K ad yX3_judgeBid (.code yX3_judgeBid cX3_judgeBid 4 (some .int)) 3 0 0 σ [.ref (ad g 0), .int (iN s), .int (iN a), .int (iN p)] (.inl (some (.int (iN (vBid (σ g) s a p))))) σ := by
  refine Cb.of (own := RX3) (ls0 := [some (.ref (ad g 0)), some (.int (iN s)), some (.int (iN a)), some (.int (iN p))]) hl0 (by decide) rfl (Nat.le_of_ble_eq_true rfl) rfl ?_
  intro X hX1 hX2 hX3 hf he hh
  subst hX1 hX2 hX3
  have h1 := hM.fl.1
  have h2 := hM.fl.2.1
  have h3 := hM.nb
  have h4 := hM.no
  refine V_aload_n hf dX3_judgeBid_0 rfl rfl ?_
  refine B_get hf hg rfl fl_X3_12_7 rfl dX3_judgeBid_1 ?_
  refine V_iload_n hf dX3_judgeBid_4 rfl rfl ?_
  refine B_callVi hf (As := [_]) (c_hasShip hl0 g hg σ hR s hs) cv_X3_124 hg rfl rfl rfl (Nat.le_of_ble_eq_true rfl) ⟨by decide, by decide, by decide, by decide⟩ dX3_judgeBid_5 ?_
  refine V_if_ne (tgt := 13) hf (by split <;> exact ⟨by omega, by omega⟩) dX3_judgeBid_8 (by decide) (fun h8 => ?_) (fun h8 => ?_)
  · refine V_iload_n hf dX3_judgeBid_13 rfl rfl ?_
    refine V_iconst hf dX3_judgeBid_14 ?_
    refine V_bipush hf dX3_judgeBid_15 (by decide +kernel) ?_
    refine B_callSNi hf (As := [_, _, _]) (c_within hl0 σ (a) (1) (9) ha ⟨by decide, by decide⟩ ⟨by decide, by decide⟩) nst_X3_87 rfl (Nat.le_of_ble_eq_true rfl) ⟨by decide, by decide, by decide, by decide⟩ dX3_judgeBid_17 ?_
    refine V_if_eq (tgt := 33) hf (by split <;> exact ⟨by omega, by omega⟩) dX3_judgeBid_20 (by decide) (fun h20 => ?_) (fun h20 => ?_)
    · refine V_bipush hf dX3_judgeBid_33 (by decide +kernel) ?_
      exact B_iret hf he rfl dX3_judgeBid_35 (by decide) (by decide) (by unfold vBid; first | omega | rfl | (repeat (first | rfl | (rw [if_pos (by omega)]) | (rw [if_neg (by omega)])))) rfl
    · refine V_iload_n hf dX3_judgeBid_23 rfl rfl ?_
      refine V_iconst hf dX3_judgeBid_24 ?_
      refine V_bipush hf dX3_judgeBid_25 (by decide +kernel) ?_
      refine B_callSNi hf (As := [_, _, _]) (c_within hl0 σ (p) (1) (99) hp ⟨by decide, by decide⟩ ⟨by decide, by decide⟩) nst_X3_87 rfl (Nat.le_of_ble_eq_true rfl) ⟨by decide, by decide, by decide, by decide⟩ dX3_judgeBid_27 ?_
      refine V_if_ne (tgt := 36) hf (by split <;> exact ⟨by omega, by omega⟩) dX3_judgeBid_30 (by decide) (fun h30 => ?_) (fun h30 => ?_)
      · refine V_aload_n hf dX3_judgeBid_36 rfl rfl ?_
        refine B_get hf hg rfl fl_X3_21_7 rfl dX3_judgeBid_37 ?_
        refine B_get hf hg rfl fl_X3_111_4 rfl dX3_judgeBid_40 ?_
        refine V_bipush hf dX3_judgeBid_43 (by decide +kernel) ?_
        refine V_icmp_lt (tgt := 50) hf (by first | exact hR _ _ _ (by decide) | exact ⟨by omega, by omega⟩) (by first | exact hR _ _ _ (by decide) | exact ⟨by omega, by omega⟩) dX3_judgeBid_45 (by decide) (fun h45 => ?_) (fun h45 => ?_)
        · refine V_aload_n hf dX3_judgeBid_50 rfl rfl ?_
          refine V_iload_n hf dX3_judgeBid_51 rfl rfl ?_
          refine B_callVi hf (As := [_]) (c_placesL hl0 g hg σ hR hM s ⟨by omega, by omega⟩) cv_X3_131 hg rfl rfl rfl (Nat.le_of_ble_eq_true rfl) ⟨by decide, by decide, by decide, by decide⟩ dX3_judgeBid_52 ?_
          refine V_iconst hf dX3_judgeBid_55 ?_
          refine V_icmp_ge (tgt := 61) hf (by have := placesL_r hM (s := s) (by omega) (by omega); exact ⟨by omega, by omega⟩) (by first | exact hR _ _ _ (by decide) | exact ⟨by omega, by omega⟩) dX3_judgeBid_56 (by decide) (fun h56 => ?_) (fun h56 => ?_)
          · refine V_aload_n hf dX3_judgeBid_61 rfl rfl ?_
            refine V_iload_n hf dX3_judgeBid_62 rfl rfl ?_
            refine B_callVi hf (As := [_]) (c_coinsL hl0 g hg σ hR hM s ⟨by omega, by omega⟩) cv_X3_134 hg rfl rfl rfl (Nat.le_of_ble_eq_true rfl) ⟨by decide, by decide, by decide, by decide⟩ dX3_judgeBid_63 ?_
            refine V_iload_n hf dX3_judgeBid_66 rfl rfl ?_
            refine V_icmp_ge (tgt := 74) hf (by have := coinsL_r hM (s := s) (by omega) (by omega); exact ⟨by omega, by omega⟩) (by first | exact hR _ _ _ (by decide) | exact ⟨by omega, by omega⟩) dX3_judgeBid_67 (by decide) (fun h67 => ?_) (fun h67 => ?_)
            · refine V_iconst hf dX3_judgeBid_74 ?_
              exact B_iret hf he rfl dX3_judgeBid_75 (by decide) (by decide) (by unfold vBid; first | omega | rfl | (repeat (first | rfl | (rw [if_pos (by omega)]) | (rw [if_neg (by omega)])))) rfl
            · refine V_iconst hf dX3_judgeBid_70 ?_
              refine V_goto (tgt := 75) hf dX3_judgeBid_71 (by decide) ?_
              exact B_iret hf he rfl dX3_judgeBid_75 (by decide) (by decide) (by unfold vBid; first | omega | rfl | (repeat (first | rfl | (rw [if_pos (by omega)]) | (rw [if_neg (by omega)])))) rfl
          · refine V_iconst hf dX3_judgeBid_59 ?_
            exact B_iret hf he rfl dX3_judgeBid_60 (by decide) (by decide) (by unfold vBid; first | omega | rfl | (repeat (first | rfl | (rw [if_pos (by omega)]) | (rw [if_neg (by omega)])))) rfl
        · refine V_iconst hf dX3_judgeBid_48 ?_
          exact B_iret hf he rfl dX3_judgeBid_49 (by decide) (by decide) (by unfold vBid; first | omega | rfl | (repeat (first | rfl | (rw [if_pos (by omega)]) | (rw [if_neg (by omega)])))) rfl
      · refine V_bipush hf dX3_judgeBid_33 (by decide +kernel) ?_
        exact B_iret hf he rfl dX3_judgeBid_35 (by decide) (by decide) (by unfold vBid; first | omega | rfl | (repeat (first | rfl | (rw [if_pos (by omega)]) | (rw [if_neg (by omega)])))) rfl
  · refine V_iconst hf dX3_judgeBid_11 ?_
    exact B_iret hf he rfl dX3_judgeBid_12 (by decide) (by decide) (by unfold vBid; first | omega | rfl | (repeat (first | rfl | (rw [if_pos (by omega)]) | (rw [if_neg (by omega)])))) rfl

set_option maxHeartbeats 4000000 in
set_option maxRecDepth 100000 in
theorem c_jOffer {l : Launch} {D : va_G} {K : Nat → ClassId} {ad : Adr} (hl0 : l.stackTraces = false) (g : Int) (hg : 0 ≤ g ∧ g < 11) (σ : Mem) (hR : Rng σ) (hM : MI (σ g)) (s a : Int) (hs : inR s) (ha : inR a) : Cb l D K ad yX3_judgeOffer (.code yX3_judgeOffer cX3_judgeOffer 3 (some .int)) 3 0 0 σ [.ref (ad g 0), .int (iN s), .int (iN a)] (.inl (some (.int (iN (vOffer (σ g) s a))))) σ := by
  refine Cb.of (own := RX3) (ls0 := [some (.ref (ad g 0)), some (.int (iN s)), some (.int (iN a))]) hl0 (by decide) rfl (Nat.le_of_ble_eq_true rfl) rfl ?_
  intro X hX1 hX2 hX3 hf he hh
  subst hX1 hX2 hX3
  have h1 := hM.fl.1
  have h2 := hM.fl.2.1
  have h3 := hM.nb
  have h4 := hM.no
  have h5 := rowOwn_r (σ g) 12 s
  refine V_aload_n hf dX3_judgeOffer_0 rfl rfl ?_
  refine B_get hf hg rfl fl_X3_12_7 rfl dX3_judgeOffer_1 ?_
  refine V_iload_n hf dX3_judgeOffer_4 rfl rfl ?_
  refine B_callVi hf (As := [_]) (c_hasBarn hl0 g hg σ hR s hs) cv_X3_137 hg rfl rfl rfl (Nat.le_of_ble_eq_true rfl) ⟨by decide, by decide, by decide, by decide⟩ dX3_judgeOffer_5 ?_
  refine V_if_ne (tgt := 13) hf (by split <;> exact ⟨by omega, by omega⟩) dX3_judgeOffer_8 (by decide) (fun h8 => ?_) (fun h8 => ?_)
  · refine V_iload_n hf dX3_judgeOffer_13 rfl rfl ?_
    refine V_iconst hf dX3_judgeOffer_14 ?_
    refine V_bipush hf dX3_judgeOffer_15 (by decide +kernel) ?_
    refine B_callSNi hf (As := [_, _, _]) (c_within hl0 σ (a) (1) (99) ha ⟨by decide, by decide⟩ ⟨by decide, by decide⟩) nst_X3_87 rfl (Nat.le_of_ble_eq_true rfl) ⟨by decide, by decide, by decide, by decide⟩ dX3_judgeOffer_17 ?_
    refine V_if_ne (tgt := 26) hf (by split <;> exact ⟨by omega, by omega⟩) dX3_judgeOffer_20 (by decide) (fun h20 => ?_) (fun h20 => ?_)
    · refine V_aload_n hf dX3_judgeOffer_26 rfl rfl ?_
      refine B_get hf hg rfl fl_X3_28_7 rfl dX3_judgeOffer_27 ?_
      refine V_iload_n hf dX3_judgeOffer_30 rfl rfl ?_
      refine B_callUi hf (As := [_]) (c_rowOwnO hl0 g hg σ hR hM.no s hs) cu_X3_140_8 hg rfl rfl rfl (Nat.le_of_ble_eq_true rfl) ⟨by decide, by decide, by decide, by decide⟩ dX3_judgeOffer_31 ?_
      refine V_iconst hf dX3_judgeOffer_34 ?_
      refine V_icmp_ne (tgt := 42) hf ⟨by omega, by omega⟩ ⟨by omega, by omega⟩ dX3_judgeOffer_35 (by decide) (fun h35 => ?_) (fun h35 => ?_)
      · refine V_bipush hf dX3_judgeOffer_42 (by decide +kernel) ?_
        exact B_iret hf he rfl dX3_judgeOffer_44 (by decide) (by decide) (by unfold vOffer; first | omega | rfl | (repeat (first | rfl | (rw [if_pos (by omega)]) | (rw [if_neg (by omega)])))) rfl
      · refine V_iconst hf dX3_judgeOffer_38 ?_
        refine V_goto (tgt := 44) hf dX3_judgeOffer_39 (by decide) ?_
        exact B_iret hf he rfl dX3_judgeOffer_44 (by decide) (by decide) (by unfold vOffer; first | omega | rfl | (repeat (first | rfl | (rw [if_pos (by omega)]) | (rw [if_neg (by omega)])))) rfl
    · refine V_bipush hf dX3_judgeOffer_23 (by decide +kernel) ?_
      exact B_iret hf he rfl dX3_judgeOffer_25 (by decide) (by decide) (by unfold vOffer; first | omega | rfl | (repeat (first | rfl | (rw [if_pos (by omega)]) | (rw [if_neg (by omega)])))) rfl
  · refine V_iconst hf dX3_judgeOffer_11 ?_
    exact B_iret hf he rfl dX3_judgeOffer_12 (by decide) (by decide) (by unfold vOffer; first | omega | rfl | (repeat (first | rfl | (rw [if_pos (by omega)]) | (rw [if_neg (by omega)])))) rfl

set_option maxHeartbeats 4000000 in
set_option maxRecDepth 100000 in
theorem c_judge_s {l : Launch} {D : va_G} {K : Nat → ClassId} {ad : Adr} (hl0 : l.stackTraces = false) (g : Int) (hg : 0 ≤ g ∧ g < 11) (σ : Mem) (hR : Rng σ) (hM : MI (σ g)) (a b c : Int) (ha : inR a) (hb : inR b) (hc : inR c) : Cb l D K ad yX3_judge (.code yX3_judge cX3_judge 5 (some .int)) 4 0 0 σ [.ref (ad g 0), .int (iN 115), .int (iN a), .int (iN b), .int (iN c)] (.inl (some (.int (iN (vShip (σ g) a b))))) σ := by
  refine Cb.of (own := RX3) (ls0 := [some (.ref (ad g 0)), some (.int (iN 115)), some (.int (iN a)), some (.int (iN b)), some (.int (iN c))]) hl0 (by decide) rfl (Nat.le_of_ble_eq_true rfl) rfl ?_
  intro X hX1 hX2 hX3 hf he hh
  subst hX1 hX2 hX3
  have h1 := hM.fl.1
  have h2 := hM.fl.2.1
  have h3 := hM.nb
  have h4 := hM.no
  refine V_iload_n hf dX3_judge_0 rfl rfl ?_
  refine V_tswIn (tgt := 116) hf ⟨by decide, by decide⟩ dX3_judge_1 (by decide) (by decide) rfl (by decide) ?_
  refine V_aload_n hf dX3_judge_116 rfl rfl ?_
  refine V_iload_n hf dX3_judge_117 rfl rfl ?_
  refine V_iload_n hf dX3_judge_118 rfl rfl ?_
  refine B_callVi hf (As := [_, _]) (c_jShip hl0 g hg σ hR hM a b ha hb) cv_X3_66 hg rfl rfl rfl (Nat.le_of_ble_eq_true rfl) ⟨by decide, by decide, by decide, by decide⟩ dX3_judge_119 ?_
  exact B_iret hf he rfl dX3_judge_122 (by decide) (by decide) (by first | rfl | omega) rfl

set_option maxHeartbeats 4000000 in
set_option maxRecDepth 100000 in
theorem c_judge_a {l : Launch} {D : va_G} {K : Nat → ClassId} {ad : Adr} (hl0 : l.stackTraces = false) (g : Int) (hg : 0 ≤ g ∧ g < 11) (σ : Mem) (hR : Rng σ) (hM : MI (σ g)) (a b c : Int) (ha : inR a) (hb : inR b) (hc : inR c) : Cb l D K ad yX3_judge (.code yX3_judge cX3_judge 5 (some .int)) 4 0 0 σ [.ref (ad g 0), .int (iN 97), .int (iN a), .int (iN b), .int (iN c)] (.inl (some (.int (iN (vBarn (σ g) a b))))) σ := by
  refine Cb.of (own := RX3) (ls0 := [some (.ref (ad g 0)), some (.int (iN 97)), some (.int (iN a)), some (.int (iN b)), some (.int (iN c))]) hl0 (by decide) rfl (Nat.le_of_ble_eq_true rfl) rfl ?_
  intro X hX1 hX2 hX3 hf he hh
  subst hX1 hX2 hX3
  have h1 := hM.fl.1
  have h2 := hM.fl.2.1
  have h3 := hM.nb
  have h4 := hM.no
  refine V_iload_n hf dX3_judge_0 rfl rfl ?_
  refine V_tswIn (tgt := 123) hf ⟨by decide, by decide⟩ dX3_judge_1 (by decide) (by decide) rfl (by decide) ?_
  refine V_aload_n hf dX3_judge_123 rfl rfl ?_
  refine V_iload_n hf dX3_judge_124 rfl rfl ?_
  refine V_iload_n hf dX3_judge_125 rfl rfl ?_
  refine B_callVi hf (As := [_, _]) (c_jBarn hl0 g hg σ hR hM a b ha hb) cv_X3_70 hg rfl rfl rfl (Nat.le_of_ble_eq_true rfl) ⟨by decide, by decide, by decide, by decide⟩ dX3_judge_126 ?_
  exact B_iret hf he rfl dX3_judge_129 (by decide) (by decide) (by first | rfl | omega) rfl

set_option maxHeartbeats 4000000 in
set_option maxRecDepth 100000 in
theorem c_judge_c {l : Launch} {D : va_G} {K : Nat → ClassId} {ad : Adr} (hl0 : l.stackTraces = false) (g : Int) (hg : 0 ≤ g ∧ g < 11) (σ : Mem) (hR : Rng σ) (hM : MI (σ g)) (a b c : Int) (ha : inR a) (hb : inR b) (hc : inR c) : Cb l D K ad yX3_judge (.code yX3_judge cX3_judge 5 (some .int)) 4 0 0 σ [.ref (ad g 0), .int (iN 99), .int (iN a), .int (iN b), .int (iN c)] (.inl (some (.int (iN (vGift (σ g) a b))))) σ := by
  refine Cb.of (own := RX3) (ls0 := [some (.ref (ad g 0)), some (.int (iN 99)), some (.int (iN a)), some (.int (iN b)), some (.int (iN c))]) hl0 (by decide) rfl (Nat.le_of_ble_eq_true rfl) rfl ?_
  intro X hX1 hX2 hX3 hf he hh
  subst hX1 hX2 hX3
  have h1 := hM.fl.1
  have h2 := hM.fl.2.1
  have h3 := hM.nb
  have h4 := hM.no
  refine V_iload_n hf dX3_judge_0 rfl rfl ?_
  refine V_tswIn (tgt := 130) hf ⟨by decide, by decide⟩ dX3_judge_1 (by decide) (by decide) rfl (by decide) ?_
  refine V_aload_n hf dX3_judge_130 rfl rfl ?_
  refine V_iload_n hf dX3_judge_131 rfl rfl ?_
  refine V_iload_n hf dX3_judge_132 rfl rfl ?_
  refine B_callVi hf (As := [_, _]) (c_jGift hl0 g hg σ hR hM a b ha hb) cv_X3_73 hg rfl rfl rfl (Nat.le_of_ble_eq_true rfl) ⟨by decide, by decide, by decide, by decide⟩ dX3_judge_133 ?_
  exact B_iret hf he rfl dX3_judge_136 (by decide) (by decide) (by first | rfl | omega) rfl

set_option maxHeartbeats 4000000 in
set_option maxRecDepth 100000 in
theorem c_judge_b {l : Launch} {D : va_G} {K : Nat → ClassId} {ad : Adr} (hl0 : l.stackTraces = false) (g : Int) (hg : 0 ≤ g ∧ g < 11) (σ : Mem) (hR : Rng σ) (hM : MI (σ g)) (a b c : Int) (ha : inR a) (hb : inR b) (hc : inR c) : Cb l D K ad yX3_judge (.code yX3_judge cX3_judge 5 (some .int)) 4 0 0 σ [.ref (ad g 0), .int (iN 98), .int (iN a), .int (iN b), .int (iN c)] (.inl (some (.int (iN (vBid (σ g) a b c))))) σ := by
  refine Cb.of (own := RX3) (ls0 := [some (.ref (ad g 0)), some (.int (iN 98)), some (.int (iN a)), some (.int (iN b)), some (.int (iN c))]) hl0 (by decide) rfl (Nat.le_of_ble_eq_true rfl) rfl ?_
  intro X hX1 hX2 hX3 hf he hh
  subst hX1 hX2 hX3
  have h1 := hM.fl.1
  have h2 := hM.fl.2.1
  have h3 := hM.nb
  have h4 := hM.no
  refine V_iload_n hf dX3_judge_0 rfl rfl ?_
  refine V_tswIn (tgt := 137) hf ⟨by decide, by decide⟩ dX3_judge_1 (by decide) (by decide) rfl (by decide) ?_
  refine V_aload_n hf dX3_judge_137 rfl rfl ?_
  refine V_iload_n hf dX3_judge_138 rfl rfl ?_
  refine V_iload_n hf dX3_judge_139 rfl rfl ?_
  refine V_iload hf dX3_judge_140 rfl ?_
  refine B_callVi hf (As := [_, _, _]) (c_jBid hl0 g hg σ hR hM a b ha hb c hc) cv_X3_76 hg rfl rfl rfl (Nat.le_of_ble_eq_true rfl) ⟨by decide, by decide, by decide, by decide⟩ dX3_judge_142 ?_
  exact B_iret hf he rfl dX3_judge_145 (by decide) (by decide) (by first | rfl | omega) rfl

set_option maxHeartbeats 4000000 in
set_option maxRecDepth 100000 in
theorem c_judge_o {l : Launch} {D : va_G} {K : Nat → ClassId} {ad : Adr} (hl0 : l.stackTraces = false) (g : Int) (hg : 0 ≤ g ∧ g < 11) (σ : Mem) (hR : Rng σ) (hM : MI (σ g)) (a b c : Int) (ha : inR a) (hb : inR b) (hc : inR c) : Cb l D K ad yX3_judge (.code yX3_judge cX3_judge 5 (some .int)) 4 0 0 σ [.ref (ad g 0), .int (iN 111), .int (iN a), .int (iN b), .int (iN c)] (.inl (some (.int (iN (vOffer (σ g) a b))))) σ := by
  refine Cb.of (own := RX3) (ls0 := [some (.ref (ad g 0)), some (.int (iN 111)), some (.int (iN a)), some (.int (iN b)), some (.int (iN c))]) hl0 (by decide) rfl (Nat.le_of_ble_eq_true rfl) rfl ?_
  intro X hX1 hX2 hX3 hf he hh
  subst hX1 hX2 hX3
  have h1 := hM.fl.1
  have h2 := hM.fl.2.1
  have h3 := hM.nb
  have h4 := hM.no
  refine V_iload_n hf dX3_judge_0 rfl rfl ?_
  refine V_tswIn (tgt := 146) hf ⟨by decide, by decide⟩ dX3_judge_1 (by decide) (by decide) rfl (by decide) ?_
  refine V_aload_n hf dX3_judge_146 rfl rfl ?_
  refine V_iload_n hf dX3_judge_147 rfl rfl ?_
  refine V_iload_n hf dX3_judge_148 rfl rfl ?_
  refine B_callVi hf (As := [_, _]) (c_jOffer hl0 g hg σ hR hM a b ha hb) cv_X3_80 hg rfl rfl rfl (Nat.le_of_ble_eq_true rfl) ⟨by decide, by decide, by decide, by decide⟩ dX3_judge_149 ?_
  exact B_iret hf he rfl dX3_judge_152 (by decide) (by decide) (by first | rfl | omega) rfl

set_option maxHeartbeats 4000000 in
set_option maxRecDepth 100000 in
theorem c_judge_x {l : Launch} {D : va_G} {K : Nat → ClassId} {ad : Adr} (hl0 : l.stackTraces = false) (g : Int) (hg : 0 ≤ g ∧ g < 11) (σ : Mem) (hR : Rng σ) (hM : MI (σ g)) (a b c : Int) (ha : inR a) (hb : inR b) (hc : inR c) : Cb l D K ad yX3_judge (.code yX3_judge cX3_judge 5 (some .int)) 4 0 0 σ [.ref (ad g 0), .int (iN 120), .int (iN a), .int (iN b), .int (iN c)] (.inl (some (.int (iN (if rowId (σ g) 6 a = -1 then -3 else 0))))) σ := by
  refine Cb.of (own := RX3) (ls0 := [some (.ref (ad g 0)), some (.int (iN 120)), some (.int (iN a)), some (.int (iN b)), some (.int (iN c))]) hl0 (by decide) rfl (Nat.le_of_ble_eq_true rfl) rfl ?_
  intro X hX1 hX2 hX3 hf he hh
  subst hX1 hX2 hX3
  have h1 := hM.fl.1
  have h2 := hM.fl.2.1
  have h3 := hM.nb
  have h4 := hM.no
  refine V_iload_n hf dX3_judge_0 rfl rfl ?_
  refine V_tswIn (tgt := 153) hf ⟨by decide, by decide⟩ dX3_judge_1 (by decide) (by decide) rfl (by decide) ?_
  refine V_aload_n hf dX3_judge_153 rfl rfl ?_
  refine B_get hf hg rfl fl_X3_21_7 rfl dX3_judge_154 ?_
  refine V_iload_n hf dX3_judge_157 rfl rfl ?_
  refine B_callUi hf (As := [_]) (c_rowIdB hl0 g hg σ hR hM.nb a ha) cu_X3_83_4 hg rfl rfl rfl (Nat.le_of_ble_eq_true rfl) ⟨by decide, by decide, by decide, by decide⟩ dX3_judge_158 ?_
  refine V_iconst hf dX3_judge_161 ?_
  refine V_icmp_ne (tgt := 170) hf (by have := rowId_r (σ g) 6 a; exact ⟨by omega, by omega⟩) (by first | exact hR _ _ _ (by decide) | exact ⟨by omega, by omega⟩) dX3_judge_162 (by decide) (fun h162 => ?_) (fun h162 => ?_)
  · refine V_iconst hf dX3_judge_170 ?_
    exact B_iret hf he rfl dX3_judge_171 (by decide) (by decide) (by first | rfl | omega) rfl
  · refine V_bipush hf dX3_judge_165 (by decide +kernel) ?_
    refine V_goto (tgt := 171) hf dX3_judge_167 (by decide) ?_
    exact B_iret hf he rfl dX3_judge_171 (by decide) (by decide) (by first | rfl | omega) rfl

set_option maxHeartbeats 4000000 in
set_option maxRecDepth 100000 in
theorem c_judge_y {l : Launch} {D : va_G} {K : Nat → ClassId} {ad : Adr} (hl0 : l.stackTraces = false) (g : Int) (hg : 0 ≤ g ∧ g < 11) (σ : Mem) (hR : Rng σ) (hM : MI (σ g)) (a b c : Int) (ha : inR a) (hb : inR b) (hc : inR c) : Cb l D K ad yX3_judge (.code yX3_judge cX3_judge 5 (some .int)) 4 0 0 σ [.ref (ad g 0), .int (iN 121), .int (iN a), .int (iN b), .int (iN c)] (.inl (some (.int (iN (if rowId (σ g) 12 a = -1 then -3 else 0))))) σ := by
  refine Cb.of (own := RX3) (ls0 := [some (.ref (ad g 0)), some (.int (iN 121)), some (.int (iN a)), some (.int (iN b)), some (.int (iN c))]) hl0 (by decide) rfl (Nat.le_of_ble_eq_true rfl) rfl ?_
  intro X hX1 hX2 hX3 hf he hh
  subst hX1 hX2 hX3
  have h1 := hM.fl.1
  have h2 := hM.fl.2.1
  have h3 := hM.nb
  have h4 := hM.no
  refine V_iload_n hf dX3_judge_0 rfl rfl ?_
  refine V_tswIn (tgt := 172) hf ⟨by decide, by decide⟩ dX3_judge_1 (by decide) (by decide) rfl (by decide) ?_
  refine V_aload_n hf dX3_judge_172 rfl rfl ?_
  refine B_get hf hg rfl fl_X3_28_7 rfl dX3_judge_173 ?_
  refine V_iload_n hf dX3_judge_176 rfl rfl ?_
  refine B_callUi hf (As := [_]) (c_rowIdO hl0 g hg σ hR hM.no a ha) cu_X3_83_8 hg rfl rfl rfl (Nat.le_of_ble_eq_true rfl) ⟨by decide, by decide, by decide, by decide⟩ dX3_judge_177 ?_
  refine V_iconst hf dX3_judge_180 ?_
  refine V_icmp_ne (tgt := 189) hf (by have := rowId_r (σ g) 12 a; exact ⟨by omega, by omega⟩) (by first | exact hR _ _ _ (by decide) | exact ⟨by omega, by omega⟩) dX3_judge_181 (by decide) (fun h181 => ?_) (fun h181 => ?_)
  · refine V_iconst hf dX3_judge_189 ?_
    exact B_iret hf he rfl dX3_judge_190 (by decide) (by decide) (by first | rfl | omega) rfl
  · refine V_bipush hf dX3_judge_184 (by decide +kernel) ?_
    refine V_goto (tgt := 190) hf dX3_judge_186 (by decide) ?_
    exact B_iret hf he rfl dX3_judge_190 (by decide) (by decide) (by first | rfl | omega) rfl

set_option maxHeartbeats 4000000 in
set_option maxRecDepth 100000 in
theorem c_judge_t {l : Launch} {D : va_G} {K : Nat → ClassId} {ad : Adr} (hl0 : l.stackTraces = false) (g : Int) (hg : 0 ≤ g ∧ g < 11) (σ : Mem) (hR : Rng σ) (hM : MI (σ g)) (a b c : Int) (ha : inR a) (hb : inR b) (hc : inR c) : Cb l D K ad yX3_judge (.code yX3_judge cX3_judge 5 (some .int)) 4 0 0 σ [.ref (ad g 0), .int (iN 116), .int (iN a), .int (iN b), .int (iN c)] (.inl (some (.int (iN (0))))) σ := by
  refine Cb.of (own := RX3) (ls0 := [some (.ref (ad g 0)), some (.int (iN 116)), some (.int (iN a)), some (.int (iN b)), some (.int (iN c))]) hl0 (by decide) rfl (Nat.le_of_ble_eq_true rfl) rfl ?_
  intro X hX1 hX2 hX3 hf he hh
  subst hX1 hX2 hX3
  have h1 := hM.fl.1
  have h2 := hM.fl.2.1
  have h3 := hM.nb
  have h4 := hM.no
  refine V_iload_n hf dX3_judge_0 rfl rfl ?_
  refine V_tswIn (tgt := 208) hf ⟨by decide, by decide⟩ dX3_judge_1 (by decide) (by decide) rfl (by decide) ?_
  refine V_iconst hf dX3_judge_208 ?_
  exact B_iret hf he rfl dX3_judge_209 (by decide) (by decide) (by first | rfl | omega) rfl

set_option maxHeartbeats 4000000 in
set_option maxRecDepth 100000 in
theorem c_judge_f {l : Launch} {D : va_G} {K : Nat → ClassId} {ad : Adr} (hl0 : l.stackTraces = false) (g : Int) (hg : 0 ≤ g ∧ g < 11) (σ : Mem) (hR : Rng σ) (hM : MI (σ g)) (a b c : Int) (ha : inR a) (hb : inR b) (hc : inR c) : Cb l D K ad yX3_judge (.code yX3_judge cX3_judge 5 (some .int)) 4 0 0 σ [.ref (ad g 0), .int (iN 102), .int (iN a), .int (iN b), .int (iN c)] (.inl (some (.int (iN (if 0 ≤ a ∧ a ≤ 9 then 0 else -2))))) σ := by
  refine Cb.of (own := RX3) (ls0 := [some (.ref (ad g 0)), some (.int (iN 102)), some (.int (iN a)), some (.int (iN b)), some (.int (iN c))]) hl0 (by decide) rfl (Nat.le_of_ble_eq_true rfl) rfl ?_
  intro X hX1 hX2 hX3 hf he hh
  subst hX1 hX2 hX3
  have h1 := hM.fl.1
  have h2 := hM.fl.2.1
  have h3 := hM.nb
  have h4 := hM.no
  refine V_iload_n hf dX3_judge_0 rfl rfl ?_
  refine V_tswIn (tgt := 191) hf ⟨by decide, by decide⟩ dX3_judge_1 (by decide) (by decide) rfl (by decide) ?_
  refine V_iload_n hf dX3_judge_191 rfl rfl ?_
  refine V_iconst hf dX3_judge_192 ?_
  refine V_bipush hf dX3_judge_193 (by decide +kernel) ?_
  refine B_callSNi hf (As := [_, _, _]) (c_within hl0 σ (a) (0) (9) ha ⟨by decide, by decide⟩ ⟨by decide, by decide⟩) nst_X3_87 rfl (Nat.le_of_ble_eq_true rfl) ⟨by decide, by decide, by decide, by decide⟩ dX3_judge_195 ?_
  refine V_if_eq (tgt := 205) hf (by split <;> exact ⟨by omega, by omega⟩) dX3_judge_198 (by decide) (fun h198 => ?_) (fun h198 => ?_)
  · refine V_bipush hf dX3_judge_205 (by decide +kernel) ?_
    exact B_iret hf he rfl dX3_judge_207 (by decide) (by decide) (by first | rfl | omega) rfl
  · refine V_iconst hf dX3_judge_201 ?_
    refine V_goto (tgt := 207) hf dX3_judge_202 (by decide) ?_
    exact B_iret hf he rfl dX3_judge_207 (by decide) (by decide) (by first | rfl | omega) rfl

set_option maxHeartbeats 4000000 in
set_option maxRecDepth 100000 in
theorem c_do_s {l : Launch} {D : va_G} {K : Nat → ClassId} {ad : Adr} (hl0 : l.stackTraces = false) (g : Int) (hg : 0 ≤ g ∧ g < 11) (σ : Mem) (hR : Rng σ) (hM : MI (σ g)) (a b c : Int) (ha : inR a) (hb : inR b) (hc : inR c) (h0 : 0 ≤ a ∧ a ≤ 99) (h6 : σ g 1 0 < 6) : Cb l D K ad yX3_carryOut (.code yX3_carryOut cX3_carryOut 5 (some .int)) 5 0 0 σ [.ref (ad g 0), .int (iN 115), .int (iN a), .int (iN b), .int (iN c)] (.inl (some (.int (iN (st3 σ g 0 8 (σ g 0 8 + a) g 1 0))))) (shipM σ g a b) := by
  refine Cb.of (own := RX3) (ls0 := [some (.ref (ad g 0)), some (.int (iN 115)), some (.int (iN a)), some (.int (iN b)), some (.int (iN c))]) hl0 (by decide) rfl (Nat.le_of_ble_eq_true rfl) rfl ?_
  intro X hX1 hX2 hX3 hf he hh
  subst hX1 hX2 hX3
  have h1 := hM.fl.1
  have h2 := hM.fl.2.1
  have h3 := hM.nb
  have h4 := hM.no
  have h5 := hM.cr 8 (by decide)
  refine V_iload_n hf dX3_carryOut_0 rfl rfl ?_
  refine V_tswIn (tgt := 116) hf ⟨by decide, by decide⟩ dX3_carryOut_1 (by decide) (by decide) rfl (by decide) ?_
  refine V_aload_n hf dX3_carryOut_116 rfl rfl ?_
  refine V_dup hf dX3_carryOut_117 rfl ?_
  refine B_get hf hg rfl fl_X3_51_7 rfl dX3_carryOut_118 ?_
  refine V_iload_n hf dX3_carryOut_121 rfl rfl ?_
  refine V_iadd hf dX3_carryOut_122 ?_
  refine B_putI (kI := 8) hf rfl hg rfl fp_X3_51_7 rfl rfl (Nat.le_of_ble_eq_true rfl) (by decide) (cs_0_8 _ _ _ _ _) dX3_carryOut_123 ?_
  refine V_aload_n hf dX3_carryOut_126 rfl rfl ?_
  refine B_get hf hg rfl fl_X3_12_7 rfl dX3_carryOut_127 ?_
  refine V_iload_n hf dX3_carryOut_130 rfl rfl ?_
  refine V_iload_n hf dX3_carryOut_131 rfl rfl ?_
  refine B_callVi hf (As := [_, _]) (c_launch hl0 g hg (st3 σ g 0 8 (σ g 0 8 + a)) (hR.st ⟨by omega, by omega⟩) ⟨by rw [st3_j (by decide)]; omega, by rw [st3_j (by decide)]; omega⟩ a b) cv_X3_91 hg rfl rfl rfl (Nat.le_of_ble_eq_true rfl) ⟨by decide, by decide, by decide, by decide⟩ dX3_carryOut_132 ?_
  exact B_iret hf he rfl dX3_carryOut_135 (by decide) (by decide) rfl rfl

set_option maxHeartbeats 4000000 in
set_option maxRecDepth 100000 in
theorem c_do_a {l : Launch} {D : va_G} {K : Nat → ClassId} {ad : Adr} (hl0 : l.stackTraces = false) (g : Int) (hg : 0 ≤ g ∧ g < 11) (σ : Mem) (hR : Rng σ) (hM : MI (σ g)) (a b c : Int) (ha : inR a) (hb : inR b) (hc : inR c) (h6 : σ g 1 3 < 16) : Cb l D K ad yX3_carryOut (.code yX3_carryOut cX3_carryOut 5 (some .int)) 5 0 0 σ [.ref (ad g 0), .int (iN 97), .int (iN a), .int (iN b), .int (iN c)] (.inl (some (.int (iN (σ g 1 3))))) (boardM σ g a b) := by
  refine Cb.of (own := RX3) (ls0 := [some (.ref (ad g 0)), some (.int (iN 97)), some (.int (iN a)), some (.int (iN b)), some (.int (iN c))]) hl0 (by decide) rfl (Nat.le_of_ble_eq_true rfl) rfl ?_
  intro X hX1 hX2 hX3 hf he hh
  subst hX1 hX2 hX3
  have h1 := hM.fl.1
  have h2 := hM.fl.2.1
  have h3 := hM.nb
  have h4 := hM.no
  have h5 := hM.cr 8 (by decide)
  refine V_iload_n hf dX3_carryOut_0 rfl rfl ?_
  refine V_tswIn (tgt := 136) hf ⟨by decide, by decide⟩ dX3_carryOut_1 (by decide) (by decide) rfl (by decide) ?_
  refine V_aload_n hf dX3_carryOut_136 rfl rfl ?_
  refine B_get hf hg rfl fl_X3_12_7 rfl dX3_carryOut_137 ?_
  refine V_iload_n hf dX3_carryOut_140 rfl rfl ?_
  refine V_iload_n hf dX3_carryOut_141 rfl rfl ?_
  refine B_callVi hf (As := [_, _]) (c_board hl0 g hg σ hR ⟨by omega, by omega⟩ a b) cv_X3_94 hg rfl rfl rfl (Nat.le_of_ble_eq_true rfl) ⟨by decide, by decide, by decide, by decide⟩ dX3_carryOut_142 ?_
  exact B_iret hf he rfl dX3_carryOut_145 (by decide) (by decide) rfl rfl

set_option maxHeartbeats 4000000 in
set_option maxRecDepth 100000 in
theorem c_do_c {l : Launch} {D : va_G} {K : Nat → ClassId} {ad : Adr} (hl0 : l.stackTraces = false) (g : Int) (hg : 0 ≤ g ∧ g < 11) (σ : Mem) (hR : Rng σ) (hM : MI (σ g)) (a b c : Int) (ha : inR a) (hb : inR b) (hc : inR c) (h0 : 0 ≤ a ∧ a < σ g 1 0) (h9 : 0 ≤ b ∧ b ≤ 99) : Cb l D K ad yX3_carryOut (.code yX3_carryOut cX3_carryOut 5 (some .int)) 5 0 0 σ [.ref (ad g 0), .int (iN 99), .int (iN a), .int (iN b), .int (iN c)] (.inl (some (.int (iN (giftM σ g a b g 2 a))))) (giftM σ g a b) := by
  refine Cb.of (own := RX3) (ls0 := [some (.ref (ad g 0)), some (.int (iN 99)), some (.int (iN a)), some (.int (iN b)), some (.int (iN c))]) hl0 (by decide) rfl (Nat.le_of_ble_eq_true rfl) rfl ?_
  intro X hX1 hX2 hX3 hf he hh
  subst hX1 hX2 hX3
  have h1 := hM.fl.1
  have h2 := hM.fl.2.1
  have h3 := hM.nb
  have h4 := hM.no
  have h5 := hM.cr 8 (by decide)
  refine V_iload_n hf dX3_carryOut_0 rfl rfl ?_
  refine V_tswIn (tgt := 146) hf ⟨by decide, by decide⟩ dX3_carryOut_1 (by decide) (by decide) rfl (by decide) ?_
  refine V_aload_n hf dX3_carryOut_146 rfl rfl ?_
  refine V_dup hf dX3_carryOut_147 rfl ?_
  refine B_get hf hg rfl fl_X3_51_7 rfl dX3_carryOut_148 ?_
  refine V_iload_n hf dX3_carryOut_151 rfl rfl ?_
  refine V_iadd hf dX3_carryOut_152 ?_
  refine B_putI (kI := 8) hf rfl hg rfl fp_X3_51_7 rfl rfl (Nat.le_of_ble_eq_true rfl) (by decide) (cs_0_8 _ _ _ _ _) dX3_carryOut_153 ?_
  refine V_aload_n hf dX3_carryOut_156 rfl rfl ?_
  refine B_get hf hg rfl fl_X3_12_7 rfl dX3_carryOut_157 ?_
  refine B_get hf hg rfl fl_X3_97_5 rfl dX3_carryOut_160 ?_
  refine V_iload_n hf dX3_carryOut_163 rfl rfl ?_
  refine V_dup2 hf dX3_carryOut_164 rfl rfl ?_
  refine B_iald hf hg (fun _ => rfl) (by first | exact hR _ _ _ (by decide) | exact ⟨by omega, by omega⟩) (by omega) (by omega) dX3_carryOut_165 ?_
  refine V_iload_n hf dX3_carryOut_166 rfl rfl ?_
  refine V_iadd hf dX3_carryOut_167 ?_
  refine B_iast hf hg (by decide) (fun _ => rfl) (by first | exact hR _ _ _ (by decide) | exact ⟨by omega, by omega⟩) (by omega) (by omega) dX3_carryOut_168 ?_
  refine V_aload_n hf dX3_carryOut_169 rfl rfl ?_
  refine B_get hf hg rfl fl_X3_12_7 rfl dX3_carryOut_170 ?_
  refine B_get hf hg rfl fl_X3_97_5 rfl dX3_carryOut_173 ?_
  refine V_iload_n hf dX3_carryOut_176 rfl rfl ?_
  refine B_iald hf hg (fun _ => rfl) (by first | exact hR _ _ _ (by decide) | exact ⟨by omega, by omega⟩) (by omega) (by omega) dX3_carryOut_177 ?_
  exact B_iret hf he rfl dX3_carryOut_178 (by decide) (by decide) rfl rfl

set_option maxHeartbeats 4000000 in
set_option maxRecDepth 100000 in
theorem c_do_b {l : Launch} {D : va_G} {K : Nat → ClassId} {ad : Adr} (hl0 : l.stackTraces = false) (g : Int) (hg : 0 ≤ g ∧ g < 11) (σ : Mem) (hR : Rng σ) (hM : MI (σ g)) (a b c : Int) (ha : inR a) (hb : inR b) (hc : inR c) (h6 : σ g 6 0 < 10) : Cb l D K ad yX3_carryOut (.code yX3_carryOut cX3_carryOut 5 (some .int)) 5 0 0 σ [.ref (ad g 0), .int (iN 98), .int (iN a), .int (iN b), .int (iN c)] (.inl (some (.int (iN (bidM σ g a b c g 7 (slotI (caB (σ g) b c) (σ g 6 0))))))) (bidM σ g a b c) := by
  refine Cb.of (own := RX3) (ls0 := [some (.ref (ad g 0)), some (.int (iN 98)), some (.int (iN a)), some (.int (iN b)), some (.int (iN c))]) hl0 (by decide) rfl (Nat.le_of_ble_eq_true rfl) rfl ?_
  intro X hX1 hX2 hX3 hf he hh
  subst hX1 hX2 hX3
  have h1 := hM.fl.1
  have h2 := hM.fl.2.1
  have h3 := hM.nb
  have h4 := hM.no
  have h5 := hM.cr 8 (by decide)
  refine V_iload_n hf dX3_carryOut_0 rfl rfl ?_
  refine V_tswIn (tgt := 179) hf ⟨by decide, by decide⟩ dX3_carryOut_1 (by decide) (by decide) rfl (by decide) ?_
  refine V_aload_n hf dX3_carryOut_179 rfl rfl ?_
  refine B_get hf hg rfl fl_X3_21_7 rfl dX3_carryOut_180 ?_
  refine V_iload_n hf dX3_carryOut_183 rfl rfl ?_
  refine V_iload_n hf dX3_carryOut_184 rfl rfl ?_
  refine V_iload hf dX3_carryOut_185 rfl ?_
  refine B_callUi hf (As := [_, _, _]) (c_enterB hl0 g hg σ hR ⟨by omega, by omega⟩ a b c hb hc) cu_X3_101_4 hg rfl rfl rfl (Nat.le_of_ble_eq_true rfl) ⟨by decide, by decide, by decide, by decide⟩ dX3_carryOut_187 ?_
  exact B_iret hf he rfl dX3_carryOut_190 (by decide) (by decide) rfl rfl

set_option maxHeartbeats 4000000 in
set_option maxRecDepth 100000 in
theorem c_do_o {l : Launch} {D : va_G} {K : Nat → ClassId} {ad : Adr} (hl0 : l.stackTraces = false) (g : Int) (hg : 0 ≤ g ∧ g < 11) (σ : Mem) (hR : Rng σ) (hM : MI (σ g)) (a b c : Int) (ha : inR a) (hb : inR b) (hc : inR c) (h0 : 0 ≤ a ∧ a < σ g 1 3) (h6 : σ g 12 0 < 16) : Cb l D K ad yX3_carryOut (.code yX3_carryOut cX3_carryOut 5 (some .int)) 5 0 0 σ [.ref (ad g 0), .int (iN 111), .int (iN a), .int (iN b), .int (iN c)] (.inl (some (.int (iN (offerM σ g a b g 13 (slotI (caO (σ g) (σ g 4 a) b) (σ g 12 0))))))) (offerM σ g a b) := by
  refine Cb.of (own := RX3) (ls0 := [some (.ref (ad g 0)), some (.int (iN 111)), some (.int (iN a)), some (.int (iN b)), some (.int (iN c))]) hl0 (by decide) rfl (Nat.le_of_ble_eq_true rfl) rfl ?_
  intro X hX1 hX2 hX3 hf he hh
  subst hX1 hX2 hX3
  have h1 := hM.fl.1
  have h2 := hM.fl.2.1
  have h3 := hM.nb
  have h4 := hM.no
  have h5 := hM.cr 8 (by decide)
  refine V_iload_n hf dX3_carryOut_0 rfl rfl ?_
  refine V_tswIn (tgt := 191) hf ⟨by decide, by decide⟩ dX3_carryOut_1 (by decide) (by decide) rfl (by decide) ?_
  refine V_aload_n hf dX3_carryOut_191 rfl rfl ?_
  refine B_get hf hg rfl fl_X3_28_7 rfl dX3_carryOut_192 ?_
  refine V_iload_n hf dX3_carryOut_195 rfl rfl ?_
  refine V_aload_n hf dX3_carryOut_196 rfl rfl ?_
  refine B_get hf hg rfl fl_X3_12_7 rfl dX3_carryOut_197 ?_
  refine B_get hf hg rfl fl_X3_104_5 rfl dX3_carryOut_200 ?_
  refine V_iload_n hf dX3_carryOut_203 rfl rfl ?_
  refine B_iald hf hg (fun _ => rfl) (by first | exact hR _ _ _ (by decide) | exact ⟨by omega, by omega⟩) (by omega) (by omega) dX3_carryOut_204 ?_
  refine V_iload_n hf dX3_carryOut_205 rfl rfl ?_
  refine B_callUi hf (As := [_, _, _]) (c_enterO hl0 g hg σ hR ⟨by omega, by omega⟩ a (σ g 4 a) b (hR _ _ _ (by decide)) hb) cu_X3_101_8 hg rfl rfl rfl (Nat.le_of_ble_eq_true rfl) ⟨by decide, by decide, by decide, by decide⟩ dX3_carryOut_206 ?_
  exact B_iret hf he rfl dX3_carryOut_209 (by decide) (by decide) rfl rfl

set_option maxHeartbeats 4000000 in
set_option maxRecDepth 100000 in
theorem c_do_x {l : Launch} {D : va_G} {K : Nat → ClassId} {ad : Adr} (hl0 : l.stackTraces = false) (g : Int) (hg : 0 ≤ g ∧ g < 11) (σ : Mem) (hR : Rng σ) (hM : MI (σ g)) (a b c : Int) (ha : inR a) (hb : inR b) (hc : inR c) (h0 : rowId (σ g) 6 a ≠ -1) : Cb l D K ad yX3_carryOut (.code yX3_carryOut cX3_carryOut 5 (some .int)) 5 0 0 σ [.ref (ad g 0), .int (iN 120), .int (iN a), .int (iN b), .int (iN c)] (.inl (some (.int (iN (removeM σ g 6 (rowId (σ g) 6 a) g 6 0))))) (removeM σ g 6 (rowId (σ g) 6 a)) := by
  refine Cb.of (own := RX3) (ls0 := [some (.ref (ad g 0)), some (.int (iN 120)), some (.int (iN a)), some (.int (iN b)), some (.int (iN c))]) hl0 (by decide) rfl (Nat.le_of_ble_eq_true rfl) rfl ?_
  intro X hX1 hX2 hX3 hf he hh
  subst hX1 hX2 hX3
  have h1 := hM.fl.1
  have h2 := hM.fl.2.1
  have h3 := hM.nb
  have h4 := hM.no
  have h5 := hM.cr 8 (by decide)
  refine V_iload_n hf dX3_carryOut_0 rfl rfl ?_
  refine V_tswIn (tgt := 210) hf ⟨by decide, by decide⟩ dX3_carryOut_1 (by decide) (by decide) rfl (by decide) ?_
  refine V_aload_n hf dX3_carryOut_210 rfl rfl ?_
  refine B_get hf hg rfl fl_X3_21_7 rfl dX3_carryOut_211 ?_
  refine V_aload_n hf dX3_carryOut_214 rfl rfl ?_
  refine B_get hf hg rfl fl_X3_21_7 rfl dX3_carryOut_215 ?_
  refine V_iload_n hf dX3_carryOut_218 rfl rfl ?_
  refine B_callUi hf (As := [_]) (c_rowIdB hl0 g hg σ hR hM.nb a ha) cu_X3_83_4 hg rfl rfl rfl (Nat.le_of_ble_eq_true rfl) ⟨by decide, by decide, by decide, by decide⟩ dX3_carryOut_219 ?_
  have hz := rowId_r (σ g) 6 a
  refine B_callUv hf (As := [_]) (c_removeB hl0 g hg σ hR hM.nb.2 (rowId (σ g) 6 a) ⟨by omega, by omega⟩) cu_X3_107_4 hg rfl rfl rfl (Nat.le_of_ble_eq_true rfl) ⟨by decide, by decide, by decide, by decide⟩ dX3_carryOut_222 ?_
  refine V_aload_n hf dX3_carryOut_225 rfl rfl ?_
  refine B_get hf hg rfl fl_X3_21_7 rfl dX3_carryOut_226 ?_
  refine B_get hf hg rfl fl_X3_111_4 rfl dX3_carryOut_229 ?_
  exact B_iret hf he rfl dX3_carryOut_232 (by decide) (by decide) rfl rfl

set_option maxHeartbeats 4000000 in
set_option maxRecDepth 100000 in
theorem c_do_y {l : Launch} {D : va_G} {K : Nat → ClassId} {ad : Adr} (hl0 : l.stackTraces = false) (g : Int) (hg : 0 ≤ g ∧ g < 11) (σ : Mem) (hR : Rng σ) (hM : MI (σ g)) (a b c : Int) (ha : inR a) (hb : inR b) (hc : inR c) (h0 : rowId (σ g) 12 a ≠ -1) : Cb l D K ad yX3_carryOut (.code yX3_carryOut cX3_carryOut 5 (some .int)) 5 0 0 σ [.ref (ad g 0), .int (iN 121), .int (iN a), .int (iN b), .int (iN c)] (.inl (some (.int (iN (removeM σ g 12 (rowId (σ g) 12 a) g 12 0))))) (removeM σ g 12 (rowId (σ g) 12 a)) := by
  refine Cb.of (own := RX3) (ls0 := [some (.ref (ad g 0)), some (.int (iN 121)), some (.int (iN a)), some (.int (iN b)), some (.int (iN c))]) hl0 (by decide) rfl (Nat.le_of_ble_eq_true rfl) rfl ?_
  intro X hX1 hX2 hX3 hf he hh
  subst hX1 hX2 hX3
  have h1 := hM.fl.1
  have h2 := hM.fl.2.1
  have h3 := hM.nb
  have h4 := hM.no
  have h5 := hM.cr 8 (by decide)
  refine V_iload_n hf dX3_carryOut_0 rfl rfl ?_
  refine V_tswIn (tgt := 233) hf ⟨by decide, by decide⟩ dX3_carryOut_1 (by decide) (by decide) rfl (by decide) ?_
  refine V_aload_n hf dX3_carryOut_233 rfl rfl ?_
  refine B_get hf hg rfl fl_X3_28_7 rfl dX3_carryOut_234 ?_
  refine V_aload_n hf dX3_carryOut_237 rfl rfl ?_
  refine B_get hf hg rfl fl_X3_28_7 rfl dX3_carryOut_238 ?_
  refine V_iload_n hf dX3_carryOut_241 rfl rfl ?_
  refine B_callUi hf (As := [_]) (c_rowIdO hl0 g hg σ hR hM.no a ha) cu_X3_83_8 hg rfl rfl rfl (Nat.le_of_ble_eq_true rfl) ⟨by decide, by decide, by decide, by decide⟩ dX3_carryOut_242 ?_
  have hz := rowId_r (σ g) 12 a
  refine B_callUv hf (As := [_]) (c_removeO hl0 g hg σ hR hM.no.2 (rowId (σ g) 12 a) ⟨by omega, by omega⟩) cu_X3_107_8 hg rfl rfl rfl (Nat.le_of_ble_eq_true rfl) ⟨by decide, by decide, by decide, by decide⟩ dX3_carryOut_245 ?_
  refine V_aload_n hf dX3_carryOut_248 rfl rfl ?_
  refine B_get hf hg rfl fl_X3_28_7 rfl dX3_carryOut_249 ?_
  refine B_get hf hg rfl fl_X3_111_8 rfl dX3_carryOut_252 ?_
  exact B_iret hf he rfl dX3_carryOut_255 (by decide) (by decide) rfl rfl

set_option maxHeartbeats 4000000 in
set_option maxRecDepth 100000 in
theorem c_do_t {l : Launch} {D : va_G} {K : Nat → ClassId} {ad : Adr} (hl0 : l.stackTraces = false) (g : Int) (hg : 0 ≤ g ∧ g < 11) (σ : Mem) (hR : Rng σ) (hM : MI (σ g)) (a b c : Int) (ha : inR a) (hb : inR b) (hc : inR c) (hT : tideOk g σ) : Cb l D K ad yX3_carryOut (.code yX3_carryOut cX3_carryOut 5 (some .int)) 5 0 0 σ [.ref (ad g 0), .int (iN 116), .int (iN a), .int (iN b), .int (iN c)] (.inl (some (.int (iN (tideM g σ g 18 0 - σ g 18 0))))) (tideM g σ) := by
  refine Cb.of (own := RX3) (ls0 := [some (.ref (ad g 0)), some (.int (iN 116)), some (.int (iN a)), some (.int (iN b)), some (.int (iN c))]) hl0 (by decide) rfl (Nat.le_of_ble_eq_true rfl) rfl ?_
  intro X hX1 hX2 hX3 hf he hh
  subst hX1 hX2 hX3
  have h1 := hM.fl.1
  have h2 := hM.fl.2.1
  have h3 := hM.nb
  have h4 := hM.no
  have h5 := hM.cr 8 (by decide)
  refine V_iload_n hf dX3_carryOut_0 rfl rfl ?_
  refine V_tswIn (tgt := 262) hf ⟨by decide, by decide⟩ dX3_carryOut_1 (by decide) (by decide) rfl (by decide) ?_
  refine V_aload_n hf dX3_carryOut_262 rfl rfl ?_
  refine B_callVi hf (As := []) (c_tide hl0 g hg σ hR hT) cv_X3_117 hg rfl rfl rfl (Nat.le_of_ble_eq_true rfl) ⟨by decide, by decide, by decide, by decide⟩ dX3_carryOut_263 ?_
  exact B_iret hf he rfl dX3_carryOut_266 (by decide) (by decide) rfl rfl

set_option maxHeartbeats 4000000 in
set_option maxRecDepth 100000 in
theorem c_do_f {l : Launch} {D : va_G} {K : Nat → ClassId} {ad : Adr} (hl0 : l.stackTraces = false) (g : Int) (hg : 0 ≤ g ∧ g < 11) (σ : Mem) (hR : Rng σ) (hM : MI (σ g)) (a b c : Int) (ha : inR a) (hb : inR b) (hc : inR c) : Cb l D K ad yX3_carryOut (.code yX3_carryOut cX3_carryOut 5 (some .int)) 5 0 0 σ [.ref (ad g 0), .int (iN 102), .int (iN a), .int (iN b), .int (iN c)] (.inl (some (.int (iN (σ g 0 4))))) (st3 σ g 0 4 a) := by
  refine Cb.of (own := RX3) (ls0 := [some (.ref (ad g 0)), some (.int (iN 102)), some (.int (iN a)), some (.int (iN b)), some (.int (iN c))]) hl0 (by decide) rfl (Nat.le_of_ble_eq_true rfl) rfl ?_
  intro X hX1 hX2 hX3 hf he hh
  subst hX1 hX2 hX3
  have h1 := hM.fl.1
  have h2 := hM.fl.2.1
  have h3 := hM.nb
  have h4 := hM.no
  have h5 := hM.cr 8 (by decide)
  refine V_iload_n hf dX3_carryOut_0 rfl rfl ?_
  refine V_tswIn (tgt := 256) hf ⟨by decide, by decide⟩ dX3_carryOut_1 (by decide) (by decide) rfl (by decide) ?_
  refine V_aload_n hf dX3_carryOut_256 rfl rfl ?_
  refine V_iload_n hf dX3_carryOut_257 rfl rfl ?_
  refine B_callVi hf (As := [_]) (c_replace hl0 g hg σ hR a) cv_X3_114 hg rfl rfl rfl (Nat.le_of_ble_eq_true rfl) ⟨by decide, by decide, by decide, by decide⟩ dX3_carryOut_258 ?_
  exact B_iret hf he rfl dX3_carryOut_261 (by decide) (by decide) rfl rfl

set_option maxHeartbeats 4000000 in
set_option maxRecDepth 100000 in
theorem c_detail_1 {l : Launch} {D : va_G} {K : Nat → ClassId} {ad : Adr} (hl0 : l.stackTraces = false) (g : Int) (hg : 0 ≤ g ∧ g < 11) (σ : Mem) (hR : Rng σ) (hM : MI (σ g)) (s : Int) (hs : inR s) : Cb l D K ad yX3_detailOf (.code yX3_detailOf cX3_detailOf 3 (some .int)) 3 0 0 σ [.ref (ad g 0), .int (iN 1), .int (iN s)] (.inl (some (.int (iN (6))))) σ := by
  refine Cb.of (own := RX3) (ls0 := [some (.ref (ad g 0)), some (.int (iN 1)), some (.int (iN s))]) hl0 (by decide) rfl (Nat.le_of_ble_eq_true rfl) rfl ?_
  intro X hX1 hX2 hX3 hf he hh
  subst hX1 hX2 hX3
  refine V_iload_n hf dX3_detailOf_0 rfl rfl ?_
  refine V_tswIn (tgt := 36) hf ⟨by decide, by decide⟩ dX3_detailOf_1 (by decide) (by decide) rfl (by decide) ?_
  refine V_bipush hf dX3_detailOf_36 (by decide +kernel) ?_
  exact B_iret hf he rfl dX3_detailOf_38 (by decide) (by decide) rfl rfl

set_option maxHeartbeats 4000000 in
set_option maxRecDepth 100000 in
theorem c_detail_2 {l : Launch} {D : va_G} {K : Nat → ClassId} {ad : Adr} (hl0 : l.stackTraces = false) (g : Int) (hg : 0 ≤ g ∧ g < 11) (σ : Mem) (hR : Rng σ) (hM : MI (σ g)) (s : Int) (hs : inR s) : Cb l D K ad yX3_detailOf (.code yX3_detailOf cX3_detailOf 3 (some .int)) 3 0 0 σ [.ref (ad g 0), .int (iN 2), .int (iN s)] (.inl (some (.int (iN (16))))) σ := by
  refine Cb.of (own := RX3) (ls0 := [some (.ref (ad g 0)), some (.int (iN 2)), some (.int (iN s))]) hl0 (by decide) rfl (Nat.le_of_ble_eq_true rfl) rfl ?_
  intro X hX1 hX2 hX3 hf he hh
  subst hX1 hX2 hX3
  refine V_iload_n hf dX3_detailOf_0 rfl rfl ?_
  refine V_tswIn (tgt := 39) hf ⟨by decide, by decide⟩ dX3_detailOf_1 (by decide) (by decide) rfl (by decide) ?_
  refine V_bipush hf dX3_detailOf_39 (by decide +kernel) ?_
  exact B_iret hf he rfl dX3_detailOf_41 (by decide) (by decide) rfl rfl

set_option maxHeartbeats 4000000 in
set_option maxRecDepth 100000 in
theorem c_detail_3 {l : Launch} {D : va_G} {K : Nat → ClassId} {ad : Adr} (hl0 : l.stackTraces = false) (g : Int) (hg : 0 ≤ g ∧ g < 11) (σ : Mem) (hR : Rng σ) (hM : MI (σ g)) (s : Int) (hs : 0 ≤ s ∧ s < 6) : Cb l D K ad yX3_detailOf (.code yX3_detailOf cX3_detailOf 3 (some .int)) 3 0 0 σ [.ref (ad g 0), .int (iN 3), .int (iN s)] (.inl (some (.int (iN (σ g 3 s))))) σ := by
  refine Cb.of (own := RX3) (ls0 := [some (.ref (ad g 0)), some (.int (iN 3)), some (.int (iN s))]) hl0 (by decide) rfl (Nat.le_of_ble_eq_true rfl) rfl ?_
  intro X hX1 hX2 hX3 hf he hh
  subst hX1 hX2 hX3
  refine V_iload_n hf dX3_detailOf_0 rfl rfl ?_
  refine V_tswIn (tgt := 42) hf ⟨by decide, by decide⟩ dX3_detailOf_1 (by decide) (by decide) rfl (by decide) ?_
  refine V_aload_n hf dX3_detailOf_42 rfl rfl ?_
  refine B_get hf hg rfl fl_X3_12_7 rfl dX3_detailOf_43 ?_
  refine B_get hf hg rfl fl_X3_143_5 rfl dX3_detailOf_46 ?_
  refine V_iload_n hf dX3_detailOf_49 rfl rfl ?_
  refine B_iald hf hg (fun _ => rfl) (by first | exact hR _ _ _ (by decide) | exact ⟨by omega, by omega⟩) (by omega) (by omega) dX3_detailOf_50 ?_
  exact B_iret hf he rfl dX3_detailOf_51 (by decide) (by decide) rfl rfl

set_option maxHeartbeats 4000000 in
set_option maxRecDepth 100000 in
theorem c_detail_4 {l : Launch} {D : va_G} {K : Nat → ClassId} {ad : Adr} (hl0 : l.stackTraces = false) (g : Int) (hg : 0 ≤ g ∧ g < 11) (σ : Mem) (hR : Rng σ) (hM : MI (σ g)) (s : Int) (hs : inR s) : Cb l D K ad yX3_detailOf (.code yX3_detailOf cX3_detailOf 3 (some .int)) 3 0 0 σ [.ref (ad g 0), .int (iN 4), .int (iN s)] (.inl (some (.int (iN (σ g 7 9))))) σ := by
  refine Cb.of (own := RX3) (ls0 := [some (.ref (ad g 0)), some (.int (iN 4)), some (.int (iN s))]) hl0 (by decide) rfl (Nat.le_of_ble_eq_true rfl) rfl ?_
  intro X hX1 hX2 hX3 hf he hh
  subst hX1 hX2 hX3
  refine V_iload_n hf dX3_detailOf_0 rfl rfl ?_
  refine V_tswIn (tgt := 52) hf ⟨by decide, by decide⟩ dX3_detailOf_1 (by decide) (by decide) rfl (by decide) ?_
  refine V_aload_n hf dX3_detailOf_52 rfl rfl ?_
  refine B_get hf hg rfl fl_X3_21_7 rfl dX3_detailOf_53 ?_
  refine B_get hf hg rfl fl_X3_146_4 rfl dX3_detailOf_56 ?_
  refine V_bipush hf dX3_detailOf_59 (by decide +kernel) ?_
  refine B_iald hf hg (fun _ => rfl) (by first | exact hR _ _ _ (by decide) | exact ⟨by omega, by omega⟩) (by omega) (by omega) dX3_detailOf_61 ?_
  exact B_iret hf he rfl dX3_detailOf_62 (by decide) (by decide) rfl rfl

set_option maxHeartbeats 4000000 in
set_option maxRecDepth 100000 in
theorem c_detail_5 {l : Launch} {D : va_G} {K : Nat → ClassId} {ad : Adr} (hl0 : l.stackTraces = false) (g : Int) (hg : 0 ≤ g ∧ g < 11) (σ : Mem) (hR : Rng σ) (hM : MI (σ g)) (s : Int) (hs : 0 ≤ s ∧ s < 6) : Cb l D K ad yX3_detailOf (.code yX3_detailOf cX3_detailOf 3 (some .int)) 3 0 0 σ [.ref (ad g 0), .int (iN 5), .int (iN s)] (.inl (some (.int (iN (coinsL (σ g) s))))) σ := by
  refine Cb.of (own := RX3) (ls0 := [some (.ref (ad g 0)), some (.int (iN 5)), some (.int (iN s))]) hl0 (by decide) rfl (Nat.le_of_ble_eq_true rfl) rfl ?_
  intro X hX1 hX2 hX3 hf he hh
  subst hX1 hX2 hX3
  refine V_iload_n hf dX3_detailOf_0 rfl rfl ?_
  refine V_tswIn (tgt := 63) hf ⟨by decide, by decide⟩ dX3_detailOf_1 (by decide) (by decide) rfl (by decide) ?_
  refine V_aload_n hf dX3_detailOf_63 rfl rfl ?_
  refine V_iload_n hf dX3_detailOf_64 rfl rfl ?_
  refine B_callVi hf (As := [_]) (c_coinsL hl0 g hg σ hR hM s ⟨by omega, by omega⟩) cv_X3_134 hg rfl rfl rfl (Nat.le_of_ble_eq_true rfl) ⟨by decide, by decide, by decide, by decide⟩ dX3_detailOf_65 ?_
  exact B_iret hf he rfl dX3_detailOf_68 (by decide) (by decide) rfl rfl

set_option maxHeartbeats 4000000 in
set_option maxRecDepth 100000 in
theorem c_detail_6 {l : Launch} {D : va_G} {K : Nat → ClassId} {ad : Adr} (hl0 : l.stackTraces = false) (g : Int) (hg : 0 ≤ g ∧ g < 11) (σ : Mem) (hR : Rng σ) (hM : MI (σ g)) (s : Int) (hs : inR s) : Cb l D K ad yX3_detailOf (.code yX3_detailOf cX3_detailOf 3 (some .int)) 3 0 0 σ [.ref (ad g 0), .int (iN 6), .int (iN s)] (.inl (some (.int (iN ((if rowOwn (σ g) 12 s = -1 then -1 else σ g 13 (rowOwn (σ g) 12 s))))))) σ := by
  refine Cb.of (own := RX3) (ls0 := [some (.ref (ad g 0)), some (.int (iN 6)), some (.int (iN s))]) hl0 (by decide) rfl (Nat.le_of_ble_eq_true rfl) rfl ?_
  intro X hX1 hX2 hX3 hf he hh
  subst hX1 hX2 hX3
  refine V_iload_n hf dX3_detailOf_0 rfl rfl ?_
  refine V_tswOut (tgt := 69) hf ⟨by decide, by decide⟩ dX3_detailOf_1 (by decide) (by decide) ?_
  refine V_aload_n hf dX3_detailOf_69 rfl rfl ?_
  refine B_get hf hg rfl fl_X3_28_7 rfl dX3_detailOf_70 ?_
  refine V_iload_n hf dX3_detailOf_73 rfl rfl ?_
  refine B_callUi hf (As := [_]) (c_idOfO hl0 g hg σ hR hM.no s hs) cu_X3_149_8 hg rfl rfl rfl (Nat.le_of_ble_eq_true rfl) ⟨by decide, by decide, by decide, by decide⟩ dX3_detailOf_74 ?_
  exact B_iret hf he rfl dX3_detailOf_77 (by decide) (by decide) rfl rfl
