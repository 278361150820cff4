/-! Fleet -/
def loadF (μ : MM) (s : Int) : Int → Int := fun b => if μ 5 b = s then 1 else 0
def loadOn (μ : MM) (s : Int) : Int := sumI (loadF μ s) (μ 1 3)
set_option maxHeartbeats 4000000 in
set_option maxRecDepth 100000 in
theorem c_hasShip {l : Launch} {D : va_G} {K : Nat → ClassId} {ad : Adr} (hl0 : l.stackTraces = false) (g : Int) (hg : 0 ≤ g ∧ g < 11) (σ : Mem) (hR : Rng σ) (s : Int) (hs : inR s) : Cb l D K ad yX1_hasShip (.code yX1_hasShip cX1_hasShip 2 (some .boolean)) 1 0 0 σ [.ref (ad g 1), .int (iN s)] (.inl (some (.int (iN (if 0 ≤ s ∧ s < σ g 1 0 then 1 else 0))))) σ := by
  refine Cb.of (own := RX1) (ls0 := [some (.ref (ad g 1)), some (.int (iN s))]) hl0 (by decide) rfl (Nat.le_of_ble_eq_true rfl) rfl ?_
  intro X hX1 hX2 hX3 hf he hh
  subst hX1 hX2 hX3
  refine V_iload_n hf dX1_hasShip_0 rfl rfl ?_
  refine V_if_lt (tgt := 16) hf (by first | exact hR _ _ _ (by decide) | exact ⟨by omega, by omega⟩) dX1_hasShip_1 (by decide) (fun h1 => ?_) (fun h1 => ?_)
  · refine V_iconst hf dX1_hasShip_16 ?_
    exact B_iret hf he (nar_b _) dX1_hasShip_17 (by decide) (by decide) (by first | rfl | omega | (rw [if_pos (by omega)]) | (rw [if_neg (by omega)])) rfl
  · refine V_iload_n hf dX1_hasShip_4 rfl rfl ?_
    refine V_aload_n hf dX1_hasShip_5 rfl rfl ?_
    refine B_get hf hg rfl fl_X1_9_5 rfl dX1_hasShip_6 ?_
    refine V_icmp_ge (tgt := 16) hf (by first | exact hR _ _ _ (by decide) | exact ⟨by omega, by omega⟩) (by first | exact hR _ _ _ (by decide) | exact ⟨by omega, by omega⟩) dX1_hasShip_9 (by decide) (fun h9 => ?_) (fun h9 => ?_)
    · refine V_iconst hf dX1_hasShip_16 ?_
      exact B_iret hf he (nar_b _) dX1_hasShip_17 (by decide) (by decide) (by first | rfl | omega | (rw [if_pos (by omega)]) | (rw [if_neg (by omega)])) rfl
    · refine V_iconst hf dX1_hasShip_12 ?_
      refine V_goto (tgt := 17) hf dX1_hasShip_13 (by decide) ?_
      exact B_iret hf he (nar_b _) dX1_hasShip_17 (by decide) (by decide) (by first | rfl | omega | (rw [if_pos (by omega)]) | (rw [if_neg (by omega)])) rfl

set_option maxHeartbeats 4000000 in
set_option maxRecDepth 100000 in
theorem c_hasBarn {l : Launch} {D : va_G} {K : Nat → ClassId} {ad : Adr} (hl0 : l.stackTraces = false) (g : Int) (hg : 0 ≤ g ∧ g < 11) (σ : Mem) (hR : Rng σ) (s : Int) (hs : inR s) : Cb l D K ad yX1_hasBarnacle (.code yX1_hasBarnacle cX1_hasBarnacle 2 (some .boolean)) 1 0 0 σ [.ref (ad g 1), .int (iN s)] (.inl (some (.int (iN (if 0 ≤ s ∧ s < σ g 1 3 then 1 else 0))))) σ := by
  refine Cb.of (own := RX1) (ls0 := [some (.ref (ad g 1)), some (.int (iN s))]) hl0 (by decide) rfl (Nat.le_of_ble_eq_true rfl) rfl ?_
  intro X hX1 hX2 hX3 hf he hh
  subst hX1 hX2 hX3
  refine V_iload_n hf dX1_hasBarnacle_0 rfl rfl ?_
  refine V_if_lt (tgt := 16) hf (by first | exact hR _ _ _ (by decide) | exact ⟨by omega, by omega⟩) dX1_hasBarnacle_1 (by decide) (fun h1 => ?_) (fun h1 => ?_)
  · refine V_iconst hf dX1_hasBarnacle_16 ?_
    exact B_iret hf he (nar_b _) dX1_hasBarnacle_17 (by decide) (by decide) (by first | rfl | omega | (rw [if_pos (by omega)]) | (rw [if_neg (by omega)])) rfl
  · refine V_iload_n hf dX1_hasBarnacle_4 rfl rfl ?_
    refine V_aload_n hf dX1_hasBarnacle_5 rfl rfl ?_
    refine B_get hf hg rfl fl_X1_22_5 rfl dX1_hasBarnacle_6 ?_
    refine V_icmp_ge (tgt := 16) hf (by first | exact hR _ _ _ (by decide) | exact ⟨by omega, by omega⟩) (by first | exact hR _ _ _ (by decide) | exact ⟨by omega, by omega⟩) dX1_hasBarnacle_9 (by decide) (fun h9 => ?_) (fun h9 => ?_)
    · refine V_iconst hf dX1_hasBarnacle_16 ?_
      exact B_iret hf he (nar_b _) dX1_hasBarnacle_17 (by decide) (by decide) (by first | rfl | omega | (rw [if_pos (by omega)]) | (rw [if_neg (by omega)])) rfl
    · refine V_iconst hf dX1_hasBarnacle_12 ?_
      refine V_goto (tgt := 17) hf dX1_hasBarnacle_13 (by decide) ?_
      exact B_iret hf he (nar_b _) dX1_hasBarnacle_17 (by decide) (by decide) (by first | rfl | omega | (rw [if_pos (by omega)]) | (rw [if_neg (by omega)])) rfl

set_option maxHeartbeats 4000000 in
set_option maxRecDepth 100000 in
theorem c_loadOn {l : Launch} {D : va_G} {K : Nat → ClassId} {ad : Adr} (hl0 : l.stackTraces = false) (g : Int) (hg : 0 ≤ g ∧ g < 11) (σ : Mem) (hR : Rng σ) (hnb : 0 ≤ σ g 1 3 ∧ σ g 1 3 ≤ 16) (s : Int) (hs : inR s) : Cb l D K ad yX1_loadOn (.code yX1_loadOn cX1_loadOn 4 (some .int)) 1 0 0 σ [.ref (ad g 1), .int (iN s)] (.inl (some (.int (iN (loadOn (σ g) s))))) σ := by
  refine Cb.of (own := RX1) (ls0 := [some (.ref (ad g 1)), some (.int (iN s)), none, none]) hl0 (by decide) rfl (Nat.le_of_ble_eq_true rfl) rfl ?_
  intro X hX1 hX2 hX3 hf he hh
  subst hX1 hX2 hX3
  have loop : ∀ (n : Nat) (k : Int), 0 ≤ k → k ≤ σ g 1 3 → (σ g 1 3 - k).toNat < n → B X ad σ 4 [some (.ref (ad g 1)), some (.int (iN s)), some (.int (iN (sumI (loadF (σ g) s) k))), some (.int (iN k))] [] 0 0 := by
    intro n
    induction n with
    | zero => intros; omega
    | succ n ih =>
      intro k hk0 hk1 hn
      refine V_iload_n hf dX1_loadOn_4 rfl rfl ?_
      refine V_aload_n hf dX1_loadOn_5 rfl rfl ?_
      refine B_get hf hg rfl fl_X1_22_5 rfl dX1_loadOn_6 ?_
      refine V_icmp_ge (tgt := 31) hf (by first | exact hR _ _ _ (by decide) | exact ⟨by omega, by omega⟩) (by first | exact hR _ _ _ (by decide) | exact ⟨by omega, by omega⟩) dX1_loadOn_9 (by decide) (fun h9 => ?_) (fun h9 => ?_)
      · refine V_iload_n hf dX1_loadOn_31 rfl rfl ?_
        exact B_iret hf he rfl dX1_loadOn_32 (by decide) (by decide) (by rw [show k = σ g 1 3 by omega]; rfl) rfl
      · refine V_aload_n hf dX1_loadOn_12 rfl rfl ?_
        refine B_get hf hg rfl fl_X1_28_5 rfl dX1_loadOn_13 ?_
        refine V_iload_n hf dX1_loadOn_16 rfl rfl ?_
        refine B_iald hf hg (fun _ => rfl) (by first | exact hR _ _ _ (by decide) | exact ⟨by omega, by omega⟩) (by omega) (by omega) dX1_loadOn_17 ?_
        refine V_iload_n hf dX1_loadOn_18 rfl rfl ?_
        refine V_icmp_ne (tgt := 25) hf (by first | exact hR _ _ _ (by decide) | exact ⟨by omega, by omega⟩) (by first | exact hR _ _ _ (by decide) | exact ⟨by omega, by omega⟩) dX1_loadOn_19 (by decide) (fun h19 => ?_) (fun h19 => ?_)
        · refine V_iinc (ls2 := [_, _, _, _]) hf dX1_loadOn_25 (by decide) rfl rfl rfl ?_
          refine V_goto (tgt := 4) hf dX1_loadOn_28 (by decide) ?_
          have b := ih (k + 1) (by omega) (by omega) (by omega)
          rw [sumI_s (loadF (σ g) s) hk0] at b
          first | (rw [show loadF (σ g) s k = 1 from if_pos (by omega)] at b; exact b) | (rw [show loadF (σ g) s k = 0 from if_neg (by omega), Int.add_zero] at b; exact b)
        · refine V_iinc (ls2 := [_, _, _, _]) hf dX1_loadOn_22 (by decide) rfl rfl rfl ?_
          refine V_iinc (ls2 := [_, _, _, _]) hf dX1_loadOn_25 (by decide) rfl rfl rfl ?_
          refine V_goto (tgt := 4) hf dX1_loadOn_28 (by decide) ?_
          have b := ih (k + 1) (by omega) (by omega) (by omega)
          rw [sumI_s (loadF (σ g) s) hk0] at b
          first | (rw [show loadF (σ g) s k = 1 from if_pos (by omega)] at b; exact b) | (rw [show loadF (σ g) s k = 0 from if_neg (by omega), Int.add_zero] at b; exact b)
  refine V_iconst hf dX1_loadOn_0 ?_
  refine V_istore_n (ls2 := [_, _, _, _]) hf dX1_loadOn_1 rfl (by decide) rfl rfl ?_
  refine V_iconst hf dX1_loadOn_2 ?_
  refine V_istore_n (ls2 := [_, _, _, _]) hf dX1_loadOn_3 rfl (by decide) rfl rfl ?_
  exact loop ((σ g 1 3).toNat + 1) 0 (by omega) (by omega) (by omega)
