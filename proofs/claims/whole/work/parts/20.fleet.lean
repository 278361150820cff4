/-! Fleet -/
def FI (μ : MM) : Prop := (0 ≤ μ 1 0 ∧ μ 1 0 ≤ 6) ∧ (0 ≤ μ 1 3 ∧ μ 1 3 ≤ 16) ∧ (∀ s : Int, 0 ≤ s → s < μ 1 0 → 0 ≤ μ 2 s ∧ μ 2 s ≤ 100000000 ∧ 1 ≤ μ 3 s ∧ μ 3 s ≤ 5) ∧ ∀ b : Int, 0 ≤ b → b < μ 1 3 → 0 ≤ μ 5 b ∧ μ 5 b < μ 1 0 ∧ 1 ≤ μ 4 b ∧ μ 4 b ≤ 9
def loadF (μ : MM) (s : Int) : Int → Int := fun b => if μ 5 b = s then 1 else 0
def loadOn (μ : MM) (s : Int) : Int := sumI (loadF μ s) (μ 1 3)
def aheadF (μ : MM) (b : Int) : Int → Int := fun o => if μ 5 o = μ 5 b ∧ (μ 4 o > μ 4 b ∨ (μ 4 o = μ 4 b ∧ o < b)) then 1 else 0
def aheadB (μ : MM) (b : Int) : Int := sumI (aheadF μ b) (μ 1 3)
noncomputable def inOrder (μ : MM) (s p : Int) : Int := fst (fun b => μ 5 b = s ∧ aheadB μ b = p) (μ 1 3)
def wealthF (μ : MM) (s : Int) : Int → Int := fun b => if μ 5 b = s then μ 4 b else 0
def wealth (μ : MM) (s : Int) : Int := μ 2 s + sumI (wealthF μ s) (μ 1 3)
def saF (μ : MM) (s : Int) : Int → Int := fun a => if wealth μ a > wealth μ s ∨ (wealth μ a = wealth μ s ∧ (loadOn μ a > loadOn μ s ∨ (loadOn μ a = loadOn μ s ∧ a < s))) then 1 else 0
def shipsAhead (μ : MM) (s : Int) : Int := sumI (saF μ s) (μ 1 0)
noncomputable def shipInOrder (μ : MM) (p : Int) : Int := fst (fun s => shipsAhead μ s = p) (μ 1 0)
def coinF (μ : MM) : Int → Int := fun s => μ 2 s
def shipCoins (μ : MM) : Int := sumI (coinF μ) (μ 1 0)
theorem loadOn_r {μ : MM} (h : 0 ≤ μ 1 3 ∧ μ 1 3 ≤ 16) (s : Int) : 0 ≤ loadOn μ s ∧ loadOn μ s ≤ 16 := by
  have := sumI_le (f := loadF μ s) (c := 1) h.1 (fun k _ _ => by unfold loadF; split <;> omega)
  unfold loadOn
  omega
theorem aheadB_r {μ : MM} (h : 0 ≤ μ 1 3 ∧ μ 1 3 ≤ 16) (b : Int) : 0 ≤ aheadB μ b ∧ aheadB μ b ≤ 16 := by
  have := sumI_le (f := aheadF μ b) (c := 1) h.1 (fun k _ _ => by unfold aheadF; split <;> omega)
  unfold aheadB
  omega
theorem saF_r {μ : MM} {s k : Int} : 0 ≤ saF μ s k ∧ saF μ s k ≤ 1 := by unfold saF; split <;> omega
theorem shipsAhead_r {μ : MM} (h : 0 ≤ μ 1 0 ∧ μ 1 0 ≤ 6) (s : Int) : 0 ≤ shipsAhead μ s ∧ shipsAhead μ s ≤ 6 := by
  have := sumI_le (f := saF μ s) (c := 1) h.1 (fun k _ _ => saF_r)
  unfold shipsAhead
  omega
theorem wealth_r {μ : MM} (h : FI μ) {s : Int} (h0 : 0 ≤ s) (h1 : s < μ 1 0) : 0 ≤ wealth μ s ∧ wealth μ s ≤ 100000144 := by
  have := sumI_le (f := wealthF μ s) (c := 9) h.2.1.1 (fun k a b => by have := h.2.2.2 k a b; unfold wealthF; split <;> omega)
  have h2 := h.2.2.1 s h0 h1
  have h3 := h.2.1
  unfold wealth
  omega
def cpFleet (σ0 : Mem) (g h : Int) : Mem :=
  let σ1 := st3 σ0 g 1 0 (σ0 h 1 0)
  let σ2 := cpy σ1 h 2 0 g 2 0 6
  let σ3 := cpy σ2 h 3 0 g 3 0 6
  let σ4 := st3 σ3 g 1 3 (σ3 h 1 3)
  let σ5 := cpy σ4 h 4 0 g 4 0 16
  cpy σ5 h 5 0 g 5 0 16
def launchM (σ0 : Mem) (g a b : Int) : Mem :=
  let σ1 := st3 σ0 g 2 (σ0 g 1 0) a
  let σ2 := st3 σ1 g 3 (σ0 g 1 0) b
  st3 σ2 g 1 0 (σ2 g 1 0 + 1)
def boardM (σ0 : Mem) (g s a : Int) : Mem :=
  let σ1 := st3 σ0 g 4 (σ0 g 1 3) a
  let σ2 := st3 σ1 g 5 (σ0 g 1 3) s
  st3 σ2 g 1 3 (σ2 g 1 3 + 1)
set_option maxHeartbeats 4000000 in
set_option maxRecDepth 100000 in
theorem c_hasShip {l : Launch} {D : va_G} {K : Nat → ClassId} {ad : Adr} (hl0 : l.stackTraces = false) (g : Int) (hg : 0 ≤ g ∧ g < 11) (σ : Mem) (hR : Rng σ) (s : Int) (hs : inR s) : Cb l D K ad yX1_hasShip (.code yX1_hasShip cX1_hasShip 2 (some .boolean)) 1 0 0 σ [.ref (ad g 1), .int (iN s)] (.inl (some (.int (iN (if 0 ≤ s ∧ s < σ g 1 0 then 1 else 0))))) σ := by
  refine Cb.of (own := RX1) (ls0 := [some (.ref (ad g 1)), some (.int (iN s))]) hl0 (by decide) rfl (Nat.le_of_ble_eq_true rfl) rfl ?_
  intro X hX1 hX2 hX3 hf he hh
  subst hX1 hX2 hX3
  refine V_iload_n hf dX1_hasShip_0 rfl rfl ?_
  refine V_if_lt (tgt := 16) hf (by first | exact hR _ _ _ (by decide) | exact ⟨by omega, by omega⟩) dX1_hasShip_1 (by decide) (fun h1 => ?_) (fun h1 => ?_)
  · refine V_iconst hf dX1_hasShip_16 ?_
    exact B_iret hf he (nar_b _) dX1_hasShip_17 (by decide) (by decide) (by first | rfl | omega | (rw [if_pos (by omega)]) | (rw [if_neg (by omega)])) rfl
  · refine V_iload_n hf dX1_hasShip_4 rfl rfl ?_
    refine V_aload_n hf dX1_hasShip_5 rfl rfl ?_
    refine B_get hf hg rfl fl_X1_9_5 rfl dX1_hasShip_6 ?_
    refine V_icmp_ge (tgt := 16) hf (by first | exact hR _ _ _ (by decide) | exact ⟨by omega, by omega⟩) (by first | exact hR _ _ _ (by decide) | exact ⟨by omega, by omega⟩) dX1_hasShip_9 (by decide) (fun h9 => ?_) (fun h9 => ?_)
    · refine V_iconst hf dX1_hasShip_16 ?_
      exact B_iret hf he (nar_b _) dX1_hasShip_17 (by decide) (by decide) (by first | rfl | omega | (rw [if_pos (by omega)]) | (rw [if_neg (by omega)])) rfl
    · refine V_iconst hf dX1_hasShip_12 ?_
      refine V_goto (tgt := 17) hf dX1_hasShip_13 (by decide) ?_
      exact B_iret hf he (nar_b _) dX1_hasShip_17 (by decide) (by decide) (by first | rfl | omega | (rw [if_pos (by omega)]) | (rw [if_neg (by omega)])) rfl

set_option maxHeartbeats 4000000 in
set_option maxRecDepth 100000 in
theorem c_hasBarn {l : Launch} {D : va_G} {K : Nat → ClassId} {ad : Adr} (hl0 : l.stackTraces = false) (g : Int) (hg : 0 ≤ g ∧ g < 11) (σ : Mem) (hR : Rng σ) (s : Int) (hs : inR s) : Cb l D K ad yX1_hasBarnacle (.code yX1_hasBarnacle cX1_hasBarnacle 2 (some .boolean)) 1 0 0 σ [.ref (ad g 1), .int (iN s)] (.inl (some (.int (iN (if 0 ≤ s ∧ s < σ g 1 3 then 1 else 0))))) σ := by
  refine Cb.of (own := RX1) (ls0 := [some (.ref (ad g 1)), some (.int (iN s))]) hl0 (by decide) rfl (Nat.le_of_ble_eq_true rfl) rfl ?_
  intro X hX1 hX2 hX3 hf he hh
  subst hX1 hX2 hX3
  refine V_iload_n hf dX1_hasBarnacle_0 rfl rfl ?_
  refine V_if_lt (tgt := 16) hf (by first | exact hR _ _ _ (by decide) | exact ⟨by omega, by omega⟩) dX1_hasBarnacle_1 (by decide) (fun h1 => ?_) (fun h1 => ?_)
  · refine V_iconst hf dX1_hasBarnacle_16 ?_
    exact B_iret hf he (nar_b _) dX1_hasBarnacle_17 (by decide) (by decide) (by first | rfl | omega | (rw [if_pos (by omega)]) | (rw [if_neg (by omega)])) rfl
  · refine V_iload_n hf dX1_hasBarnacle_4 rfl rfl ?_
    refine V_aload_n hf dX1_hasBarnacle_5 rfl rfl ?_
    refine B_get hf hg rfl fl_X1_22_5 rfl dX1_hasBarnacle_6 ?_
    refine V_icmp_ge (tgt := 16) hf (by first | exact hR _ _ _ (by decide) | exact ⟨by omega, by omega⟩) (by first | exact hR _ _ _ (by decide) | exact ⟨by omega, by omega⟩) dX1_hasBarnacle_9 (by decide) (fun h9 => ?_) (fun h9 => ?_)
    · refine V_iconst hf dX1_hasBarnacle_16 ?_
      exact B_iret hf he (nar_b _) dX1_hasBarnacle_17 (by decide) (by decide) (by first | rfl | omega | (rw [if_pos (by omega)]) | (rw [if_neg (by omega)])) rfl
    · refine V_iconst hf dX1_hasBarnacle_12 ?_
      refine V_goto (tgt := 17) hf dX1_hasBarnacle_13 (by decide) ?_
      exact B_iret hf he (nar_b _) dX1_hasBarnacle_17 (by decide) (by decide) (by first | rfl | omega | (rw [if_pos (by omega)]) | (rw [if_neg (by omega)])) rfl

set_option maxHeartbeats 4000000 in
set_option maxRecDepth 100000 in
theorem c_loadOn {l : Launch} {D : va_G} {K : Nat → ClassId} {ad : Adr} (hl0 : l.stackTraces = false) (g : Int) (hg : 0 ≤ g ∧ g < 11) (σ : Mem) (hR : Rng σ) (hnb : 0 ≤ σ g 1 3 ∧ σ g 1 3 ≤ 16) (s : Int) (hs : inR s) : Cb l D K ad yX1_loadOn (.code yX1_loadOn cX1_loadOn 4 (some .int)) 1 0 0 σ [.ref (ad g 1), .int (iN s)] (.inl (some (.int (iN (loadOn (σ g) s))))) σ := by
  refine Cb.of (own := RX1) (ls0 := [some (.ref (ad g 1)), some (.int (iN s)), none, none]) hl0 (by decide) rfl (Nat.le_of_ble_eq_true rfl) rfl ?_
  intro X hX1 hX2 hX3 hf he hh
  subst hX1 hX2 hX3
  have loop : ∀ (n : Nat) (k : Int), 0 ≤ k → k ≤ σ g 1 3 → (σ g 1 3 - k).toNat < n → B X ad σ 4 [some (.ref (ad g 1)), some (.int (iN (s))), some (.int (iN (sumI (loadF (σ g) s) k))), some (.int (iN (k)))] [] 0 0 := by
    intro n
    induction n with
    | zero => intros; omega
    | succ n ih =>
      intro k hk0 hk1 hn
      refine V_iload_n hf dX1_loadOn_4 rfl rfl ?_
      refine V_aload_n hf dX1_loadOn_5 rfl rfl ?_
      refine B_get hf hg rfl fl_X1_22_5 rfl dX1_loadOn_6 ?_
      refine V_icmp_ge (tgt := 31) hf (by first | exact hR _ _ _ (by decide) | exact ⟨by omega, by omega⟩) (by first | exact hR _ _ _ (by decide) | exact ⟨by omega, by omega⟩) dX1_loadOn_9 (by decide) (fun h9 => ?_) (fun h9 => ?_)
      · refine V_iload_n hf dX1_loadOn_31 rfl rfl ?_
        exact B_iret hf he rfl dX1_loadOn_32 (by decide) (by decide) (by rw [show k = σ g 1 3 by omega]; rfl) rfl
      · refine V_aload_n hf dX1_loadOn_12 rfl rfl ?_
        refine B_get hf hg rfl fl_X1_28_5 rfl dX1_loadOn_13 ?_
        refine V_iload_n hf dX1_loadOn_16 rfl rfl ?_
        refine B_iald hf hg (fun _ => rfl) (by first | exact hR _ _ _ (by decide) | exact ⟨by omega, by omega⟩) (by omega) (by omega) dX1_loadOn_17 ?_
        refine V_iload_n hf dX1_loadOn_18 rfl rfl ?_
        refine V_icmp_ne (tgt := 25) hf (by first | exact hR _ _ _ (by decide) | exact ⟨by omega, by omega⟩) (by first | exact hR _ _ _ (by decide) | exact ⟨by omega, by omega⟩) dX1_loadOn_19 (by decide) (fun h19 => ?_) (fun h19 => ?_)
        · refine V_iinc (ls2 := [_, _, _, _]) hf dX1_loadOn_25 (by decide) rfl rfl rfl ?_
          refine V_goto (tgt := 4) hf dX1_loadOn_28 (by decide) ?_
          have bk := ih (k + 1) (by omega) (by omega) (by omega)
          rw [sumI_s (loadF (σ g) s) hk0] at bk
          first | (rw [show loadF (σ g) s k = 1 from if_pos (by omega)] at bk; exact bk) | (rw [show loadF (σ g) s k = 0 from if_neg (by omega), Int.add_zero] at bk; exact bk)
        · refine V_iinc (ls2 := [_, _, _, _]) hf dX1_loadOn_22 (by decide) rfl rfl rfl ?_
          refine V_iinc (ls2 := [_, _, _, _]) hf dX1_loadOn_25 (by decide) rfl rfl rfl ?_
          refine V_goto (tgt := 4) hf dX1_loadOn_28 (by decide) ?_
          have bk := ih (k + 1) (by omega) (by omega) (by omega)
          rw [sumI_s (loadF (σ g) s) hk0] at bk
          first | (rw [show loadF (σ g) s k = 1 from if_pos (by omega)] at bk; exact bk) | (rw [show loadF (σ g) s k = 0 from if_neg (by omega), Int.add_zero] at bk; exact bk)
  refine V_iconst hf dX1_loadOn_0 ?_
  refine V_istore_n (ls2 := [_, _, _, _]) hf dX1_loadOn_1 rfl (by decide) rfl rfl ?_
  refine V_iconst hf dX1_loadOn_2 ?_
  refine V_istore_n (ls2 := [_, _, _, _]) hf dX1_loadOn_3 rfl (by decide) rfl rfl ?_
  exact loop ((σ g 1 3).toNat + 1) 0 (by omega) (by omega) (by omega)

set_option maxHeartbeats 4000000 in
set_option maxRecDepth 100000 in
theorem c_aheadB {l : Launch} {D : va_G} {K : Nat → ClassId} {ad : Adr} (hl0 : l.stackTraces = false) (g : Int) (hg : 0 ≤ g ∧ g < 11) (σ : Mem) (hR : Rng σ) (hnb : 0 ≤ σ g 1 3 ∧ σ g 1 3 ≤ 16) (b : Int) (hb : 0 ≤ b ∧ b < σ g 1 3) : Cb l D K ad yX1_barnaclesAhead (.code yX1_barnaclesAhead cX1_barnaclesAhead 6 (some .int)) 1 0 0 σ [.ref (ad g 1), .int (iN b)] (.inl (some (.int (iN (aheadB (σ g) b))))) σ := by
  refine Cb.of (own := RX1) (ls0 := [some (.ref (ad g 1)), some (.int (iN b)), none, none, none, none]) hl0 (by decide) rfl (Nat.le_of_ble_eq_true rfl) rfl ?_
  intro X hX1 hX2 hX3 hf he hh
  subst hX1 hX2 hX3
  have loop : ∀ (n : Nat) (k : Int), 0 ≤ k → k ≤ σ g 1 3 → (σ g 1 3 - k).toNat < n → B X ad σ 4 [some (.ref (ad g 1)), some (.int (iN (b))), some (.int (iN (sumI (aheadF (σ g) b) k))), some (.int (iN (k))), none, none] [] 0 0 := by
    intro n
    induction n with
    | zero => intros; omega
    | succ n ih =>
      intro k hk0 hk1 hn
      refine V_iload_n hf dX1_barnaclesAhead_4 rfl rfl ?_
      refine V_aload_n hf dX1_barnaclesAhead_5 rfl rfl ?_
      refine B_get hf hg rfl fl_X1_22_5 rfl dX1_barnaclesAhead_6 ?_
      refine V_icmp_ge (tgt := 95) hf (by first | exact hR _ _ _ (by decide) | exact ⟨by omega, by omega⟩) (by first | exact hR _ _ _ (by decide) | exact ⟨by omega, by omega⟩) dX1_barnaclesAhead_9 (by decide) (fun h9 => ?_) (fun h9 => ?_)
      · refine V_iload_n hf dX1_barnaclesAhead_95 rfl rfl ?_
        exact B_iret hf he rfl dX1_barnaclesAhead_96 (by decide) (by decide) (by rw [show k = σ g 1 3 by omega]; rfl) rfl
      · refine V_aload_n hf dX1_barnaclesAhead_12 rfl rfl ?_
        refine B_get hf hg rfl fl_X1_25_5 rfl dX1_barnaclesAhead_13 ?_
        refine V_iload_n hf dX1_barnaclesAhead_16 rfl rfl ?_
        refine B_iald hf hg (fun _ => rfl) (by first | exact hR _ _ _ (by decide) | exact ⟨by omega, by omega⟩) (by omega) (by omega) dX1_barnaclesAhead_17 ?_
        refine V_aload_n hf dX1_barnaclesAhead_18 rfl rfl ?_
        refine B_get hf hg rfl fl_X1_25_5 rfl dX1_barnaclesAhead_19 ?_
        refine V_iload_n hf dX1_barnaclesAhead_22 rfl rfl ?_
        refine B_iald hf hg (fun _ => rfl) (by first | exact hR _ _ _ (by decide) | exact ⟨by omega, by omega⟩) (by omega) (by omega) dX1_barnaclesAhead_23 ?_
        refine V_icmp_le (tgt := 31) hf (by first | exact hR _ _ _ (by decide) | exact ⟨by omega, by omega⟩) (by first | exact hR _ _ _ (by decide) | exact ⟨by omega, by omega⟩) dX1_barnaclesAhead_24 (by decide) (fun h24 => ?_) (fun h24 => ?_)
        · refine V_iconst hf dX1_barnaclesAhead_31 ?_
          refine V_istore (ls2 := [_, _, _, _, _, _]) hf dX1_barnaclesAhead_32 (by decide) rfl rfl ?_
          refine V_aload_n hf dX1_barnaclesAhead_34 rfl rfl ?_
          refine B_get hf hg rfl fl_X1_25_5 rfl dX1_barnaclesAhead_35 ?_
          refine V_iload_n hf dX1_barnaclesAhead_38 rfl rfl ?_
          refine B_iald hf hg (fun _ => rfl) (by first | exact hR _ _ _ (by decide) | exact ⟨by omega, by omega⟩) (by omega) (by omega) dX1_barnaclesAhead_39 ?_
          refine V_aload_n hf dX1_barnaclesAhead_40 rfl rfl ?_
          refine B_get hf hg rfl fl_X1_25_5 rfl dX1_barnaclesAhead_41 ?_
          refine V_iload_n hf dX1_barnaclesAhead_44 rfl rfl ?_
          refine B_iald hf hg (fun _ => rfl) (by first | exact hR _ _ _ (by decide) | exact ⟨by omega, by omega⟩) (by omega) (by omega) dX1_barnaclesAhead_45 ?_
          refine V_icmp_ne (tgt := 58) hf (by first | exact hR _ _ _ (by decide) | exact ⟨by omega, by omega⟩) (by first | exact hR _ _ _ (by decide) | exact ⟨by omega, by omega⟩) dX1_barnaclesAhead_46 (by decide) (fun h46 => ?_) (fun h46 => ?_)
          · refine V_iconst hf dX1_barnaclesAhead_58 ?_
            refine V_istore (ls2 := [_, _, _, _, _, _]) hf dX1_barnaclesAhead_59 (by decide) rfl rfl ?_
            refine V_aload_n hf dX1_barnaclesAhead_61 rfl rfl ?_
            refine B_get hf hg rfl fl_X1_28_5 rfl dX1_barnaclesAhead_62 ?_
            refine V_iload_n hf dX1_barnaclesAhead_65 rfl rfl ?_
            refine B_iald hf hg (fun _ => rfl) (by first | exact hR _ _ _ (by decide) | exact ⟨by omega, by omega⟩) (by omega) (by omega) dX1_barnaclesAhead_66 ?_
            refine V_aload_n hf dX1_barnaclesAhead_67 rfl rfl ?_
            refine B_get hf hg rfl fl_X1_28_5 rfl dX1_barnaclesAhead_68 ?_
            refine V_iload_n hf dX1_barnaclesAhead_71 rfl rfl ?_
            refine B_iald hf hg (fun _ => rfl) (by first | exact hR _ _ _ (by decide) | exact ⟨by omega, by omega⟩) (by omega) (by omega) dX1_barnaclesAhead_72 ?_
            refine V_icmp_ne (tgt := 89) hf (by first | exact hR _ _ _ (by decide) | exact ⟨by omega, by omega⟩) (by first | exact hR _ _ _ (by decide) | exact ⟨by omega, by omega⟩) dX1_barnaclesAhead_73 (by decide) (fun h73 => ?_) (fun h73 => ?_)
            · refine V_iinc (ls2 := [_, _, _, _, _, _]) hf dX1_barnaclesAhead_89 (by decide) rfl rfl rfl ?_
              refine V_goto (tgt := 4) hf dX1_barnaclesAhead_92 (by decide) ?_
              refine V_fg (ls2 := [some _, some _, some _, some _, none, none]) ⟨rfl, rfl, rfl, rfl, trivial⟩ ?_
              have bk := ih (k + 1) (by omega) (by omega) (by omega)
              rw [sumI_s (aheadF (σ g) b) hk0] at bk
              first | (rw [show aheadF (σ g) b k = 1 from if_pos (by omega)] at bk; exact bk) | (rw [show aheadF (σ g) b k = 0 from if_neg (by omega), Int.add_zero] at bk; exact bk)
            · refine V_iload hf dX1_barnaclesAhead_76 rfl ?_
              refine V_if_ne (tgt := 86) hf (by first | exact hR _ _ _ (by decide) | exact ⟨by omega, by omega⟩) dX1_barnaclesAhead_78 (by decide) (fun h78 => ?_) (fun h78 => ?_)
              · refine V_iinc (ls2 := [_, _, _, _, _, _]) hf dX1_barnaclesAhead_86 (by decide) rfl rfl rfl ?_
                refine V_iinc (ls2 := [_, _, _, _, _, _]) hf dX1_barnaclesAhead_89 (by decide) rfl rfl rfl ?_
                refine V_goto (tgt := 4) hf dX1_barnaclesAhead_92 (by decide) ?_
                refine V_fg (ls2 := [some _, some _, some _, some _, none, none]) ⟨rfl, rfl, rfl, rfl, trivial⟩ ?_
                have bk := ih (k + 1) (by omega) (by omega) (by omega)
                rw [sumI_s (aheadF (σ g) b) hk0] at bk
                first | (rw [show aheadF (σ g) b k = 1 from if_pos (by omega)] at bk; exact bk) | (rw [show aheadF (σ g) b k = 0 from if_neg (by omega), Int.add_zero] at bk; exact bk)
              · refine V_iload hf dX1_barnaclesAhead_81 rfl ?_
                refine V_if_eq (tgt := 89) hf (by first | exact hR _ _ _ (by decide) | exact ⟨by omega, by omega⟩) dX1_barnaclesAhead_83 (by decide) (fun h83 => ?_) (fun h83 => ?_)
                · refine V_iinc (ls2 := [_, _, _, _, _, _]) hf dX1_barnaclesAhead_89 (by decide) rfl rfl rfl ?_
                  refine V_goto (tgt := 4) hf dX1_barnaclesAhead_92 (by decide) ?_
                  refine V_fg (ls2 := [some _, some _, some _, some _, none, none]) ⟨rfl, rfl, rfl, rfl, trivial⟩ ?_
                  have bk := ih (k + 1) (by omega) (by omega) (by omega)
                  rw [sumI_s (aheadF (σ g) b) hk0] at bk
                  first | (rw [show aheadF (σ g) b k = 1 from if_pos (by omega)] at bk; exact bk) | (rw [show aheadF (σ g) b k = 0 from if_neg (by omega), Int.add_zero] at bk; exact bk)
                · refine V_iinc (ls2 := [_, _, _, _, _, _]) hf dX1_barnaclesAhead_86 (by decide) rfl rfl rfl ?_
                  refine V_iinc (ls2 := [_, _, _, _, _, _]) hf dX1_barnaclesAhead_89 (by decide) rfl rfl rfl ?_
                  refine V_goto (tgt := 4) hf dX1_barnaclesAhead_92 (by decide) ?_
                  refine V_fg (ls2 := [some _, some _, some _, some _, none, none]) ⟨rfl, rfl, rfl, rfl, trivial⟩ ?_
                  have bk := ih (k + 1) (by omega) (by omega) (by omega)
                  rw [sumI_s (aheadF (σ g) b) hk0] at bk
                  first | (rw [show aheadF (σ g) b k = 1 from if_pos (by omega)] at bk; exact bk) | (rw [show aheadF (σ g) b k = 0 from if_neg (by omega), Int.add_zero] at bk; exact bk)
          · refine V_iload_n hf dX1_barnaclesAhead_49 rfl rfl ?_
            refine V_iload_n hf dX1_barnaclesAhead_50 rfl rfl ?_
            refine V_icmp_ge (tgt := 58) hf (by first | exact hR _ _ _ (by decide) | exact ⟨by omega, by omega⟩) (by first | exact hR _ _ _ (by decide) | exact ⟨by omega, by omega⟩) dX1_barnaclesAhead_51 (by decide) (fun h51 => ?_) (fun h51 => ?_)
            · refine V_iconst hf dX1_barnaclesAhead_58 ?_
              refine V_istore (ls2 := [_, _, _, _, _, _]) hf dX1_barnaclesAhead_59 (by decide) rfl rfl ?_
              refine V_aload_n hf dX1_barnaclesAhead_61 rfl rfl ?_
              refine B_get hf hg rfl fl_X1_28_5 rfl dX1_barnaclesAhead_62 ?_
              refine V_iload_n hf dX1_barnaclesAhead_65 rfl rfl ?_
              refine B_iald hf hg (fun _ => rfl) (by first | exact hR _ _ _ (by decide) | exact ⟨by omega, by omega⟩) (by omega) (by omega) dX1_barnaclesAhead_66 ?_
              refine V_aload_n hf dX1_barnaclesAhead_67 rfl rfl ?_
              refine B_get hf hg rfl fl_X1_28_5 rfl dX1_barnaclesAhead_68 ?_
              refine V_iload_n hf dX1_barnaclesAhead_71 rfl rfl ?_
              refine B_iald hf hg (fun _ => rfl) (by first | exact hR _ _ _ (by decide) | exact ⟨by omega, by omega⟩) (by omega) (by omega) dX1_barnaclesAhead_72 ?_
              refine V_icmp_ne (tgt := 89) hf (by first | exact hR _ _ _ (by decide) | exact ⟨by omega, by omega⟩) (by first | exact hR _ _ _ (by decide) | exact ⟨by omega, by omega⟩) dX1_barnaclesAhead_73 (by decide) (fun h73 => ?_) (fun h73 => ?_)
              · refine V_iinc (ls2 := [_, _, _, _, _, _]) hf dX1_barnaclesAhead_89 (by decide) rfl rfl rfl ?_
                refine V_goto (tgt := 4) hf dX1_barnaclesAhead_92 (by decide) ?_
                refine V_fg (ls2 := [some _, some _, some _, some _, none, none]) ⟨rfl, rfl, rfl, rfl, trivial⟩ ?_
                have bk := ih (k + 1) (by omega) (by omega) (by omega)
                rw [sumI_s (aheadF (σ g) b) hk0] at bk
                first | (rw [show aheadF (σ g) b k = 1 from if_pos (by omega)] at bk; exact bk) | (rw [show aheadF (σ g) b k = 0 from if_neg (by omega), Int.add_zero] at bk; exact bk)
              · refine V_iload hf dX1_barnaclesAhead_76 rfl ?_
                refine V_if_ne (tgt := 86) hf (by first | exact hR _ _ _ (by decide) | exact ⟨by omega, by omega⟩) dX1_barnaclesAhead_78 (by decide) (fun h78 => ?_) (fun h78 => ?_)
                · refine V_iinc (ls2 := [_, _, _, _, _, _]) hf dX1_barnaclesAhead_86 (by decide) rfl rfl rfl ?_
                  refine V_iinc (ls2 := [_, _, _, _, _, _]) hf dX1_barnaclesAhead_89 (by decide) rfl rfl rfl ?_
                  refine V_goto (tgt := 4) hf dX1_barnaclesAhead_92 (by decide) ?_
                  refine V_fg (ls2 := [some _, some _, some _, some _, none, none]) ⟨rfl, rfl, rfl, rfl, trivial⟩ ?_
                  have bk := ih (k + 1) (by omega) (by omega) (by omega)
                  rw [sumI_s (aheadF (σ g) b) hk0] at bk
                  first | (rw [show aheadF (σ g) b k = 1 from if_pos (by omega)] at bk; exact bk) | (rw [show aheadF (σ g) b k = 0 from if_neg (by omega), Int.add_zero] at bk; exact bk)
                · refine V_iload hf dX1_barnaclesAhead_81 rfl ?_
                  refine V_if_eq (tgt := 89) hf (by first | exact hR _ _ _ (by decide) | exact ⟨by omega, by omega⟩) dX1_barnaclesAhead_83 (by decide) (fun h83 => ?_) (fun h83 => ?_)
                  · refine V_iinc (ls2 := [_, _, _, _, _, _]) hf dX1_barnaclesAhead_89 (by decide) rfl rfl rfl ?_
                    refine V_goto (tgt := 4) hf dX1_barnaclesAhead_92 (by decide) ?_
                    refine V_fg (ls2 := [some _, some _, some _, some _, none, none]) ⟨rfl, rfl, rfl, rfl, trivial⟩ ?_
                    have bk := ih (k + 1) (by omega) (by omega) (by omega)
                    rw [sumI_s (aheadF (σ g) b) hk0] at bk
                    first | (rw [show aheadF (σ g) b k = 1 from if_pos (by omega)] at bk; exact bk) | (rw [show aheadF (σ g) b k = 0 from if_neg (by omega), Int.add_zero] at bk; exact bk)
                  · refine V_iinc (ls2 := [_, _, _, _, _, _]) hf dX1_barnaclesAhead_86 (by decide) rfl rfl rfl ?_
                    refine V_iinc (ls2 := [_, _, _, _, _, _]) hf dX1_barnaclesAhead_89 (by decide) rfl rfl rfl ?_
                    refine V_goto (tgt := 4) hf dX1_barnaclesAhead_92 (by decide) ?_
                    refine V_fg (ls2 := [some _, some _, some _, some _, none, none]) ⟨rfl, rfl, rfl, rfl, trivial⟩ ?_
                    have bk := ih (k + 1) (by omega) (by omega) (by omega)
                    rw [sumI_s (aheadF (σ g) b) hk0] at bk
                    first | (rw [show aheadF (σ g) b k = 1 from if_pos (by omega)] at bk; exact bk) | (rw [show aheadF (σ g) b k = 0 from if_neg (by omega), Int.add_zero] at bk; exact bk)
            · refine V_iconst hf dX1_barnaclesAhead_54 ?_
              refine V_goto (tgt := 59) hf dX1_barnaclesAhead_55 (by decide) ?_
              refine V_istore (ls2 := [_, _, _, _, _, _]) hf dX1_barnaclesAhead_59 (by decide) rfl rfl ?_
              refine V_aload_n hf dX1_barnaclesAhead_61 rfl rfl ?_
              refine B_get hf hg rfl fl_X1_28_5 rfl dX1_barnaclesAhead_62 ?_
              refine V_iload_n hf dX1_barnaclesAhead_65 rfl rfl ?_
              refine B_iald hf hg (fun _ => rfl) (by first | exact hR _ _ _ (by decide) | exact ⟨by omega, by omega⟩) (by omega) (by omega) dX1_barnaclesAhead_66 ?_
              refine V_aload_n hf dX1_barnaclesAhead_67 rfl rfl ?_
              refine B_get hf hg rfl fl_X1_28_5 rfl dX1_barnaclesAhead_68 ?_
              refine V_iload_n hf dX1_barnaclesAhead_71 rfl rfl ?_
              refine B_iald hf hg (fun _ => rfl) (by first | exact hR _ _ _ (by decide) | exact ⟨by omega, by omega⟩) (by omega) (by omega) dX1_barnaclesAhead_72 ?_
              refine V_icmp_ne (tgt := 89) hf (by first | exact hR _ _ _ (by decide) | exact ⟨by omega, by omega⟩) (by first | exact hR _ _ _ (by decide) | exact ⟨by omega, by omega⟩) dX1_barnaclesAhead_73 (by decide) (fun h73 => ?_) (fun h73 => ?_)
              · refine V_iinc (ls2 := [_, _, _, _, _, _]) hf dX1_barnaclesAhead_89 (by decide) rfl rfl rfl ?_
                refine V_goto (tgt := 4) hf dX1_barnaclesAhead_92 (by decide) ?_
                refine V_fg (ls2 := [some _, some _, some _, some _, none, none]) ⟨rfl, rfl, rfl, rfl, trivial⟩ ?_
                have bk := ih (k + 1) (by omega) (by omega) (by omega)
                rw [sumI_s (aheadF (σ g) b) hk0] at bk
                first | (rw [show aheadF (σ g) b k = 1 from if_pos (by omega)] at bk; exact bk) | (rw [show aheadF (σ g) b k = 0 from if_neg (by omega), Int.add_zero] at bk; exact bk)
              · refine V_iload hf dX1_barnaclesAhead_76 rfl ?_
                refine V_if_ne (tgt := 86) hf (by first | exact hR _ _ _ (by decide) | exact ⟨by omega, by omega⟩) dX1_barnaclesAhead_78 (by decide) (fun h78 => ?_) (fun h78 => ?_)
                · refine V_iinc (ls2 := [_, _, _, _, _, _]) hf dX1_barnaclesAhead_86 (by decide) rfl rfl rfl ?_
                  refine V_iinc (ls2 := [_, _, _, _, _, _]) hf dX1_barnaclesAhead_89 (by decide) rfl rfl rfl ?_
                  refine V_goto (tgt := 4) hf dX1_barnaclesAhead_92 (by decide) ?_
                  refine V_fg (ls2 := [some _, some _, some _, some _, none, none]) ⟨rfl, rfl, rfl, rfl, trivial⟩ ?_
                  have bk := ih (k + 1) (by omega) (by omega) (by omega)
                  rw [sumI_s (aheadF (σ g) b) hk0] at bk
                  first | (rw [show aheadF (σ g) b k = 1 from if_pos (by omega)] at bk; exact bk) | (rw [show aheadF (σ g) b k = 0 from if_neg (by omega), Int.add_zero] at bk; exact bk)
                · refine V_iload hf dX1_barnaclesAhead_81 rfl ?_
                  refine V_if_eq (tgt := 89) hf (by first | exact hR _ _ _ (by decide) | exact ⟨by omega, by omega⟩) dX1_barnaclesAhead_83 (by decide) (fun h83 => ?_) (fun h83 => ?_)
                  · refine V_iinc (ls2 := [_, _, _, _, _, _]) hf dX1_barnaclesAhead_89 (by decide) rfl rfl rfl ?_
                    refine V_goto (tgt := 4) hf dX1_barnaclesAhead_92 (by decide) ?_
                    refine V_fg (ls2 := [some _, some _, some _, some _, none, none]) ⟨rfl, rfl, rfl, rfl, trivial⟩ ?_
                    have bk := ih (k + 1) (by omega) (by omega) (by omega)
                    rw [sumI_s (aheadF (σ g) b) hk0] at bk
                    first | (rw [show aheadF (σ g) b k = 1 from if_pos (by omega)] at bk; exact bk) | (rw [show aheadF (σ g) b k = 0 from if_neg (by omega), Int.add_zero] at bk; exact bk)
                  · refine V_iinc (ls2 := [_, _, _, _, _, _]) hf dX1_barnaclesAhead_86 (by decide) rfl rfl rfl ?_
                    refine V_iinc (ls2 := [_, _, _, _, _, _]) hf dX1_barnaclesAhead_89 (by decide) rfl rfl rfl ?_
                    refine V_goto (tgt := 4) hf dX1_barnaclesAhead_92 (by decide) ?_
                    refine V_fg (ls2 := [some _, some _, some _, some _, none, none]) ⟨rfl, rfl, rfl, rfl, trivial⟩ ?_
                    have bk := ih (k + 1) (by omega) (by omega) (by omega)
                    rw [sumI_s (aheadF (σ g) b) hk0] at bk
                    first | (rw [show aheadF (σ g) b k = 1 from if_pos (by omega)] at bk; exact bk) | (rw [show aheadF (σ g) b k = 0 from if_neg (by omega), Int.add_zero] at bk; exact bk)
        · refine V_iconst hf dX1_barnaclesAhead_27 ?_
          refine V_goto (tgt := 32) hf dX1_barnaclesAhead_28 (by decide) ?_
          refine V_istore (ls2 := [_, _, _, _, _, _]) hf dX1_barnaclesAhead_32 (by decide) rfl rfl ?_
          refine V_aload_n hf dX1_barnaclesAhead_34 rfl rfl ?_
          refine B_get hf hg rfl fl_X1_25_5 rfl dX1_barnaclesAhead_35 ?_
          refine V_iload_n hf dX1_barnaclesAhead_38 rfl rfl ?_
          refine B_iald hf hg (fun _ => rfl) (by first | exact hR _ _ _ (by decide) | exact ⟨by omega, by omega⟩) (by omega) (by omega) dX1_barnaclesAhead_39 ?_
          refine V_aload_n hf dX1_barnaclesAhead_40 rfl rfl ?_
          refine B_get hf hg rfl fl_X1_25_5 rfl dX1_barnaclesAhead_41 ?_
          refine V_iload_n hf dX1_barnaclesAhead_44 rfl rfl ?_
          refine B_iald hf hg (fun _ => rfl) (by first | exact hR _ _ _ (by decide) | exact ⟨by omega, by omega⟩) (by omega) (by omega) dX1_barnaclesAhead_45 ?_
          refine V_icmp_ne (tgt := 58) hf (by first | exact hR _ _ _ (by decide) | exact ⟨by omega, by omega⟩) (by first | exact hR _ _ _ (by decide) | exact ⟨by omega, by omega⟩) dX1_barnaclesAhead_46 (by decide) (fun h46 => ?_) (fun h46 => ?_)
          · refine V_iconst hf dX1_barnaclesAhead_58 ?_
            refine V_istore (ls2 := [_, _, _, _, _, _]) hf dX1_barnaclesAhead_59 (by decide) rfl rfl ?_
            refine V_aload_n hf dX1_barnaclesAhead_61 rfl rfl ?_
            refine B_get hf hg rfl fl_X1_28_5 rfl dX1_barnaclesAhead_62 ?_
            refine V_iload_n hf dX1_barnaclesAhead_65 rfl rfl ?_
            refine B_iald hf hg (fun _ => rfl) (by first | exact hR _ _ _ (by decide) | exact ⟨by omega, by omega⟩) (by omega) (by omega) dX1_barnaclesAhead_66 ?_
            refine V_aload_n hf dX1_barnaclesAhead_67 rfl rfl ?_
            refine B_get hf hg rfl fl_X1_28_5 rfl dX1_barnaclesAhead_68 ?_
            refine V_iload_n hf dX1_barnaclesAhead_71 rfl rfl ?_
            refine B_iald hf hg (fun _ => rfl) (by first | exact hR _ _ _ (by decide) | exact ⟨by omega, by omega⟩) (by omega) (by omega) dX1_barnaclesAhead_72 ?_
            refine V_icmp_ne (tgt := 89) hf (by first | exact hR _ _ _ (by decide) | exact ⟨by omega, by omega⟩) (by first | exact hR _ _ _ (by decide) | exact ⟨by omega, by omega⟩) dX1_barnaclesAhead_73 (by decide) (fun h73 => ?_) (fun h73 => ?_)
            · refine V_iinc (ls2 := [_, _, _, _, _, _]) hf dX1_barnaclesAhead_89 (by decide) rfl rfl rfl ?_
              refine V_goto (tgt := 4) hf dX1_barnaclesAhead_92 (by decide) ?_
              refine V_fg (ls2 := [some _, some _, some _, some _, none, none]) ⟨rfl, rfl, rfl, rfl, trivial⟩ ?_
              have bk := ih (k + 1) (by omega) (by omega) (by omega)
              rw [sumI_s (aheadF (σ g) b) hk0] at bk
              first | (rw [show aheadF (σ g) b k = 1 from if_pos (by omega)] at bk; exact bk) | (rw [show aheadF (σ g) b k = 0 from if_neg (by omega), Int.add_zero] at bk; exact bk)
            · refine V_iload hf dX1_barnaclesAhead_76 rfl ?_
              refine V_if_ne (tgt := 86) hf (by first | exact hR _ _ _ (by decide) | exact ⟨by omega, by omega⟩) dX1_barnaclesAhead_78 (by decide) (fun h78 => ?_) (fun h78 => ?_)
              · refine V_iinc (ls2 := [_, _, _, _, _, _]) hf dX1_barnaclesAhead_86 (by decide) rfl rfl rfl ?_
                refine V_iinc (ls2 := [_, _, _, _, _, _]) hf dX1_barnaclesAhead_89 (by decide) rfl rfl rfl ?_
                refine V_goto (tgt := 4) hf dX1_barnaclesAhead_92 (by decide) ?_
                refine V_fg (ls2 := [some _, some _, some _, some _, none, none]) ⟨rfl, rfl, rfl, rfl, trivial⟩ ?_
                have bk := ih (k + 1) (by omega) (by omega) (by omega)
                rw [sumI_s (aheadF (σ g) b) hk0] at bk
                first | (rw [show aheadF (σ g) b k = 1 from if_pos (by omega)] at bk; exact bk) | (rw [show aheadF (σ g) b k = 0 from if_neg (by omega), Int.add_zero] at bk; exact bk)
              · refine V_iload hf dX1_barnaclesAhead_81 rfl ?_
                refine V_if_eq (tgt := 89) hf (by first | exact hR _ _ _ (by decide) | exact ⟨by omega, by omega⟩) dX1_barnaclesAhead_83 (by decide) (fun h83 => ?_) (fun h83 => ?_)
                · refine V_iinc (ls2 := [_, _, _, _, _, _]) hf dX1_barnaclesAhead_89 (by decide) rfl rfl rfl ?_
                  refine V_goto (tgt := 4) hf dX1_barnaclesAhead_92 (by decide) ?_
                  refine V_fg (ls2 := [some _, some _, some _, some _, none, none]) ⟨rfl, rfl, rfl, rfl, trivial⟩ ?_
                  have bk := ih (k + 1) (by omega) (by omega) (by omega)
                  rw [sumI_s (aheadF (σ g) b) hk0] at bk
                  first | (rw [show aheadF (σ g) b k = 1 from if_pos (by omega)] at bk; exact bk) | (rw [show aheadF (σ g) b k = 0 from if_neg (by omega), Int.add_zero] at bk; exact bk)
                · refine V_iinc (ls2 := [_, _, _, _, _, _]) hf dX1_barnaclesAhead_86 (by decide) rfl rfl rfl ?_
                  refine V_iinc (ls2 := [_, _, _, _, _, _]) hf dX1_barnaclesAhead_89 (by decide) rfl rfl rfl ?_
                  refine V_goto (tgt := 4) hf dX1_barnaclesAhead_92 (by decide) ?_
                  refine V_fg (ls2 := [some _, some _, some _, some _, none, none]) ⟨rfl, rfl, rfl, rfl, trivial⟩ ?_
                  have bk := ih (k + 1) (by omega) (by omega) (by omega)
                  rw [sumI_s (aheadF (σ g) b) hk0] at bk
                  first | (rw [show aheadF (σ g) b k = 1 from if_pos (by omega)] at bk; exact bk) | (rw [show aheadF (σ g) b k = 0 from if_neg (by omega), Int.add_zero] at bk; exact bk)
          · refine V_iload_n hf dX1_barnaclesAhead_49 rfl rfl ?_
            refine V_iload_n hf dX1_barnaclesAhead_50 rfl rfl ?_
            refine V_icmp_ge (tgt := 58) hf (by first | exact hR _ _ _ (by decide) | exact ⟨by omega, by omega⟩) (by first | exact hR _ _ _ (by decide) | exact ⟨by omega, by omega⟩) dX1_barnaclesAhead_51 (by decide) (fun h51 => ?_) (fun h51 => ?_)
            · refine V_iconst hf dX1_barnaclesAhead_58 ?_
              refine V_istore (ls2 := [_, _, _, _, _, _]) hf dX1_barnaclesAhead_59 (by decide) rfl rfl ?_
              refine V_aload_n hf dX1_barnaclesAhead_61 rfl rfl ?_
              refine B_get hf hg rfl fl_X1_28_5 rfl dX1_barnaclesAhead_62 ?_
              refine V_iload_n hf dX1_barnaclesAhead_65 rfl rfl ?_
              refine B_iald hf hg (fun _ => rfl) (by first | exact hR _ _ _ (by decide) | exact ⟨by omega, by omega⟩) (by omega) (by omega) dX1_barnaclesAhead_66 ?_
              refine V_aload_n hf dX1_barnaclesAhead_67 rfl rfl ?_
              refine B_get hf hg rfl fl_X1_28_5 rfl dX1_barnaclesAhead_68 ?_
              refine V_iload_n hf dX1_barnaclesAhead_71 rfl rfl ?_
              refine B_iald hf hg (fun _ => rfl) (by first | exact hR _ _ _ (by decide) | exact ⟨by omega, by omega⟩) (by omega) (by omega) dX1_barnaclesAhead_72 ?_
              refine V_icmp_ne (tgt := 89) hf (by first | exact hR _ _ _ (by decide) | exact ⟨by omega, by omega⟩) (by first | exact hR _ _ _ (by decide) | exact ⟨by omega, by omega⟩) dX1_barnaclesAhead_73 (by decide) (fun h73 => ?_) (fun h73 => ?_)
              · refine V_iinc (ls2 := [_, _, _, _, _, _]) hf dX1_barnaclesAhead_89 (by decide) rfl rfl rfl ?_
                refine V_goto (tgt := 4) hf dX1_barnaclesAhead_92 (by decide) ?_
                refine V_fg (ls2 := [some _, some _, some _, some _, none, none]) ⟨rfl, rfl, rfl, rfl, trivial⟩ ?_
                have bk := ih (k + 1) (by omega) (by omega) (by omega)
                rw [sumI_s (aheadF (σ g) b) hk0] at bk
                first | (rw [show aheadF (σ g) b k = 1 from if_pos (by omega)] at bk; exact bk) | (rw [show aheadF (σ g) b k = 0 from if_neg (by omega), Int.add_zero] at bk; exact bk)
              · refine V_iload hf dX1_barnaclesAhead_76 rfl ?_
                refine V_if_ne (tgt := 86) hf (by first | exact hR _ _ _ (by decide) | exact ⟨by omega, by omega⟩) dX1_barnaclesAhead_78 (by decide) (fun h78 => ?_) (fun h78 => ?_)
                · refine V_iinc (ls2 := [_, _, _, _, _, _]) hf dX1_barnaclesAhead_86 (by decide) rfl rfl rfl ?_
                  refine V_iinc (ls2 := [_, _, _, _, _, _]) hf dX1_barnaclesAhead_89 (by decide) rfl rfl rfl ?_
                  refine V_goto (tgt := 4) hf dX1_barnaclesAhead_92 (by decide) ?_
                  refine V_fg (ls2 := [some _, some _, some _, some _, none, none]) ⟨rfl, rfl, rfl, rfl, trivial⟩ ?_
                  have bk := ih (k + 1) (by omega) (by omega) (by omega)
                  rw [sumI_s (aheadF (σ g) b) hk0] at bk
                  first | (rw [show aheadF (σ g) b k = 1 from if_pos (by omega)] at bk; exact bk) | (rw [show aheadF (σ g) b k = 0 from if_neg (by omega), Int.add_zero] at bk; exact bk)
                · refine V_iload hf dX1_barnaclesAhead_81 rfl ?_
                  refine V_if_eq (tgt := 89) hf (by first | exact hR _ _ _ (by decide) | exact ⟨by omega, by omega⟩) dX1_barnaclesAhead_83 (by decide) (fun h83 => ?_) (fun h83 => ?_)
                  · refine V_iinc (ls2 := [_, _, _, _, _, _]) hf dX1_barnaclesAhead_89 (by decide) rfl rfl rfl ?_
                    refine V_goto (tgt := 4) hf dX1_barnaclesAhead_92 (by decide) ?_
                    refine V_fg (ls2 := [some _, some _, some _, some _, none, none]) ⟨rfl, rfl, rfl, rfl, trivial⟩ ?_
                    have bk := ih (k + 1) (by omega) (by omega) (by omega)
                    rw [sumI_s (aheadF (σ g) b) hk0] at bk
                    first | (rw [show aheadF (σ g) b k = 1 from if_pos (by omega)] at bk; exact bk) | (rw [show aheadF (σ g) b k = 0 from if_neg (by omega), Int.add_zero] at bk; exact bk)
                  · refine V_iinc (ls2 := [_, _, _, _, _, _]) hf dX1_barnaclesAhead_86 (by decide) rfl rfl rfl ?_
                    refine V_iinc (ls2 := [_, _, _, _, _, _]) hf dX1_barnaclesAhead_89 (by decide) rfl rfl rfl ?_
                    refine V_goto (tgt := 4) hf dX1_barnaclesAhead_92 (by decide) ?_
                    refine V_fg (ls2 := [some _, some _, some _, some _, none, none]) ⟨rfl, rfl, rfl, rfl, trivial⟩ ?_
                    have bk := ih (k + 1) (by omega) (by omega) (by omega)
                    rw [sumI_s (aheadF (σ g) b) hk0] at bk
                    first | (rw [show aheadF (σ g) b k = 1 from if_pos (by omega)] at bk; exact bk) | (rw [show aheadF (σ g) b k = 0 from if_neg (by omega), Int.add_zero] at bk; exact bk)
            · refine V_iconst hf dX1_barnaclesAhead_54 ?_
              refine V_goto (tgt := 59) hf dX1_barnaclesAhead_55 (by decide) ?_
              refine V_istore (ls2 := [_, _, _, _, _, _]) hf dX1_barnaclesAhead_59 (by decide) rfl rfl ?_
              refine V_aload_n hf dX1_barnaclesAhead_61 rfl rfl ?_
              refine B_get hf hg rfl fl_X1_28_5 rfl dX1_barnaclesAhead_62 ?_
              refine V_iload_n hf dX1_barnaclesAhead_65 rfl rfl ?_
              refine B_iald hf hg (fun _ => rfl) (by first | exact hR _ _ _ (by decide) | exact ⟨by omega, by omega⟩) (by omega) (by omega) dX1_barnaclesAhead_66 ?_
              refine V_aload_n hf dX1_barnaclesAhead_67 rfl rfl ?_
              refine B_get hf hg rfl fl_X1_28_5 rfl dX1_barnaclesAhead_68 ?_
              refine V_iload_n hf dX1_barnaclesAhead_71 rfl rfl ?_
              refine B_iald hf hg (fun _ => rfl) (by first | exact hR _ _ _ (by decide) | exact ⟨by omega, by omega⟩) (by omega) (by omega) dX1_barnaclesAhead_72 ?_
              refine V_icmp_ne (tgt := 89) hf (by first | exact hR _ _ _ (by decide) | exact ⟨by omega, by omega⟩) (by first | exact hR _ _ _ (by decide) | exact ⟨by omega, by omega⟩) dX1_barnaclesAhead_73 (by decide) (fun h73 => ?_) (fun h73 => ?_)
              · refine V_iinc (ls2 := [_, _, _, _, _, _]) hf dX1_barnaclesAhead_89 (by decide) rfl rfl rfl ?_
                refine V_goto (tgt := 4) hf dX1_barnaclesAhead_92 (by decide) ?_
                refine V_fg (ls2 := [some _, some _, some _, some _, none, none]) ⟨rfl, rfl, rfl, rfl, trivial⟩ ?_
                have bk := ih (k + 1) (by omega) (by omega) (by omega)
                rw [sumI_s (aheadF (σ g) b) hk0] at bk
                first | (rw [show aheadF (σ g) b k = 1 from if_pos (by omega)] at bk; exact bk) | (rw [show aheadF (σ g) b k = 0 from if_neg (by omega), Int.add_zero] at bk; exact bk)
              · refine V_iload hf dX1_barnaclesAhead_76 rfl ?_
                refine V_if_ne (tgt := 86) hf (by first | exact hR _ _ _ (by decide) | exact ⟨by omega, by omega⟩) dX1_barnaclesAhead_78 (by decide) (fun h78 => ?_) (fun h78 => ?_)
                · refine V_iinc (ls2 := [_, _, _, _, _, _]) hf dX1_barnaclesAhead_86 (by decide) rfl rfl rfl ?_
                  refine V_iinc (ls2 := [_, _, _, _, _, _]) hf dX1_barnaclesAhead_89 (by decide) rfl rfl rfl ?_
                  refine V_goto (tgt := 4) hf dX1_barnaclesAhead_92 (by decide) ?_
                  refine V_fg (ls2 := [some _, some _, some _, some _, none, none]) ⟨rfl, rfl, rfl, rfl, trivial⟩ ?_
                  have bk := ih (k + 1) (by omega) (by omega) (by omega)
                  rw [sumI_s (aheadF (σ g) b) hk0] at bk
                  first | (rw [show aheadF (σ g) b k = 1 from if_pos (by omega)] at bk; exact bk) | (rw [show aheadF (σ g) b k = 0 from if_neg (by omega), Int.add_zero] at bk; exact bk)
                · refine V_iload hf dX1_barnaclesAhead_81 rfl ?_
                  refine V_if_eq (tgt := 89) hf (by first | exact hR _ _ _ (by decide) | exact ⟨by omega, by omega⟩) dX1_barnaclesAhead_83 (by decide) (fun h83 => ?_) (fun h83 => ?_)
                  · refine V_iinc (ls2 := [_, _, _, _, _, _]) hf dX1_barnaclesAhead_89 (by decide) rfl rfl rfl ?_
                    refine V_goto (tgt := 4) hf dX1_barnaclesAhead_92 (by decide) ?_
                    refine V_fg (ls2 := [some _, some _, some _, some _, none, none]) ⟨rfl, rfl, rfl, rfl, trivial⟩ ?_
                    have bk := ih (k + 1) (by omega) (by omega) (by omega)
                    rw [sumI_s (aheadF (σ g) b) hk0] at bk
                    first | (rw [show aheadF (σ g) b k = 1 from if_pos (by omega)] at bk; exact bk) | (rw [show aheadF (σ g) b k = 0 from if_neg (by omega), Int.add_zero] at bk; exact bk)
                  · refine V_iinc (ls2 := [_, _, _, _, _, _]) hf dX1_barnaclesAhead_86 (by decide) rfl rfl rfl ?_
                    refine V_iinc (ls2 := [_, _, _, _, _, _]) hf dX1_barnaclesAhead_89 (by decide) rfl rfl rfl ?_
                    refine V_goto (tgt := 4) hf dX1_barnaclesAhead_92 (by decide) ?_
                    refine V_fg (ls2 := [some _, some _, some _, some _, none, none]) ⟨rfl, rfl, rfl, rfl, trivial⟩ ?_
                    have bk := ih (k + 1) (by omega) (by omega) (by omega)
                    rw [sumI_s (aheadF (σ g) b) hk0] at bk
                    first | (rw [show aheadF (σ g) b k = 1 from if_pos (by omega)] at bk; exact bk) | (rw [show aheadF (σ g) b k = 0 from if_neg (by omega), Int.add_zero] at bk; exact bk)
  refine V_iconst hf dX1_barnaclesAhead_0 ?_
  refine V_istore_n (ls2 := [_, _, _, _, _, _]) hf dX1_barnaclesAhead_1 rfl (by decide) rfl rfl ?_
  refine V_iconst hf dX1_barnaclesAhead_2 ?_
  refine V_istore_n (ls2 := [_, _, _, _, _, _]) hf dX1_barnaclesAhead_3 rfl (by decide) rfl rfl ?_
  exact loop ((σ g 1 3).toNat + 1) 0 (by omega) (by omega) (by omega)

set_option maxHeartbeats 4000000 in
set_option maxRecDepth 100000 in
theorem c_inOrder {l : Launch} {D : va_G} {K : Nat → ClassId} {ad : Adr} (hl0 : l.stackTraces = false) (g : Int) (hg : 0 ≤ g ∧ g < 11) (σ : Mem) (hR : Rng σ) (hnb : 0 ≤ σ g 1 3 ∧ σ g 1 3 ≤ 16) (s p : Int) (hs : inR s) (hp : inR p) : Cb l D K ad yX1_barnacleInOrder (.code yX1_barnacleInOrder cX1_barnacleInOrder 4 (some .int)) 2 0 0 σ [.ref (ad g 1), .int (iN s), .int (iN p)] (.inl (some (.int (iN (inOrder (σ g) s p))))) σ := by
  refine Cb.of (own := RX1) (ls0 := [some (.ref (ad g 1)), some (.int (iN s)), some (.int (iN p)), none]) hl0 (by decide) rfl (Nat.le_of_ble_eq_true rfl) rfl ?_
  intro X hX1 hX2 hX3 hf he hh
  subst hX1 hX2 hX3
  have loop : ∀ (n : Nat) (k : Int), 0 ≤ k → k ≤ σ g 1 3 → (∀ j : Int, 0 ≤ j → j < k → ¬ (fun b => σ g 5 b = s ∧ aheadB (σ g) b = p) j) → (σ g 1 3 - k).toNat < n → B X ad σ 2 [some (.ref (ad g 1)), some (.int (iN (s))), some (.int (iN (p))), some (.int (iN (k)))] [] 0 0 := by
    intro n
    induction n with
    | zero => intros; omega
    | succ n ih =>
      intro k hk0 hk1 hno hn
      refine V_iload_n hf dX1_barnacleInOrder_2 rfl rfl ?_
      refine V_aload_n hf dX1_barnacleInOrder_3 rfl rfl ?_
      refine B_get hf hg rfl fl_X1_22_5 rfl dX1_barnacleInOrder_4 ?_
      refine V_icmp_ge (tgt := 37) hf (by first | exact hR _ _ _ (by decide) | exact ⟨by omega, by omega⟩) (by first | exact hR _ _ _ (by decide) | exact ⟨by omega, by omega⟩) dX1_barnacleInOrder_7 (by decide) (fun h7 => ?_) (fun h7 => ?_)
      · refine V_iconst hf dX1_barnacleInOrder_37 ?_
        exact B_iret hf he rfl dX1_barnacleInOrder_38 (by decide) (by decide) (fst_no (fun j h0 h1 => hno j h0 (by omega))).symm rfl
      · refine V_aload_n hf dX1_barnacleInOrder_10 rfl rfl ?_
        refine B_get hf hg rfl fl_X1_28_5 rfl dX1_barnacleInOrder_11 ?_
        refine V_iload_n hf dX1_barnacleInOrder_14 rfl rfl ?_
        refine B_iald hf hg (fun _ => rfl) (by first | exact hR _ _ _ (by decide) | exact ⟨by omega, by omega⟩) (by omega) (by omega) dX1_barnacleInOrder_15 ?_
        refine V_iload_n hf dX1_barnacleInOrder_16 rfl rfl ?_
        refine V_icmp_ne (tgt := 31) hf (by first | exact hR _ _ _ (by decide) | exact ⟨by omega, by omega⟩) (by first | exact hR _ _ _ (by decide) | exact ⟨by omega, by omega⟩) dX1_barnacleInOrder_17 (by decide) (fun h17 => ?_) (fun h17 => ?_)
        · refine V_iinc (ls2 := [_, _, _, _]) hf dX1_barnacleInOrder_31 (by decide) rfl rfl rfl ?_
          refine V_goto (tgt := 2) hf dX1_barnacleInOrder_34 (by decide) ?_
          refine ih (k + 1) (by omega) (by omega) (fun j h0 h1 => ?_) (by omega)
          by_cases hj : j = k
          · subst hj
            intro hp
            first | exact absurd hp.1 (by omega) | exact absurd hp.2 (by omega) | exact absurd hp (by omega)
          · exact hno j h0 (by omega)
        · refine V_aload_n hf dX1_barnacleInOrder_20 rfl rfl ?_
          refine V_iload_n hf dX1_barnacleInOrder_21 rfl rfl ?_
          refine B_callVi hf (As := [_]) (c_aheadB hl0 g hg σ hR hnb k ⟨hk0, by omega⟩) cv_X1_37 hg rfl rfl rfl (Nat.le_of_ble_eq_true rfl) ⟨by decide, by decide, by decide, by decide⟩ dX1_barnacleInOrder_22 ?_
          refine V_iload_n hf dX1_barnacleInOrder_25 rfl rfl ?_
          refine V_icmp_ne (tgt := 31) hf (by have := aheadB_r hnb k; exact ⟨by omega, by omega⟩) (by first | exact hR _ _ _ (by decide) | exact ⟨by omega, by omega⟩) dX1_barnacleInOrder_26 (by decide) (fun h26 => ?_) (fun h26 => ?_)
          · refine V_iinc (ls2 := [_, _, _, _]) hf dX1_barnacleInOrder_31 (by decide) rfl rfl rfl ?_
            refine V_goto (tgt := 2) hf dX1_barnacleInOrder_34 (by decide) ?_
            refine ih (k + 1) (by omega) (by omega) (fun j h0 h1 => ?_) (by omega)
            by_cases hj : j = k
            · subst hj
              intro hp
              first | exact absurd hp.1 (by omega) | exact absurd hp.2 (by omega) | exact absurd hp (by omega)
            · exact hno j h0 (by omega)
          · refine V_iload_n hf dX1_barnacleInOrder_29 rfl rfl ?_
            exact B_iret hf he rfl dX1_barnacleInOrder_30 (by decide) (by decide) (fst_yes hk0 (by omega) ⟨by omega, by omega⟩ hno).symm rfl
  refine V_iconst hf dX1_barnacleInOrder_0 ?_
  refine V_istore_n (ls2 := [_, _, _, _]) hf dX1_barnacleInOrder_1 rfl (by decide) rfl rfl ?_
  exact loop ((σ g 1 3).toNat + 1) 0 (by omega) (by omega) (fun j h0 h1 => by omega) (by omega)

set_option maxHeartbeats 4000000 in
set_option maxRecDepth 100000 in
theorem c_wealth {l : Launch} {D : va_G} {K : Nat → ClassId} {ad : Adr} (hl0 : l.stackTraces = false) (g : Int) (hg : 0 ≤ g ∧ g < 11) (σ : Mem) (hR : Rng σ) (hnb : 0 ≤ σ g 1 3 ∧ σ g 1 3 ≤ 16) (s : Int) (hs : 0 ≤ s ∧ s < 6) : Cb l D K ad yX1_wealthOf (.code yX1_wealthOf cX1_wealthOf 4 (some .int)) 1 0 0 σ [.ref (ad g 1), .int (iN s)] (.inl (some (.int (iN (wealth (σ g) s))))) σ := by
  refine Cb.of (own := RX1) (ls0 := [some (.ref (ad g 1)), some (.int (iN s)), none, none]) hl0 (by decide) rfl (Nat.le_of_ble_eq_true rfl) rfl ?_
  intro X hX1 hX2 hX3 hf he hh
  subst hX1 hX2 hX3
  have loop : ∀ (n : Nat) (k : Int), 0 ≤ k → k ≤ σ g 1 3 → (σ g 1 3 - k).toNat < n → B X ad σ 9 [some (.ref (ad g 1)), some (.int (iN (s))), some (.int (iN (σ g 2 s + sumI (wealthF (σ g) s) k))), some (.int (iN (k)))] [] 0 0 := by
    intro n
    induction n with
    | zero => intros; omega
    | succ n ih =>
      intro k hk0 hk1 hn
      refine V_iload_n hf dX1_wealthOf_9 rfl rfl ?_
      refine V_aload_n hf dX1_wealthOf_10 rfl rfl ?_
      refine B_get hf hg rfl fl_X1_22_5 rfl dX1_wealthOf_11 ?_
      refine V_icmp_ge (tgt := 42) hf (by first | exact hR _ _ _ (by decide) | exact ⟨by omega, by omega⟩) (by first | exact hR _ _ _ (by decide) | exact ⟨by omega, by omega⟩) dX1_wealthOf_14 (by decide) (fun h14 => ?_) (fun h14 => ?_)
      · refine V_iload_n hf dX1_wealthOf_42 rfl rfl ?_
        exact B_iret hf he rfl dX1_wealthOf_43 (by decide) (by decide) (by rw [show k = σ g 1 3 by omega]; rfl) rfl
      · refine V_aload_n hf dX1_wealthOf_17 rfl rfl ?_
        refine B_get hf hg rfl fl_X1_28_5 rfl dX1_wealthOf_18 ?_
        refine V_iload_n hf dX1_wealthOf_21 rfl rfl ?_
        refine B_iald hf hg (fun _ => rfl) (by first | exact hR _ _ _ (by decide) | exact ⟨by omega, by omega⟩) (by omega) (by omega) dX1_wealthOf_22 ?_
        refine V_iload_n hf dX1_wealthOf_23 rfl rfl ?_
        refine V_icmp_ne (tgt := 36) hf (by first | exact hR _ _ _ (by decide) | exact ⟨by omega, by omega⟩) (by first | exact hR _ _ _ (by decide) | exact ⟨by omega, by omega⟩) dX1_wealthOf_24 (by decide) (fun h24 => ?_) (fun h24 => ?_)
        · refine V_iinc (ls2 := [_, _, _, _]) hf dX1_wealthOf_36 (by decide) rfl rfl rfl ?_
          refine V_goto (tgt := 9) hf dX1_wealthOf_39 (by decide) ?_
          have bk := ih (k + 1) (by omega) (by omega) (by omega)
          rw [sumI_s (wealthF (σ g) s) hk0] at bk
          first | (rw [show wealthF (σ g) s k = σ g 4 k from if_pos (by omega), ← Int.add_assoc] at bk; exact bk) | (rw [show wealthF (σ g) s k = 0 from if_neg (by omega), Int.add_zero] at bk; exact bk)
        · refine V_iload_n hf dX1_wealthOf_27 rfl rfl ?_
          refine V_aload_n hf dX1_wealthOf_28 rfl rfl ?_
          refine B_get hf hg rfl fl_X1_25_5 rfl dX1_wealthOf_29 ?_
          refine V_iload_n hf dX1_wealthOf_32 rfl rfl ?_
          refine B_iald hf hg (fun _ => rfl) (by first | exact hR _ _ _ (by decide) | exact ⟨by omega, by omega⟩) (by omega) (by omega) dX1_wealthOf_33 ?_
          refine V_iadd hf dX1_wealthOf_34 ?_
          refine V_istore_n (ls2 := [_, _, _, _]) hf dX1_wealthOf_35 rfl (by decide) rfl rfl ?_
          refine V_iinc (ls2 := [_, _, _, _]) hf dX1_wealthOf_36 (by decide) rfl rfl rfl ?_
          refine V_goto (tgt := 9) hf dX1_wealthOf_39 (by decide) ?_
          have bk := ih (k + 1) (by omega) (by omega) (by omega)
          rw [sumI_s (wealthF (σ g) s) hk0] at bk
          first | (rw [show wealthF (σ g) s k = σ g 4 k from if_pos (by omega), ← Int.add_assoc] at bk; exact bk) | (rw [show wealthF (σ g) s k = 0 from if_neg (by omega), Int.add_zero] at bk; exact bk)
  refine V_aload_n hf dX1_wealthOf_0 rfl rfl ?_
  refine B_get hf hg rfl fl_X1_15_5 rfl dX1_wealthOf_1 ?_
  refine V_iload_n hf dX1_wealthOf_4 rfl rfl ?_
  refine B_iald hf hg (fun _ => rfl) (by first | exact hR _ _ _ (by decide) | exact ⟨by omega, by omega⟩) (by omega) (by omega) dX1_wealthOf_5 ?_
  refine V_istore_n (ls2 := [_, _, _, _]) hf dX1_wealthOf_6 rfl (by decide) rfl rfl ?_
  refine V_iconst hf dX1_wealthOf_7 ?_
  refine V_istore_n (ls2 := [_, _, _, _]) hf dX1_wealthOf_8 rfl (by decide) rfl rfl ?_
  have bk := loop ((σ g 1 3).toNat + 1) 0 (by omega) (by omega) (by omega)
  rw [sumI_0, Int.add_zero] at bk
  exact bk

set_option maxHeartbeats 4000000 in
set_option maxRecDepth 100000 in
theorem c_isW {l : Launch} {D : va_G} {K : Nat → ClassId} {ad : Adr} (hl0 : l.stackTraces = false) (g : Int) (hg : 0 ≤ g ∧ g < 11) (σ : Mem) (hR : Rng σ) (hF : FI (σ g)) (s t : Int) (hs : 0 ≤ s ∧ s < σ g 1 0) (ht : 0 ≤ t ∧ t < σ g 1 0) : Cb l D K ad yX1_isWealthier (.code yX1_isWealthier cX1_isWealthier 7 (some .boolean)) 2 0 0 σ [.ref (ad g 1), .int (iN s), .int (iN t)] (.inl (some (.int (iN (saF (σ g) t s))))) σ := by
  refine Cb.of (own := RX1) (ls0 := [some (.ref (ad g 1)), some (.int (iN s)), some (.int (iN t)), none, none, none, none]) hl0 (by decide) rfl (Nat.le_of_ble_eq_true rfl) rfl ?_
  intro X hX1 hX2 hX3 hf he hh
  subst hX1 hX2 hX3
  have hF1 := hF.1
  refine V_aload_n hf dX1_isWealthier_0 rfl rfl ?_
  refine V_iload_n hf dX1_isWealthier_1 rfl rfl ?_
  refine B_callVi hf (As := [_]) (c_wealth hl0 g hg σ hR hF.2.1 s ⟨hs.1, by omega⟩) cv_X1_48 hg rfl rfl rfl (Nat.le_of_ble_eq_true rfl) ⟨by decide, by decide, by decide, by decide⟩ dX1_isWealthier_2 ?_
  refine V_istore_n (ls2 := [_, _, _, _, _, _, _]) hf dX1_isWealthier_5 rfl (by decide) rfl rfl ?_
  refine V_aload_n hf dX1_isWealthier_6 rfl rfl ?_
  refine V_iload_n hf dX1_isWealthier_7 rfl rfl ?_
  refine B_callVi hf (As := [_]) (c_wealth hl0 g hg σ hR hF.2.1 t ⟨ht.1, by omega⟩) cv_X1_48 hg rfl rfl rfl (Nat.le_of_ble_eq_true rfl) ⟨by decide, by decide, by decide, by decide⟩ dX1_isWealthier_8 ?_
  refine V_istore (ls2 := [_, _, _, _, _, _, _]) hf dX1_isWealthier_11 (by decide) rfl rfl ?_
  refine V_iload_n hf dX1_isWealthier_13 rfl rfl ?_
  refine V_iload hf dX1_isWealthier_14 rfl ?_
  refine V_icmp_eq (tgt := 31) hf (by have := wealth_r hF hs.1 hs.2; have := wealth_r hF ht.1 ht.2; exact ⟨by omega, by omega⟩) (by have := wealth_r hF hs.1 hs.2; have := wealth_r hF ht.1 ht.2; exact ⟨by omega, by omega⟩) dX1_isWealthier_16 (by decide) (fun h16 => ?_) (fun h16 => ?_)
  · refine V_aload_n hf dX1_isWealthier_31 rfl rfl ?_
    refine V_iload_n hf dX1_isWealthier_32 rfl rfl ?_
    refine B_callVi hf (As := [_]) (c_loadOn hl0 g hg σ hR hF.2.1 s ⟨by omega, by omega⟩) cv_X1_51 hg rfl rfl rfl (Nat.le_of_ble_eq_true rfl) ⟨by decide, by decide, by decide, by decide⟩ dX1_isWealthier_33 ?_
    refine V_istore (ls2 := [_, _, _, _, _, _, _]) hf dX1_isWealthier_36 (by decide) rfl rfl ?_
    refine V_aload_n hf dX1_isWealthier_38 rfl rfl ?_
    refine V_iload_n hf dX1_isWealthier_39 rfl rfl ?_
    refine B_callVi hf (As := [_]) (c_loadOn hl0 g hg σ hR hF.2.1 t ⟨by omega, by omega⟩) cv_X1_51 hg rfl rfl rfl (Nat.le_of_ble_eq_true rfl) ⟨by decide, by decide, by decide, by decide⟩ dX1_isWealthier_40 ?_
    refine V_istore (ls2 := [_, _, _, _, _, _, _]) hf dX1_isWealthier_43 (by decide) rfl rfl ?_
    refine V_iload hf dX1_isWealthier_45 rfl ?_
    refine V_iload hf dX1_isWealthier_47 rfl ?_
    refine V_icmp_eq (tgt := 65) hf (by have := loadOn_r hF.2.1 s; have := loadOn_r hF.2.1 t; exact ⟨by omega, by omega⟩) (by have := loadOn_r hF.2.1 s; have := loadOn_r hF.2.1 t; exact ⟨by omega, by omega⟩) dX1_isWealthier_49 (by decide) (fun h49 => ?_) (fun h49 => ?_)
    · refine V_iload_n hf dX1_isWealthier_65 rfl rfl ?_
      refine V_iload_n hf dX1_isWealthier_66 rfl rfl ?_
      refine V_icmp_ge (tgt := 74) hf ⟨by omega, by omega⟩ ⟨by omega, by omega⟩ dX1_isWealthier_67 (by decide) (fun h67 => ?_) (fun h67 => ?_)
      · refine V_iconst hf dX1_isWealthier_74 ?_
        exact B_iret hf he (by unfold saF; exact nar_b _) dX1_isWealthier_75 (by decide) (by decide) (by unfold saF; first | rw [if_pos (by omega)] | rw [if_neg (by omega)]) rfl
      · refine V_iconst hf dX1_isWealthier_70 ?_
        refine V_goto (tgt := 75) hf dX1_isWealthier_71 (by decide) ?_
        exact B_iret hf he (by unfold saF; exact nar_b _) dX1_isWealthier_75 (by decide) (by decide) (by unfold saF; first | rw [if_pos (by omega)] | rw [if_neg (by omega)]) rfl
    · refine V_iload hf dX1_isWealthier_52 rfl ?_
      refine V_iload hf dX1_isWealthier_54 rfl ?_
      refine V_icmp_le (tgt := 63) hf (by have := loadOn_r hF.2.1 s; have := loadOn_r hF.2.1 t; exact ⟨by omega, by omega⟩) (by have := loadOn_r hF.2.1 s; have := loadOn_r hF.2.1 t; exact ⟨by omega, by omega⟩) dX1_isWealthier_56 (by decide) (fun h56 => ?_) (fun h56 => ?_)
      · refine V_iconst hf dX1_isWealthier_63 ?_
        exact B_iret hf he (by unfold saF; exact nar_b _) dX1_isWealthier_64 (by decide) (by decide) (by unfold saF; first | rw [if_pos (by omega)] | rw [if_neg (by omega)]) rfl
      · refine V_iconst hf dX1_isWealthier_59 ?_
        refine V_goto (tgt := 64) hf dX1_isWealthier_60 (by decide) ?_
        exact B_iret hf he (by unfold saF; exact nar_b _) dX1_isWealthier_64 (by decide) (by decide) (by unfold saF; first | rw [if_pos (by omega)] | rw [if_neg (by omega)]) rfl
  · refine V_iload_n hf dX1_isWealthier_19 rfl rfl ?_
    refine V_iload hf dX1_isWealthier_20 rfl ?_
    refine V_icmp_le (tgt := 29) hf (by have := wealth_r hF hs.1 hs.2; have := wealth_r hF ht.1 ht.2; exact ⟨by omega, by omega⟩) (by have := wealth_r hF hs.1 hs.2; have := wealth_r hF ht.1 ht.2; exact ⟨by omega, by omega⟩) dX1_isWealthier_22 (by decide) (fun h22 => ?_) (fun h22 => ?_)
    · refine V_iconst hf dX1_isWealthier_29 ?_
      exact B_iret hf he (by unfold saF; exact nar_b _) dX1_isWealthier_30 (by decide) (by decide) (by unfold saF; first | rw [if_pos (by omega)] | rw [if_neg (by omega)]) rfl
    · refine V_iconst hf dX1_isWealthier_25 ?_
      refine V_goto (tgt := 30) hf dX1_isWealthier_26 (by decide) ?_
      exact B_iret hf he (by unfold saF; exact nar_b _) dX1_isWealthier_30 (by decide) (by decide) (by unfold saF; first | rw [if_pos (by omega)] | rw [if_neg (by omega)]) rfl

set_option maxHeartbeats 4000000 in
set_option maxRecDepth 100000 in
theorem c_shipsAhead {l : Launch} {D : va_G} {K : Nat → ClassId} {ad : Adr} (hl0 : l.stackTraces = false) (g : Int) (hg : 0 ≤ g ∧ g < 11) (σ : Mem) (hR : Rng σ) (hF : FI (σ g)) (s : Int) (hs : 0 ≤ s ∧ s < σ g 1 0) : Cb l D K ad yX1_shipsAhead (.code yX1_shipsAhead cX1_shipsAhead 4 (some .int)) 3 0 0 σ [.ref (ad g 1), .int (iN s)] (.inl (some (.int (iN (shipsAhead (σ g) s))))) σ := by
  refine Cb.of (own := RX1) (ls0 := [some (.ref (ad g 1)), some (.int (iN s)), none, none]) hl0 (by decide) rfl (Nat.le_of_ble_eq_true rfl) rfl ?_
  intro X hX1 hX2 hX3 hf he hh
  subst hX1 hX2 hX3
  have hF1 := hF.1
  have loop : ∀ (n : Nat) (k : Int), 0 ≤ k → k ≤ σ g 1 0 → (σ g 1 0 - k).toNat < n → B X ad σ 4 [some (.ref (ad g 1)), some (.int (iN (s))), some (.int (iN (sumI (saF (σ g) s) k))), some (.int (iN (k)))] [] 0 0 := by
    intro n
    induction n with
    | zero => intros; omega
    | succ n ih =>
      intro k hk0 hk1 hn
      refine V_iload_n hf dX1_shipsAhead_4 rfl rfl ?_
      refine V_aload_n hf dX1_shipsAhead_5 rfl rfl ?_
      refine B_get hf hg rfl fl_X1_9_5 rfl dX1_shipsAhead_6 ?_
      refine V_icmp_ge (tgt := 30) hf (by first | exact hR _ _ _ (by decide) | exact ⟨by omega, by omega⟩) (by first | exact hR _ _ _ (by decide) | exact ⟨by omega, by omega⟩) dX1_shipsAhead_9 (by decide) (fun h9 => ?_) (fun h9 => ?_)
      · refine V_iload_n hf dX1_shipsAhead_30 rfl rfl ?_
        exact B_iret hf he rfl dX1_shipsAhead_31 (by decide) (by decide) (by rw [show k = σ g 1 0 by omega]; rfl) rfl
      · refine V_aload_n hf dX1_shipsAhead_12 rfl rfl ?_
        refine V_iload_n hf dX1_shipsAhead_13 rfl rfl ?_
        refine V_iload_n hf dX1_shipsAhead_14 rfl rfl ?_
        refine B_callVi hf (As := [_, _]) (c_isW hl0 g hg σ hR hF k s ⟨hk0, by omega⟩ hs) cv_X1_44 hg rfl rfl rfl (Nat.le_of_ble_eq_true rfl) ⟨by decide, by decide, by decide, by decide⟩ dX1_shipsAhead_15 ?_
        refine V_if_eq (tgt := 24) hf (by have := saF_r (μ := σ g) (s := s) (k := k); exact ⟨by omega, by omega⟩) dX1_shipsAhead_18 (by decide) (fun h18 => ?_) (fun h18 => ?_)
        · refine V_iinc (ls2 := [_, _, _, _]) hf dX1_shipsAhead_24 (by decide) rfl rfl rfl ?_
          refine V_goto (tgt := 4) hf dX1_shipsAhead_27 (by decide) ?_
          have bk := ih (k + 1) (by omega) (by omega) (by omega)
          have z := saF_r (μ := σ g) (s := s) (k := k)
          rw [sumI_s (saF (σ g) s) hk0] at bk
          first | (rw [show saF (σ g) s k = 0 by omega, Int.add_zero] at bk; exact bk) | (rw [show saF (σ g) s k = 1 by omega] at bk; exact bk)
        · refine V_iinc (ls2 := [_, _, _, _]) hf dX1_shipsAhead_21 (by decide) rfl rfl rfl ?_
          refine V_iinc (ls2 := [_, _, _, _]) hf dX1_shipsAhead_24 (by decide) rfl rfl rfl ?_
          refine V_goto (tgt := 4) hf dX1_shipsAhead_27 (by decide) ?_
          have bk := ih (k + 1) (by omega) (by omega) (by omega)
          have z := saF_r (μ := σ g) (s := s) (k := k)
          rw [sumI_s (saF (σ g) s) hk0] at bk
          first | (rw [show saF (σ g) s k = 0 by omega, Int.add_zero] at bk; exact bk) | (rw [show saF (σ g) s k = 1 by omega] at bk; exact bk)
  refine V_iconst hf dX1_shipsAhead_0 ?_
  refine V_istore_n (ls2 := [_, _, _, _]) hf dX1_shipsAhead_1 rfl (by decide) rfl rfl ?_
  refine V_iconst hf dX1_shipsAhead_2 ?_
  refine V_istore_n (ls2 := [_, _, _, _]) hf dX1_shipsAhead_3 rfl (by decide) rfl rfl ?_
  exact loop ((σ g 1 0).toNat + 1) 0 (by omega) (by omega) (by omega)

set_option maxHeartbeats 4000000 in
set_option maxRecDepth 100000 in
theorem c_shipInOrder {l : Launch} {D : va_G} {K : Nat → ClassId} {ad : Adr} (hl0 : l.stackTraces = false) (g : Int) (hg : 0 ≤ g ∧ g < 11) (σ : Mem) (hR : Rng σ) (hF : FI (σ g)) (p : Int) (hp : inR p) : Cb l D K ad yX1_shipInOrder (.code yX1_shipInOrder cX1_shipInOrder 3 (some .int)) 4 0 0 σ [.ref (ad g 1), .int (iN p)] (.inl (some (.int (iN (shipInOrder (σ g) p))))) σ := by
  refine Cb.of (own := RX1) (ls0 := [some (.ref (ad g 1)), some (.int (iN p)), none]) hl0 (by decide) rfl (Nat.le_of_ble_eq_true rfl) rfl ?_
  intro X hX1 hX2 hX3 hf he hh
  subst hX1 hX2 hX3
  have hF1 := hF.1
  have loop : ∀ (n : Nat) (k : Int), 0 ≤ k → k ≤ σ g 1 0 → (∀ j : Int, 0 ≤ j → j < k → ¬ (fun s => shipsAhead (σ g) s = p) j) → (σ g 1 0 - k).toNat < n → B X ad σ 2 [some (.ref (ad g 1)), some (.int (iN (p))), some (.int (iN (k)))] [] 0 0 := by
    intro n
    induction n with
    | zero => intros; omega
    | succ n ih =>
      intro k hk0 hk1 hno hn
      refine V_iload_n hf dX1_shipInOrder_2 rfl rfl ?_
      refine V_aload_n hf dX1_shipInOrder_3 rfl rfl ?_
      refine B_get hf hg rfl fl_X1_9_5 rfl dX1_shipInOrder_4 ?_
      refine V_icmp_ge (tgt := 27) hf (by first | exact hR _ _ _ (by decide) | exact ⟨by omega, by omega⟩) (by first | exact hR _ _ _ (by decide) | exact ⟨by omega, by omega⟩) dX1_shipInOrder_7 (by decide) (fun h7 => ?_) (fun h7 => ?_)
      · refine V_iconst hf dX1_shipInOrder_27 ?_
        exact B_iret hf he rfl dX1_shipInOrder_28 (by decide) (by decide) (fst_no (fun j h0 h1 => hno j h0 (by omega))).symm rfl
      · refine V_aload_n hf dX1_shipInOrder_10 rfl rfl ?_
        refine V_iload_n hf dX1_shipInOrder_11 rfl rfl ?_
        refine B_callVi hf (As := [_]) (c_shipsAhead hl0 g hg σ hR hF k ⟨hk0, by omega⟩) cv_X1_41 hg rfl rfl rfl (Nat.le_of_ble_eq_true rfl) ⟨by decide, by decide, by decide, by decide⟩ dX1_shipInOrder_12 ?_
        refine V_iload_n hf dX1_shipInOrder_15 rfl rfl ?_
        refine V_icmp_ne (tgt := 21) hf (by have := shipsAhead_r hF.1 k; exact ⟨by omega, by omega⟩) (by first | exact hR _ _ _ (by decide) | exact ⟨by omega, by omega⟩) dX1_shipInOrder_16 (by decide) (fun h16 => ?_) (fun h16 => ?_)
        · refine V_iinc (ls2 := [_, _, _]) hf dX1_shipInOrder_21 (by decide) rfl rfl rfl ?_
          refine V_goto (tgt := 2) hf dX1_shipInOrder_24 (by decide) ?_
          refine ih (k + 1) (by omega) (by omega) (fun j h0 h1 => ?_) (by omega)
          by_cases hj : j = k
          · subst hj
            intro hp
            first | exact absurd hp.1 (by omega) | exact absurd hp.2 (by omega) | exact absurd hp (by omega)
          · exact hno j h0 (by omega)
        · refine V_iload_n hf dX1_shipInOrder_19 rfl rfl ?_
          exact B_iret hf he rfl dX1_shipInOrder_20 (by decide) (by decide) (fst_yes hk0 (by omega) (by omega) hno).symm rfl
  refine V_iconst hf dX1_shipInOrder_0 ?_
  refine V_istore_n (ls2 := [_, _, _]) hf dX1_shipInOrder_1 rfl (by decide) rfl rfl ?_
  exact loop ((σ g 1 0).toNat + 1) 0 (by omega) (by omega) (fun j h0 h1 => by omega) (by omega)

set_option maxHeartbeats 4000000 in
set_option maxRecDepth 100000 in
theorem c_coinSumF {l : Launch} {D : va_G} {K : Nat → ClassId} {ad : Adr} (hl0 : l.stackTraces = false) (g : Int) (hg : 0 ≤ g ∧ g < 11) (σ : Mem) (hR : Rng σ) (hF : FI (σ g)) : Cb l D K ad yX1_coinSum (.code yX1_coinSum cX1_coinSum 3 (some .int)) 1 0 0 σ [.ref (ad g 1)] (.inl (some (.int (iN (shipCoins (σ g)))))) σ := by
  refine Cb.of (own := RX1) (ls0 := [some (.ref (ad g 1)), none, none]) hl0 (by decide) rfl (Nat.le_of_ble_eq_true rfl) rfl ?_
  intro X hX1 hX2 hX3 hf he hh
  subst hX1 hX2 hX3
  have hF1 := hF.1
  have loop : ∀ (n : Nat) (k : Int), 0 ≤ k → k ≤ σ g 1 0 → (σ g 1 0 - k).toNat < n → B X ad σ 4 [some (.ref (ad g 1)), some (.int (iN (sumI (coinF (σ g)) k))), some (.int (iN (k)))] [] 0 0 := by
    intro n
    induction n with
    | zero => intros; omega
    | succ n ih =>
      intro k hk0 hk1 hn
      refine V_iload_n hf dX1_coinSum_4 rfl rfl ?_
      refine V_aload_n hf dX1_coinSum_5 rfl rfl ?_
      refine B_get hf hg rfl fl_X1_9_5 rfl dX1_coinSum_6 ?_
      refine V_icmp_ge (tgt := 27) hf (by first | exact hR _ _ _ (by decide) | exact ⟨by omega, by omega⟩) (by first | exact hR _ _ _ (by decide) | exact ⟨by omega, by omega⟩) dX1_coinSum_9 (by decide) (fun h9 => ?_) (fun h9 => ?_)
      · refine V_iload_n hf dX1_coinSum_27 rfl rfl ?_
        exact B_iret hf he rfl dX1_coinSum_28 (by decide) (by decide) (by rw [show k = σ g 1 0 by omega]; rfl) rfl
      · refine V_iload_n hf dX1_coinSum_12 rfl rfl ?_
        refine V_aload_n hf dX1_coinSum_13 rfl rfl ?_
        refine B_get hf hg rfl fl_X1_15_5 rfl dX1_coinSum_14 ?_
        refine V_iload_n hf dX1_coinSum_17 rfl rfl ?_
        refine B_iald hf hg (fun _ => rfl) (by first | exact hR _ _ _ (by decide) | exact ⟨by omega, by omega⟩) (by omega) (by omega) dX1_coinSum_18 ?_
        refine V_iadd hf dX1_coinSum_19 ?_
        refine V_istore_n (ls2 := [_, _, _]) hf dX1_coinSum_20 rfl (by decide) rfl rfl ?_
        refine V_iinc (ls2 := [_, _, _]) hf dX1_coinSum_21 (by decide) rfl rfl rfl ?_
        refine V_goto (tgt := 4) hf dX1_coinSum_24 (by decide) ?_
        have bk := ih (k + 1) (by omega) (by omega) (by omega)
        rw [sumI_s (coinF (σ g)) hk0] at bk
        exact bk
  refine V_iconst hf dX1_coinSum_0 ?_
  refine V_istore_n (ls2 := [_, _, _]) hf dX1_coinSum_1 rfl (by decide) rfl rfl ?_
  refine V_iconst hf dX1_coinSum_2 ?_
  refine V_istore_n (ls2 := [_, _, _]) hf dX1_coinSum_3 rfl (by decide) rfl rfl ?_
  exact loop ((σ g 1 0).toNat + 1) 0 (by omega) (by omega) (by omega)

set_option maxHeartbeats 4000000 in
set_option maxRecDepth 100000 in
theorem c_copyFleet {l : Launch} {D : va_G} {K : Nat → ClassId} {ad : Adr} (hl0 : l.stackTraces = false) (g : Int) (hg : 0 ≤ g ∧ g < 11) (σ : Mem) (hR : Rng σ) (h : Int) (hh9 : 0 ≤ h ∧ h < 11) : Cb l D K ad yX1_copyFrom (.code yX1_copyFrom cX1_copyFrom 2 none) 1 0 0 σ [.ref (ad g 1), .ref (ad h 1)] (.inl none) (cpFleet σ g h) := by
  refine Cb.of (own := RX1) (ls0 := [some (.ref (ad g 1)), some (.ref (ad h 1))]) hl0 (by decide) rfl (Nat.le_of_ble_eq_true rfl) rfl ?_
  intro X hX1 hX2 hX3 hf he hh
  subst hX1 hX2 hX3
  refine V_aload_n hf dX1_copyFrom_0 rfl rfl ?_
  refine V_aload_n hf dX1_copyFrom_1 rfl rfl ?_
  refine B_get hf hh9 rfl fl_X1_9_5 rfl dX1_copyFrom_2 ?_
  refine B_putI (kI := 0) hf rfl hg rfl fp_X1_9_5 rfl rfl (Nat.le_of_ble_eq_true rfl) (by decide) (cs_1_0 _ _ _ _ _) dX1_copyFrom_5 ?_
  refine V_aload_n hf dX1_copyFrom_8 rfl rfl ?_
  refine B_get hf hh9 rfl fl_X1_15_5 rfl dX1_copyFrom_9 ?_
  refine V_iconst hf dX1_copyFrom_12 ?_
  refine V_aload_n hf dX1_copyFrom_13 rfl rfl ?_
  refine B_get hf hg rfl fl_X1_15_5 rfl dX1_copyFrom_14 ?_
  refine V_iconst hf dX1_copyFrom_17 ?_
  refine V_bipush hf dX1_copyFrom_18 (by decide +kernel) ?_
  refine B_copyi hf hh9 hg (by decide) (fun _ => rfl) (fun _ => rfl) ⟨⟨by omega, by omega⟩, by omega⟩ ⟨⟨by omega, by omega⟩, by omega⟩ ⟨⟨by omega, by omega⟩, by omega⟩ (by omega) (by omega) wl_X1_31 ⟨by decide, (Nat.le_of_ble_eq_true rfl)⟩ dX1_copyFrom_20 ?_
  refine V_aload_n hf dX1_copyFrom_23 rfl rfl ?_
  refine B_get hf hh9 rfl fl_X1_19_5 rfl dX1_copyFrom_24 ?_
  refine V_iconst hf dX1_copyFrom_27 ?_
  refine V_aload_n hf dX1_copyFrom_28 rfl rfl ?_
  refine B_get hf hg rfl fl_X1_19_5 rfl dX1_copyFrom_29 ?_
  refine V_iconst hf dX1_copyFrom_32 ?_
  refine V_bipush hf dX1_copyFrom_33 (by decide +kernel) ?_
  refine B_copyi hf hh9 hg (by decide) (fun _ => rfl) (fun _ => rfl) ⟨⟨by omega, by omega⟩, by omega⟩ ⟨⟨by omega, by omega⟩, by omega⟩ ⟨⟨by omega, by omega⟩, by omega⟩ (by omega) (by omega) wl_X1_31 ⟨by decide, (Nat.le_of_ble_eq_true rfl)⟩ dX1_copyFrom_35 ?_
  refine V_aload_n hf dX1_copyFrom_38 rfl rfl ?_
  refine V_aload_n hf dX1_copyFrom_39 rfl rfl ?_
  refine B_get hf hh9 rfl fl_X1_22_5 rfl dX1_copyFrom_40 ?_
  refine B_putI (kI := 3) hf rfl hg rfl fp_X1_22_5 rfl rfl (Nat.le_of_ble_eq_true rfl) (by decide) (cs_1_3 _ _ _ _ _) dX1_copyFrom_43 ?_
  refine V_aload_n hf dX1_copyFrom_46 rfl rfl ?_
  refine B_get hf hh9 rfl fl_X1_25_5 rfl dX1_copyFrom_47 ?_
  refine V_iconst hf dX1_copyFrom_50 ?_
  refine V_aload_n hf dX1_copyFrom_51 rfl rfl ?_
  refine B_get hf hg rfl fl_X1_25_5 rfl dX1_copyFrom_52 ?_
  refine V_iconst hf dX1_copyFrom_55 ?_
  refine V_bipush hf dX1_copyFrom_56 (by decide +kernel) ?_
  refine B_copyi hf hh9 hg (by decide) (fun _ => rfl) (fun _ => rfl) ⟨⟨by omega, by omega⟩, by omega⟩ ⟨⟨by omega, by omega⟩, by omega⟩ ⟨⟨by omega, by omega⟩, by omega⟩ (by omega) (by omega) wl_X1_31 ⟨by decide, (Nat.le_of_ble_eq_true rfl)⟩ dX1_copyFrom_58 ?_
  refine V_aload_n hf dX1_copyFrom_61 rfl rfl ?_
  refine B_get hf hh9 rfl fl_X1_28_5 rfl dX1_copyFrom_62 ?_
  refine V_iconst hf dX1_copyFrom_65 ?_
  refine V_aload_n hf dX1_copyFrom_66 rfl rfl ?_
  refine B_get hf hg rfl fl_X1_28_5 rfl dX1_copyFrom_67 ?_
  refine V_iconst hf dX1_copyFrom_70 ?_
  refine V_bipush hf dX1_copyFrom_71 (by decide +kernel) ?_
  refine B_copyi hf hh9 hg (by decide) (fun _ => rfl) (fun _ => rfl) ⟨⟨by omega, by omega⟩, by omega⟩ ⟨⟨by omega, by omega⟩, by omega⟩ ⟨⟨by omega, by omega⟩, by omega⟩ (by omega) (by omega) wl_X1_31 ⟨by decide, (Nat.le_of_ble_eq_true rfl)⟩ dX1_copyFrom_73 ?_
  exact B_vret hf he dX1_copyFrom_76 (by decide) (by decide) rfl

set_option maxHeartbeats 4000000 in
set_option maxRecDepth 100000 in
theorem c_launch {l : Launch} {D : va_G} {K : Nat → ClassId} {ad : Adr} (hl0 : l.stackTraces = false) (g : Int) (hg : 0 ≤ g ∧ g < 11) (σ : Mem) (hR : Rng σ) (h6 : 0 ≤ σ g 1 0 ∧ σ g 1 0 < 6) (a b : Int) : Cb l D K ad yX1_launch (.code yX1_launch cX1_launch 4 (some .int)) 1 0 0 σ [.ref (ad g 1), .int (iN a), .int (iN b)] (.inl (some (.int (iN (σ g 1 0))))) (launchM σ g a b) := by
  refine Cb.of (own := RX1) (ls0 := [some (.ref (ad g 1)), some (.int (iN a)), some (.int (iN b)), none]) hl0 (by decide) rfl (Nat.le_of_ble_eq_true rfl) rfl ?_
  intro X hX1 hX2 hX3 hf he hh
  subst hX1 hX2 hX3
  refine V_aload_n hf dX1_launch_0 rfl rfl ?_
  refine B_get hf hg rfl fl_X1_9_5 rfl dX1_launch_1 ?_
  refine V_istore_n (ls2 := [_, _, _, _]) hf dX1_launch_4 rfl (by decide) rfl rfl ?_
  refine V_aload_n hf dX1_launch_5 rfl rfl ?_
  refine B_get hf hg rfl fl_X1_15_5 rfl dX1_launch_6 ?_
  refine V_iload_n hf dX1_launch_9 rfl rfl ?_
  refine V_iload_n hf dX1_launch_10 rfl rfl ?_
  refine B_iast hf hg (by decide) (fun _ => rfl) (by first | exact hR _ _ _ (by decide) | exact ⟨by omega, by omega⟩) (by omega) (by omega) dX1_launch_11 ?_
  refine V_aload_n hf dX1_launch_12 rfl rfl ?_
  refine B_get hf hg rfl fl_X1_19_5 rfl dX1_launch_13 ?_
  refine V_iload_n hf dX1_launch_16 rfl rfl ?_
  refine V_iload_n hf dX1_launch_17 rfl rfl ?_
  refine B_iast hf hg (by decide) (fun _ => rfl) (by first | exact hR _ _ _ (by decide) | exact ⟨by omega, by omega⟩) (by omega) (by omega) dX1_launch_18 ?_
  refine V_aload_n hf dX1_launch_19 rfl rfl ?_
  refine V_dup hf dX1_launch_20 rfl ?_
  refine B_get hf hg rfl fl_X1_9_5 rfl dX1_launch_21 ?_
  refine V_iconst hf dX1_launch_24 ?_
  refine V_iadd hf dX1_launch_25 ?_
  refine B_putI (kI := 0) hf rfl hg rfl fp_X1_9_5 rfl rfl (Nat.le_of_ble_eq_true rfl) (by decide) (cs_1_0 _ _ _ _ _) dX1_launch_26 ?_
  refine V_iload_n hf dX1_launch_29 rfl rfl ?_
  exact B_iret hf he rfl dX1_launch_30 (by decide) (by decide) (by first | rfl | omega | (rw [if_pos (by omega)]) | (rw [if_neg (by omega)])) rfl

set_option maxHeartbeats 4000000 in
set_option maxRecDepth 100000 in
theorem c_board {l : Launch} {D : va_G} {K : Nat → ClassId} {ad : Adr} (hl0 : l.stackTraces = false) (g : Int) (hg : 0 ≤ g ∧ g < 11) (σ : Mem) (hR : Rng σ) (h6 : 0 ≤ σ g 1 3 ∧ σ g 1 3 < 16) (a b : Int) : Cb l D K ad yX1_board (.code yX1_board cX1_board 4 (some .int)) 1 0 0 σ [.ref (ad g 1), .int (iN a), .int (iN b)] (.inl (some (.int (iN (σ g 1 3))))) (boardM σ g a b) := by
  refine Cb.of (own := RX1) (ls0 := [some (.ref (ad g 1)), some (.int (iN a)), some (.int (iN b)), none]) hl0 (by decide) rfl (Nat.le_of_ble_eq_true rfl) rfl ?_
  intro X hX1 hX2 hX3 hf he hh
  subst hX1 hX2 hX3
  refine V_aload_n hf dX1_board_0 rfl rfl ?_
  refine B_get hf hg rfl fl_X1_22_5 rfl dX1_board_1 ?_
  refine V_istore_n (ls2 := [_, _, _, _]) hf dX1_board_4 rfl (by decide) rfl rfl ?_
  refine V_aload_n hf dX1_board_5 rfl rfl ?_
  refine B_get hf hg rfl fl_X1_25_5 rfl dX1_board_6 ?_
  refine V_iload_n hf dX1_board_9 rfl rfl ?_
  refine V_iload_n hf dX1_board_10 rfl rfl ?_
  refine B_iast hf hg (by decide) (fun _ => rfl) (by first | exact hR _ _ _ (by decide) | exact ⟨by omega, by omega⟩) (by omega) (by omega) dX1_board_11 ?_
  refine V_aload_n hf dX1_board_12 rfl rfl ?_
  refine B_get hf hg rfl fl_X1_28_5 rfl dX1_board_13 ?_
  refine V_iload_n hf dX1_board_16 rfl rfl ?_
  refine V_iload_n hf dX1_board_17 rfl rfl ?_
  refine B_iast hf hg (by decide) (fun _ => rfl) (by first | exact hR _ _ _ (by decide) | exact ⟨by omega, by omega⟩) (by omega) (by omega) dX1_board_18 ?_
  refine V_aload_n hf dX1_board_19 rfl rfl ?_
  refine V_dup hf dX1_board_20 rfl ?_
  refine B_get hf hg rfl fl_X1_22_5 rfl dX1_board_21 ?_
  refine V_iconst hf dX1_board_24 ?_
  refine V_iadd hf dX1_board_25 ?_
  refine B_putI (kI := 3) hf rfl hg rfl fp_X1_22_5 rfl rfl (Nat.le_of_ble_eq_true rfl) (by decide) (cs_1_3 _ _ _ _ _) dX1_board_26 ?_
  refine V_iload_n hf dX1_board_29 rfl rfl ?_
  exact B_iret hf he rfl dX1_board_30 (by decide) (by decide) (by first | rfl | omega | (rw [if_pos (by omega)]) | (rw [if_neg (by omega)])) rfl
