/-! the books -/
noncomputable def slotI (P : Int → Prop) (n : Int) : Int := by
  classical exact if fst P n = -1 then n else fst P n
theorem slotI_no {P : Int → Prop} {n : Int} (h : ∀ k : Int, 0 ≤ k → k < n → ¬ P k) : slotI P n = n := by
  unfold slotI
  rw [if_pos (fst_no h)]
theorem slotI_yes {P : Int → Prop} {n k : Int} (h0 : 0 ≤ k) (h1 : k < n) (hk : P k) (hj : ∀ j : Int, 0 ≤ j → j < k → ¬ P j) : slotI P n = k := by
  unfold slotI
  rw [fst_yes h0 h1 hk hj, if_neg (by omega)]
def moveM (σ0 : Mem) (g : Int) (p : Nat) (f t n : Int) : Mem :=
  cpy (cpy (cpy (cpy (cpy σ0 g (p+1) f g (p+1) t n) g (p+2) f g (p+2) t n) g (p+3) f g (p+3) t n) g (p+4) f g (p+4) t n) g (p+5) f g (p+5) t n
def cpBook (σ0 : Mem) (g h : Int) (p : Nat) : Mem :=
  let σ1 := st3 σ0 g p 0 (σ0 h p 0)
  let σ2 := st3 σ1 g p 1 (σ1 h p 1)
  let σ3 := cpy σ2 h (p+1) 0 g (p+1) 0 (σ2 g p 0)
  let σ4 := cpy σ3 h (p+2) 0 g (p+2) 0 (σ3 g p 0)
  let σ5 := cpy σ4 h (p+3) 0 g (p+3) 0 (σ4 g p 0)
  let σ6 := cpy σ5 h (p+4) 0 g (p+4) 0 (σ5 g p 0)
  cpy σ6 h (p+5) 0 g (p+5) 0 (σ6 g p 0)
def enterM (σ0 : Mem) (g : Int) (p : Nat) (r o a b : Int) : Mem :=
  let σ1 := moveM σ0 g p r (r + 1) (σ0 g p 0 - r)
  let σ2 := st3 σ1 g p 0 (σ1 g p 0 + 1)
  let σ3 := st3 σ2 g (p+1) r (σ2 g p 1)
  let σ4 := st3 σ3 g (p+2) r o
  let σ5 := st3 σ4 g (p+3) r a
  let σ6 := st3 σ5 g (p+4) r b
  let σ7 := st3 σ6 g (p+5) r 0
  st3 σ7 g p 1 (σ7 g p 1 + 1)
def removeM (σ0 : Mem) (g : Int) (p : Nat) (r : Int) : Mem :=
  let σ1 := st3 σ0 g p 0 (σ0 g p 0 - 1)
  moveM σ1 g p (r + 1) r (σ1 g p 0 - r)
/-- the rows below n grow older, the last one first -/
def growR (g : Int) (p : Nat) : Nat → Mem → Int → Mem × Int
  | 0, σ, e => (σ, e)
  | n + 1, σ, e =>
    let σ1 := st3 σ g (p+5) (n : Int) (σ g (p+5) (n : Int) + 1)
    if σ1 g (p+5) (n : Int) ≥ 3 then growR g p n (removeM σ1 g p (n : Int)) (e + 1) else growR g p n σ1 e
def ownF (μ : MM) (p : Nat) (s : Int) : Int → Int := fun k => if μ (p+2) k = s then 1 else 0
def psF (μ : MM) (p : Nat) (s : Int) : Int → Int := fun k => if μ (p+2) k = s then μ (p+4) k else 0
def countB (μ : MM) (p : Nat) (s : Int) : Int := sumI (ownF μ p s) (μ p 0)
def psumB (μ : MM) (p : Nat) (s : Int) : Int := sumI (psF μ p s) (μ p 0)
noncomputable def rowId (μ : MM) (p : Nat) (i : Int) : Int := fst (fun k => μ (p+1) k = i) (μ p 0)
noncomputable def rowOwn (μ : MM) (p : Nat) (i : Int) : Int := fst (fun k => μ (p+2) k = i) (μ p 0)
abbrev caB (μ : MM) (_a b r : Int) : Prop := b > μ 10 r
abbrev caO (μ : MM) (a b r : Int) : Prop := b < μ 16 r ∨ (b = μ 16 r ∧ a > μ 15 r)
theorem rowOwn_r (μ : MM) (p : Nat) (i : Int) : -1 ≤ rowOwn μ p i ∧ (rowOwn μ p i < μ p 0 ∨ rowOwn μ p i = -1) := by
  have h := fst_cases (fun k => μ (p+2) k = i) (μ p 0)
  change (rowOwn μ p i = -1 ∧ _) ∨ (0 ≤ rowOwn μ p i ∧ rowOwn μ p i < μ p 0 ∧ _) at h
  omega
theorem rowId_r (μ : MM) (p : Nat) (i : Int) : -1 ≤ rowId μ p i ∧ (rowId μ p i < μ p 0 ∨ rowId μ p i = -1) := by
  have h := fst_cases (fun k => μ (p+1) k = i) (μ p 0)
  change (rowId μ p i = -1 ∧ _) ∨ (0 ≤ rowId μ p i ∧ rowId μ p i < μ p 0 ∧ _) at h
  omega
theorem moveM_0 {σ : Mem} {g g' : Int} {p : Nat} {f t n k : Int} : moveM σ g p f t n g' p k = σ g' p k := by
  simp [moveM, cpy]
theorem Rng.move {σ : Mem} (h : Rng σ) {g : Int} {p : Nat} (hp : p < 46) {f t n : Int} : Rng (moveM σ g p f t n) := ((((h.cpy (by omega)).cpy (by omega)).cpy (by omega)).cpy (by omega)).cpy (by omega)
theorem removeM_0 {σ : Mem} {g : Int} {p : Nat} {r : Int} : removeM σ g p r g p 0 = σ g p 0 - 1 := by
  simp [removeM, moveM_0, st3_self]
theorem removeM_5 {σ : Mem} {g : Int} {p : Nat} {r k : Int} (h : k < r) : removeM σ g p r g (p+5) k = σ g (p+5) k := by
  simp only [removeM, moveM, cpy, st3]
  simp
  intro h2
  omega
theorem Rng.remove {σ : Mem} (h : Rng σ) {g : Int} {p : Nat} (hp : p < 46) {r : Int} (h0 : 0 ≤ σ g p 0) : Rng (removeM σ g p r) := (h.st (by have := h g p 0 (by omega); exact ⟨by omega, by omega⟩)).move hp
set_option maxHeartbeats 4000000 in
set_option maxRecDepth 100000 in
theorem c_caB {l : Launch} {D : va_G} {K : Nat → ClassId} {ad : Adr} (hl0 : l.stackTraces = false) (g : Int) (hg : 0 ≤ g ∧ g < 11) (σ : Mem) (hR : Rng σ) (a b r : Int) (ha : inR a) (hb : inR b) (hr : 0 ≤ r ∧ r < 10) : Cb l D K ad yX0_comesAhead (.code yX0_comesAhead cX0_comesAhead 4 (some .boolean)) 1 0 0 σ [.ref (ad g 6), .int (iN a), .int (iN b), .int (iN r)] (.inl (some (.int (iN (if caB (σ g) a b r then 1 else 0))))) σ := by
  refine Cb.of (own := RX0) (ls0 := [some (.ref (ad g 6)), some (.int (iN a)), some (.int (iN b)), some (.int (iN r))]) hl0 (by decide) rfl (Nat.le_of_ble_eq_true rfl) rfl ?_
  intro X hX1 hX2 hX3 hf he hh
  subst hX1 hX2 hX3
  refine V_iload_n hf dX0_comesAhead_0 rfl rfl ?_
  refine V_aload_n hf dX0_comesAhead_1 rfl rfl ?_
  refine B_get hf hg rfl fl_X0_9_4 rfl dX0_comesAhead_2 ?_
  refine V_iload_n hf dX0_comesAhead_5 rfl rfl ?_
  refine B_iald hf hg (fun _ => rfl) (by first | exact hR _ _ _ (by decide) | exact ⟨by omega, by omega⟩) (by omega) (by omega) dX0_comesAhead_6 ?_
  refine V_icmp_le (tgt := 14) hf (by first | exact hR _ _ _ (by decide) | exact ⟨by omega, by omega⟩) (by first | exact hR _ _ _ (by decide) | exact ⟨by omega, by omega⟩) dX0_comesAhead_7 (by decide) (fun h7 => ?_) (fun h7 => ?_)
  · refine V_iconst hf dX0_comesAhead_14 ?_
    exact B_iret hf he (nar_b _) dX0_comesAhead_15 (by decide) (by decide) (by first | rw [if_pos (by show _ ∨ _; omega)] | rw [if_neg (by show ¬ (_ ∨ _); omega)] | rw [if_pos (by show _ > _; omega)] | rw [if_neg (by show ¬ _ > _; omega)]) rfl
  · refine V_iconst hf dX0_comesAhead_10 ?_
    refine V_goto (tgt := 15) hf dX0_comesAhead_11 (by decide) ?_
    exact B_iret hf he (nar_b _) dX0_comesAhead_15 (by decide) (by decide) (by first | rw [if_pos (by show _ ∨ _; omega)] | rw [if_neg (by show ¬ (_ ∨ _); omega)] | rw [if_pos (by show _ > _; omega)] | rw [if_neg (by show ¬ _ > _; omega)]) rfl

set_option maxHeartbeats 4000000 in
set_option maxRecDepth 100000 in
theorem c_moveB {l : Launch} {D : va_G} {K : Nat → ClassId} {ad : Adr} (hl0 : l.stackTraces = false) (g : Int) (hg : 0 ≤ g ∧ g < 11) (σ : Mem) (hR : Rng σ) (f t n : Int) (hf0 : inR f ∧ 0 ≤ f) (ht0 : inR t ∧ 0 ≤ t) (hn0 : inR n ∧ 0 ≤ n) (h1 : f + n ≤ 10) (h2 : t + n ≤ 10) : Cb l D K ad yX5_moveRows (.code yX5_moveRows cX5_moveRows 4 none) 1 0 0 σ [.ref (ad g 6), .int (iN f), .int (iN t), .int (iN n)] (.inl none) (moveM σ g 6 f t n) := by
  refine Cb.of (own := RX5) (ls0 := [some (.ref (ad g 6)), some (.int (iN f)), some (.int (iN t)), some (.int (iN n))]) hl0 (by decide) rfl (Nat.le_of_ble_eq_true rfl) rfl ?_
  intro X hX1 hX2 hX3 hf he hh
  subst hX1 hX2 hX3
  refine V_aload_n hf dX5_moveRows_0 rfl rfl ?_
  refine B_get hf hg rfl fl_X5_18_4 rfl dX5_moveRows_1 ?_
  refine V_iload_n hf dX5_moveRows_4 rfl rfl ?_
  refine V_aload_n hf dX5_moveRows_5 rfl rfl ?_
  refine B_get hf hg rfl fl_X5_18_4 rfl dX5_moveRows_6 ?_
  refine V_iload_n hf dX5_moveRows_9 rfl rfl ?_
  refine V_iload_n hf dX5_moveRows_10 rfl rfl ?_
  refine B_copyi hf hg hg (by decide) (fun _ => rfl) (fun _ => rfl) hf0 ht0 hn0 (by omega) (by omega) wl_X5_34 ⟨by decide, (Nat.le_of_ble_eq_true rfl)⟩ dX5_moveRows_11 ?_
  refine V_aload_n hf dX5_moveRows_14 rfl rfl ?_
  refine B_get hf hg rfl fl_X5_22_4 rfl dX5_moveRows_15 ?_
  refine V_iload_n hf dX5_moveRows_18 rfl rfl ?_
  refine V_aload_n hf dX5_moveRows_19 rfl rfl ?_
  refine B_get hf hg rfl fl_X5_22_4 rfl dX5_moveRows_20 ?_
  refine V_iload_n hf dX5_moveRows_23 rfl rfl ?_
  refine V_iload_n hf dX5_moveRows_24 rfl rfl ?_
  refine B_copyi hf hg hg (by decide) (fun _ => rfl) (fun _ => rfl) hf0 ht0 hn0 (by omega) (by omega) wl_X5_34 ⟨by decide, (Nat.le_of_ble_eq_true rfl)⟩ dX5_moveRows_25 ?_
  refine V_aload_n hf dX5_moveRows_28 rfl rfl ?_
  refine B_get hf hg rfl fl_X5_25_4 rfl dX5_moveRows_29 ?_
  refine V_iload_n hf dX5_moveRows_32 rfl rfl ?_
  refine V_aload_n hf dX5_moveRows_33 rfl rfl ?_
  refine B_get hf hg rfl fl_X5_25_4 rfl dX5_moveRows_34 ?_
  refine V_iload_n hf dX5_moveRows_37 rfl rfl ?_
  refine V_iload_n hf dX5_moveRows_38 rfl rfl ?_
  refine B_copyi hf hg hg (by decide) (fun _ => rfl) (fun _ => rfl) hf0 ht0 hn0 (by omega) (by omega) wl_X5_34 ⟨by decide, (Nat.le_of_ble_eq_true rfl)⟩ dX5_moveRows_39 ?_
  refine V_aload_n hf dX5_moveRows_42 rfl rfl ?_
  refine B_get hf hg rfl fl_X5_28_4 rfl dX5_moveRows_43 ?_
  refine V_iload_n hf dX5_moveRows_46 rfl rfl ?_
  refine V_aload_n hf dX5_moveRows_47 rfl rfl ?_
  refine B_get hf hg rfl fl_X5_28_4 rfl dX5_moveRows_48 ?_
  refine V_iload_n hf dX5_moveRows_51 rfl rfl ?_
  refine V_iload_n hf dX5_moveRows_52 rfl rfl ?_
  refine B_copyi hf hg hg (by decide) (fun _ => rfl) (fun _ => rfl) hf0 ht0 hn0 (by omega) (by omega) wl_X5_34 ⟨by decide, (Nat.le_of_ble_eq_true rfl)⟩ dX5_moveRows_53 ?_
  refine V_aload_n hf dX5_moveRows_56 rfl rfl ?_
  refine B_get hf hg rfl fl_X5_31_4 rfl dX5_moveRows_57 ?_
  refine V_iload_n hf dX5_moveRows_60 rfl rfl ?_
  refine V_aload_n hf dX5_moveRows_61 rfl rfl ?_
  refine B_get hf hg rfl fl_X5_31_4 rfl dX5_moveRows_62 ?_
  refine V_iload_n hf dX5_moveRows_65 rfl rfl ?_
  refine V_iload_n hf dX5_moveRows_66 rfl rfl ?_
  refine B_copyi hf hg hg (by decide) (fun _ => rfl) (fun _ => rfl) hf0 ht0 hn0 (by omega) (by omega) wl_X5_34 ⟨by decide, (Nat.le_of_ble_eq_true rfl)⟩ dX5_moveRows_67 ?_
  exact B_vret hf he dX5_moveRows_70 (by decide) (by decide) rfl

set_option maxHeartbeats 4000000 in
set_option maxRecDepth 100000 in
theorem c_copyB {l : Launch} {D : va_G} {K : Nat → ClassId} {ad : Adr} (hl0 : l.stackTraces = false) (g : Int) (hg : 0 ≤ g ∧ g < 11) (σ : Mem) (hR : Rng σ) (h : Int) (hh9 : 0 ≤ h ∧ h < 11) (hn0 : 0 ≤ σ h 6 0 ∧ σ h 6 0 ≤ 10) : Cb l D K ad yX5_copyFrom (.code yX5_copyFrom cX5_copyFrom 2 none) 1 0 0 σ [.ref (ad g 6), .ref (ad h 6)] (.inl none) (cpBook σ g h 6) := by
  refine Cb.of (own := RX5) (ls0 := [some (.ref (ad g 6)), some (.ref (ad h 6))]) hl0 (by decide) rfl (Nat.le_of_ble_eq_true rfl) rfl ?_
  intro X hX1 hX2 hX3 hf he hh
  subst hX1 hX2 hX3
  refine V_aload_n hf dX5_copyFrom_0 rfl rfl ?_
  refine V_aload_n hf dX5_copyFrom_1 rfl rfl ?_
  refine B_get hf hh9 rfl fl_X5_9_4 rfl dX5_copyFrom_2 ?_
  refine B_putI (kI := 0) hf rfl hg rfl fp_X5_9_4 rfl rfl (Nat.le_of_ble_eq_true rfl) (by decide) (cs_6_0 _ _ _ _ _) dX5_copyFrom_5 ?_
  refine V_aload_n hf dX5_copyFrom_8 rfl rfl ?_
  refine V_aload_n hf dX5_copyFrom_9 rfl rfl ?_
  refine B_get hf hh9 rfl fl_X5_15_4 rfl dX5_copyFrom_10 ?_
  refine B_putI (kI := 1) hf rfl hg rfl fp_X5_15_4 rfl rfl (Nat.le_of_ble_eq_true rfl) (by decide) (cs_6_1 _ _ _ _ _) dX5_copyFrom_13 ?_
  refine V_aload_n hf dX5_copyFrom_16 rfl rfl ?_
  refine B_get hf hh9 rfl fl_X5_18_4 rfl dX5_copyFrom_17 ?_
  refine V_iconst hf dX5_copyFrom_20 ?_
  refine V_aload_n hf dX5_copyFrom_21 rfl rfl ?_
  refine B_get hf hg rfl fl_X5_18_4 rfl dX5_copyFrom_22 ?_
  refine V_iconst hf dX5_copyFrom_25 ?_
  refine V_aload_n hf dX5_copyFrom_26 rfl rfl ?_
  refine B_get hf hg rfl fl_X5_9_4 rfl dX5_copyFrom_27 ?_
  refine B_copyi hf hh9 hg (by decide) (fun _ => rfl) (fun _ => rfl) ⟨⟨by omega, by omega⟩, by omega⟩ ⟨⟨by omega, by omega⟩, by omega⟩ ⟨by simp [cpy, st3, inR]; omega, by simp [cpy, st3]; omega⟩ (by simp [cpy, st3]; omega) (by simp [cpy, st3]; omega) wl_X5_34 ⟨by decide, (Nat.le_of_ble_eq_true rfl)⟩ dX5_copyFrom_30 ?_
  refine V_aload_n hf dX5_copyFrom_33 rfl rfl ?_
  refine B_get hf hh9 rfl fl_X5_22_4 rfl dX5_copyFrom_34 ?_
  refine V_iconst hf dX5_copyFrom_37 ?_
  refine V_aload_n hf dX5_copyFrom_38 rfl rfl ?_
  refine B_get hf hg rfl fl_X5_22_4 rfl dX5_copyFrom_39 ?_
  refine V_iconst hf dX5_copyFrom_42 ?_
  refine V_aload_n hf dX5_copyFrom_43 rfl rfl ?_
  refine B_get hf hg rfl fl_X5_9_4 rfl dX5_copyFrom_44 ?_
  refine B_copyi hf hh9 hg (by decide) (fun _ => rfl) (fun _ => rfl) ⟨⟨by omega, by omega⟩, by omega⟩ ⟨⟨by omega, by omega⟩, by omega⟩ ⟨by simp [cpy, st3, inR]; omega, by simp [cpy, st3]; omega⟩ (by simp [cpy, st3]; omega) (by simp [cpy, st3]; omega) wl_X5_34 ⟨by decide, (Nat.le_of_ble_eq_true rfl)⟩ dX5_copyFrom_47 ?_
  refine V_aload_n hf dX5_copyFrom_50 rfl rfl ?_
  refine B_get hf hh9 rfl fl_X5_25_4 rfl dX5_copyFrom_51 ?_
  refine V_iconst hf dX5_copyFrom_54 ?_
  refine V_aload_n hf dX5_copyFrom_55 rfl rfl ?_
  refine B_get hf hg rfl fl_X5_25_4 rfl dX5_copyFrom_56 ?_
  refine V_iconst hf dX5_copyFrom_59 ?_
  refine V_aload_n hf dX5_copyFrom_60 rfl rfl ?_
  refine B_get hf hg rfl fl_X5_9_4 rfl dX5_copyFrom_61 ?_
  refine B_copyi hf hh9 hg (by decide) (fun _ => rfl) (fun _ => rfl) ⟨⟨by omega, by omega⟩, by omega⟩ ⟨⟨by omega, by omega⟩, by omega⟩ ⟨by simp [cpy, st3, inR]; omega, by simp [cpy, st3]; omega⟩ (by simp [cpy, st3]; omega) (by simp [cpy, st3]; omega) wl_X5_34 ⟨by decide, (Nat.le_of_ble_eq_true rfl)⟩ dX5_copyFrom_64 ?_
  refine V_aload_n hf dX5_copyFrom_67 rfl rfl ?_
  refine B_get hf hh9 rfl fl_X5_28_4 rfl dX5_copyFrom_68 ?_
  refine V_iconst hf dX5_copyFrom_71 ?_
  refine V_aload_n hf dX5_copyFrom_72 rfl rfl ?_
  refine B_get hf hg rfl fl_X5_28_4 rfl dX5_copyFrom_73 ?_
  refine V_iconst hf dX5_copyFrom_76 ?_
  refine V_aload_n hf dX5_copyFrom_77 rfl rfl ?_
  refine B_get hf hg rfl fl_X5_9_4 rfl dX5_copyFrom_78 ?_
  refine B_copyi hf hh9 hg (by decide) (fun _ => rfl) (fun _ => rfl) ⟨⟨by omega, by omega⟩, by omega⟩ ⟨⟨by omega, by omega⟩, by omega⟩ ⟨by simp [cpy, st3, inR]; omega, by simp [cpy, st3]; omega⟩ (by simp [cpy, st3]; omega) (by simp [cpy, st3]; omega) wl_X5_34 ⟨by decide, (Nat.le_of_ble_eq_true rfl)⟩ dX5_copyFrom_81 ?_
  refine V_aload_n hf dX5_copyFrom_84 rfl rfl ?_
  refine B_get hf hh9 rfl fl_X5_31_4 rfl dX5_copyFrom_85 ?_
  refine V_iconst hf dX5_copyFrom_88 ?_
  refine V_aload_n hf dX5_copyFrom_89 rfl rfl ?_
  refine B_get hf hg rfl fl_X5_31_4 rfl dX5_copyFrom_90 ?_
  refine V_iconst hf dX5_copyFrom_93 ?_
  refine V_aload_n hf dX5_copyFrom_94 rfl rfl ?_
  refine B_get hf hg rfl fl_X5_9_4 rfl dX5_copyFrom_95 ?_
  refine B_copyi hf hh9 hg (by decide) (fun _ => rfl) (fun _ => rfl) ⟨⟨by omega, by omega⟩, by omega⟩ ⟨⟨by omega, by omega⟩, by omega⟩ ⟨by simp [cpy, st3, inR]; omega, by simp [cpy, st3]; omega⟩ (by simp [cpy, st3]; omega) (by simp [cpy, st3]; omega) wl_X5_34 ⟨by decide, (Nat.le_of_ble_eq_true rfl)⟩ dX5_copyFrom_98 ?_
  exact B_vret hf he dX5_copyFrom_101 (by decide) (by decide) rfl

set_option maxHeartbeats 4000000 in
set_option maxRecDepth 100000 in
theorem c_rowIdB {l : Launch} {D : va_G} {K : Nat → ClassId} {ad : Adr} (hl0 : l.stackTraces = false) (g : Int) (hg : 0 ≤ g ∧ g < 11) (σ : Mem) (hR : Rng σ) (hn0 : 0 ≤ σ g 6 0 ∧ σ g 6 0 ≤ 10) (i : Int) (hi : inR i) : Cb l D K ad yX5_rowWithId (.code yX5_rowWithId cX5_rowWithId 3 (some .int)) 1 0 0 σ [.ref (ad g 6), .int (iN i)] (.inl (some (.int (iN (rowId (σ g) 6 i))))) σ := by
  refine Cb.of (own := RX5) (ls0 := [some (.ref (ad g 6)), some (.int (iN i)), none]) hl0 (by decide) rfl (Nat.le_of_ble_eq_true rfl) rfl ?_
  intro X hX1 hX2 hX3 hf he hh
  subst hX1 hX2 hX3
  have loop : ∀ (n : Nat) (k : Int), 0 ≤ k → k ≤ σ g 6 0 → (∀ j : Int, 0 ≤ j → j < k → ¬ (fun k => σ g 7 k = i) j) → (σ g 6 0 - k).toNat < n → B X ad σ 2 [some (.ref (ad g 6)), some (.int (iN (i))), some (.int (iN (k)))] [] 0 0 := by
    intro n
    induction n with
    | zero => intros; omega
    | succ n ih =>
      intro k hk0 hk1 hno hn
      refine V_iload_n hf dX5_rowWithId_2 rfl rfl ?_
      refine V_aload_n hf dX5_rowWithId_3 rfl rfl ?_
      refine B_get hf hg rfl fl_X5_9_4 rfl dX5_rowWithId_4 ?_
      refine V_icmp_ge (tgt := 28) hf (by first | exact hR _ _ _ (by decide) | exact ⟨by omega, by omega⟩) (by first | exact hR _ _ _ (by decide) | exact ⟨by omega, by omega⟩) dX5_rowWithId_7 (by decide) (fun h7 => ?_) (fun h7 => ?_)
      · refine V_iconst hf dX5_rowWithId_28 ?_
        exact B_iret hf he rfl dX5_rowWithId_29 (by decide) (by decide) (fst_no (fun j h0 h1 => hno j h0 (by omega))).symm rfl
      · refine V_aload_n hf dX5_rowWithId_10 rfl rfl ?_
        refine B_get hf hg rfl fl_X5_18_4 rfl dX5_rowWithId_11 ?_
        refine V_iload_n hf dX5_rowWithId_14 rfl rfl ?_
        refine B_iald hf hg (fun _ => rfl) (by first | exact hR _ _ _ (by decide) | exact ⟨by omega, by omega⟩) (by omega) (by omega) dX5_rowWithId_15 ?_
        refine V_iload_n hf dX5_rowWithId_16 rfl rfl ?_
        refine V_icmp_ne (tgt := 22) hf (by first | exact hR _ _ _ (by decide) | exact ⟨by omega, by omega⟩) (by first | exact hR _ _ _ (by decide) | exact ⟨by omega, by omega⟩) dX5_rowWithId_17 (by decide) (fun h17 => ?_) (fun h17 => ?_)
        · refine V_iinc (ls2 := [_, _, _]) hf dX5_rowWithId_22 (by decide) rfl rfl rfl ?_
          refine V_goto (tgt := 2) hf dX5_rowWithId_25 (by decide) ?_
          refine ih (k + 1) (by omega) (by omega) (fun j h0 h1 => ?_) (by omega)
          by_cases hj : j = k
          · subst hj
            intro hp
            first | exact absurd hp.1 (by omega) | exact absurd hp.2 (by omega) | exact absurd hp (by omega)
          · exact hno j h0 (by omega)
        · refine V_iload_n hf dX5_rowWithId_20 rfl rfl ?_
          exact B_iret hf he rfl dX5_rowWithId_21 (by decide) (by decide) (fst_yes hk0 (by omega) (by omega) hno).symm rfl
  refine V_iconst hf dX5_rowWithId_0 ?_
  refine V_istore_n (ls2 := [_, _, _]) hf dX5_rowWithId_1 rfl (by decide) rfl rfl ?_
  exact loop ((σ g 6 0).toNat + 1) 0 (by omega) (by omega) (fun j h0 h1 => by omega) (by omega)

set_option maxHeartbeats 4000000 in
set_option maxRecDepth 100000 in
theorem c_rowOwnB {l : Launch} {D : va_G} {K : Nat → ClassId} {ad : Adr} (hl0 : l.stackTraces = false) (g : Int) (hg : 0 ≤ g ∧ g < 11) (σ : Mem) (hR : Rng σ) (hn0 : 0 ≤ σ g 6 0 ∧ σ g 6 0 ≤ 10) (i : Int) (hi : inR i) : Cb l D K ad yX5_firstRowOf (.code yX5_firstRowOf cX5_firstRowOf 3 (some .int)) 1 0 0 σ [.ref (ad g 6), .int (iN i)] (.inl (some (.int (iN (rowOwn (σ g) 6 i))))) σ := by
  refine Cb.of (own := RX5) (ls0 := [some (.ref (ad g 6)), some (.int (iN i)), none]) hl0 (by decide) rfl (Nat.le_of_ble_eq_true rfl) rfl ?_
  intro X hX1 hX2 hX3 hf he hh
  subst hX1 hX2 hX3
  have loop : ∀ (n : Nat) (k : Int), 0 ≤ k → k ≤ σ g 6 0 → (∀ j : Int, 0 ≤ j → j < k → ¬ (fun k => σ g 8 k = i) j) → (σ g 6 0 - k).toNat < n → B X ad σ 2 [some (.ref (ad g 6)), some (.int (iN (i))), some (.int (iN (k)))] [] 0 0 := by
    intro n
    induction n with
    | zero => intros; omega
    | succ n ih =>
      intro k hk0 hk1 hno hn
      refine V_iload_n hf dX5_firstRowOf_2 rfl rfl ?_
      refine V_aload_n hf dX5_firstRowOf_3 rfl rfl ?_
      refine B_get hf hg rfl fl_X5_9_4 rfl dX5_firstRowOf_4 ?_
      refine V_icmp_ge (tgt := 28) hf (by first | exact hR _ _ _ (by decide) | exact ⟨by omega, by omega⟩) (by first | exact hR _ _ _ (by decide) | exact ⟨by omega, by omega⟩) dX5_firstRowOf_7 (by decide) (fun h7 => ?_) (fun h7 => ?_)
      · refine V_iconst hf dX5_firstRowOf_28 ?_
        exact B_iret hf he rfl dX5_firstRowOf_29 (by decide) (by decide) (fst_no (fun j h0 h1 => hno j h0 (by omega))).symm rfl
      · refine V_aload_n hf dX5_firstRowOf_10 rfl rfl ?_
        refine B_get hf hg rfl fl_X5_22_4 rfl dX5_firstRowOf_11 ?_
        refine V_iload_n hf dX5_firstRowOf_14 rfl rfl ?_
        refine B_iald hf hg (fun _ => rfl) (by first | exact hR _ _ _ (by decide) | exact ⟨by omega, by omega⟩) (by omega) (by omega) dX5_firstRowOf_15 ?_
        refine V_iload_n hf dX5_firstRowOf_16 rfl rfl ?_
        refine V_icmp_ne (tgt := 22) hf (by first | exact hR _ _ _ (by decide) | exact ⟨by omega, by omega⟩) (by first | exact hR _ _ _ (by decide) | exact ⟨by omega, by omega⟩) dX5_firstRowOf_17 (by decide) (fun h17 => ?_) (fun h17 => ?_)
        · refine V_iinc (ls2 := [_, _, _]) hf dX5_firstRowOf_22 (by decide) rfl rfl rfl ?_
          refine V_goto (tgt := 2) hf dX5_firstRowOf_25 (by decide) ?_
          refine ih (k + 1) (by omega) (by omega) (fun j h0 h1 => ?_) (by omega)
          by_cases hj : j = k
          · subst hj
            intro hp
            first | exact absurd hp.1 (by omega) | exact absurd hp.2 (by omega) | exact absurd hp (by omega)
          · exact hno j h0 (by omega)
        · refine V_iload_n hf dX5_firstRowOf_20 rfl rfl ?_
          exact B_iret hf he rfl dX5_firstRowOf_21 (by decide) (by decide) (fst_yes hk0 (by omega) (by omega) hno).symm rfl
  refine V_iconst hf dX5_firstRowOf_0 ?_
  refine V_istore_n (ls2 := [_, _, _]) hf dX5_firstRowOf_1 rfl (by decide) rfl rfl ?_
  exact loop ((σ g 6 0).toNat + 1) 0 (by omega) (by omega) (fun j h0 h1 => by omega) (by omega)

set_option maxHeartbeats 4000000 in
set_option maxRecDepth 100000 in
theorem c_countB {l : Launch} {D : va_G} {K : Nat → ClassId} {ad : Adr} (hl0 : l.stackTraces = false) (g : Int) (hg : 0 ≤ g ∧ g < 11) (σ : Mem) (hR : Rng σ) (hn0 : 0 ≤ σ g 6 0 ∧ σ g 6 0 ≤ 10) (s : Int) (hs : inR s) : Cb l D K ad yX5_countOf (.code yX5_countOf cX5_countOf 4 (some .int)) 1 0 0 σ [.ref (ad g 6), .int (iN s)] (.inl (some (.int (iN (countB (σ g) 6 s))))) σ := by
  refine Cb.of (own := RX5) (ls0 := [some (.ref (ad g 6)), some (.int (iN s)), none, none]) hl0 (by decide) rfl (Nat.le_of_ble_eq_true rfl) rfl ?_
  intro X hX1 hX2 hX3 hf he hh
  subst hX1 hX2 hX3
  have loop : ∀ (n : Nat) (k : Int), 0 ≤ k → k ≤ σ g 6 0 → (σ g 6 0 - k).toNat < n → B X ad σ 4 [some (.ref (ad g 6)), some (.int (iN (s))), some (.int (iN (sumI (ownF (σ g) 6 s) k))), some (.int (iN (k)))] [] 0 0 := by
    intro n
    induction n with
    | zero => intros; omega
    | succ n ih =>
      intro k hk0 hk1 hn
      refine V_iload_n hf dX5_countOf_4 rfl rfl ?_
      refine V_aload_n hf dX5_countOf_5 rfl rfl ?_
      refine B_get hf hg rfl fl_X5_9_4 rfl dX5_countOf_6 ?_
      refine V_icmp_ge (tgt := 31) hf (by first | exact hR _ _ _ (by decide) | exact ⟨by omega, by omega⟩) (by first | exact hR _ _ _ (by decide) | exact ⟨by omega, by omega⟩) dX5_countOf_9 (by decide) (fun h9 => ?_) (fun h9 => ?_)
      · refine V_iload_n hf dX5_countOf_31 rfl rfl ?_
        exact B_iret hf he rfl dX5_countOf_32 (by decide) (by decide) (by rw [show k = σ g 6 0 by omega]; rfl) rfl
      · refine V_aload_n hf dX5_countOf_12 rfl rfl ?_
        refine B_get hf hg rfl fl_X5_22_4 rfl dX5_countOf_13 ?_
        refine V_iload_n hf dX5_countOf_16 rfl rfl ?_
        refine B_iald hf hg (fun _ => rfl) (by first | exact hR _ _ _ (by decide) | exact ⟨by omega, by omega⟩) (by omega) (by omega) dX5_countOf_17 ?_
        refine V_iload_n hf dX5_countOf_18 rfl rfl ?_
        refine V_icmp_ne (tgt := 25) hf (by first | exact hR _ _ _ (by decide) | exact ⟨by omega, by omega⟩) (by first | exact hR _ _ _ (by decide) | exact ⟨by omega, by omega⟩) dX5_countOf_19 (by decide) (fun h19 => ?_) (fun h19 => ?_)
        · refine V_iinc (ls2 := [_, _, _, _]) hf dX5_countOf_25 (by decide) rfl rfl rfl ?_
          refine V_goto (tgt := 4) hf dX5_countOf_28 (by decide) ?_
          have bk := ih (k + 1) (by omega) (by omega) (by omega)
          rw [sumI_s (ownF (σ g) 6 s) hk0] at bk
          first | (rw [show ownF (σ g) 6 s k = 1 from if_pos (by omega)] at bk; exact bk) | (rw [show ownF (σ g) 6 s k = 0 from if_neg (by omega), Int.add_zero] at bk; exact bk)
        · refine V_iinc (ls2 := [_, _, _, _]) hf dX5_countOf_22 (by decide) rfl rfl rfl ?_
          refine V_iinc (ls2 := [_, _, _, _]) hf dX5_countOf_25 (by decide) rfl rfl rfl ?_
          refine V_goto (tgt := 4) hf dX5_countOf_28 (by decide) ?_
          have bk := ih (k + 1) (by omega) (by omega) (by omega)
          rw [sumI_s (ownF (σ g) 6 s) hk0] at bk
          first | (rw [show ownF (σ g) 6 s k = 1 from if_pos (by omega)] at bk; exact bk) | (rw [show ownF (σ g) 6 s k = 0 from if_neg (by omega), Int.add_zero] at bk; exact bk)
  refine V_iconst hf dX5_countOf_0 ?_
  refine V_istore_n (ls2 := [_, _, _, _]) hf dX5_countOf_1 rfl (by decide) rfl rfl ?_
  refine V_iconst hf dX5_countOf_2 ?_
  refine V_istore_n (ls2 := [_, _, _, _]) hf dX5_countOf_3 rfl (by decide) rfl rfl ?_
  exact loop ((σ g 6 0).toNat + 1) 0 (by omega) (by omega) (by omega)

set_option maxHeartbeats 4000000 in
set_option maxRecDepth 100000 in
theorem c_psumB {l : Launch} {D : va_G} {K : Nat → ClassId} {ad : Adr} (hl0 : l.stackTraces = false) (g : Int) (hg : 0 ≤ g ∧ g < 11) (σ : Mem) (hR : Rng σ) (hn0 : 0 ≤ σ g 6 0 ∧ σ g 6 0 ≤ 10) (s : Int) (hs : inR s) : Cb l D K ad yX5_priceSumOf (.code yX5_priceSumOf cX5_priceSumOf 4 (some .int)) 1 0 0 σ [.ref (ad g 6), .int (iN s)] (.inl (some (.int (iN (psumB (σ g) 6 s))))) σ := by
  refine Cb.of (own := RX5) (ls0 := [some (.ref (ad g 6)), some (.int (iN s)), none, none]) hl0 (by decide) rfl (Nat.le_of_ble_eq_true rfl) rfl ?_
  intro X hX1 hX2 hX3 hf he hh
  subst hX1 hX2 hX3
  have loop : ∀ (n : Nat) (k : Int), 0 ≤ k → k ≤ σ g 6 0 → (σ g 6 0 - k).toNat < n → B X ad σ 4 [some (.ref (ad g 6)), some (.int (iN (s))), some (.int (iN (sumI (psF (σ g) 6 s) k))), some (.int (iN (k)))] [] 0 0 := by
    intro n
    induction n with
    | zero => intros; omega
    | succ n ih =>
      intro k hk0 hk1 hn
      refine V_iload_n hf dX5_priceSumOf_4 rfl rfl ?_
      refine V_aload_n hf dX5_priceSumOf_5 rfl rfl ?_
      refine B_get hf hg rfl fl_X5_9_4 rfl dX5_priceSumOf_6 ?_
      refine V_icmp_ge (tgt := 37) hf (by first | exact hR _ _ _ (by decide) | exact ⟨by omega, by omega⟩) (by first | exact hR _ _ _ (by decide) | exact ⟨by omega, by omega⟩) dX5_priceSumOf_9 (by decide) (fun h9 => ?_) (fun h9 => ?_)
      · refine V_iload_n hf dX5_priceSumOf_37 rfl rfl ?_
        exact B_iret hf he rfl dX5_priceSumOf_38 (by decide) (by decide) (by rw [show k = σ g 6 0 by omega]; rfl) rfl
      · refine V_aload_n hf dX5_priceSumOf_12 rfl rfl ?_
        refine B_get hf hg rfl fl_X5_22_4 rfl dX5_priceSumOf_13 ?_
        refine V_iload_n hf dX5_priceSumOf_16 rfl rfl ?_
        refine B_iald hf hg (fun _ => rfl) (by first | exact hR _ _ _ (by decide) | exact ⟨by omega, by omega⟩) (by omega) (by omega) dX5_priceSumOf_17 ?_
        refine V_iload_n hf dX5_priceSumOf_18 rfl rfl ?_
        refine V_icmp_ne (tgt := 31) hf (by first | exact hR _ _ _ (by decide) | exact ⟨by omega, by omega⟩) (by first | exact hR _ _ _ (by decide) | exact ⟨by omega, by omega⟩) dX5_priceSumOf_19 (by decide) (fun h19 => ?_) (fun h19 => ?_)
        · refine V_iinc (ls2 := [_, _, _, _]) hf dX5_priceSumOf_31 (by decide) rfl rfl rfl ?_
          refine V_goto (tgt := 4) hf dX5_priceSumOf_34 (by decide) ?_
          have bk := ih (k + 1) (by omega) (by omega) (by omega)
          rw [sumI_s (psF (σ g) 6 s) hk0] at bk
          first | (rw [show psF (σ g) 6 s k = σ g 10 k from if_pos (by omega)] at bk; exact bk) | (rw [show psF (σ g) 6 s k = 0 from if_neg (by omega), Int.add_zero] at bk; exact bk)
        · refine V_iload_n hf dX5_priceSumOf_22 rfl rfl ?_
          refine V_aload_n hf dX5_priceSumOf_23 rfl rfl ?_
          refine B_get hf hg rfl fl_X5_28_4 rfl dX5_priceSumOf_24 ?_
          refine V_iload_n hf dX5_priceSumOf_27 rfl rfl ?_
          refine B_iald hf hg (fun _ => rfl) (by first | exact hR _ _ _ (by decide) | exact ⟨by omega, by omega⟩) (by omega) (by omega) dX5_priceSumOf_28 ?_
          refine V_iadd hf dX5_priceSumOf_29 ?_
          refine V_istore_n (ls2 := [_, _, _, _]) hf dX5_priceSumOf_30 rfl (by decide) rfl rfl ?_
          refine V_iinc (ls2 := [_, _, _, _]) hf dX5_priceSumOf_31 (by decide) rfl rfl rfl ?_
          refine V_goto (tgt := 4) hf dX5_priceSumOf_34 (by decide) ?_
          have bk := ih (k + 1) (by omega) (by omega) (by omega)
          rw [sumI_s (psF (σ g) 6 s) hk0] at bk
          first | (rw [show psF (σ g) 6 s k = σ g 10 k from if_pos (by omega)] at bk; exact bk) | (rw [show psF (σ g) 6 s k = 0 from if_neg (by omega), Int.add_zero] at bk; exact bk)
  refine V_iconst hf dX5_priceSumOf_0 ?_
  refine V_istore_n (ls2 := [_, _, _, _]) hf dX5_priceSumOf_1 rfl (by decide) rfl rfl ?_
  refine V_iconst hf dX5_priceSumOf_2 ?_
  refine V_istore_n (ls2 := [_, _, _, _]) hf dX5_priceSumOf_3 rfl (by decide) rfl rfl ?_
  exact loop ((σ g 6 0).toNat + 1) 0 (by omega) (by omega) (by omega)

set_option maxHeartbeats 4000000 in
set_option maxRecDepth 100000 in
theorem c_idOfB {l : Launch} {D : va_G} {K : Nat → ClassId} {ad : Adr} (hl0 : l.stackTraces = false) (g : Int) (hg : 0 ≤ g ∧ g < 11) (σ : Mem) (hR : Rng σ) (hn0 : 0 ≤ σ g 6 0 ∧ σ g 6 0 ≤ 10) (i : Int) (hi : inR i) : Cb l D K ad yX5_idOf (.code yX5_idOf cX5_idOf 3 (some .int)) 2 0 0 σ [.ref (ad g 6), .int (iN i)] (.inl (some (.int (iN (if rowOwn (σ g) 6 i = -1 then -1 else σ g 7 (rowOwn (σ g) 6 i)))))) σ := by
  refine Cb.of (own := RX5) (ls0 := [some (.ref (ad g 6)), some (.int (iN i)), none]) hl0 (by decide) rfl (Nat.le_of_ble_eq_true rfl) rfl ?_
  intro X hX1 hX2 hX3 hf he hh
  subst hX1 hX2 hX3
  refine V_aload_n hf dX5_idOf_0 rfl rfl ?_
  refine V_iload_n hf dX5_idOf_1 rfl rfl ?_
  refine B_callUi hf (As := [_]) (c_rowOwnB hl0 g hg σ hR hn0 i hi) cu_X5_52_4 hg rfl rfl rfl (Nat.le_of_ble_eq_true rfl) ⟨by decide, by decide, by decide, by decide⟩ dX5_idOf_2 ?_
  have hc := rowOwn_r (σ g) 6 i
  refine V_istore_n (ls2 := [_, _, _]) hf dX5_idOf_5 rfl (by decide) rfl rfl ?_
  refine V_iload_n hf dX5_idOf_6 rfl rfl ?_
  refine V_iconst hf dX5_idOf_7 ?_
  refine V_icmp_ne (tgt := 15) hf (by first | exact hR _ _ _ (by decide) | exact ⟨by omega, by omega⟩) (by first | exact hR _ _ _ (by decide) | exact ⟨by omega, by omega⟩) dX5_idOf_8 (by decide) (fun h8 => ?_) (fun h8 => ?_)
  · refine V_aload_n hf dX5_idOf_15 rfl rfl ?_
    refine B_get hf hg rfl fl_X5_18_4 rfl dX5_idOf_16 ?_
    refine V_iload_n hf dX5_idOf_19 rfl rfl ?_
    refine B_iald hf hg (fun _ => rfl) (by first | exact hR _ _ _ (by decide) | exact ⟨by omega, by omega⟩) (by omega) (by omega) dX5_idOf_20 ?_
    exact B_iret hf he rfl dX5_idOf_21 (by decide) (by decide) (by first | rw [if_pos (by omega)] | rw [if_neg (by omega)]) rfl
  · refine V_iconst hf dX5_idOf_11 ?_
    refine V_goto (tgt := 21) hf dX5_idOf_12 (by decide) ?_
    exact B_iret hf he rfl dX5_idOf_21 (by decide) (by decide) (by first | rw [if_pos (by omega)] | rw [if_neg (by omega)]) rfl

set_option maxHeartbeats 4000000 in
set_option maxRecDepth 100000 in
theorem c_removeB {l : Launch} {D : va_G} {K : Nat → ClassId} {ad : Adr} (hl0 : l.stackTraces = false) (g : Int) (hg : 0 ≤ g ∧ g < 11) (σ : Mem) (hR : Rng σ) (hn0 : σ g 6 0 ≤ 10) (r : Int) (hr : 0 ≤ r ∧ r < σ g 6 0) : Cb l D K ad yX5_remove (.code yX5_remove cX5_remove 2 none) 2 0 0 σ [.ref (ad g 6), .int (iN r)] (.inl none) (removeM σ g 6 r) := by
  refine Cb.of (own := RX5) (ls0 := [some (.ref (ad g 6)), some (.int (iN r))]) hl0 (by decide) rfl (Nat.le_of_ble_eq_true rfl) rfl ?_
  intro X hX1 hX2 hX3 hf he hh
  subst hX1 hX2 hX3
  refine V_iload_n hf dX5_remove_0 rfl rfl ?_
  refine V_if_lt (tgt := 12) hf (by first | exact hR _ _ _ (by decide) | exact ⟨by omega, by omega⟩) dX5_remove_1 (by decide) (fun h1 => ?_) (fun h1 => ?_)
  · exact absurd h1 (by omega)
  · refine V_iload_n hf dX5_remove_4 rfl rfl ?_
    refine V_aload_n hf dX5_remove_5 rfl rfl ?_
    refine B_get hf hg rfl fl_X5_9_4 rfl dX5_remove_6 ?_
    refine V_icmp_lt (tgt := 13) hf (by first | exact hR _ _ _ (by decide) | exact ⟨by omega, by omega⟩) (by first | exact hR _ _ _ (by decide) | exact ⟨by omega, by omega⟩) dX5_remove_9 (by decide) (fun h9 => ?_) (fun h9 => ?_)
    · refine V_aload_n hf dX5_remove_13 rfl rfl ?_
      refine V_dup hf dX5_remove_14 rfl ?_
      refine B_get hf hg rfl fl_X5_9_4 rfl dX5_remove_15 ?_
      refine V_iconst hf dX5_remove_18 ?_
      refine V_isub hf dX5_remove_19 ?_
      refine B_putI (kI := 0) hf rfl hg rfl fp_X5_9_4 rfl rfl (Nat.le_of_ble_eq_true rfl) (by decide) (cs_6_0 _ _ _ _ _) dX5_remove_20 ?_
      refine V_aload_n hf dX5_remove_23 rfl rfl ?_
      refine V_iload_n hf dX5_remove_24 rfl rfl ?_
      refine V_iconst hf dX5_remove_25 ?_
      refine V_iadd hf dX5_remove_26 ?_
      refine V_iload_n hf dX5_remove_27 rfl rfl ?_
      refine V_aload_n hf dX5_remove_28 rfl rfl ?_
      refine B_get hf hg rfl fl_X5_9_4 rfl dX5_remove_29 ?_
      refine V_iload_n hf dX5_remove_32 rfl rfl ?_
      refine V_isub hf dX5_remove_33 ?_
      refine B_callUv hf (As := [_, _, _]) (c_moveB hl0 g hg (st3 σ g 6 0 (σ g 6 0 - 1)) (hR.st (by have := hn0; exact ⟨by omega, by omega⟩)) (r + 1) r ((st3 σ g 6 0 (σ g 6 0 - 1)) g 6 0 - r) ⟨⟨by omega, by omega⟩, by omega⟩ ⟨⟨by omega, by omega⟩, by omega⟩ ⟨by rw [st3_self]; exact ⟨by omega, by omega⟩, by rw [st3_self]; omega⟩ (by rw [st3_self]; omega) (by rw [st3_self]; omega)) cu_X5_44_4 hg rfl rfl rfl (Nat.le_of_ble_eq_true rfl) ⟨by decide, by decide, by decide, by decide⟩ dX5_remove_34 ?_
      exact B_vret hf he dX5_remove_37 (by decide) (by decide) rfl
    · exact absurd h9 (by omega)

set_option maxHeartbeats 4000000 in
set_option maxRecDepth 100000 in
theorem c_enterB {l : Launch} {D : va_G} {K : Nat → ClassId} {ad : Adr} (hl0 : l.stackTraces = false) (g : Int) (hg : 0 ≤ g ∧ g < 11) (σ : Mem) (hR : Rng σ) (hn0 : 0 ≤ σ g 6 0 ∧ σ g 6 0 < 10) (o a b : Int) (ha : inR a) (hb : inR b) : Cb l D K ad yX5_enter (.code yX5_enter cX5_enter 5 (some .int)) 3 0 0 σ [.ref (ad g 6), .int (iN o), .int (iN a), .int (iN b)] (.inl (some (.int (iN (enterM σ g 6 (slotI (caB (σ g) a b) (σ g 6 0)) o a b g 7 (slotI (caB (σ g) a b) (σ g 6 0))))))) (enterM σ g 6 (slotI (caB (σ g) a b) (σ g 6 0)) o a b) := by
  refine Cb.of (own := RX5) (ls0 := [some (.ref (ad g 6)), some (.int (iN o)), some (.int (iN a)), some (.int (iN b)), none]) hl0 (by decide) rfl (Nat.le_of_ble_eq_true rfl) rfl ?_
  intro X hX1 hX2 hX3 hf he hh
  subst hX1 hX2 hX3
  have tail : ∀ k : Int, 0 ≤ k → k ≤ σ g 6 0 → k = slotI (caB (σ g) a b) (σ g 6 0) → B X ad σ 29 [some (.ref (ad g 6)), some (.int (iN o)), some (.int (iN a)), some (.int (iN b)), some (.int (iN k))] [] 0 0 := by
    intro k hk0 hk1 e
    refine V_aload_n hf dX5_enter_29 rfl rfl ?_
    refine V_iload hf dX5_enter_30 rfl ?_
    refine V_iload hf dX5_enter_32 rfl ?_
    refine V_iconst hf dX5_enter_34 ?_
    refine V_iadd hf dX5_enter_35 ?_
    refine V_aload_n hf dX5_enter_36 rfl rfl ?_
    refine B_get hf hg rfl fl_X5_9_4 rfl dX5_enter_37 ?_
    refine V_iload hf dX5_enter_40 rfl ?_
    refine V_isub hf dX5_enter_42 ?_
    refine B_callUv hf (As := [_, _, _]) (c_moveB hl0 g hg σ hR k (k + 1) _ ⟨⟨by omega, by omega⟩, by omega⟩ ⟨⟨by omega, by omega⟩, by omega⟩ ⟨⟨by omega, by omega⟩, by omega⟩ (by omega) (by omega)) cu_X5_44_4 hg rfl rfl rfl (Nat.le_of_ble_eq_true rfl) ⟨by decide, by decide, by decide, by decide⟩ dX5_enter_43 ?_
    refine V_aload_n hf dX5_enter_46 rfl rfl ?_
    refine V_dup hf dX5_enter_47 rfl ?_
    refine B_get hf hg rfl fl_X5_9_4 rfl dX5_enter_48 ?_
    refine V_iconst hf dX5_enter_51 ?_
    refine V_iadd hf dX5_enter_52 ?_
    refine B_putI (kI := 0) hf rfl hg rfl fp_X5_9_4 rfl rfl (Nat.le_of_ble_eq_true rfl) (by decide) (cs_6_0 _ _ _ _ _) dX5_enter_53 ?_
    refine V_aload_n hf dX5_enter_56 rfl rfl ?_
    refine B_get hf hg rfl fl_X5_18_4 rfl dX5_enter_57 ?_
    refine V_iload hf dX5_enter_60 rfl ?_
    refine V_aload_n hf dX5_enter_62 rfl rfl ?_
    refine B_get hf hg rfl fl_X5_15_4 rfl dX5_enter_63 ?_
    refine B_iast hf hg (by decide) (fun _ => rfl) (by first | exact hR _ _ _ (by decide) | exact ⟨by omega, by omega⟩) (by omega) (by omega) dX5_enter_66 ?_
    refine V_aload_n hf dX5_enter_67 rfl rfl ?_
    refine B_get hf hg rfl fl_X5_22_4 rfl dX5_enter_68 ?_
    refine V_iload hf dX5_enter_71 rfl ?_
    refine V_iload_n hf dX5_enter_73 rfl rfl ?_
    refine B_iast hf hg (by decide) (fun _ => rfl) (by first | exact hR _ _ _ (by decide) | exact ⟨by omega, by omega⟩) (by omega) (by omega) dX5_enter_74 ?_
    refine V_aload_n hf dX5_enter_75 rfl rfl ?_
    refine B_get hf hg rfl fl_X5_25_4 rfl dX5_enter_76 ?_
    refine V_iload hf dX5_enter_79 rfl ?_
    refine V_iload_n hf dX5_enter_81 rfl rfl ?_
    refine B_iast hf hg (by decide) (fun _ => rfl) (by first | exact hR _ _ _ (by decide) | exact ⟨by omega, by omega⟩) (by omega) (by omega) dX5_enter_82 ?_
    refine V_aload_n hf dX5_enter_83 rfl rfl ?_
    refine B_get hf hg rfl fl_X5_28_4 rfl dX5_enter_84 ?_
    refine V_iload hf dX5_enter_87 rfl ?_
    refine V_iload_n hf dX5_enter_89 rfl rfl ?_
    refine B_iast hf hg (by decide) (fun _ => rfl) (by first | exact hR _ _ _ (by decide) | exact ⟨by omega, by omega⟩) (by omega) (by omega) dX5_enter_90 ?_
    refine V_aload_n hf dX5_enter_91 rfl rfl ?_
    refine B_get hf hg rfl fl_X5_31_4 rfl dX5_enter_92 ?_
    refine V_iload hf dX5_enter_95 rfl ?_
    refine V_iconst hf dX5_enter_97 ?_
    refine B_iast hf hg (by decide) (fun _ => rfl) (by first | exact hR _ _ _ (by decide) | exact ⟨by omega, by omega⟩) (by omega) (by omega) dX5_enter_98 ?_
    refine V_aload_n hf dX5_enter_99 rfl rfl ?_
    refine V_dup hf dX5_enter_100 rfl ?_
    refine B_get hf hg rfl fl_X5_15_4 rfl dX5_enter_101 ?_
    refine V_iconst hf dX5_enter_104 ?_
    refine V_iadd hf dX5_enter_105 ?_
    refine B_putI (kI := 1) hf rfl hg rfl fp_X5_15_4 rfl rfl (Nat.le_of_ble_eq_true rfl) (by decide) (cs_6_1 _ _ _ _ _) dX5_enter_106 ?_
    refine V_aload_n hf dX5_enter_109 rfl rfl ?_
    refine B_get hf hg rfl fl_X5_18_4 rfl dX5_enter_110 ?_
    refine V_iload hf dX5_enter_113 rfl ?_
    refine B_iald hf hg (fun _ => rfl) (by first | exact hR _ _ _ (by decide) | exact ⟨by omega, by omega⟩) (by omega) (by omega) dX5_enter_115 ?_
    subst e
    exact B_iret hf he rfl dX5_enter_116 (by decide) (by decide) (by first | rfl | omega) rfl
  have loop : ∀ (n : Nat) (k : Int), 0 ≤ k → k ≤ σ g 6 0 → (∀ j : Int, 0 ≤ j → j < k → ¬ (caB (σ g) a b) j) → (σ g 6 0 - k).toNat < n → B X ad σ 3 [some (.ref (ad g 6)), some (.int (iN o)), some (.int (iN a)), some (.int (iN b)), some (.int (iN k))] [] 0 0 := by
    intro n
    induction n with
    | zero => intros; omega
    | succ n ih =>
      intro k hk0 hk1 hno hn
      refine V_iload hf dX5_enter_3 rfl ?_
      refine V_aload_n hf dX5_enter_5 rfl rfl ?_
      refine B_get hf hg rfl fl_X5_9_4 rfl dX5_enter_6 ?_
      refine V_icmp_ge (tgt := 29) hf (by first | exact hR _ _ _ (by decide) | exact ⟨by omega, by omega⟩) (by first | exact hR _ _ _ (by decide) | exact ⟨by omega, by omega⟩) dX5_enter_9 (by decide) (fun h9 => ?_) (fun h9 => ?_)
      · have e : k = σ g 6 0 := by omega
        refine tail k hk0 hk1 (e.trans (slotI_no (fun j h0 h1 => hno j h0 (by omega))).symm)
      · refine V_aload_n hf dX5_enter_12 rfl rfl ?_
        refine V_iload_n hf dX5_enter_13 rfl rfl ?_
        refine V_iload_n hf dX5_enter_14 rfl rfl ?_
        refine V_iload hf dX5_enter_15 rfl ?_
        refine B_callUi hf (As := [_, _, _]) (c_caB hl0 g hg σ hR a b k ha hb ⟨hk0, by omega⟩) cu_X5_40_4 hg rfl rfl rfl (Nat.le_of_ble_eq_true rfl) ⟨by decide, by decide, by decide, by decide⟩ dX5_enter_17 ?_
        refine V_if_ne (tgt := 29) hf (by split <;> exact ⟨by omega, by omega⟩) dX5_enter_20 (by decide) (fun h20 => ?_) (fun h20 => ?_)
        · refine tail k hk0 (by omega) (slotI_yes hk0 (by omega) (Classical.byContradiction fun q => h20 (if_neg q)) hno).symm
        · have q : ¬ caB (σ g) a b k := fun q => by rw [if_pos q] at h20; omega
          refine V_iinc (ls2 := [_, _, _, _, _]) hf dX5_enter_23 (by decide) rfl rfl rfl ?_
          refine V_goto (tgt := 3) hf dX5_enter_26 (by decide) ?_
          refine ih (k + 1) (by omega) (by omega) (fun j h0 h1 => ?_) (by omega)
          by_cases hj : j = k
          · subst hj
            assumption
          · exact hno j h0 (by omega)
  refine V_iconst hf dX5_enter_0 ?_
  refine V_istore (ls2 := [_, _, _, _, _]) hf dX5_enter_1 (by decide) rfl rfl ?_
  exact loop ((σ g 6 0).toNat + 1) 0 (by omega) (by omega) (fun j h0 h1 => by omega) (by omega)

set_option maxHeartbeats 4000000 in
set_option maxRecDepth 100000 in
theorem c_growB {l : Launch} {D : va_G} {K : Nat → ClassId} {ad : Adr} (hl0 : l.stackTraces = false) (g : Int) (hg : 0 ≤ g ∧ g < 11) (σ : Mem) (hR : Rng σ) (hn0 : 0 ≤ σ g 6 0 ∧ σ g 6 0 ≤ 10) (hag : ∀ k : Int, 0 ≤ k → k < σ g 6 0 → 0 ≤ σ g 11 k ∧ σ g 11 k ≤ 2) : Cb l D K ad yX5_growOlder (.code yX5_growOlder cX5_growOlder 3 (some .int)) 3 0 0 σ [.ref (ad g 6)] (.inl (some (.int (iN (growR g 6 (σ g 6 0).toNat σ 0).2)))) (growR g 6 (σ g 6 0).toNat σ 0).1 := by
  refine Cb.of (own := RX5) (ls0 := [some (.ref (ad g 6)), none, none]) hl0 (by decide) rfl (Nat.le_of_ble_eq_true rfl) rfl ?_
  intro X hX1 hX2 hX3 hf he hh
  subst hX1 hX2 hX3
  have loop : ∀ (n : Nat) (τ : Mem) (e : Int), Rng τ → (n : Int) ≤ τ g 6 0 → τ g 6 0 ≤ 10 → (∀ k : Int, 0 ≤ k → k < n → 0 ≤ τ g 11 k ∧ τ g 11 k ≤ 2) → Be X (some .int) ad (.inl (some (.int (iN (growR g 6 n τ e).2)))) (growR g 6 n τ e).1 0 0 → B X ad τ 9 [some (.ref (ad g 6)), some (.int (iN e)), some (.int (iN ((n : Int) - 1)))] [] 0 0 := by
    intro n
    induction n with
    | zero =>
      intro τ e hτ hn1 hn2 hag he
      refine V_iload_n hf dX5_growOlder_9 rfl rfl ?_
      refine V_if_lt (tgt := 47) hf ⟨by omega, by omega⟩ dX5_growOlder_10 (by decide) (fun h10 => ?_) (fun h10 => ?_)
      · refine V_iload_n hf dX5_growOlder_47 rfl rfl ?_
        exact B_iret hf he rfl dX5_growOlder_48 (by decide) (by decide) rfl rfl
      · exact absurd h10 (by omega)
    | succ n ih =>
      intro τ e hτ hn1 hn2 hag he
      have e1 : ((n + 1 : Nat) : Int) - 1 = (n : Int) := by omega
      rw [e1]
      refine V_iload_n hf dX5_growOlder_9 rfl rfl ?_
      refine V_if_lt (tgt := 47) hf ⟨by omega, by omega⟩ dX5_growOlder_10 (by decide) (fun h10 => ?_) (fun h10 => ?_)
      · exact absurd h10 (by omega)
      · refine V_aload_n hf dX5_growOlder_13 rfl rfl ?_
        refine B_get hf hg rfl fl_X5_31_4 rfl dX5_growOlder_14 ?_
        refine V_iload_n hf dX5_growOlder_17 rfl rfl ?_
        refine V_dup2 hf dX5_growOlder_18 rfl rfl ?_
        refine B_iald hf hg (fun _ => rfl) ⟨by omega, by omega⟩ (by omega) (by omega) dX5_growOlder_19 ?_
        refine V_iconst hf dX5_growOlder_20 ?_
        refine V_iadd hf dX5_growOlder_21 ?_
        refine B_iast hf hg (by decide) (fun _ => rfl) ⟨by omega, by omega⟩ (by omega) (by omega) dX5_growOlder_22 ?_
        refine V_aload_n hf dX5_growOlder_23 rfl rfl ?_
        refine B_get hf hg rfl fl_X5_31_4 rfl dX5_growOlder_24 ?_
        refine V_iload_n hf dX5_growOlder_27 rfl rfl ?_
        refine B_iald hf hg (fun _ => rfl) ⟨by omega, by omega⟩ (by omega) (by omega) dX5_growOlder_28 ?_
        refine V_iconst hf dX5_growOlder_29 ?_
        refine V_icmp_lt (tgt := 41) hf (by rw [st3_self]; have := hag n (by omega) (by omega); exact ⟨by omega, by omega⟩) ⟨by omega, by omega⟩ dX5_growOlder_30 (by decide) (fun h30 => ?_) (fun h30 => ?_)
        · have hgr : growR g 6 (n + 1) τ e = growR g 6 n (st3 τ g 11 (n : Int) (τ g 11 (n : Int) + 1)) e := if_neg (show ¬ ((st3 τ g 11 (n : Int) (τ g 11 (n : Int) + 1)) g 11 (n : Int) ≥ 3) by omega)
          rw [hgr] at he
          refine V_iinc (ls2 := [_, _, _]) hf dX5_growOlder_41 (by decide) rfl rfl rfl ?_
          refine V_goto (tgt := 9) hf dX5_growOlder_44 (by decide) ?_
          have bk := ih (st3 τ g 11 (n : Int) (τ g 11 (n : Int) + 1)) e (hτ.st (by have := hag n (by omega) (by omega); exact ⟨by omega, by omega⟩)) (by rw [st3_j (by decide)]; omega) (by rw [st3_j (by decide)]; omega) (fun k h0 h1 => by rw [st3_k (by omega)]; exact hag k h0 (by omega))
          rw [show (n : Int) + -1 = (n : Int) - 1 by omega]
          exact bk he
        · have hgr : growR g 6 (n + 1) τ e = growR g 6 n (removeM (st3 τ g 11 (n : Int) (τ g 11 (n : Int) + 1)) g 6 (n : Int)) (e + 1) := if_pos (show ((st3 τ g 11 (n : Int) (τ g 11 (n : Int) + 1)) g 11 (n : Int) ≥ 3) by omega)
          rw [hgr] at he
          refine V_aload_n hf dX5_growOlder_33 rfl rfl ?_
          refine V_iload_n hf dX5_growOlder_34 rfl rfl ?_
          refine B_callUv hf (As := [_]) (c_removeB hl0 g hg (st3 τ g 11 (n : Int) (τ g 11 (n : Int) + 1)) (hτ.st (by have := hag n (by omega) (by omega); exact ⟨by omega, by omega⟩)) (by rw [st3_j (by decide)]; omega) (n : Int) ⟨by omega, by rw [st3_j (by decide)]; omega⟩) cu_X5_48_4 hg rfl rfl rfl (Nat.le_of_ble_eq_true rfl) ⟨by decide, by decide, by decide, by decide⟩ dX5_growOlder_35 ?_
          refine V_iinc (ls2 := [_, _, _]) hf dX5_growOlder_38 (by decide) rfl rfl rfl ?_
          refine V_iinc (ls2 := [_, _, _]) hf dX5_growOlder_41 (by decide) rfl rfl rfl ?_
          refine V_goto (tgt := 9) hf dX5_growOlder_44 (by decide) ?_
          have bk := ih (removeM (st3 τ g 11 (n : Int) (τ g 11 (n : Int) + 1)) g 6 (n : Int)) (e + 1) ((hτ.st (by have := hag n (by omega) (by omega); exact ⟨by omega, by omega⟩)).remove (by decide) (by rw [st3_j (by decide)]; omega)) (by rw [removeM_0, st3_j (by decide)]; omega) (by rw [removeM_0, st3_j (by decide)]; omega) (fun k h0 h1 => by rw [show 11 = 6 + 5 from rfl, removeM_5 (by omega), st3_k (by omega)]; exact hag k h0 (by omega))
          rw [show (n : Int) + -1 = (n : Int) - 1 by omega]
          exact bk he
  refine V_iconst hf dX5_growOlder_0 ?_
  refine V_istore_n (ls2 := [_, _, _]) hf dX5_growOlder_1 rfl (by decide) rfl rfl ?_
  refine V_aload_n hf dX5_growOlder_2 rfl rfl ?_
  refine B_get hf hg rfl fl_X5_9_4 rfl dX5_growOlder_3 ?_
  refine V_iconst hf dX5_growOlder_6 ?_
  refine V_isub hf dX5_growOlder_7 ?_
  refine V_istore_n (ls2 := [_, _, _]) hf dX5_growOlder_8 rfl (by decide) rfl rfl ?_
  have bk := loop (σ g 6 0).toNat σ 0 hR (by omega) hn0.2 (fun k h0 h1 => hag k h0 (by omega)) he
  rw [show (((σ g 6 0).toNat : Nat) : Int) - 1 = σ g 6 0 - 1 by omega] at bk
  exact bk

set_option maxHeartbeats 4000000 in
set_option maxRecDepth 100000 in
theorem c_caO {l : Launch} {D : va_G} {K : Nat → ClassId} {ad : Adr} (hl0 : l.stackTraces = false) (g : Int) (hg : 0 ≤ g ∧ g < 11) (σ : Mem) (hR : Rng σ) (a b r : Int) (ha : inR a) (hb : inR b) (hr : 0 ≤ r ∧ r < 16) : Cb l D K ad yX4_comesAhead (.code yX4_comesAhead cX4_comesAhead 4 (some .boolean)) 1 0 0 σ [.ref (ad g 12), .int (iN a), .int (iN b), .int (iN r)] (.inl (some (.int (iN (if caO (σ g) a b r then 1 else 0))))) σ := by
  refine Cb.of (own := RX4) (ls0 := [some (.ref (ad g 12)), some (.int (iN a)), some (.int (iN b)), some (.int (iN r))]) hl0 (by decide) rfl (Nat.le_of_ble_eq_true rfl) rfl ?_
  intro X hX1 hX2 hX3 hf he hh
  subst hX1 hX2 hX3
  refine V_iload_n hf dX4_comesAhead_0 rfl rfl ?_
  refine V_aload_n hf dX4_comesAhead_1 rfl rfl ?_
  refine B_get hf hg rfl fl_X4_9_8 rfl dX4_comesAhead_2 ?_
  refine V_iload_n hf dX4_comesAhead_5 rfl rfl ?_
  refine B_iald hf hg (fun _ => rfl) (by first | exact hR _ _ _ (by decide) | exact ⟨by omega, by omega⟩) (by omega) (by omega) dX4_comesAhead_6 ?_
  refine V_icmp_lt (tgt := 30) hf (by first | exact hR _ _ _ (by decide) | exact ⟨by omega, by omega⟩) (by first | exact hR _ _ _ (by decide) | exact ⟨by omega, by omega⟩) dX4_comesAhead_7 (by decide) (fun h7 => ?_) (fun h7 => ?_)
  · refine V_iconst hf dX4_comesAhead_30 ?_
    refine V_goto (tgt := 35) hf dX4_comesAhead_31 (by decide) ?_
    exact B_iret hf he (nar_b _) dX4_comesAhead_35 (by decide) (by decide) (by first | rw [if_pos (by show _ ∨ _; omega)] | rw [if_neg (by show ¬ (_ ∨ _); omega)] | rw [if_pos (by show _ > _; omega)] | rw [if_neg (by show ¬ _ > _; omega)]) rfl
  · refine V_iload_n hf dX4_comesAhead_10 rfl rfl ?_
    refine V_aload_n hf dX4_comesAhead_11 rfl rfl ?_
    refine B_get hf hg rfl fl_X4_9_8 rfl dX4_comesAhead_12 ?_
    refine V_iload_n hf dX4_comesAhead_15 rfl rfl ?_
    refine B_iald hf hg (fun _ => rfl) (by first | exact hR _ _ _ (by decide) | exact ⟨by omega, by omega⟩) (by omega) (by omega) dX4_comesAhead_16 ?_
    refine V_icmp_ne (tgt := 34) hf (by first | exact hR _ _ _ (by decide) | exact ⟨by omega, by omega⟩) (by first | exact hR _ _ _ (by decide) | exact ⟨by omega, by omega⟩) dX4_comesAhead_17 (by decide) (fun h17 => ?_) (fun h17 => ?_)
    · refine V_iconst hf dX4_comesAhead_34 ?_
      exact B_iret hf he (nar_b _) dX4_comesAhead_35 (by decide) (by decide) (by first | rw [if_pos (by show _ ∨ _; omega)] | rw [if_neg (by show ¬ (_ ∨ _); omega)] | rw [if_pos (by show _ > _; omega)] | rw [if_neg (by show ¬ _ > _; omega)]) rfl
    · refine V_iload_n hf dX4_comesAhead_20 rfl rfl ?_
      refine V_aload_n hf dX4_comesAhead_21 rfl rfl ?_
      refine B_get hf hg rfl fl_X4_15_8 rfl dX4_comesAhead_22 ?_
      refine V_iload_n hf dX4_comesAhead_25 rfl rfl ?_
      refine B_iald hf hg (fun _ => rfl) (by first | exact hR _ _ _ (by decide) | exact ⟨by omega, by omega⟩) (by omega) (by omega) dX4_comesAhead_26 ?_
      refine V_icmp_le (tgt := 34) hf (by first | exact hR _ _ _ (by decide) | exact ⟨by omega, by omega⟩) (by first | exact hR _ _ _ (by decide) | exact ⟨by omega, by omega⟩) dX4_comesAhead_27 (by decide) (fun h27 => ?_) (fun h27 => ?_)
      · refine V_iconst hf dX4_comesAhead_34 ?_
        exact B_iret hf he (nar_b _) dX4_comesAhead_35 (by decide) (by decide) (by first | rw [if_pos (by show _ ∨ _; omega)] | rw [if_neg (by show ¬ (_ ∨ _); omega)] | rw [if_pos (by show _ > _; omega)] | rw [if_neg (by show ¬ _ > _; omega)]) rfl
      · refine V_iconst hf dX4_comesAhead_30 ?_
        refine V_goto (tgt := 35) hf dX4_comesAhead_31 (by decide) ?_
        exact B_iret hf he (nar_b _) dX4_comesAhead_35 (by decide) (by decide) (by first | rw [if_pos (by show _ ∨ _; omega)] | rw [if_neg (by show ¬ (_ ∨ _); omega)] | rw [if_pos (by show _ > _; omega)] | rw [if_neg (by show ¬ _ > _; omega)]) rfl

set_option maxHeartbeats 4000000 in
set_option maxRecDepth 100000 in
theorem c_moveO {l : Launch} {D : va_G} {K : Nat → ClassId} {ad : Adr} (hl0 : l.stackTraces = false) (g : Int) (hg : 0 ≤ g ∧ g < 11) (σ : Mem) (hR : Rng σ) (f t n : Int) (hf0 : inR f ∧ 0 ≤ f) (ht0 : inR t ∧ 0 ≤ t) (hn0 : inR n ∧ 0 ≤ n) (h1 : f + n ≤ 16) (h2 : t + n ≤ 16) : Cb l D K ad yX5_moveRows (.code yX5_moveRows cX5_moveRows 4 none) 1 0 0 σ [.ref (ad g 12), .int (iN f), .int (iN t), .int (iN n)] (.inl none) (moveM σ g 12 f t n) := by
  refine Cb.of (own := RX5) (ls0 := [some (.ref (ad g 12)), some (.int (iN f)), some (.int (iN t)), some (.int (iN n))]) hl0 (by decide) rfl (Nat.le_of_ble_eq_true rfl) rfl ?_
  intro X hX1 hX2 hX3 hf he hh
  subst hX1 hX2 hX3
  refine V_aload_n hf dX5_moveRows_0 rfl rfl ?_
  refine B_get hf hg rfl fl_X5_18_8 rfl dX5_moveRows_1 ?_
  refine V_iload_n hf dX5_moveRows_4 rfl rfl ?_
  refine V_aload_n hf dX5_moveRows_5 rfl rfl ?_
  refine B_get hf hg rfl fl_X5_18_8 rfl dX5_moveRows_6 ?_
  refine V_iload_n hf dX5_moveRows_9 rfl rfl ?_
  refine V_iload_n hf dX5_moveRows_10 rfl rfl ?_
  refine B_copyi hf hg hg (by decide) (fun _ => rfl) (fun _ => rfl) hf0 ht0 hn0 (by omega) (by omega) wl_X5_34 ⟨by decide, (Nat.le_of_ble_eq_true rfl)⟩ dX5_moveRows_11 ?_
  refine V_aload_n hf dX5_moveRows_14 rfl rfl ?_
  refine B_get hf hg rfl fl_X5_22_8 rfl dX5_moveRows_15 ?_
  refine V_iload_n hf dX5_moveRows_18 rfl rfl ?_
  refine V_aload_n hf dX5_moveRows_19 rfl rfl ?_
  refine B_get hf hg rfl fl_X5_22_8 rfl dX5_moveRows_20 ?_
  refine V_iload_n hf dX5_moveRows_23 rfl rfl ?_
  refine V_iload_n hf dX5_moveRows_24 rfl rfl ?_
  refine B_copyi hf hg hg (by decide) (fun _ => rfl) (fun _ => rfl) hf0 ht0 hn0 (by omega) (by omega) wl_X5_34 ⟨by decide, (Nat.le_of_ble_eq_true rfl)⟩ dX5_moveRows_25 ?_
  refine V_aload_n hf dX5_moveRows_28 rfl rfl ?_
  refine B_get hf hg rfl fl_X5_25_8 rfl dX5_moveRows_29 ?_
  refine V_iload_n hf dX5_moveRows_32 rfl rfl ?_
  refine V_aload_n hf dX5_moveRows_33 rfl rfl ?_
  refine B_get hf hg rfl fl_X5_25_8 rfl dX5_moveRows_34 ?_
  refine V_iload_n hf dX5_moveRows_37 rfl rfl ?_
  refine V_iload_n hf dX5_moveRows_38 rfl rfl ?_
  refine B_copyi hf hg hg (by decide) (fun _ => rfl) (fun _ => rfl) hf0 ht0 hn0 (by omega) (by omega) wl_X5_34 ⟨by decide, (Nat.le_of_ble_eq_true rfl)⟩ dX5_moveRows_39 ?_
  refine V_aload_n hf dX5_moveRows_42 rfl rfl ?_
  refine B_get hf hg rfl fl_X5_28_8 rfl dX5_moveRows_43 ?_
  refine V_iload_n hf dX5_moveRows_46 rfl rfl ?_
  refine V_aload_n hf dX5_moveRows_47 rfl rfl ?_
  refine B_get hf hg rfl fl_X5_28_8 rfl dX5_moveRows_48 ?_
  refine V_iload_n hf dX5_moveRows_51 rfl rfl ?_
  refine V_iload_n hf dX5_moveRows_52 rfl rfl ?_
  refine B_copyi hf hg hg (by decide) (fun _ => rfl) (fun _ => rfl) hf0 ht0 hn0 (by omega) (by omega) wl_X5_34 ⟨by decide, (Nat.le_of_ble_eq_true rfl)⟩ dX5_moveRows_53 ?_
  refine V_aload_n hf dX5_moveRows_56 rfl rfl ?_
  refine B_get hf hg rfl fl_X5_31_8 rfl dX5_moveRows_57 ?_
  refine V_iload_n hf dX5_moveRows_60 rfl rfl ?_
  refine V_aload_n hf dX5_moveRows_61 rfl rfl ?_
  refine B_get hf hg rfl fl_X5_31_8 rfl dX5_moveRows_62 ?_
  refine V_iload_n hf dX5_moveRows_65 rfl rfl ?_
  refine V_iload_n hf dX5_moveRows_66 rfl rfl ?_
  refine B_copyi hf hg hg (by decide) (fun _ => rfl) (fun _ => rfl) hf0 ht0 hn0 (by omega) (by omega) wl_X5_34 ⟨by decide, (Nat.le_of_ble_eq_true rfl)⟩ dX5_moveRows_67 ?_
  exact B_vret hf he dX5_moveRows_70 (by decide) (by decide) rfl

set_option maxHeartbeats 4000000 in
set_option maxRecDepth 100000 in
theorem c_copyO {l : Launch} {D : va_G} {K : Nat → ClassId} {ad : Adr} (hl0 : l.stackTraces = false) (g : Int) (hg : 0 ≤ g ∧ g < 11) (σ : Mem) (hR : Rng σ) (h : Int) (hh9 : 0 ≤ h ∧ h < 11) (hn0 : 0 ≤ σ h 12 0 ∧ σ h 12 0 ≤ 16) : Cb l D K ad yX5_copyFrom (.code yX5_copyFrom cX5_copyFrom 2 none) 1 0 0 σ [.ref (ad g 12), .ref (ad h 12)] (.inl none) (cpBook σ g h 12) := by
  refine Cb.of (own := RX5) (ls0 := [some (.ref (ad g 12)), some (.ref (ad h 12))]) hl0 (by decide) rfl (Nat.le_of_ble_eq_true rfl) rfl ?_
  intro X hX1 hX2 hX3 hf he hh
  subst hX1 hX2 hX3
  refine V_aload_n hf dX5_copyFrom_0 rfl rfl ?_
  refine V_aload_n hf dX5_copyFrom_1 rfl rfl ?_
  refine B_get hf hh9 rfl fl_X5_9_8 rfl dX5_copyFrom_2 ?_
  refine B_putI (kI := 0) hf rfl hg rfl fp_X5_9_8 rfl rfl (Nat.le_of_ble_eq_true rfl) (by decide) (cs_12_0 _ _ _ _ _) dX5_copyFrom_5 ?_
  refine V_aload_n hf dX5_copyFrom_8 rfl rfl ?_
  refine V_aload_n hf dX5_copyFrom_9 rfl rfl ?_
  refine B_get hf hh9 rfl fl_X5_15_8 rfl dX5_copyFrom_10 ?_
  refine B_putI (kI := 1) hf rfl hg rfl fp_X5_15_8 rfl rfl (Nat.le_of_ble_eq_true rfl) (by decide) (cs_12_1 _ _ _ _ _) dX5_copyFrom_13 ?_
  refine V_aload_n hf dX5_copyFrom_16 rfl rfl ?_
  refine B_get hf hh9 rfl fl_X5_18_8 rfl dX5_copyFrom_17 ?_
  refine V_iconst hf dX5_copyFrom_20 ?_
  refine V_aload_n hf dX5_copyFrom_21 rfl rfl ?_
  refine B_get hf hg rfl fl_X5_18_8 rfl dX5_copyFrom_22 ?_
  refine V_iconst hf dX5_copyFrom_25 ?_
  refine V_aload_n hf dX5_copyFrom_26 rfl rfl ?_
  refine B_get hf hg rfl fl_X5_9_8 rfl dX5_copyFrom_27 ?_
  refine B_copyi hf hh9 hg (by decide) (fun _ => rfl) (fun _ => rfl) ⟨⟨by omega, by omega⟩, by omega⟩ ⟨⟨by omega, by omega⟩, by omega⟩ ⟨by simp [cpy, st3, inR]; omega, by simp [cpy, st3]; omega⟩ (by simp [cpy, st3]; omega) (by simp [cpy, st3]; omega) wl_X5_34 ⟨by decide, (Nat.le_of_ble_eq_true rfl)⟩ dX5_copyFrom_30 ?_
  refine V_aload_n hf dX5_copyFrom_33 rfl rfl ?_
  refine B_get hf hh9 rfl fl_X5_22_8 rfl dX5_copyFrom_34 ?_
  refine V_iconst hf dX5_copyFrom_37 ?_
  refine V_aload_n hf dX5_copyFrom_38 rfl rfl ?_
  refine B_get hf hg rfl fl_X5_22_8 rfl dX5_copyFrom_39 ?_
  refine V_iconst hf dX5_copyFrom_42 ?_
  refine V_aload_n hf dX5_copyFrom_43 rfl rfl ?_
  refine B_get hf hg rfl fl_X5_9_8 rfl dX5_copyFrom_44 ?_
  refine B_copyi hf hh9 hg (by decide) (fun _ => rfl) (fun _ => rfl) ⟨⟨by omega, by omega⟩, by omega⟩ ⟨⟨by omega, by omega⟩, by omega⟩ ⟨by simp [cpy, st3, inR]; omega, by simp [cpy, st3]; omega⟩ (by simp [cpy, st3]; omega) (by simp [cpy, st3]; omega) wl_X5_34 ⟨by decide, (Nat.le_of_ble_eq_true rfl)⟩ dX5_copyFrom_47 ?_
  refine V_aload_n hf dX5_copyFrom_50 rfl rfl ?_
  refine B_get hf hh9 rfl fl_X5_25_8 rfl dX5_copyFrom_51 ?_
  refine V_iconst hf dX5_copyFrom_54 ?_
  refine V_aload_n hf dX5_copyFrom_55 rfl rfl ?_
  refine B_get hf hg rfl fl_X5_25_8 rfl dX5_copyFrom_56 ?_
  refine V_iconst hf dX5_copyFrom_59 ?_
  refine V_aload_n hf dX5_copyFrom_60 rfl rfl ?_
  refine B_get hf hg rfl fl_X5_9_8 rfl dX5_copyFrom_61 ?_
  refine B_copyi hf hh9 hg (by decide) (fun _ => rfl) (fun _ => rfl) ⟨⟨by omega, by omega⟩, by omega⟩ ⟨⟨by omega, by omega⟩, by omega⟩ ⟨by simp [cpy, st3, inR]; omega, by simp [cpy, st3]; omega⟩ (by simp [cpy, st3]; omega) (by simp [cpy, st3]; omega) wl_X5_34 ⟨by decide, (Nat.le_of_ble_eq_true rfl)⟩ dX5_copyFrom_64 ?_
  refine V_aload_n hf dX5_copyFrom_67 rfl rfl ?_
  refine B_get hf hh9 rfl fl_X5_28_8 rfl dX5_copyFrom_68 ?_
  refine V_iconst hf dX5_copyFrom_71 ?_
  refine V_aload_n hf dX5_copyFrom_72 rfl rfl ?_
  refine B_get hf hg rfl fl_X5_28_8 rfl dX5_copyFrom_73 ?_
  refine V_iconst hf dX5_copyFrom_76 ?_
  refine V_aload_n hf dX5_copyFrom_77 rfl rfl ?_
  refine B_get hf hg rfl fl_X5_9_8 rfl dX5_copyFrom_78 ?_
  refine B_copyi hf hh9 hg (by decide) (fun _ => rfl) (fun _ => rfl) ⟨⟨by omega, by omega⟩, by omega⟩ ⟨⟨by omega, by omega⟩, by omega⟩ ⟨by simp [cpy, st3, inR]; omega, by simp [cpy, st3]; omega⟩ (by simp [cpy, st3]; omega) (by simp [cpy, st3]; omega) wl_X5_34 ⟨by decide, (Nat.le_of_ble_eq_true rfl)⟩ dX5_copyFrom_81 ?_
  refine V_aload_n hf dX5_copyFrom_84 rfl rfl ?_
  refine B_get hf hh9 rfl fl_X5_31_8 rfl dX5_copyFrom_85 ?_
  refine V_iconst hf dX5_copyFrom_88 ?_
  refine V_aload_n hf dX5_copyFrom_89 rfl rfl ?_
  refine B_get hf hg rfl fl_X5_31_8 rfl dX5_copyFrom_90 ?_
  refine V_iconst hf dX5_copyFrom_93 ?_
  refine V_aload_n hf dX5_copyFrom_94 rfl rfl ?_
  refine B_get hf hg rfl fl_X5_9_8 rfl dX5_copyFrom_95 ?_
  refine B_copyi hf hh9 hg (by decide) (fun _ => rfl) (fun _ => rfl) ⟨⟨by omega, by omega⟩, by omega⟩ ⟨⟨by omega, by omega⟩, by omega⟩ ⟨by simp [cpy, st3, inR]; omega, by simp [cpy, st3]; omega⟩ (by simp [cpy, st3]; omega) (by simp [cpy, st3]; omega) wl_X5_34 ⟨by decide, (Nat.le_of_ble_eq_true rfl)⟩ dX5_copyFrom_98 ?_
  exact B_vret hf he dX5_copyFrom_101 (by decide) (by decide) rfl

set_option maxHeartbeats 4000000 in
set_option maxRecDepth 100000 in
theorem c_rowIdO {l : Launch} {D : va_G} {K : Nat → ClassId} {ad : Adr} (hl0 : l.stackTraces = false) (g : Int) (hg : 0 ≤ g ∧ g < 11) (σ : Mem) (hR : Rng σ) (hn0 : 0 ≤ σ g 12 0 ∧ σ g 12 0 ≤ 16) (i : Int) (hi : inR i) : Cb l D K ad yX5_rowWithId (.code yX5_rowWithId cX5_rowWithId 3 (some .int)) 1 0 0 σ [.ref (ad g 12), .int (iN i)] (.inl (some (.int (iN (rowId (σ g) 12 i))))) σ := by
  refine Cb.of (own := RX5) (ls0 := [some (.ref (ad g 12)), some (.int (iN i)), none]) hl0 (by decide) rfl (Nat.le_of_ble_eq_true rfl) rfl ?_
  intro X hX1 hX2 hX3 hf he hh
  subst hX1 hX2 hX3
  have loop : ∀ (n : Nat) (k : Int), 0 ≤ k → k ≤ σ g 12 0 → (∀ j : Int, 0 ≤ j → j < k → ¬ (fun k => σ g 13 k = i) j) → (σ g 12 0 - k).toNat < n → B X ad σ 2 [some (.ref (ad g 12)), some (.int (iN (i))), some (.int (iN (k)))] [] 0 0 := by
    intro n
    induction n with
    | zero => intros; omega
    | succ n ih =>
      intro k hk0 hk1 hno hn
      refine V_iload_n hf dX5_rowWithId_2 rfl rfl ?_
      refine V_aload_n hf dX5_rowWithId_3 rfl rfl ?_
      refine B_get hf hg rfl fl_X5_9_8 rfl dX5_rowWithId_4 ?_
      refine V_icmp_ge (tgt := 28) hf (by first | exact hR _ _ _ (by decide) | exact ⟨by omega, by omega⟩) (by first | exact hR _ _ _ (by decide) | exact ⟨by omega, by omega⟩) dX5_rowWithId_7 (by decide) (fun h7 => ?_) (fun h7 => ?_)
      · refine V_iconst hf dX5_rowWithId_28 ?_
        exact B_iret hf he rfl dX5_rowWithId_29 (by decide) (by decide) (fst_no (fun j h0 h1 => hno j h0 (by omega))).symm rfl
      · refine V_aload_n hf dX5_rowWithId_10 rfl rfl ?_
        refine B_get hf hg rfl fl_X5_18_8 rfl dX5_rowWithId_11 ?_
        refine V_iload_n hf dX5_rowWithId_14 rfl rfl ?_
        refine B_iald hf hg (fun _ => rfl) (by first | exact hR _ _ _ (by decide) | exact ⟨by omega, by omega⟩) (by omega) (by omega) dX5_rowWithId_15 ?_
        refine V_iload_n hf dX5_rowWithId_16 rfl rfl ?_
        refine V_icmp_ne (tgt := 22) hf (by first | exact hR _ _ _ (by decide) | exact ⟨by omega, by omega⟩) (by first | exact hR _ _ _ (by decide) | exact ⟨by omega, by omega⟩) dX5_rowWithId_17 (by decide) (fun h17 => ?_) (fun h17 => ?_)
        · refine V_iinc (ls2 := [_, _, _]) hf dX5_rowWithId_22 (by decide) rfl rfl rfl ?_
          refine V_goto (tgt := 2) hf dX5_rowWithId_25 (by decide) ?_
          refine ih (k + 1) (by omega) (by omega) (fun j h0 h1 => ?_) (by omega)
          by_cases hj : j = k
          · subst hj
            intro hp
            first | exact absurd hp.1 (by omega) | exact absurd hp.2 (by omega) | exact absurd hp (by omega)
          · exact hno j h0 (by omega)
        · refine V_iload_n hf dX5_rowWithId_20 rfl rfl ?_
          exact B_iret hf he rfl dX5_rowWithId_21 (by decide) (by decide) (fst_yes hk0 (by omega) (by omega) hno).symm rfl
  refine V_iconst hf dX5_rowWithId_0 ?_
  refine V_istore_n (ls2 := [_, _, _]) hf dX5_rowWithId_1 rfl (by decide) rfl rfl ?_
  exact loop ((σ g 12 0).toNat + 1) 0 (by omega) (by omega) (fun j h0 h1 => by omega) (by omega)

set_option maxHeartbeats 4000000 in
set_option maxRecDepth 100000 in
theorem c_rowOwnO {l : Launch} {D : va_G} {K : Nat → ClassId} {ad : Adr} (hl0 : l.stackTraces = false) (g : Int) (hg : 0 ≤ g ∧ g < 11) (σ : Mem) (hR : Rng σ) (hn0 : 0 ≤ σ g 12 0 ∧ σ g 12 0 ≤ 16) (i : Int) (hi : inR i) : Cb l D K ad yX5_firstRowOf (.code yX5_firstRowOf cX5_firstRowOf 3 (some .int)) 1 0 0 σ [.ref (ad g 12), .int (iN i)] (.inl (some (.int (iN (rowOwn (σ g) 12 i))))) σ := by
  refine Cb.of (own := RX5) (ls0 := [some (.ref (ad g 12)), some (.int (iN i)), none]) hl0 (by decide) rfl (Nat.le_of_ble_eq_true rfl) rfl ?_
  intro X hX1 hX2 hX3 hf he hh
  subst hX1 hX2 hX3
  have loop : ∀ (n : Nat) (k : Int), 0 ≤ k → k ≤ σ g 12 0 → (∀ j : Int, 0 ≤ j → j < k → ¬ (fun k => σ g 14 k = i) j) → (σ g 12 0 - k).toNat < n → B X ad σ 2 [some (.ref (ad g 12)), some (.int (iN (i))), some (.int (iN (k)))] [] 0 0 := by
    intro n
    induction n with
    | zero => intros; omega
    | succ n ih =>
      intro k hk0 hk1 hno hn
      refine V_iload_n hf dX5_firstRowOf_2 rfl rfl ?_
      refine V_aload_n hf dX5_firstRowOf_3 rfl rfl ?_
      refine B_get hf hg rfl fl_X5_9_8 rfl dX5_firstRowOf_4 ?_
      refine V_icmp_ge (tgt := 28) hf (by first | exact hR _ _ _ (by decide) | exact ⟨by omega, by omega⟩) (by first | exact hR _ _ _ (by decide) | exact ⟨by omega, by omega⟩) dX5_firstRowOf_7 (by decide) (fun h7 => ?_) (fun h7 => ?_)
      · refine V_iconst hf dX5_firstRowOf_28 ?_
        exact B_iret hf he rfl dX5_firstRowOf_29 (by decide) (by decide) (fst_no (fun j h0 h1 => hno j h0 (by omega))).symm rfl
      · refine V_aload_n hf dX5_firstRowOf_10 rfl rfl ?_
        refine B_get hf hg rfl fl_X5_22_8 rfl dX5_firstRowOf_11 ?_
        refine V_iload_n hf dX5_firstRowOf_14 rfl rfl ?_
        refine B_iald hf hg (fun _ => rfl) (by first | exact hR _ _ _ (by decide) | exact ⟨by omega, by omega⟩) (by omega) (by omega) dX5_firstRowOf_15 ?_
        refine V_iload_n hf dX5_firstRowOf_16 rfl rfl ?_
        refine V_icmp_ne (tgt := 22) hf (by first | exact hR _ _ _ (by decide) | exact ⟨by omega, by omega⟩) (by first | exact hR _ _ _ (by decide) | exact ⟨by omega, by omega⟩) dX5_firstRowOf_17 (by decide) (fun h17 => ?_) (fun h17 => ?_)
        · refine V_iinc (ls2 := [_, _, _]) hf dX5_firstRowOf_22 (by decide) rfl rfl rfl ?_
          refine V_goto (tgt := 2) hf dX5_firstRowOf_25 (by decide) ?_
          refine ih (k + 1) (by omega) (by omega) (fun j h0 h1 => ?_) (by omega)
          by_cases hj : j = k
          · subst hj
            intro hp
            first | exact absurd hp.1 (by omega) | exact absurd hp.2 (by omega) | exact absurd hp (by omega)
          · exact hno j h0 (by omega)
        · refine V_iload_n hf dX5_firstRowOf_20 rfl rfl ?_
          exact B_iret hf he rfl dX5_firstRowOf_21 (by decide) (by decide) (fst_yes hk0 (by omega) (by omega) hno).symm rfl
  refine V_iconst hf dX5_firstRowOf_0 ?_
  refine V_istore_n (ls2 := [_, _, _]) hf dX5_firstRowOf_1 rfl (by decide) rfl rfl ?_
  exact loop ((σ g 12 0).toNat + 1) 0 (by omega) (by omega) (fun j h0 h1 => by omega) (by omega)

set_option maxHeartbeats 4000000 in
set_option maxRecDepth 100000 in
theorem c_countO {l : Launch} {D : va_G} {K : Nat → ClassId} {ad : Adr} (hl0 : l.stackTraces = false) (g : Int) (hg : 0 ≤ g ∧ g < 11) (σ : Mem) (hR : Rng σ) (hn0 : 0 ≤ σ g 12 0 ∧ σ g 12 0 ≤ 16) (s : Int) (hs : inR s) : Cb l D K ad yX5_countOf (.code yX5_countOf cX5_countOf 4 (some .int)) 1 0 0 σ [.ref (ad g 12), .int (iN s)] (.inl (some (.int (iN (countB (σ g) 12 s))))) σ := by
  refine Cb.of (own := RX5) (ls0 := [some (.ref (ad g 12)), some (.int (iN s)), none, none]) hl0 (by decide) rfl (Nat.le_of_ble_eq_true rfl) rfl ?_
  intro X hX1 hX2 hX3 hf he hh
  subst hX1 hX2 hX3
  have loop : ∀ (n : Nat) (k : Int), 0 ≤ k → k ≤ σ g 12 0 → (σ g 12 0 - k).toNat < n → B X ad σ 4 [some (.ref (ad g 12)), some (.int (iN (s))), some (.int (iN (sumI (ownF (σ g) 12 s) k))), some (.int (iN (k)))] [] 0 0 := by
    intro n
    induction n with
    | zero => intros; omega
    | succ n ih =>
      intro k hk0 hk1 hn
      refine V_iload_n hf dX5_countOf_4 rfl rfl ?_
      refine V_aload_n hf dX5_countOf_5 rfl rfl ?_
      refine B_get hf hg rfl fl_X5_9_8 rfl dX5_countOf_6 ?_
      refine V_icmp_ge (tgt := 31) hf (by first | exact hR _ _ _ (by decide) | exact ⟨by omega, by omega⟩) (by first | exact hR _ _ _ (by decide) | exact ⟨by omega, by omega⟩) dX5_countOf_9 (by decide) (fun h9 => ?_) (fun h9 => ?_)
      · refine V_iload_n hf dX5_countOf_31 rfl rfl ?_
        exact B_iret hf he rfl dX5_countOf_32 (by decide) (by decide) (by rw [show k = σ g 12 0 by omega]; rfl) rfl
      · refine V_aload_n hf dX5_countOf_12 rfl rfl ?_
        refine B_get hf hg rfl fl_X5_22_8 rfl dX5_countOf_13 ?_
        refine V_iload_n hf dX5_countOf_16 rfl rfl ?_
        refine B_iald hf hg (fun _ => rfl) (by first | exact hR _ _ _ (by decide) | exact ⟨by omega, by omega⟩) (by omega) (by omega) dX5_countOf_17 ?_
        refine V_iload_n hf dX5_countOf_18 rfl rfl ?_
        refine V_icmp_ne (tgt := 25) hf (by first | exact hR _ _ _ (by decide) | exact ⟨by omega, by omega⟩) (by first | exact hR _ _ _ (by decide) | exact ⟨by omega, by omega⟩) dX5_countOf_19 (by decide) (fun h19 => ?_) (fun h19 => ?_)
        · refine V_iinc (ls2 := [_, _, _, _]) hf dX5_countOf_25 (by decide) rfl rfl rfl ?_
          refine V_goto (tgt := 4) hf dX5_countOf_28 (by decide) ?_
          have bk := ih (k + 1) (by omega) (by omega) (by omega)
          rw [sumI_s (ownF (σ g) 12 s) hk0] at bk
          first | (rw [show ownF (σ g) 12 s k = 1 from if_pos (by omega)] at bk; exact bk) | (rw [show ownF (σ g) 12 s k = 0 from if_neg (by omega), Int.add_zero] at bk; exact bk)
        · refine V_iinc (ls2 := [_, _, _, _]) hf dX5_countOf_22 (by decide) rfl rfl rfl ?_
          refine V_iinc (ls2 := [_, _, _, _]) hf dX5_countOf_25 (by decide) rfl rfl rfl ?_
          refine V_goto (tgt := 4) hf dX5_countOf_28 (by decide) ?_
          have bk := ih (k + 1) (by omega) (by omega) (by omega)
          rw [sumI_s (ownF (σ g) 12 s) hk0] at bk
          first | (rw [show ownF (σ g) 12 s k = 1 from if_pos (by omega)] at bk; exact bk) | (rw [show ownF (σ g) 12 s k = 0 from if_neg (by omega), Int.add_zero] at bk; exact bk)
  refine V_iconst hf dX5_countOf_0 ?_
  refine V_istore_n (ls2 := [_, _, _, _]) hf dX5_countOf_1 rfl (by decide) rfl rfl ?_
  refine V_iconst hf dX5_countOf_2 ?_
  refine V_istore_n (ls2 := [_, _, _, _]) hf dX5_countOf_3 rfl (by decide) rfl rfl ?_
  exact loop ((σ g 12 0).toNat + 1) 0 (by omega) (by omega) (by omega)

set_option maxHeartbeats 4000000 in
set_option maxRecDepth 100000 in
theorem c_psumO {l : Launch} {D : va_G} {K : Nat → ClassId} {ad : Adr} (hl0 : l.stackTraces = false) (g : Int) (hg : 0 ≤ g ∧ g < 11) (σ : Mem) (hR : Rng σ) (hn0 : 0 ≤ σ g 12 0 ∧ σ g 12 0 ≤ 16) (s : Int) (hs : inR s) : Cb l D K ad yX5_priceSumOf (.code yX5_priceSumOf cX5_priceSumOf 4 (some .int)) 1 0 0 σ [.ref (ad g 12), .int (iN s)] (.inl (some (.int (iN (psumB (σ g) 12 s))))) σ := by
  refine Cb.of (own := RX5) (ls0 := [some (.ref (ad g 12)), some (.int (iN s)), none, none]) hl0 (by decide) rfl (Nat.le_of_ble_eq_true rfl) rfl ?_
  intro X hX1 hX2 hX3 hf he hh
  subst hX1 hX2 hX3
  have loop : ∀ (n : Nat) (k : Int), 0 ≤ k → k ≤ σ g 12 0 → (σ g 12 0 - k).toNat < n → B X ad σ 4 [some (.ref (ad g 12)), some (.int (iN (s))), some (.int (iN (sumI (psF (σ g) 12 s) k))), some (.int (iN (k)))] [] 0 0 := by
    intro n
    induction n with
    | zero => intros; omega
    | succ n ih =>
      intro k hk0 hk1 hn
      refine V_iload_n hf dX5_priceSumOf_4 rfl rfl ?_
      refine V_aload_n hf dX5_priceSumOf_5 rfl rfl ?_
      refine B_get hf hg rfl fl_X5_9_8 rfl dX5_priceSumOf_6 ?_
      refine V_icmp_ge (tgt := 37) hf (by first | exact hR _ _ _ (by decide) | exact ⟨by omega, by omega⟩) (by first | exact hR _ _ _ (by decide) | exact ⟨by omega, by omega⟩) dX5_priceSumOf_9 (by decide) (fun h9 => ?_) (fun h9 => ?_)
      · refine V_iload_n hf dX5_priceSumOf_37 rfl rfl ?_
        exact B_iret hf he rfl dX5_priceSumOf_38 (by decide) (by decide) (by rw [show k = σ g 12 0 by omega]; rfl) rfl
      · refine V_aload_n hf dX5_priceSumOf_12 rfl rfl ?_
        refine B_get hf hg rfl fl_X5_22_8 rfl dX5_priceSumOf_13 ?_
        refine V_iload_n hf dX5_priceSumOf_16 rfl rfl ?_
        refine B_iald hf hg (fun _ => rfl) (by first | exact hR _ _ _ (by decide) | exact ⟨by omega, by omega⟩) (by omega) (by omega) dX5_priceSumOf_17 ?_
        refine V_iload_n hf dX5_priceSumOf_18 rfl rfl ?_
        refine V_icmp_ne (tgt := 31) hf (by first | exact hR _ _ _ (by decide) | exact ⟨by omega, by omega⟩) (by first | exact hR _ _ _ (by decide) | exact ⟨by omega, by omega⟩) dX5_priceSumOf_19 (by decide) (fun h19 => ?_) (fun h19 => ?_)
        · refine V_iinc (ls2 := [_, _, _, _]) hf dX5_priceSumOf_31 (by decide) rfl rfl rfl ?_
          refine V_goto (tgt := 4) hf dX5_priceSumOf_34 (by decide) ?_
          have bk := ih (k + 1) (by omega) (by omega) (by omega)
          rw [sumI_s (psF (σ g) 12 s) hk0] at bk
          first | (rw [show psF (σ g) 12 s k = σ g 16 k from if_pos (by omega)] at bk; exact bk) | (rw [show psF (σ g) 12 s k = 0 from if_neg (by omega), Int.add_zero] at bk; exact bk)
        · refine V_iload_n hf dX5_priceSumOf_22 rfl rfl ?_
          refine V_aload_n hf dX5_priceSumOf_23 rfl rfl ?_
          refine B_get hf hg rfl fl_X5_28_8 rfl dX5_priceSumOf_24 ?_
          refine V_iload_n hf dX5_priceSumOf_27 rfl rfl ?_
          refine B_iald hf hg (fun _ => rfl) (by first | exact hR _ _ _ (by decide) | exact ⟨by omega, by omega⟩) (by omega) (by omega) dX5_priceSumOf_28 ?_
          refine V_iadd hf dX5_priceSumOf_29 ?_
          refine V_istore_n (ls2 := [_, _, _, _]) hf dX5_priceSumOf_30 rfl (by decide) rfl rfl ?_
          refine V_iinc (ls2 := [_, _, _, _]) hf dX5_priceSumOf_31 (by decide) rfl rfl rfl ?_
          refine V_goto (tgt := 4) hf dX5_priceSumOf_34 (by decide) ?_
          have bk := ih (k + 1) (by omega) (by omega) (by omega)
          rw [sumI_s (psF (σ g) 12 s) hk0] at bk
          first | (rw [show psF (σ g) 12 s k = σ g 16 k from if_pos (by omega)] at bk; exact bk) | (rw [show psF (σ g) 12 s k = 0 from if_neg (by omega), Int.add_zero] at bk; exact bk)
  refine V_iconst hf dX5_priceSumOf_0 ?_
  refine V_istore_n (ls2 := [_, _, _, _]) hf dX5_priceSumOf_1 rfl (by decide) rfl rfl ?_
  refine V_iconst hf dX5_priceSumOf_2 ?_
  refine V_istore_n (ls2 := [_, _, _, _]) hf dX5_priceSumOf_3 rfl (by decide) rfl rfl ?_
  exact loop ((σ g 12 0).toNat + 1) 0 (by omega) (by omega) (by omega)

set_option maxHeartbeats 4000000 in
set_option maxRecDepth 100000 in
theorem c_idOfO {l : Launch} {D : va_G} {K : Nat → ClassId} {ad : Adr} (hl0 : l.stackTraces = false) (g : Int) (hg : 0 ≤ g ∧ g < 11) (σ : Mem) (hR : Rng σ) (hn0 : 0 ≤ σ g 12 0 ∧ σ g 12 0 ≤ 16) (i : Int) (hi : inR i) : Cb l D K ad yX5_idOf (.code yX5_idOf cX5_idOf 3 (some .int)) 2 0 0 σ [.ref (ad g 12), .int (iN i)] (.inl (some (.int (iN (if rowOwn (σ g) 12 i = -1 then -1 else σ g 13 (rowOwn (σ g) 12 i)))))) σ := by
  refine Cb.of (own := RX5) (ls0 := [some (.ref (ad g 12)), some (.int (iN i)), none]) hl0 (by decide) rfl (Nat.le_of_ble_eq_true rfl) rfl ?_
  intro X hX1 hX2 hX3 hf he hh
  subst hX1 hX2 hX3
  refine V_aload_n hf dX5_idOf_0 rfl rfl ?_
  refine V_iload_n hf dX5_idOf_1 rfl rfl ?_
  refine B_callUi hf (As := [_]) (c_rowOwnO hl0 g hg σ hR hn0 i hi) cu_X5_52_8 hg rfl rfl rfl (Nat.le_of_ble_eq_true rfl) ⟨by decide, by decide, by decide, by decide⟩ dX5_idOf_2 ?_
  have hc := rowOwn_r (σ g) 12 i
  refine V_istore_n (ls2 := [_, _, _]) hf dX5_idOf_5 rfl (by decide) rfl rfl ?_
  refine V_iload_n hf dX5_idOf_6 rfl rfl ?_
  refine V_iconst hf dX5_idOf_7 ?_
  refine V_icmp_ne (tgt := 15) hf (by first | exact hR _ _ _ (by decide) | exact ⟨by omega, by omega⟩) (by first | exact hR _ _ _ (by decide) | exact ⟨by omega, by omega⟩) dX5_idOf_8 (by decide) (fun h8 => ?_) (fun h8 => ?_)
  · refine V_aload_n hf dX5_idOf_15 rfl rfl ?_
    refine B_get hf hg rfl fl_X5_18_8 rfl dX5_idOf_16 ?_
    refine V_iload_n hf dX5_idOf_19 rfl rfl ?_
    refine B_iald hf hg (fun _ => rfl) (by first | exact hR _ _ _ (by decide) | exact ⟨by omega, by omega⟩) (by omega) (by omega) dX5_idOf_20 ?_
    exact B_iret hf he rfl dX5_idOf_21 (by decide) (by decide) (by first | rw [if_pos (by omega)] | rw [if_neg (by omega)]) rfl
  · refine V_iconst hf dX5_idOf_11 ?_
    refine V_goto (tgt := 21) hf dX5_idOf_12 (by decide) ?_
    exact B_iret hf he rfl dX5_idOf_21 (by decide) (by decide) (by first | rw [if_pos (by omega)] | rw [if_neg (by omega)]) rfl

set_option maxHeartbeats 4000000 in
set_option maxRecDepth 100000 in
theorem c_removeO {l : Launch} {D : va_G} {K : Nat → ClassId} {ad : Adr} (hl0 : l.stackTraces = false) (g : Int) (hg : 0 ≤ g ∧ g < 11) (σ : Mem) (hR : Rng σ) (hn0 : σ g 12 0 ≤ 16) (r : Int) (hr : 0 ≤ r ∧ r < σ g 12 0) : Cb l D K ad yX5_remove (.code yX5_remove cX5_remove 2 none) 2 0 0 σ [.ref (ad g 12), .int (iN r)] (.inl none) (removeM σ g 12 r) := by
  refine Cb.of (own := RX5) (ls0 := [some (.ref (ad g 12)), some (.int (iN r))]) hl0 (by decide) rfl (Nat.le_of_ble_eq_true rfl) rfl ?_
  intro X hX1 hX2 hX3 hf he hh
  subst hX1 hX2 hX3
  refine V_iload_n hf dX5_remove_0 rfl rfl ?_
  refine V_if_lt (tgt := 12) hf (by first | exact hR _ _ _ (by decide) | exact ⟨by omega, by omega⟩) dX5_remove_1 (by decide) (fun h1 => ?_) (fun h1 => ?_)
  · exact absurd h1 (by omega)
  · refine V_iload_n hf dX5_remove_4 rfl rfl ?_
    refine V_aload_n hf dX5_remove_5 rfl rfl ?_
    refine B_get hf hg rfl fl_X5_9_8 rfl dX5_remove_6 ?_
    refine V_icmp_lt (tgt := 13) hf (by first | exact hR _ _ _ (by decide) | exact ⟨by omega, by omega⟩) (by first | exact hR _ _ _ (by decide) | exact ⟨by omega, by omega⟩) dX5_remove_9 (by decide) (fun h9 => ?_) (fun h9 => ?_)
    · refine V_aload_n hf dX5_remove_13 rfl rfl ?_
      refine V_dup hf dX5_remove_14 rfl ?_
      refine B_get hf hg rfl fl_X5_9_8 rfl dX5_remove_15 ?_
      refine V_iconst hf dX5_remove_18 ?_
      refine V_isub hf dX5_remove_19 ?_
      refine B_putI (kI := 0) hf rfl hg rfl fp_X5_9_8 rfl rfl (Nat.le_of_ble_eq_true rfl) (by decide) (cs_12_0 _ _ _ _ _) dX5_remove_20 ?_
      refine V_aload_n hf dX5_remove_23 rfl rfl ?_
      refine V_iload_n hf dX5_remove_24 rfl rfl ?_
      refine V_iconst hf dX5_remove_25 ?_
      refine V_iadd hf dX5_remove_26 ?_
      refine V_iload_n hf dX5_remove_27 rfl rfl ?_
      refine V_aload_n hf dX5_remove_28 rfl rfl ?_
      refine B_get hf hg rfl fl_X5_9_8 rfl dX5_remove_29 ?_
      refine V_iload_n hf dX5_remove_32 rfl rfl ?_
      refine V_isub hf dX5_remove_33 ?_
      refine B_callUv hf (As := [_, _, _]) (c_moveO hl0 g hg (st3 σ g 12 0 (σ g 12 0 - 1)) (hR.st (by have := hn0; exact ⟨by omega, by omega⟩)) (r + 1) r ((st3 σ g 12 0 (σ g 12 0 - 1)) g 12 0 - r) ⟨⟨by omega, by omega⟩, by omega⟩ ⟨⟨by omega, by omega⟩, by omega⟩ ⟨by rw [st3_self]; exact ⟨by omega, by omega⟩, by rw [st3_self]; omega⟩ (by rw [st3_self]; omega) (by rw [st3_self]; omega)) cu_X5_44_8 hg rfl rfl rfl (Nat.le_of_ble_eq_true rfl) ⟨by decide, by decide, by decide, by decide⟩ dX5_remove_34 ?_
      exact B_vret hf he dX5_remove_37 (by decide) (by decide) rfl
    · exact absurd h9 (by omega)

set_option maxHeartbeats 4000000 in
set_option maxRecDepth 100000 in
theorem c_enterO {l : Launch} {D : va_G} {K : Nat → ClassId} {ad : Adr} (hl0 : l.stackTraces = false) (g : Int) (hg : 0 ≤ g ∧ g < 11) (σ : Mem) (hR : Rng σ) (hn0 : 0 ≤ σ g 12 0 ∧ σ g 12 0 < 16) (o a b : Int) (ha : inR a) (hb : inR b) : Cb l D K ad yX5_enter (.code yX5_enter cX5_enter 5 (some .int)) 3 0 0 σ [.ref (ad g 12), .int (iN o), .int (iN a), .int (iN b)] (.inl (some (.int (iN (enterM σ g 12 (slotI (caO (σ g) a b) (σ g 12 0)) o a b g 13 (slotI (caO (σ g) a b) (σ g 12 0))))))) (enterM σ g 12 (slotI (caO (σ g) a b) (σ g 12 0)) o a b) := by
  refine Cb.of (own := RX5) (ls0 := [some (.ref (ad g 12)), some (.int (iN o)), some (.int (iN a)), some (.int (iN b)), none]) hl0 (by decide) rfl (Nat.le_of_ble_eq_true rfl) rfl ?_
  intro X hX1 hX2 hX3 hf he hh
  subst hX1 hX2 hX3
  have tail : ∀ k : Int, 0 ≤ k → k ≤ σ g 12 0 → k = slotI (caO (σ g) a b) (σ g 12 0) → B X ad σ 29 [some (.ref (ad g 12)), some (.int (iN o)), some (.int (iN a)), some (.int (iN b)), some (.int (iN k))] [] 0 0 := by
    intro k hk0 hk1 e
    refine V_aload_n hf dX5_enter_29 rfl rfl ?_
    refine V_iload hf dX5_enter_30 rfl ?_
    refine V_iload hf dX5_enter_32 rfl ?_
    refine V_iconst hf dX5_enter_34 ?_
    refine V_iadd hf dX5_enter_35 ?_
    refine V_aload_n hf dX5_enter_36 rfl rfl ?_
    refine B_get hf hg rfl fl_X5_9_8 rfl dX5_enter_37 ?_
    refine V_iload hf dX5_enter_40 rfl ?_
    refine V_isub hf dX5_enter_42 ?_
    refine B_callUv hf (As := [_, _, _]) (c_moveO hl0 g hg σ hR k (k + 1) _ ⟨⟨by omega, by omega⟩, by omega⟩ ⟨⟨by omega, by omega⟩, by omega⟩ ⟨⟨by omega, by omega⟩, by omega⟩ (by omega) (by omega)) cu_X5_44_8 hg rfl rfl rfl (Nat.le_of_ble_eq_true rfl) ⟨by decide, by decide, by decide, by decide⟩ dX5_enter_43 ?_
    refine V_aload_n hf dX5_enter_46 rfl rfl ?_
    refine V_dup hf dX5_enter_47 rfl ?_
    refine B_get hf hg rfl fl_X5_9_8 rfl dX5_enter_48 ?_
    refine V_iconst hf dX5_enter_51 ?_
    refine V_iadd hf dX5_enter_52 ?_
    refine B_putI (kI := 0) hf rfl hg rfl fp_X5_9_8 rfl rfl (Nat.le_of_ble_eq_true rfl) (by decide) (cs_12_0 _ _ _ _ _) dX5_enter_53 ?_
    refine V_aload_n hf dX5_enter_56 rfl rfl ?_
    refine B_get hf hg rfl fl_X5_18_8 rfl dX5_enter_57 ?_
    refine V_iload hf dX5_enter_60 rfl ?_
    refine V_aload_n hf dX5_enter_62 rfl rfl ?_
    refine B_get hf hg rfl fl_X5_15_8 rfl dX5_enter_63 ?_
    refine B_iast hf hg (by decide) (fun _ => rfl) (by first | exact hR _ _ _ (by decide) | exact ⟨by omega, by omega⟩) (by omega) (by omega) dX5_enter_66 ?_
    refine V_aload_n hf dX5_enter_67 rfl rfl ?_
    refine B_get hf hg rfl fl_X5_22_8 rfl dX5_enter_68 ?_
    refine V_iload hf dX5_enter_71 rfl ?_
    refine V_iload_n hf dX5_enter_73 rfl rfl ?_
    refine B_iast hf hg (by decide) (fun _ => rfl) (by first | exact hR _ _ _ (by decide) | exact ⟨by omega, by omega⟩) (by omega) (by omega) dX5_enter_74 ?_
    refine V_aload_n hf dX5_enter_75 rfl rfl ?_
    refine B_get hf hg rfl fl_X5_25_8 rfl dX5_enter_76 ?_
    refine V_iload hf dX5_enter_79 rfl ?_
    refine V_iload_n hf dX5_enter_81 rfl rfl ?_
    refine B_iast hf hg (by decide) (fun _ => rfl) (by first | exact hR _ _ _ (by decide) | exact ⟨by omega, by omega⟩) (by omega) (by omega) dX5_enter_82 ?_
    refine V_aload_n hf dX5_enter_83 rfl rfl ?_
    refine B_get hf hg rfl fl_X5_28_8 rfl dX5_enter_84 ?_
    refine V_iload hf dX5_enter_87 rfl ?_
    refine V_iload_n hf dX5_enter_89 rfl rfl ?_
    refine B_iast hf hg (by decide) (fun _ => rfl) (by first | exact hR _ _ _ (by decide) | exact ⟨by omega, by omega⟩) (by omega) (by omega) dX5_enter_90 ?_
    refine V_aload_n hf dX5_enter_91 rfl rfl ?_
    refine B_get hf hg rfl fl_X5_31_8 rfl dX5_enter_92 ?_
    refine V_iload hf dX5_enter_95 rfl ?_
    refine V_iconst hf dX5_enter_97 ?_
    refine B_iast hf hg (by decide) (fun _ => rfl) (by first | exact hR _ _ _ (by decide) | exact ⟨by omega, by omega⟩) (by omega) (by omega) dX5_enter_98 ?_
    refine V_aload_n hf dX5_enter_99 rfl rfl ?_
    refine V_dup hf dX5_enter_100 rfl ?_
    refine B_get hf hg rfl fl_X5_15_8 rfl dX5_enter_101 ?_
    refine V_iconst hf dX5_enter_104 ?_
    refine V_iadd hf dX5_enter_105 ?_
    refine B_putI (kI := 1) hf rfl hg rfl fp_X5_15_8 rfl rfl (Nat.le_of_ble_eq_true rfl) (by decide) (cs_12_1 _ _ _ _ _) dX5_enter_106 ?_
    refine V_aload_n hf dX5_enter_109 rfl rfl ?_
    refine B_get hf hg rfl fl_X5_18_8 rfl dX5_enter_110 ?_
    refine V_iload hf dX5_enter_113 rfl ?_
    refine B_iald hf hg (fun _ => rfl) (by first | exact hR _ _ _ (by decide) | exact ⟨by omega, by omega⟩) (by omega) (by omega) dX5_enter_115 ?_
    subst e
    exact B_iret hf he rfl dX5_enter_116 (by decide) (by decide) (by first | rfl | omega) rfl
  have loop : ∀ (n : Nat) (k : Int), 0 ≤ k → k ≤ σ g 12 0 → (∀ j : Int, 0 ≤ j → j < k → ¬ (caO (σ g) a b) j) → (σ g 12 0 - k).toNat < n → B X ad σ 3 [some (.ref (ad g 12)), some (.int (iN o)), some (.int (iN a)), some (.int (iN b)), some (.int (iN k))] [] 0 0 := by
    intro n
    induction n with
    | zero => intros; omega
    | succ n ih =>
      intro k hk0 hk1 hno hn
      refine V_iload hf dX5_enter_3 rfl ?_
      refine V_aload_n hf dX5_enter_5 rfl rfl ?_
      refine B_get hf hg rfl fl_X5_9_8 rfl dX5_enter_6 ?_
      refine V_icmp_ge (tgt := 29) hf (by first | exact hR _ _ _ (by decide) | exact ⟨by omega, by omega⟩) (by first | exact hR _ _ _ (by decide) | exact ⟨by omega, by omega⟩) dX5_enter_9 (by decide) (fun h9 => ?_) (fun h9 => ?_)
      · have e : k = σ g 12 0 := by omega
        refine tail k hk0 hk1 (e.trans (slotI_no (fun j h0 h1 => hno j h0 (by omega))).symm)
      · refine V_aload_n hf dX5_enter_12 rfl rfl ?_
        refine V_iload_n hf dX5_enter_13 rfl rfl ?_
        refine V_iload_n hf dX5_enter_14 rfl rfl ?_
        refine V_iload hf dX5_enter_15 rfl ?_
        refine B_callUi hf (As := [_, _, _]) (c_caO hl0 g hg σ hR a b k ha hb ⟨hk0, by omega⟩) cu_X5_40_8 hg rfl rfl rfl (Nat.le_of_ble_eq_true rfl) ⟨by decide, by decide, by decide, by decide⟩ dX5_enter_17 ?_
        refine V_if_ne (tgt := 29) hf (by split <;> exact ⟨by omega, by omega⟩) dX5_enter_20 (by decide) (fun h20 => ?_) (fun h20 => ?_)
        · refine tail k hk0 (by omega) (slotI_yes hk0 (by omega) (Classical.byContradiction fun q => h20 (if_neg q)) hno).symm
        · have q : ¬ caO (σ g) a b k := fun q => by rw [if_pos q] at h20; omega
          refine V_iinc (ls2 := [_, _, _, _, _]) hf dX5_enter_23 (by decide) rfl rfl rfl ?_
          refine V_goto (tgt := 3) hf dX5_enter_26 (by decide) ?_
          refine ih (k + 1) (by omega) (by omega) (fun j h0 h1 => ?_) (by omega)
          by_cases hj : j = k
          · subst hj
            assumption
          · exact hno j h0 (by omega)
  refine V_iconst hf dX5_enter_0 ?_
  refine V_istore (ls2 := [_, _, _, _, _]) hf dX5_enter_1 (by decide) rfl rfl ?_
  exact loop ((σ g 12 0).toNat + 1) 0 (by omega) (by omega) (fun j h0 h1 => by omega) (by omega)

set_option maxHeartbeats 4000000 in
set_option maxRecDepth 100000 in
theorem c_growO {l : Launch} {D : va_G} {K : Nat → ClassId} {ad : Adr} (hl0 : l.stackTraces = false) (g : Int) (hg : 0 ≤ g ∧ g < 11) (σ : Mem) (hR : Rng σ) (hn0 : 0 ≤ σ g 12 0 ∧ σ g 12 0 ≤ 16) (hag : ∀ k : Int, 0 ≤ k → k < σ g 12 0 → 0 ≤ σ g 17 k ∧ σ g 17 k ≤ 2) : Cb l D K ad yX5_growOlder (.code yX5_growOlder cX5_growOlder 3 (some .int)) 3 0 0 σ [.ref (ad g 12)] (.inl (some (.int (iN (growR g 12 (σ g 12 0).toNat σ 0).2)))) (growR g 12 (σ g 12 0).toNat σ 0).1 := by
  refine Cb.of (own := RX5) (ls0 := [some (.ref (ad g 12)), none, none]) hl0 (by decide) rfl (Nat.le_of_ble_eq_true rfl) rfl ?_
  intro X hX1 hX2 hX3 hf he hh
  subst hX1 hX2 hX3
  have loop : ∀ (n : Nat) (τ : Mem) (e : Int), Rng τ → (n : Int) ≤ τ g 12 0 → τ g 12 0 ≤ 16 → (∀ k : Int, 0 ≤ k → k < n → 0 ≤ τ g 17 k ∧ τ g 17 k ≤ 2) → Be X (some .int) ad (.inl (some (.int (iN (growR g 12 n τ e).2)))) (growR g 12 n τ e).1 0 0 → B X ad τ 9 [some (.ref (ad g 12)), some (.int (iN e)), some (.int (iN ((n : Int) - 1)))] [] 0 0 := by
    intro n
    induction n with
    | zero =>
      intro τ e hτ hn1 hn2 hag he
      refine V_iload_n hf dX5_growOlder_9 rfl rfl ?_
      refine V_if_lt (tgt := 47) hf ⟨by omega, by omega⟩ dX5_growOlder_10 (by decide) (fun h10 => ?_) (fun h10 => ?_)
      · refine V_iload_n hf dX5_growOlder_47 rfl rfl ?_
        exact B_iret hf he rfl dX5_growOlder_48 (by decide) (by decide) rfl rfl
      · exact absurd h10 (by omega)
    | succ n ih =>
      intro τ e hτ hn1 hn2 hag he
      have e1 : ((n + 1 : Nat) : Int) - 1 = (n : Int) := by omega
      rw [e1]
      refine V_iload_n hf dX5_growOlder_9 rfl rfl ?_
      refine V_if_lt (tgt := 47) hf ⟨by omega, by omega⟩ dX5_growOlder_10 (by decide) (fun h10 => ?_) (fun h10 => ?_)
      · exact absurd h10 (by omega)
      · refine V_aload_n hf dX5_growOlder_13 rfl rfl ?_
        refine B_get hf hg rfl fl_X5_31_8 rfl dX5_growOlder_14 ?_
        refine V_iload_n hf dX5_growOlder_17 rfl rfl ?_
        refine V_dup2 hf dX5_growOlder_18 rfl rfl ?_
        refine B_iald hf hg (fun _ => rfl) ⟨by omega, by omega⟩ (by omega) (by omega) dX5_growOlder_19 ?_
        refine V_iconst hf dX5_growOlder_20 ?_
        refine V_iadd hf dX5_growOlder_21 ?_
        refine B_iast hf hg (by decide) (fun _ => rfl) ⟨by omega, by omega⟩ (by omega) (by omega) dX5_growOlder_22 ?_
        refine V_aload_n hf dX5_growOlder_23 rfl rfl ?_
        refine B_get hf hg rfl fl_X5_31_8 rfl dX5_growOlder_24 ?_
        refine V_iload_n hf dX5_growOlder_27 rfl rfl ?_
        refine B_iald hf hg (fun _ => rfl) ⟨by omega, by omega⟩ (by omega) (by omega) dX5_growOlder_28 ?_
        refine V_iconst hf dX5_growOlder_29 ?_
        refine V_icmp_lt (tgt := 41) hf (by rw [st3_self]; have := hag n (by omega) (by omega); exact ⟨by omega, by omega⟩) ⟨by omega, by omega⟩ dX5_growOlder_30 (by decide) (fun h30 => ?_) (fun h30 => ?_)
        · have hgr : growR g 12 (n + 1) τ e = growR g 12 n (st3 τ g 17 (n : Int) (τ g 17 (n : Int) + 1)) e := if_neg (show ¬ ((st3 τ g 17 (n : Int) (τ g 17 (n : Int) + 1)) g 17 (n : Int) ≥ 3) by omega)
          rw [hgr] at he
          refine V_iinc (ls2 := [_, _, _]) hf dX5_growOlder_41 (by decide) rfl rfl rfl ?_
          refine V_goto (tgt := 9) hf dX5_growOlder_44 (by decide) ?_
          have bk := ih (st3 τ g 17 (n : Int) (τ g 17 (n : Int) + 1)) e (hτ.st (by have := hag n (by omega) (by omega); exact ⟨by omega, by omega⟩)) (by rw [st3_j (by decide)]; omega) (by rw [st3_j (by decide)]; omega) (fun k h0 h1 => by rw [st3_k (by omega)]; exact hag k h0 (by omega))
          rw [show (n : Int) + -1 = (n : Int) - 1 by omega]
          exact bk he
        · have hgr : growR g 12 (n + 1) τ e = growR g 12 n (removeM (st3 τ g 17 (n : Int) (τ g 17 (n : Int) + 1)) g 12 (n : Int)) (e + 1) := if_pos (show ((st3 τ g 17 (n : Int) (τ g 17 (n : Int) + 1)) g 17 (n : Int) ≥ 3) by omega)
          rw [hgr] at he
          refine V_aload_n hf dX5_growOlder_33 rfl rfl ?_
          refine V_iload_n hf dX5_growOlder_34 rfl rfl ?_
          refine B_callUv hf (As := [_]) (c_removeO hl0 g hg (st3 τ g 17 (n : Int) (τ g 17 (n : Int) + 1)) (hτ.st (by have := hag n (by omega) (by omega); exact ⟨by omega, by omega⟩)) (by rw [st3_j (by decide)]; omega) (n : Int) ⟨by omega, by rw [st3_j (by decide)]; omega⟩) cu_X5_48_8 hg rfl rfl rfl (Nat.le_of_ble_eq_true rfl) ⟨by decide, by decide, by decide, by decide⟩ dX5_growOlder_35 ?_
          refine V_iinc (ls2 := [_, _, _]) hf dX5_growOlder_38 (by decide) rfl rfl rfl ?_
          refine V_iinc (ls2 := [_, _, _]) hf dX5_growOlder_41 (by decide) rfl rfl rfl ?_
          refine V_goto (tgt := 9) hf dX5_growOlder_44 (by decide) ?_
          have bk := ih (removeM (st3 τ g 17 (n : Int) (τ g 17 (n : Int) + 1)) g 12 (n : Int)) (e + 1) ((hτ.st (by have := hag n (by omega) (by omega); exact ⟨by omega, by omega⟩)).remove (by decide) (by rw [st3_j (by decide)]; omega)) (by rw [removeM_0, st3_j (by decide)]; omega) (by rw [removeM_0, st3_j (by decide)]; omega) (fun k h0 h1 => by rw [show 17 = 12 + 5 from rfl, removeM_5 (by omega), st3_k (by omega)]; exact hag k h0 (by omega))
          rw [show (n : Int) + -1 = (n : Int) - 1 by omega]
          exact bk he
  refine V_iconst hf dX5_growOlder_0 ?_
  refine V_istore_n (ls2 := [_, _, _]) hf dX5_growOlder_1 rfl (by decide) rfl rfl ?_
  refine V_aload_n hf dX5_growOlder_2 rfl rfl ?_
  refine B_get hf hg rfl fl_X5_9_8 rfl dX5_growOlder_3 ?_
  refine V_iconst hf dX5_growOlder_6 ?_
  refine V_isub hf dX5_growOlder_7 ?_
  refine V_istore_n (ls2 := [_, _, _]) hf dX5_growOlder_8 rfl (by decide) rfl rfl ?_
  have bk := loop (σ g 12 0).toNat σ 0 hR (by omega) hn0.2 (fun k h0 h1 => hag k h0 (by omega)) he
  rw [show (((σ g 12 0).toNat : Nat) : Int) - 1 = σ g 12 0 - 1 by omega] at bk
  exact bk
