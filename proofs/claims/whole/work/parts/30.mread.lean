/-! the reference: what it reads -/
/-- what the reference keeps of its block -/
def NI (ν : Int → Int) : Prop := (0 ≤ ν 0 ∧ ν 0 ≤ 6) ∧ (0 ≤ ν 1 ∧ ν 1 ≤ 16) ∧ (0 ≤ ν 2 ∧ ν 2 ≤ 10) ∧ (0 ≤ ν 3 ∧ ν 3 ≤ 16) ∧ (∀ k : Int, 4 ≤ k ∧ k < 14 → 0 ≤ ν k ∧ ν k ≤ 100000000)
  ∧ (∀ s : Int, 0 ≤ s → s < ν 0 → (0 ≤ ν (14 + 2 * s) ∧ ν (14 + 2 * s) ≤ 100000000) ∧ 1 ≤ ν (14 + 2 * s + 1) ∧ ν (14 + 2 * s + 1) ≤ 5)
  ∧ (∀ b : Int, 0 ≤ b → b < ν 1 → (0 ≤ ν (26 + 2 * b) ∧ ν (26 + 2 * b) < ν 0) ∧ 1 ≤ ν (26 + 2 * b + 1) ∧ ν (26 + 2 * b + 1) ≤ 9)
  ∧ (∀ k : Int, 0 ≤ k → k < ν 2 → (0 ≤ ν (58 + 5 * k + 1) ∧ ν (58 + 5 * k + 1) < ν 0) ∧ (1 ≤ ν (58 + 5 * k + 2) ∧ ν (58 + 5 * k + 2) ≤ 9) ∧ (1 ≤ ν (58 + 5 * k + 3) ∧ ν (58 + 5 * k + 3) ≤ 99) ∧ 0 ≤ ν (58 + 5 * k + 4) ∧ ν (58 + 5 * k + 4) ≤ 2)
  ∧ (∀ k : Int, 0 ≤ k → k < ν 3 → (0 ≤ ν (108 + 4 * k + 1) ∧ ν (108 + 4 * k + 1) < ν 1) ∧ (1 ≤ ν (108 + 4 * k + 2) ∧ ν (108 + 4 * k + 2) ≤ 99) ∧ 0 ≤ ν (108 + 4 * k + 3) ∧ ν (108 + 4 * k + 3) ≤ 2)
theorem NI.n0 {ν : Int → Int} (h : NI ν) : 0 ≤ ν 0 ∧ ν 0 ≤ 6 := h.1
theorem NI.n1 {ν : Int → Int} (h : NI ν) : 0 ≤ ν 1 ∧ ν 1 ≤ 16 := h.2.1
theorem NI.n2 {ν : Int → Int} (h : NI ν) : 0 ≤ ν 2 ∧ ν 2 ≤ 10 := h.2.2.1
theorem NI.n3 {ν : Int → Int} (h : NI ν) : 0 ≤ ν 3 ∧ ν 3 ≤ 16 := h.2.2.2.1
theorem NI.cr {ν : Int → Int} (h : NI ν) : ∀ k : Int, 4 ≤ k ∧ k < 14 → 0 ≤ ν k ∧ ν k ≤ 100000000 := h.2.2.2.2.1
theorem NI.sh {ν : Int → Int} (h : NI ν) : ∀ s : Int, 0 ≤ s → s < ν 0 → (0 ≤ ν (14 + 2 * s) ∧ ν (14 + 2 * s) ≤ 100000000) ∧ 1 ≤ ν (14 + 2 * s + 1) ∧ ν (14 + 2 * s + 1) ≤ 5 := h.2.2.2.2.2.1
theorem NI.ba {ν : Int → Int} (h : NI ν) : ∀ b : Int, 0 ≤ b → b < ν 1 → (0 ≤ ν (26 + 2 * b) ∧ ν (26 + 2 * b) < ν 0) ∧ 1 ≤ ν (26 + 2 * b + 1) ∧ ν (26 + 2 * b + 1) ≤ 9 := h.2.2.2.2.2.2.1
theorem NI.bi {ν : Int → Int} (h : NI ν) : ∀ k : Int, 0 ≤ k → k < ν 2 → (0 ≤ ν (58 + 5 * k + 1) ∧ ν (58 + 5 * k + 1) < ν 0) ∧ (1 ≤ ν (58 + 5 * k + 2) ∧ ν (58 + 5 * k + 2) ≤ 9) ∧ (1 ≤ ν (58 + 5 * k + 3) ∧ ν (58 + 5 * k + 3) ≤ 99) ∧ 0 ≤ ν (58 + 5 * k + 4) ∧ ν (58 + 5 * k + 4) ≤ 2 := h.2.2.2.2.2.2.2.1
theorem NI.of {ν : Int → Int} (h : NI ν) : ∀ k : Int, 0 ≤ k → k < ν 3 → (0 ≤ ν (108 + 4 * k + 1) ∧ ν (108 + 4 * k + 1) < ν 1) ∧ (1 ≤ ν (108 + 4 * k + 2) ∧ ν (108 + 4 * k + 2) ≤ 99) ∧ 0 ≤ ν (108 + 4 * k + 3) ∧ ν (108 + 4 * k + 3) ≤ 2 := h.2.2.2.2.2.2.2.2
def mloadF (ν : Int → Int) (s : Int) : Int → Int := fun k => if ν (26 + 2 * k) = s then 1 else 0
def mload (ν : Int → Int) (s : Int) : Int := sumI (mloadF ν s) (ν 1)
def mresF (ν : Int → Int) (s : Int) : Int → Int := fun k => if ν (58 + 5 * k + 1) = s then ν (58 + 5 * k + 3) else 0
def mres (ν : Int → Int) (s : Int) : Int := sumI (mresF ν s) (ν 2)
def mcntF (ν : Int → Int) (s : Int) : Int → Int := fun k => if ν (58 + 5 * k + 1) = s then 1 else 0
def mcap (ν : Int → Int) (s : Int) : Int := ν (14 + 2 * s + 1)
def mplaces (ν : Int → Int) (s : Int) : Int := mcap ν s - mload ν s - sumI (mcntF ν s) (ν 2)
def mgr (ν : Int → Int) (b : Int) : Int := ν (26 + 2 * b + 1)
noncomputable def mofferFor (ν : Int → Int) (b : Int) : Int := fst (fun k => ν (108 + 4 * k + 1) = b) (ν 3)
noncomputable def mplB (ν : Int → Int) (i : Int) : Int := fst (fun k => ν (58 + 5 * k) = i) (ν 2)
noncomputable def mplO (ν : Int → Int) (i : Int) : Int := fst (fun k => ν (108 + 4 * k) = i) (ν 3)
abbrev mbA (ν : Int → Int) (a b : Int) : Prop := ν (58 + 5 * b + 3) < ν (58 + 5 * a + 3) ∨ (ν (58 + 5 * a + 3) = ν (58 + 5 * b + 3) ∧ ν (58 + 5 * a) < ν (58 + 5 * b))
abbrev moA (ν : Int → Int) (a b : Int) : Prop := ν (108 + 4 * a + 2) < ν (108 + 4 * b + 2) ∨ (ν (108 + 4 * a + 2) = ν (108 + 4 * b + 2) ∧ (mgr ν (ν (108 + 4 * b + 1)) < mgr ν (ν (108 + 4 * a + 1)) ∨ (mgr ν (ν (108 + 4 * a + 1)) = mgr ν (ν (108 + 4 * b + 1)) ∧ ν (108 + 4 * a) < ν (108 + 4 * b))))
def mbF (ν : Int → Int) (k : Int) : Int → Int := fun x => if mbA ν x k then 1 else 0
def moF (ν : Int → Int) (k : Int) : Int → Int := fun x => if moA ν x k then 1 else 0
noncomputable def mbRank (ν : Int → Int) (r : Int) : Int := fst (fun k => sumI (mbF ν k) (ν 2) = r) (ν 2)
noncomputable def moRank (ν : Int → Int) (r : Int) : Int := fst (fun k => sumI (moF ν k) (ν 3) = r) (ν 3)
abbrev mfits (ν : Int → Int) (x b : Int) : Prop := ν (26 + 2 * ν (108 + 4 * x + 1)) ≠ ν (58 + 5 * b + 1) ∧ ν (58 + 5 * b + 2) ≤ mgr ν (ν (108 + 4 * x + 1)) ∧ ν (108 + 4 * x + 2) ≤ ν (58 + 5 * b + 3)
def mbestS (ν : Int → Int) (b k best : Int) : Int := if mfits ν k b ∧ (best = -1 ∨ moA ν k best) then k else best
def mbestN (ν : Int → Int) (b : Int) : Nat → Int
  | 0 => -1
  | n + 1 => mbestS ν b (n : Int) (mbestN ν b n)
def mmatch (ν : Int → Int) (b : Int) : Int := mbestN ν b (ν 3).toNat
theorem mbestN_s (ν : Int → Int) (b : Int) {k : Int} (h : 0 ≤ k) : mbestN ν b (k + 1).toNat = mbestS ν b k (mbestN ν b k.toNat) := by
  rw [show (k + 1).toNat = k.toNat + 1 by omega, mbestN, Int.toNat_of_nonneg h]
theorem mbestN_r (ν : Int → Int) (b : Int) : ∀ n : Nat, -1 ≤ mbestN ν b n ∧ mbestN ν b n < n
  | 0 => by simp [mbestN]
  | n + 1 => by
    have h1 := mbestN_r ν b n
    rw [mbestN, mbestS]
    split <;> omega
def mwealthF (ν : Int → Int) (s : Int) : Int → Int := fun k => if ν (26 + 2 * k) = s then mgr ν k else 0
def mwealth (ν : Int → Int) (s : Int) : Int := ν (14 + 2 * s) + sumI (mwealthF ν s) (ν 1)
def mbaF (ν : Int → Int) (s b : Int) : Int → Int := fun x => if ν (26 + 2 * x) = s ∧ (mgr ν b < mgr ν x ∨ (mgr ν x = mgr ν b ∧ x < b)) then 1 else 0
noncomputable def mbarn (ν : Int → Int) (s p : Int) : Int := fst (fun b => ν (26 + 2 * b) = s ∧ sumI (mbaF ν s b) (ν 1) = p) (ν 1)
def msaF (ν : Int → Int) (s : Int) : Int → Int := fun a => if mwealth ν s < mwealth ν a ∨ (mwealth ν a = mwealth ν s ∧ (mload ν s < mload ν a ∨ (mload ν a = mload ν s ∧ a < s))) then 1 else 0
noncomputable def mshipBy (ν : Int → Int) (p : Int) : Int := fst (fun s => sumI (msaF ν s) (ν 0) = p) (ν 0)
def mcoinF (ν : Int → Int) : Int → Int := fun s => ν (14 + 2 * s)
theorem mload_r {ν : Int → Int} (h : 0 ≤ ν 1 ∧ ν 1 ≤ 16) (s : Int) : 0 ≤ mload ν s ∧ mload ν s ≤ 16 := by
  have := sumI_le (f := mloadF ν s) (c := 1) h.1 (fun k _ _ => by unfold mloadF; split <;> omega)
  unfold mload
  omega
theorem mres_r {ν : Int → Int} (h : NI ν) (s : Int) : 0 ≤ mres ν s ∧ mres ν s ≤ 990 := by
  have := sumI_le (f := mresF ν s) (c := 99) h.n2.1 (fun k a b => by have := h.bi k a b; unfold mresF; split <;> omega)
  have := h.n2
  unfold mres
  omega
theorem mplaces_r {ν : Int → Int} (h : NI ν) {s : Int} (h0 : 0 ≤ s) (h1 : s < ν 0) : -26 ≤ mplaces ν s ∧ mplaces ν s ≤ 5 := by
  have := sumI_le (f := mcntF ν s) (c := 1) h.n2.1 (fun k a b => by unfold mcntF; split <;> omega)
  have := h.n2
  have := mload_r h.n1 s
  have := h.sh s h0 h1
  unfold mplaces mcap
  omega
theorem mwealth_r {ν : Int → Int} (h : NI ν) {s : Int} (h0 : 0 ≤ s) (h1 : s < ν 0) : 0 ≤ mwealth ν s ∧ mwealth ν s ≤ 100000144 := by
  have := sumI_le (f := mwealthF ν s) (c := 9) h.n1.1 (fun k a b => by have := h.ba k a b; unfold mwealthF mgr; split <;> omega)
  have h2 := h.sh s h0 h1
  have h3 := h.n1
  unfold mwealth
  omega
theorem mrk_r {f : Int → Int} {n : Int} (hn : 0 ≤ n) (hn2 : n ≤ 16) (h : ∀ k, 0 ≤ f k ∧ f k ≤ 1) : 0 ≤ sumI f n ∧ sumI f n ≤ 16 := by
  have := sumI_le (f := f) (c := 1) hn (fun k _ _ => h k)
  omega
theorem mbF_r {ν : Int → Int} {k x : Int} : 0 ≤ mbF ν k x ∧ mbF ν k x ≤ 1 := by unfold mbF; split <;> omega
theorem moF_r {ν : Int → Int} {k x : Int} : 0 ≤ moF ν k x ∧ moF ν k x ≤ 1 := by unfold moF; split <;> omega
theorem mbaF_r {ν : Int → Int} {s k x : Int} : 0 ≤ mbaF ν s k x ∧ mbaF ν s k x ≤ 1 := by unfold mbaF; split <;> omega
theorem msaF_r {ν : Int → Int} {k x : Int} : 0 ≤ msaF ν k x ∧ msaF ν k x ≤ 1 := by unfold msaF; split <;> omega
theorem fst_r {P : Int → Prop} {n : Int} : -1 ≤ fst P n ∧ (fst P n < n ∨ fst P n = -1) := by
  have h := fst_cases P n
  omega
set_option maxHeartbeats 4000000 in
set_option maxRecDepth 100000 in
theorem d_in {l : Launch} {D : va_G} {K : Nat → ClassId} {ad : Adr} (hl0 : l.stackTraces = false) (σ : Mem) (v a b : Int) (hv : inR v) (ha : inR a) (hb : inR b) : Cb l D K ad yX9_in (.code yX9_in cX9_in 6 (some .boolean)) 1 0 0 σ [.long (lI v), .long (lI a), .long (lI b)] (.inl (some (.int (iN (if a ≤ v ∧ v ≤ b then 1 else 0))))) σ := by
  refine Cb.of (own := RX9) (ls0 := [some (.long (lI v)), none, some (.long (lI a)), none, some (.long (lI b)), none]) hl0 (by decide) rfl (Nat.le_of_ble_eq_true rfl) rfl ?_
  intro X hX1 hX2 hX3 hf he hh
  subst hX1 hX2 hX3
  refine V_lload_n hf dX9_in_0 rfl rfl ?_
  refine V_lload_n hf dX9_in_1 rfl rfl ?_
  refine V_lcmp hf (by first | exact hR _ _ _ (by decide) | exact ⟨by omega, by omega⟩) (by first | exact hR _ _ _ (by decide) | exact ⟨by omega, by omega⟩) dX9_in_2 ?_
  refine V_if_lt (tgt := 17) hf (by split <;> (try split) <;> exact ⟨by decide, by decide⟩) dX9_in_3 (by decide) (fun h3 => ?_) (fun h3 => ?_)
  · refine V_iconst hf dX9_in_17 ?_
    exact B_iret hf he (nar_b _) dX9_in_18 (by decide) (by decide) (by first | rfl | omega | (rw [if_pos (by omega)]) | (rw [if_neg (by omega)])) rfl
  · refine V_lload_n hf dX9_in_6 rfl rfl ?_
    refine V_lload hf dX9_in_7 rfl ?_
    refine V_lcmp hf (by first | exact hR _ _ _ (by decide) | exact ⟨by omega, by omega⟩) (by first | exact hR _ _ _ (by decide) | exact ⟨by omega, by omega⟩) dX9_in_9 ?_
    refine V_if_gt (tgt := 17) hf (by split <;> (try split) <;> exact ⟨by decide, by decide⟩) dX9_in_10 (by decide) (fun h10 => ?_) (fun h10 => ?_)
    · refine V_iconst hf dX9_in_17 ?_
      exact B_iret hf he (nar_b _) dX9_in_18 (by decide) (by decide) (by first | rfl | omega | (rw [if_pos (by omega)]) | (rw [if_neg (by omega)])) rfl
    · refine V_iconst hf dX9_in_13 ?_
      refine V_goto (tgt := 18) hf dX9_in_14 (by decide) ?_
      exact B_iret hf he (nar_b _) dX9_in_18 (by decide) (by decide) (by first | rfl | omega | (rw [if_pos (by omega)]) | (rw [if_neg (by omega)])) rfl

set_option maxHeartbeats 4000000 in
set_option maxRecDepth 100000 in
theorem d_shipAt {l : Launch} {D : va_G} {K : Nat → ClassId} {ad : Adr} (hl0 : l.stackTraces = false) (σ : Mem) (k : Int) : Cb l D K ad yX9_shipAt (.code yX9_shipAt cX9_shipAt 1 (some .int)) 1 0 0 σ [.int (iN k)] (.inl (some (.int (iN (14 + 2 * k))))) σ := by
  refine Cb.of (own := RX9) (ls0 := [some (.int (iN k))]) hl0 (by decide) rfl (Nat.le_of_ble_eq_true rfl) rfl ?_
  intro X hX1 hX2 hX3 hf he hh
  subst hX1 hX2 hX3
  refine V_bipush hf dX9_shipAt_0 (by decide +kernel) ?_
  refine V_iconst hf dX9_shipAt_2 ?_
  refine V_iload_n hf dX9_shipAt_3 rfl rfl ?_
  refine V_imul hf dX9_shipAt_4 ?_
  refine V_iadd hf dX9_shipAt_5 ?_
  exact B_iret hf he rfl dX9_shipAt_6 (by decide) (by decide) rfl rfl

set_option maxHeartbeats 4000000 in
set_option maxRecDepth 100000 in
theorem d_barnacleAtPlace {l : Launch} {D : va_G} {K : Nat → ClassId} {ad : Adr} (hl0 : l.stackTraces = false) (σ : Mem) (k : Int) : Cb l D K ad yX9_barnacleAtPlace (.code yX9_barnacleAtPlace cX9_barnacleAtPlace 1 (some .int)) 1 0 0 σ [.int (iN k)] (.inl (some (.int (iN (26 + 2 * k))))) σ := by
  refine Cb.of (own := RX9) (ls0 := [some (.int (iN k))]) hl0 (by decide) rfl (Nat.le_of_ble_eq_true rfl) rfl ?_
  intro X hX1 hX2 hX3 hf he hh
  subst hX1 hX2 hX3
  refine V_bipush hf dX9_barnacleAtPlace_0 (by decide +kernel) ?_
  refine V_iconst hf dX9_barnacleAtPlace_2 ?_
  refine V_iload_n hf dX9_barnacleAtPlace_3 rfl rfl ?_
  refine V_imul hf dX9_barnacleAtPlace_4 ?_
  refine V_iadd hf dX9_barnacleAtPlace_5 ?_
  exact B_iret hf he rfl dX9_barnacleAtPlace_6 (by decide) (by decide) rfl rfl

set_option maxHeartbeats 4000000 in
set_option maxRecDepth 100000 in
theorem d_bidAtPlace {l : Launch} {D : va_G} {K : Nat → ClassId} {ad : Adr} (hl0 : l.stackTraces = false) (σ : Mem) (k : Int) : Cb l D K ad yX9_bidAtPlace (.code yX9_bidAtPlace cX9_bidAtPlace 1 (some .int)) 1 0 0 σ [.int (iN k)] (.inl (some (.int (iN (58 + 5 * k))))) σ := by
  refine Cb.of (own := RX9) (ls0 := [some (.int (iN k))]) hl0 (by decide) rfl (Nat.le_of_ble_eq_true rfl) rfl ?_
  intro X hX1 hX2 hX3 hf he hh
  subst hX1 hX2 hX3
  refine V_bipush hf dX9_bidAtPlace_0 (by decide +kernel) ?_
  refine V_iconst hf dX9_bidAtPlace_2 ?_
  refine V_iload_n hf dX9_bidAtPlace_3 rfl rfl ?_
  refine V_imul hf dX9_bidAtPlace_4 ?_
  refine V_iadd hf dX9_bidAtPlace_5 ?_
  exact B_iret hf he rfl dX9_bidAtPlace_6 (by decide) (by decide) rfl rfl

set_option maxHeartbeats 4000000 in
set_option maxRecDepth 100000 in
theorem d_offerAtPlace {l : Launch} {D : va_G} {K : Nat → ClassId} {ad : Adr} (hl0 : l.stackTraces = false) (σ : Mem) (k : Int) : Cb l D K ad yX9_offerAtPlace (.code yX9_offerAtPlace cX9_offerAtPlace 1 (some .int)) 1 0 0 σ [.int (iN k)] (.inl (some (.int (iN (108 + 4 * k))))) σ := by
  refine Cb.of (own := RX9) (ls0 := [some (.int (iN k))]) hl0 (by decide) rfl (Nat.le_of_ble_eq_true rfl) rfl ?_
  intro X hX1 hX2 hX3 hf he hh
  subst hX1 hX2 hX3
  refine V_bipush hf dX9_offerAtPlace_0 (by decide +kernel) ?_
  refine V_iconst hf dX9_offerAtPlace_2 ?_
  refine V_iload_n hf dX9_offerAtPlace_3 rfl rfl ?_
  refine V_imul hf dX9_offerAtPlace_4 ?_
  refine V_iadd hf dX9_offerAtPlace_5 ?_
  exact B_iret hf he rfl dX9_offerAtPlace_6 (by decide) (by decide) rfl rfl

set_option maxHeartbeats 4000000 in
set_option maxRecDepth 100000 in
theorem d_thrown {l : Launch} {D : va_G} {K : Nat → ClassId} {ad : Adr} (hl0 : l.stackTraces = false) (σ : Mem) (hR : Rng σ) : Cb l D K ad yX9_thrown (.code yX9_thrown cX9_thrown 1 (some .int)) 1 0 0 σ [.ref (ad 0 40)] (.inl (some (.int (iN (σ 0 40 8))))) σ := by
  refine Cb.of (own := RX9) (ls0 := [some (.ref (ad 0 40))]) hl0 (by decide) rfl (Nat.le_of_ble_eq_true rfl) rfl ?_
  intro X hX1 hX2 hX3 hf he hh
  subst hX1 hX2 hX3
  refine V_aload_n hf dX9_thrown_0 rfl rfl ?_
  refine B_get hf l01 rfl fl_X9_38_12 rfl dX9_thrown_1 ?_
  exact B_iret hf he rfl dX9_thrown_4 (by decide) (by decide) rfl rfl

set_option maxHeartbeats 4000000 in
set_option maxRecDepth 100000 in
theorem d_throwing {l : Launch} {D : va_G} {K : Nat → ClassId} {ad : Adr} (hl0 : l.stackTraces = false) (σ : Mem) (hR : Rng σ) (p : Int) : Cb l D K ad yX9_throwing (.code yX9_throwing cX9_throwing 2 (some .int)) 1 0 0 σ [.ref (ad 0 40), .int (iN p)] (.inl (some (.int (iN (-1))))) (st3 σ 0 40 8 p) := by
  refine Cb.of (own := RX9) (ls0 := [some (.ref (ad 0 40)), some (.int (iN p))]) hl0 (by decide) rfl (Nat.le_of_ble_eq_true rfl) rfl ?_
  intro X hX1 hX2 hX3 hf he hh
  subst hX1 hX2 hX3
  refine V_aload_n hf dX9_throwing_0 rfl rfl ?_
  refine V_iload_n hf dX9_throwing_1 rfl rfl ?_
  refine B_putI (kI := 8) hf rfl l01 rfl fp_X9_38_12 rfl rfl (Nat.le_of_ble_eq_true rfl) (by decide) (cs_40_8 _ _ _ _ _) dX9_throwing_2 ?_
  refine V_iconst hf dX9_throwing_5 ?_
  exact B_iret hf he rfl dX9_throwing_6 (by decide) (by decide) rfl rfl

set_option maxHeartbeats 4000000 in
set_option maxRecDepth 100000 in
theorem d_rejecting {l : Launch} {D : va_G} {K : Nat → ClassId} {ad : Adr} (hl0 : l.stackTraces = false) (σ : Mem) (q a : Int) (hR2 : Rng (st3 (st3 σ 0 40 14 q) 0 40 15 a)) (p : Int) : Cb l D K ad yX9_rejecting (.code yX9_rejecting cX9_rejecting 4 (some .int)) 2 0 0 σ [.ref (ad 0 40), .int (iN p), .int (iN q), .int (iN a)] (.inl (some (.int (iN (-1))))) (st3 (st3 (st3 σ 0 40 14 q) 0 40 15 a) 0 40 8 p) := by
  refine Cb.of (own := RX9) (ls0 := [some (.ref (ad 0 40)), some (.int (iN p)), some (.int (iN q)), some (.int (iN a))]) hl0 (by decide) rfl (Nat.le_of_ble_eq_true rfl) rfl ?_
  intro X hX1 hX2 hX3 hf he hh
  subst hX1 hX2 hX3
  refine V_aload_n hf dX9_rejecting_0 rfl rfl ?_
  refine V_iload_n hf dX9_rejecting_1 rfl rfl ?_
  refine B_putI (kI := 14) hf rfl l01 rfl fp_X9_41_12 rfl rfl (Nat.le_of_ble_eq_true rfl) (by decide) (cs_40_14 _ _ _ _ _) dX9_rejecting_2 ?_
  refine V_aload_n hf dX9_rejecting_5 rfl rfl ?_
  refine V_iload_n hf dX9_rejecting_6 rfl rfl ?_
  refine B_putI (kI := 15) hf rfl l01 rfl fp_X9_44_12 rfl rfl (Nat.le_of_ble_eq_true rfl) (by decide) (cs_40_15 _ _ _ _ _) dX9_rejecting_7 ?_
  refine V_aload_n hf dX9_rejecting_10 rfl rfl ?_
  refine V_iload_n hf dX9_rejecting_11 rfl rfl ?_
  refine B_callVi hf (As := [_]) (d_throwing hl0 _ hR2 p) cv_X9_47 l01 rfl rfl rfl (Nat.le_of_ble_eq_true rfl) ⟨by decide, by decide, by decide, by decide⟩ dX9_rejecting_12 ?_
  exact B_iret hf he rfl dX9_rejecting_15 (by decide) (by decide) rfl rfl

set_option maxHeartbeats 4000000 in
set_option maxRecDepth 100000 in
theorem d_isShip {l : Launch} {D : va_G} {K : Nat → ClassId} {ad : Adr} (hl0 : l.stackTraces = false) (σ : Mem) (hR : Rng σ) (hN : NI (σ 0 41)) (s : Int) (hs : inR s) : Cb l D K ad yX9_isShip (.code yX9_isShip cX9_isShip 2 (some .boolean)) 2 0 0 σ [.ref (ad 0 40), .int (iN s)] (.inl (some (.int (iN (if 0 ≤ s ∧ s ≤ σ 0 41 0 - 1 then 1 else 0))))) σ := by
  refine Cb.of (own := RX9) (ls0 := [some (.ref (ad 0 40)), some (.int (iN s))]) hl0 (by decide) rfl (Nat.le_of_ble_eq_true rfl) rfl ?_
  intro X hX1 hX2 hX3 hf he hh
  subst hX1 hX2 hX3
  have n0 := hN.n0
  have n1 := hN.n1
  have n2 := hN.n2
  have n3 := hN.n3
  refine V_iload_n hf dX9_isShip_0 rfl rfl ?_
  refine V_i2l hf (by first | exact hR _ _ _ (by decide) | exact ⟨by omega, by omega⟩) dX9_isShip_1 ?_
  refine V_lconst (a := 0) hf (by decide +kernel) dX9_isShip_2 ?_
  refine V_aload_n hf dX9_isShip_3 rfl rfl ?_
  refine B_get hf l01 rfl fl_X9_9_12 rfl dX9_isShip_4 ?_
  refine V_iconst hf dX9_isShip_7 ?_
  refine B_iald hf l01 (fun _ => rfl) ⟨by omega, by omega⟩ (by omega) (by omega) dX9_isShip_8 ?_
  refine V_iconst hf dX9_isShip_9 ?_
  refine V_isub hf dX9_isShip_10 ?_
  refine V_i2l hf ⟨by omega, by omega⟩ dX9_isShip_11 ?_
  refine B_callSi hf (As := [_, _, _]) (d_in hl0 σ (s) (0) (σ 0 41 0 - 1) hs ⟨by omega, by omega⟩ ⟨by omega, by omega⟩) cvs_X9_63 rfl (Nat.le_of_ble_eq_true rfl) ⟨by decide, by decide, by decide, by decide⟩ dX9_isShip_12 ?_
  exact B_iret hf he (nar_b _) dX9_isShip_15 (by decide) (by decide) rfl rfl

set_option maxHeartbeats 4000000 in
set_option maxRecDepth 100000 in
theorem d_isBarn {l : Launch} {D : va_G} {K : Nat → ClassId} {ad : Adr} (hl0 : l.stackTraces = false) (σ : Mem) (hR : Rng σ) (hN : NI (σ 0 41)) (s : Int) (hs : inR s) : Cb l D K ad yX9_isBarnacle (.code yX9_isBarnacle cX9_isBarnacle 2 (some .boolean)) 2 0 0 σ [.ref (ad 0 40), .int (iN s)] (.inl (some (.int (iN (if 0 ≤ s ∧ s ≤ σ 0 41 1 - 1 then 1 else 0))))) σ := by
  refine Cb.of (own := RX9) (ls0 := [some (.ref (ad 0 40)), some (.int (iN s))]) hl0 (by decide) rfl (Nat.le_of_ble_eq_true rfl) rfl ?_
  intro X hX1 hX2 hX3 hf he hh
  subst hX1 hX2 hX3
  have n0 := hN.n0
  have n1 := hN.n1
  have n2 := hN.n2
  have n3 := hN.n3
  refine V_iload_n hf dX9_isBarnacle_0 rfl rfl ?_
  refine V_i2l hf (by first | exact hR _ _ _ (by decide) | exact ⟨by omega, by omega⟩) dX9_isBarnacle_1 ?_
  refine V_lconst (a := 0) hf (by decide +kernel) dX9_isBarnacle_2 ?_
  refine V_aload_n hf dX9_isBarnacle_3 rfl rfl ?_
  refine B_get hf l01 rfl fl_X9_9_12 rfl dX9_isBarnacle_4 ?_
  refine V_iconst hf dX9_isBarnacle_7 ?_
  refine B_iald hf l01 (fun _ => rfl) ⟨by omega, by omega⟩ (by omega) (by omega) dX9_isBarnacle_8 ?_
  refine V_iconst hf dX9_isBarnacle_9 ?_
  refine V_isub hf dX9_isBarnacle_10 ?_
  refine V_i2l hf ⟨by omega, by omega⟩ dX9_isBarnacle_11 ?_
  refine B_callSi hf (As := [_, _, _]) (d_in hl0 σ (s) (0) (σ 0 41 1 - 1) hs ⟨by omega, by omega⟩ ⟨by omega, by omega⟩) cvs_X9_63 rfl (Nat.le_of_ble_eq_true rfl) ⟨by decide, by decide, by decide, by decide⟩ dX9_isBarnacle_12 ?_
  exact B_iret hf he (nar_b _) dX9_isBarnacle_15 (by decide) (by decide) rfl rfl

set_option maxHeartbeats 4000000 in
set_option maxRecDepth 100000 in
theorem d_cap {l : Launch} {D : va_G} {K : Nat → ClassId} {ad : Adr} (hl0 : l.stackTraces = false) (σ : Mem) (hR : Rng σ) (s : Int) (hs : 0 ≤ s ∧ s < 6) : Cb l D K ad yX9_capacity (.code yX9_capacity cX9_capacity 2 (some .int)) 2 0 0 σ [.ref (ad 0 40), .int (iN s)] (.inl (some (.int (iN (mcap (σ 0 41) s))))) σ := by
  refine Cb.of (own := RX9) (ls0 := [some (.ref (ad 0 40)), some (.int (iN s))]) hl0 (by decide) rfl (Nat.le_of_ble_eq_true rfl) rfl ?_
  intro X hX1 hX2 hX3 hf he hh
  subst hX1 hX2 hX3
  refine V_aload_n hf dX9_capacity_0 rfl rfl ?_
  refine B_get hf l01 rfl fl_X9_9_12 rfl dX9_capacity_1 ?_
  refine V_iload_n hf dX9_capacity_4 rfl rfl ?_
  refine B_callSi hf (As := [_]) (d_shipAt hl0 σ (s)) cvs_X9_67 rfl (Nat.le_of_ble_eq_true rfl) ⟨by decide, by decide, by decide, by decide⟩ dX9_capacity_5 ?_
  refine V_iconst hf dX9_capacity_8 ?_
  refine V_iadd hf dX9_capacity_9 ?_
  refine B_iald hf l01 (fun _ => rfl) ⟨by omega, by omega⟩ (by omega) (by omega) dX9_capacity_10 ?_
  exact B_iret hf he rfl dX9_capacity_11 (by decide) (by decide) rfl rfl

set_option maxHeartbeats 4000000 in
set_option maxRecDepth 100000 in
theorem d_gr {l : Launch} {D : va_G} {K : Nat → ClassId} {ad : Adr} (hl0 : l.stackTraces = false) (σ : Mem) (hR : Rng σ) (b : Int) (hb : 0 ≤ b ∧ b < 16) : Cb l D K ad yX9_gradeOfBarnacle (.code yX9_gradeOfBarnacle cX9_gradeOfBarnacle 2 (some .int)) 2 0 0 σ [.ref (ad 0 40), .int (iN b)] (.inl (some (.int (iN (mgr (σ 0 41) b))))) σ := by
  refine Cb.of (own := RX9) (ls0 := [some (.ref (ad 0 40)), some (.int (iN b))]) hl0 (by decide) rfl (Nat.le_of_ble_eq_true rfl) rfl ?_
  intro X hX1 hX2 hX3 hf he hh
  subst hX1 hX2 hX3
  refine V_aload_n hf dX9_gradeOfBarnacle_0 rfl rfl ?_
  refine B_get hf l01 rfl fl_X9_9_12 rfl dX9_gradeOfBarnacle_1 ?_
  refine V_iload_n hf dX9_gradeOfBarnacle_4 rfl rfl ?_
  refine B_callSi hf (As := [_]) (d_barnacleAtPlace hl0 σ (b)) cvs_X9_70 rfl (Nat.le_of_ble_eq_true rfl) ⟨by decide, by decide, by decide, by decide⟩ dX9_gradeOfBarnacle_5 ?_
  refine V_iconst hf dX9_gradeOfBarnacle_8 ?_
  refine V_iadd hf dX9_gradeOfBarnacle_9 ?_
  refine B_iald hf l01 (fun _ => rfl) ⟨by omega, by omega⟩ (by omega) (by omega) dX9_gradeOfBarnacle_10 ?_
  exact B_iret hf he rfl dX9_gradeOfBarnacle_11 (by decide) (by decide) rfl rfl

set_option maxHeartbeats 4000000 in
set_option maxRecDepth 100000 in
theorem d_load {l : Launch} {D : va_G} {K : Nat → ClassId} {ad : Adr} (hl0 : l.stackTraces = false) (σ : Mem) (hR : Rng σ) (hN : NI (σ 0 41)) (s : Int) (hs : inR s) : Cb l D K ad yX9_load (.code yX9_load cX9_load 4 (some .int)) 2 0 0 σ [.ref (ad 0 40), .int (iN s)] (.inl (some (.int (iN (mload (σ 0 41) s))))) σ := by
  refine Cb.of (own := RX9) (ls0 := [some (.ref (ad 0 40)), some (.int (iN s)), none, none]) hl0 (by decide) rfl (Nat.le_of_ble_eq_true rfl) rfl ?_
  intro X hX1 hX2 hX3 hf he hh
  subst hX1 hX2 hX3
  have n0 := hN.n0
  have n1 := hN.n1
  have n2 := hN.n2
  have n3 := hN.n3
  have loop : ∀ (n : Nat) (k : Int), 0 ≤ k → k ≤ σ 0 41 1 → (σ 0 41 1 - k).toNat < n → B X ad σ 4 [some (.ref (ad 0 40)), some (.int (iN (s))), some (.int (iN (sumI (mloadF (σ 0 41) s) k))), some (.int (iN (k)))] [] 0 0 := by
    intro n
    induction n with
    | zero => intros; omega
    | succ n ih =>
      intro k hk0 hk1 hn
      refine V_iload_n hf dX9_load_4 rfl rfl ?_
      refine V_aload_n hf dX9_load_5 rfl rfl ?_
      refine B_get hf l01 rfl fl_X9_9_12 rfl dX9_load_6 ?_
      refine V_iconst hf dX9_load_9 ?_
      refine B_iald hf l01 (fun _ => rfl) (by first | exact hR _ _ _ (by decide) | exact ⟨by omega, by omega⟩) (by omega) (by omega) dX9_load_10 ?_
      refine V_icmp_ge (tgt := 41) hf (by first | exact hR _ _ _ (by decide) | exact ⟨by omega, by omega⟩) (by first | exact hR _ _ _ (by decide) | exact ⟨by omega, by omega⟩) dX9_load_11 (by decide) (fun h11 => ?_) (fun h11 => ?_)
      · refine V_iload_n hf dX9_load_41 rfl rfl ?_
        exact B_iret hf he rfl dX9_load_42 (by decide) (by decide) (by rw [show k = σ 0 41 1 by omega]; rfl) rfl
      · refine V_iload_n hf dX9_load_14 rfl rfl ?_
        refine V_aload_n hf dX9_load_15 rfl rfl ?_
        refine B_get hf l01 rfl fl_X9_9_12 rfl dX9_load_16 ?_
        refine V_iload_n hf dX9_load_19 rfl rfl ?_
        refine B_callSi hf (As := [_]) (d_barnacleAtPlace hl0 σ (k)) cvs_X9_70 rfl (Nat.le_of_ble_eq_true rfl) ⟨by decide, by decide, by decide, by decide⟩ dX9_load_20 ?_
        refine B_iald hf l01 (fun _ => rfl) ⟨by omega, by omega⟩ (by omega) (by omega) dX9_load_23 ?_
        refine V_iload_n hf dX9_load_24 rfl rfl ?_
        refine V_icmp_ne (tgt := 32) hf (by first | exact hR _ _ _ (by decide) | exact ⟨by omega, by omega⟩) (by first | exact hR _ _ _ (by decide) | exact ⟨by omega, by omega⟩) dX9_load_25 (by decide) (fun h25 => ?_) (fun h25 => ?_)
        · refine V_iconst hf dX9_load_32 ?_
          refine V_iadd hf dX9_load_33 ?_
          refine V_istore_n (ls2 := [_, _, _, _]) hf dX9_load_34 rfl (by decide) rfl rfl ?_
          refine V_iinc (ls2 := [_, _, _, _]) hf dX9_load_35 (by decide) rfl rfl rfl ?_
          refine V_goto (tgt := 4) hf dX9_load_38 (by decide) ?_
          have bk := ih (k + 1) (by omega) (by omega) (by omega)
          rw [sumI_s (mloadF (σ 0 41) s) hk0] at bk
          first | (rw [show (mloadF (σ 0 41) s) k = 1 from if_pos (by omega)] at bk; exact bk) | (rw [show (mloadF (σ 0 41) s) k = 0 from if_neg (by omega)] at bk; exact bk)
        · refine V_iconst hf dX9_load_28 ?_
          refine V_goto (tgt := 33) hf dX9_load_29 (by decide) ?_
          refine V_iadd hf dX9_load_33 ?_
          refine V_istore_n (ls2 := [_, _, _, _]) hf dX9_load_34 rfl (by decide) rfl rfl ?_
          refine V_iinc (ls2 := [_, _, _, _]) hf dX9_load_35 (by decide) rfl rfl rfl ?_
          refine V_goto (tgt := 4) hf dX9_load_38 (by decide) ?_
          have bk := ih (k + 1) (by omega) (by omega) (by omega)
          rw [sumI_s (mloadF (σ 0 41) s) hk0] at bk
          first | (rw [show (mloadF (σ 0 41) s) k = 1 from if_pos (by omega)] at bk; exact bk) | (rw [show (mloadF (σ 0 41) s) k = 0 from if_neg (by omega)] at bk; exact bk)
  refine V_iconst hf dX9_load_0 ?_
  refine V_istore_n (ls2 := [_, _, _, _]) hf dX9_load_1 rfl (by decide) rfl rfl ?_
  refine V_iconst hf dX9_load_2 ?_
  refine V_istore_n (ls2 := [_, _, _, _]) hf dX9_load_3 rfl (by decide) rfl rfl ?_
  exact loop ((σ 0 41 1).toNat + 1) 0 (by omega) (by omega) (by omega)

set_option maxHeartbeats 4000000 in
set_option maxRecDepth 100000 in
theorem d_res {l : Launch} {D : va_G} {K : Nat → ClassId} {ad : Adr} (hl0 : l.stackTraces = false) (σ : Mem) (hR : Rng σ) (hN : NI (σ 0 41)) (s : Int) (hs : inR s) : Cb l D K ad yX9_reserved (.code yX9_reserved cX9_reserved 4 (some .int)) 2 0 0 σ [.ref (ad 0 40), .int (iN s)] (.inl (some (.int (iN (mres (σ 0 41) s))))) σ := by
  refine Cb.of (own := RX9) (ls0 := [some (.ref (ad 0 40)), some (.int (iN s)), none, none]) hl0 (by decide) rfl (Nat.le_of_ble_eq_true rfl) rfl ?_
  intro X hX1 hX2 hX3 hf he hh
  subst hX1 hX2 hX3
  have n0 := hN.n0
  have n1 := hN.n1
  have n2 := hN.n2
  have n3 := hN.n3
  have loop : ∀ (n : Nat) (k : Int), 0 ≤ k → k ≤ σ 0 41 2 → (σ 0 41 2 - k).toNat < n → B X ad σ 4 [some (.ref (ad 0 40)), some (.int (iN (s))), some (.int (iN (sumI (mresF (σ 0 41) s) k))), some (.int (iN (k)))] [] 0 0 := by
    intro n
    induction n with
    | zero => intros; omega
    | succ n ih =>
      intro k hk0 hk1 hn
      refine V_iload_n hf dX9_reserved_4 rfl rfl ?_
      refine V_aload_n hf dX9_reserved_5 rfl rfl ?_
      refine B_get hf l01 rfl fl_X9_9_12 rfl dX9_reserved_6 ?_
      refine V_iconst hf dX9_reserved_9 ?_
      refine B_iald hf l01 (fun _ => rfl) (by first | exact hR _ _ _ (by decide) | exact ⟨by omega, by omega⟩) (by omega) (by omega) dX9_reserved_10 ?_
      refine V_icmp_ge (tgt := 53) hf (by first | exact hR _ _ _ (by decide) | exact ⟨by omega, by omega⟩) (by first | exact hR _ _ _ (by decide) | exact ⟨by omega, by omega⟩) dX9_reserved_11 (by decide) (fun h11 => ?_) (fun h11 => ?_)
      · refine V_iload_n hf dX9_reserved_53 rfl rfl ?_
        exact B_iret hf he rfl dX9_reserved_54 (by decide) (by decide) (by rw [show k = σ 0 41 2 by omega]; rfl) rfl
      · refine V_iload_n hf dX9_reserved_14 rfl rfl ?_
        refine V_aload_n hf dX9_reserved_15 rfl rfl ?_
        refine B_get hf l01 rfl fl_X9_9_12 rfl dX9_reserved_16 ?_
        refine V_iload_n hf dX9_reserved_19 rfl rfl ?_
        refine B_callSi hf (As := [_]) (d_bidAtPlace hl0 σ (k)) cvs_X9_73 rfl (Nat.le_of_ble_eq_true rfl) ⟨by decide, by decide, by decide, by decide⟩ dX9_reserved_20 ?_
        refine V_iconst hf dX9_reserved_23 ?_
        refine V_iadd hf dX9_reserved_24 ?_
        refine B_iald hf l01 (fun _ => rfl) ⟨by omega, by omega⟩ (by omega) (by omega) dX9_reserved_25 ?_
        refine V_iload_n hf dX9_reserved_26 rfl rfl ?_
        refine V_icmp_ne (tgt := 44) hf (by first | exact hR _ _ _ (by decide) | exact ⟨by omega, by omega⟩) (by first | exact hR _ _ _ (by decide) | exact ⟨by omega, by omega⟩) dX9_reserved_27 (by decide) (fun h27 => ?_) (fun h27 => ?_)
        · refine V_iconst hf dX9_reserved_44 ?_
          refine V_iadd hf dX9_reserved_45 ?_
          refine V_istore_n (ls2 := [_, _, _, _]) hf dX9_reserved_46 rfl (by decide) rfl rfl ?_
          refine V_iinc (ls2 := [_, _, _, _]) hf dX9_reserved_47 (by decide) rfl rfl rfl ?_
          refine V_goto (tgt := 4) hf dX9_reserved_50 (by decide) ?_
          have bk := ih (k + 1) (by omega) (by omega) (by omega)
          rw [sumI_s (mresF (σ 0 41) s) hk0] at bk
          first | (rw [show (mresF (σ 0 41) s) k = σ 0 41 (58 + 5 * k + 3) from if_pos (by omega)] at bk; exact bk) | (rw [show (mresF (σ 0 41) s) k = 0 from if_neg (by omega)] at bk; exact bk)
        · refine V_aload_n hf dX9_reserved_30 rfl rfl ?_
          refine B_get hf l01 rfl fl_X9_9_12 rfl dX9_reserved_31 ?_
          refine V_iload_n hf dX9_reserved_34 rfl rfl ?_
          refine B_callSi hf (As := [_]) (d_bidAtPlace hl0 σ (k)) cvs_X9_73 rfl (Nat.le_of_ble_eq_true rfl) ⟨by decide, by decide, by decide, by decide⟩ dX9_reserved_35 ?_
          refine V_iconst hf dX9_reserved_38 ?_
          refine V_iadd hf dX9_reserved_39 ?_
          refine B_iald hf l01 (fun _ => rfl) ⟨by omega, by omega⟩ (by omega) (by omega) dX9_reserved_40 ?_
          refine V_goto (tgt := 45) hf dX9_reserved_41 (by decide) ?_
          refine V_iadd hf dX9_reserved_45 ?_
          refine V_istore_n (ls2 := [_, _, _, _]) hf dX9_reserved_46 rfl (by decide) rfl rfl ?_
          refine V_iinc (ls2 := [_, _, _, _]) hf dX9_reserved_47 (by decide) rfl rfl rfl ?_
          refine V_goto (tgt := 4) hf dX9_reserved_50 (by decide) ?_
          have bk := ih (k + 1) (by omega) (by omega) (by omega)
          rw [sumI_s (mresF (σ 0 41) s) hk0] at bk
          first | (rw [show (mresF (σ 0 41) s) k = σ 0 41 (58 + 5 * k + 3) from if_pos (by omega)] at bk; exact bk) | (rw [show (mresF (σ 0 41) s) k = 0 from if_neg (by omega)] at bk; exact bk)
  refine V_iconst hf dX9_reserved_0 ?_
  refine V_istore_n (ls2 := [_, _, _, _]) hf dX9_reserved_1 rfl (by decide) rfl rfl ?_
  refine V_iconst hf dX9_reserved_2 ?_
  refine V_istore_n (ls2 := [_, _, _, _]) hf dX9_reserved_3 rfl (by decide) rfl rfl ?_
  exact loop ((σ 0 41 2).toNat + 1) 0 (by omega) (by omega) (by omega)

set_option maxHeartbeats 4000000 in
set_option maxRecDepth 100000 in
theorem d_places {l : Launch} {D : va_G} {K : Nat → ClassId} {ad : Adr} (hl0 : l.stackTraces = false) (σ : Mem) (hR : Rng σ) (hN : NI (σ 0 41)) (s : Int) (hs : 0 ≤ s ∧ s < 6) : Cb l D K ad yX9_places (.code yX9_places cX9_places 4 (some .int)) 3 0 0 σ [.ref (ad 0 40), .int (iN s)] (.inl (some (.int (iN (mplaces (σ 0 41) s))))) σ := by
  refine Cb.of (own := RX9) (ls0 := [some (.ref (ad 0 40)), some (.int (iN s)), none, none]) hl0 (by decide) rfl (Nat.le_of_ble_eq_true rfl) rfl ?_
  intro X hX1 hX2 hX3 hf he hh
  subst hX1 hX2 hX3
  have n0 := hN.n0
  have n1 := hN.n1
  have n2 := hN.n2
  have n3 := hN.n3
  have loop : ∀ (n : Nat) (k : Int), 0 ≤ k → k ≤ σ 0 41 2 → (σ 0 41 2 - k).toNat < n → B X ad σ 14 [some (.ref (ad 0 40)), some (.int (iN (s))), some (.int (iN (mcap (σ 0 41) s - mload (σ 0 41) s - sumI (mcntF (σ 0 41) s) k))), some (.int (iN (k)))] [] 0 0 := by
    intro n
    induction n with
    | zero => intros; omega
    | succ n ih =>
      intro k hk0 hk1 hn
      refine V_iload_n hf dX9_places_14 rfl rfl ?_
      refine V_aload_n hf dX9_places_15 rfl rfl ?_
      refine B_get hf l01 rfl fl_X9_9_12 rfl dX9_places_16 ?_
      refine V_iconst hf dX9_places_19 ?_
      refine B_iald hf l01 (fun _ => rfl) (by first | exact hR _ _ _ (by decide) | exact ⟨by omega, by omega⟩) (by omega) (by omega) dX9_places_20 ?_
      refine V_icmp_ge (tgt := 53) hf (by first | exact hR _ _ _ (by decide) | exact ⟨by omega, by omega⟩) (by first | exact hR _ _ _ (by decide) | exact ⟨by omega, by omega⟩) dX9_places_21 (by decide) (fun h21 => ?_) (fun h21 => ?_)
      · refine V_iload_n hf dX9_places_53 rfl rfl ?_
        exact B_iret hf he rfl dX9_places_54 (by decide) (by decide) (by rw [show k = σ 0 41 2 by omega]; rfl) rfl
      · refine V_iload_n hf dX9_places_24 rfl rfl ?_
        refine V_aload_n hf dX9_places_25 rfl rfl ?_
        refine B_get hf l01 rfl fl_X9_9_12 rfl dX9_places_26 ?_
        refine V_iload_n hf dX9_places_29 rfl rfl ?_
        refine B_callSi hf (As := [_]) (d_bidAtPlace hl0 σ (k)) cvs_X9_73 rfl (Nat.le_of_ble_eq_true rfl) ⟨by decide, by decide, by decide, by decide⟩ dX9_places_30 ?_
        refine V_iconst hf dX9_places_33 ?_
        refine V_iadd hf dX9_places_34 ?_
        refine B_iald hf l01 (fun _ => rfl) ⟨by omega, by omega⟩ (by omega) (by omega) dX9_places_35 ?_
        refine V_iload_n hf dX9_places_36 rfl rfl ?_
        refine V_icmp_ne (tgt := 44) hf (by first | exact hR _ _ _ (by decide) | exact ⟨by omega, by omega⟩) (by first | exact hR _ _ _ (by decide) | exact ⟨by omega, by omega⟩) dX9_places_37 (by decide) (fun h37 => ?_) (fun h37 => ?_)
        · refine V_iconst hf dX9_places_44 ?_
          refine V_isub hf dX9_places_45 ?_
          refine V_istore_n (ls2 := [_, _, _, _]) hf dX9_places_46 rfl (by decide) rfl rfl ?_
          refine V_iinc (ls2 := [_, _, _, _]) hf dX9_places_47 (by decide) rfl rfl rfl ?_
          refine V_goto (tgt := 14) hf dX9_places_50 (by decide) ?_
          have bk := ih (k + 1) (by omega) (by omega) (by omega)
          rw [sumI_s (mcntF (σ 0 41) s) hk0] at bk
          first | (rw [show (mcntF (σ 0 41) s) k = 1 from if_pos (by omega), ← Int.sub_sub] at bk; exact bk) | (rw [show (mcntF (σ 0 41) s) k = 0 from if_neg (by omega), ← Int.sub_sub] at bk; exact bk)
        · refine V_iconst hf dX9_places_40 ?_
          refine V_goto (tgt := 45) hf dX9_places_41 (by decide) ?_
          refine V_isub hf dX9_places_45 ?_
          refine V_istore_n (ls2 := [_, _, _, _]) hf dX9_places_46 rfl (by decide) rfl rfl ?_
          refine V_iinc (ls2 := [_, _, _, _]) hf dX9_places_47 (by decide) rfl rfl rfl ?_
          refine V_goto (tgt := 14) hf dX9_places_50 (by decide) ?_
          have bk := ih (k + 1) (by omega) (by omega) (by omega)
          rw [sumI_s (mcntF (σ 0 41) s) hk0] at bk
          first | (rw [show (mcntF (σ 0 41) s) k = 1 from if_pos (by omega), ← Int.sub_sub] at bk; exact bk) | (rw [show (mcntF (σ 0 41) s) k = 0 from if_neg (by omega), ← Int.sub_sub] at bk; exact bk)
  refine V_aload_n hf dX9_places_0 rfl rfl ?_
  refine V_iload_n hf dX9_places_1 rfl rfl ?_
  refine B_callVi hf (As := [_]) (d_cap hl0 σ hR s hs) cv_X9_76 l01 rfl rfl rfl (Nat.le_of_ble_eq_true rfl) ⟨by decide, by decide, by decide, by decide⟩ dX9_places_2 ?_
  refine V_aload_n hf dX9_places_5 rfl rfl ?_
  refine V_iload_n hf dX9_places_6 rfl rfl ?_
  refine B_callVi hf (As := [_]) (d_load hl0 σ hR hN s ⟨by omega, by omega⟩) cv_X9_79 l01 rfl rfl rfl (Nat.le_of_ble_eq_true rfl) ⟨by decide, by decide, by decide, by decide⟩ dX9_places_7 ?_
  refine V_isub hf dX9_places_10 ?_
  refine V_istore_n (ls2 := [_, _, _, _]) hf dX9_places_11 rfl (by decide) rfl rfl ?_
  refine V_iconst hf dX9_places_12 ?_
  refine V_istore_n (ls2 := [_, _, _, _]) hf dX9_places_13 rfl (by decide) rfl rfl ?_
  have bk := loop ((σ 0 41 2).toNat + 1) 0 (by omega) (by omega) (by omega)
  rw [sumI_0, Int.sub_zero] at bk
  exact bk

set_option maxHeartbeats 4000000 in
set_option maxRecDepth 100000 in
theorem d_offerFor {l : Launch} {D : va_G} {K : Nat → ClassId} {ad : Adr} (hl0 : l.stackTraces = false) (σ : Mem) (hR : Rng σ) (hN : NI (σ 0 41)) (b : Int) (hb : inR b) : Cb l D K ad yX9_offerFor (.code yX9_offerFor cX9_offerFor 3 (some .int)) 2 0 0 σ [.ref (ad 0 40), .int (iN b)] (.inl (some (.int (iN (mofferFor (σ 0 41) b))))) σ := by
  refine Cb.of (own := RX9) (ls0 := [some (.ref (ad 0 40)), some (.int (iN b)), none]) hl0 (by decide) rfl (Nat.le_of_ble_eq_true rfl) rfl ?_
  intro X hX1 hX2 hX3 hf he hh
  subst hX1 hX2 hX3
  have n0 := hN.n0
  have n1 := hN.n1
  have n2 := hN.n2
  have n3 := hN.n3
  have loop : ∀ (n : Nat) (k : Int), 0 ≤ k → k ≤ σ 0 41 3 → (∀ j : Int, 0 ≤ j → j < k → ¬ (fun k => σ 0 41 (108 + 4 * k + 1) = b) j) → (σ 0 41 3 - k).toNat < n → B X ad σ 2 [some (.ref (ad 0 40)), some (.int (iN (b))), some (.int (iN (k)))] [] 0 0 := by
    intro n
    induction n with
    | zero => intros; omega
    | succ n ih =>
      intro k hk0 hk1 hno hn
      refine V_iload_n hf dX9_offerFor_2 rfl rfl ?_
      refine V_aload_n hf dX9_offerFor_3 rfl rfl ?_
      refine B_get hf l01 rfl fl_X9_9_12 rfl dX9_offerFor_4 ?_
      refine V_iconst hf dX9_offerFor_7 ?_
      refine B_iald hf l01 (fun _ => rfl) (by first | exact hR _ _ _ (by decide) | exact ⟨by omega, by omega⟩) (by omega) (by omega) dX9_offerFor_8 ?_
      refine V_icmp_ge (tgt := 35) hf (by first | exact hR _ _ _ (by decide) | exact ⟨by omega, by omega⟩) (by first | exact hR _ _ _ (by decide) | exact ⟨by omega, by omega⟩) dX9_offerFor_9 (by decide) (fun h9 => ?_) (fun h9 => ?_)
      · refine V_iconst hf dX9_offerFor_35 ?_
        exact B_iret hf he rfl dX9_offerFor_36 (by decide) (by decide) (fst_no (fun j h0 h1 => hno j h0 (by omega))).symm rfl
      · refine V_aload_n hf dX9_offerFor_12 rfl rfl ?_
        refine B_get hf l01 rfl fl_X9_9_12 rfl dX9_offerFor_13 ?_
        refine V_iload_n hf dX9_offerFor_16 rfl rfl ?_
        refine B_callSi hf (As := [_]) (d_offerAtPlace hl0 σ (k)) cvs_X9_82 rfl (Nat.le_of_ble_eq_true rfl) ⟨by decide, by decide, by decide, by decide⟩ dX9_offerFor_17 ?_
        refine V_iconst hf dX9_offerFor_20 ?_
        refine V_iadd hf dX9_offerFor_21 ?_
        refine B_iald hf l01 (fun _ => rfl) ⟨by omega, by omega⟩ (by omega) (by omega) dX9_offerFor_22 ?_
        refine V_iload_n hf dX9_offerFor_23 rfl rfl ?_
        refine V_icmp_ne (tgt := 29) hf (by first | exact hR _ _ _ (by decide) | exact ⟨by omega, by omega⟩) (by first | exact hR _ _ _ (by decide) | exact ⟨by omega, by omega⟩) dX9_offerFor_24 (by decide) (fun h24 => ?_) (fun h24 => ?_)
        · refine V_iinc (ls2 := [_, _, _]) hf dX9_offerFor_29 (by decide) rfl rfl rfl ?_
          refine V_goto (tgt := 2) hf dX9_offerFor_32 (by decide) ?_
          refine ih (k + 1) (by omega) (by omega) (fun j h0 h1 => ?_) (by omega)
          by_cases hj : j = k
          · subst hj
            intro hp
            first | exact absurd hp (by omega) | exact absurd hp.1 (by omega) | exact absurd hp.2 (by omega)
          · exact hno j h0 (by omega)
        · refine V_iload_n hf dX9_offerFor_27 rfl rfl ?_
          exact B_iret hf he rfl dX9_offerFor_28 (by decide) (by decide) (fst_yes hk0 (by omega) (by omega) hno).symm rfl
  refine V_iconst hf dX9_offerFor_0 ?_
  refine V_istore_n (ls2 := [_, _, _]) hf dX9_offerFor_1 rfl (by decide) rfl rfl ?_
  exact loop ((σ 0 41 3).toNat + 1) 0 (by omega) (by omega) (fun j h0 h1 => by omega) (by omega)

set_option maxHeartbeats 4000000 in
set_option maxRecDepth 100000 in
theorem d_plB {l : Launch} {D : va_G} {K : Nat → ClassId} {ad : Adr} (hl0 : l.stackTraces = false) (σ : Mem) (hR : Rng σ) (hN : NI (σ 0 41)) (i : Int) (hi : inR i) : Cb l D K ad yX9_placeOfBid (.code yX9_placeOfBid cX9_placeOfBid 3 (some .int)) 2 0 0 σ [.ref (ad 0 40), .int (iN i)] (.inl (some (.int (iN (mplB (σ 0 41) i))))) σ := by
  refine Cb.of (own := RX9) (ls0 := [some (.ref (ad 0 40)), some (.int (iN i)), none]) hl0 (by decide) rfl (Nat.le_of_ble_eq_true rfl) rfl ?_
  intro X hX1 hX2 hX3 hf he hh
  subst hX1 hX2 hX3
  have n0 := hN.n0
  have n1 := hN.n1
  have n2 := hN.n2
  have n3 := hN.n3
  have loop : ∀ (n : Nat) (k : Int), 0 ≤ k → k ≤ σ 0 41 2 → (∀ j : Int, 0 ≤ j → j < k → ¬ (fun k => σ 0 41 (58 + 5 * k) = i) j) → (σ 0 41 2 - k).toNat < n → B X ad σ 2 [some (.ref (ad 0 40)), some (.int (iN (i))), some (.int (iN (k)))] [] 0 0 := by
    intro n
    induction n with
    | zero => intros; omega
    | succ n ih =>
      intro k hk0 hk1 hno hn
      refine V_iload_n hf dX9_placeOfBid_2 rfl rfl ?_
      refine V_aload_n hf dX9_placeOfBid_3 rfl rfl ?_
      refine B_get hf l01 rfl fl_X9_9_12 rfl dX9_placeOfBid_4 ?_
      refine V_iconst hf dX9_placeOfBid_7 ?_
      refine B_iald hf l01 (fun _ => rfl) (by first | exact hR _ _ _ (by decide) | exact ⟨by omega, by omega⟩) (by omega) (by omega) dX9_placeOfBid_8 ?_
      refine V_icmp_ge (tgt := 33) hf (by first | exact hR _ _ _ (by decide) | exact ⟨by omega, by omega⟩) (by first | exact hR _ _ _ (by decide) | exact ⟨by omega, by omega⟩) dX9_placeOfBid_9 (by decide) (fun h9 => ?_) (fun h9 => ?_)
      · refine V_iconst hf dX9_placeOfBid_33 ?_
        exact B_iret hf he rfl dX9_placeOfBid_34 (by decide) (by decide) (fst_no (fun j h0 h1 => hno j h0 (by omega))).symm rfl
      · refine V_aload_n hf dX9_placeOfBid_12 rfl rfl ?_
        refine B_get hf l01 rfl fl_X9_9_12 rfl dX9_placeOfBid_13 ?_
        refine V_iload_n hf dX9_placeOfBid_16 rfl rfl ?_
        refine B_callSi hf (As := [_]) (d_bidAtPlace hl0 σ (k)) cvs_X9_73 rfl (Nat.le_of_ble_eq_true rfl) ⟨by decide, by decide, by decide, by decide⟩ dX9_placeOfBid_17 ?_
        refine B_iald hf l01 (fun _ => rfl) ⟨by omega, by omega⟩ (by omega) (by omega) dX9_placeOfBid_20 ?_
        refine V_iload_n hf dX9_placeOfBid_21 rfl rfl ?_
        refine V_icmp_ne (tgt := 27) hf (by first | exact hR _ _ _ (by decide) | exact ⟨by omega, by omega⟩) (by first | exact hR _ _ _ (by decide) | exact ⟨by omega, by omega⟩) dX9_placeOfBid_22 (by decide) (fun h22 => ?_) (fun h22 => ?_)
        · refine V_iinc (ls2 := [_, _, _]) hf dX9_placeOfBid_27 (by decide) rfl rfl rfl ?_
          refine V_goto (tgt := 2) hf dX9_placeOfBid_30 (by decide) ?_
          refine ih (k + 1) (by omega) (by omega) (fun j h0 h1 => ?_) (by omega)
          by_cases hj : j = k
          · subst hj
            intro hp
            first | exact absurd hp (by omega) | exact absurd hp.1 (by omega) | exact absurd hp.2 (by omega)
          · exact hno j h0 (by omega)
        · refine V_iload_n hf dX9_placeOfBid_25 rfl rfl ?_
          exact B_iret hf he rfl dX9_placeOfBid_26 (by decide) (by decide) (fst_yes hk0 (by omega) (by omega) hno).symm rfl
  refine V_iconst hf dX9_placeOfBid_0 ?_
  refine V_istore_n (ls2 := [_, _, _]) hf dX9_placeOfBid_1 rfl (by decide) rfl rfl ?_
  exact loop ((σ 0 41 2).toNat + 1) 0 (by omega) (by omega) (fun j h0 h1 => by omega) (by omega)

set_option maxHeartbeats 4000000 in
set_option maxRecDepth 100000 in
theorem d_plO {l : Launch} {D : va_G} {K : Nat → ClassId} {ad : Adr} (hl0 : l.stackTraces = false) (σ : Mem) (hR : Rng σ) (hN : NI (σ 0 41)) (i : Int) (hi : inR i) : Cb l D K ad yX9_placeOfOffer (.code yX9_placeOfOffer cX9_placeOfOffer 3 (some .int)) 2 0 0 σ [.ref (ad 0 40), .int (iN i)] (.inl (some (.int (iN (mplO (σ 0 41) i))))) σ := by
  refine Cb.of (own := RX9) (ls0 := [some (.ref (ad 0 40)), some (.int (iN i)), none]) hl0 (by decide) rfl (Nat.le_of_ble_eq_true rfl) rfl ?_
  intro X hX1 hX2 hX3 hf he hh
  subst hX1 hX2 hX3
  have n0 := hN.n0
  have n1 := hN.n1
  have n2 := hN.n2
  have n3 := hN.n3
  have loop : ∀ (n : Nat) (k : Int), 0 ≤ k → k ≤ σ 0 41 3 → (∀ j : Int, 0 ≤ j → j < k → ¬ (fun k => σ 0 41 (108 + 4 * k) = i) j) → (σ 0 41 3 - k).toNat < n → B X ad σ 2 [some (.ref (ad 0 40)), some (.int (iN (i))), some (.int (iN (k)))] [] 0 0 := by
    intro n
    induction n with
    | zero => intros; omega
    | succ n ih =>
      intro k hk0 hk1 hno hn
      refine V_iload_n hf dX9_placeOfOffer_2 rfl rfl ?_
      refine V_aload_n hf dX9_placeOfOffer_3 rfl rfl ?_
      refine B_get hf l01 rfl fl_X9_9_12 rfl dX9_placeOfOffer_4 ?_
      refine V_iconst hf dX9_placeOfOffer_7 ?_
      refine B_iald hf l01 (fun _ => rfl) (by first | exact hR _ _ _ (by decide) | exact ⟨by omega, by omega⟩) (by omega) (by omega) dX9_placeOfOffer_8 ?_
      refine V_icmp_ge (tgt := 33) hf (by first | exact hR _ _ _ (by decide) | exact ⟨by omega, by omega⟩) (by first | exact hR _ _ _ (by decide) | exact ⟨by omega, by omega⟩) dX9_placeOfOffer_9 (by decide) (fun h9 => ?_) (fun h9 => ?_)
      · refine V_iconst hf dX9_placeOfOffer_33 ?_
        exact B_iret hf he rfl dX9_placeOfOffer_34 (by decide) (by decide) (fst_no (fun j h0 h1 => hno j h0 (by omega))).symm rfl
      · refine V_aload_n hf dX9_placeOfOffer_12 rfl rfl ?_
        refine B_get hf l01 rfl fl_X9_9_12 rfl dX9_placeOfOffer_13 ?_
        refine V_iload_n hf dX9_placeOfOffer_16 rfl rfl ?_
        refine B_callSi hf (As := [_]) (d_offerAtPlace hl0 σ (k)) cvs_X9_82 rfl (Nat.le_of_ble_eq_true rfl) ⟨by decide, by decide, by decide, by decide⟩ dX9_placeOfOffer_17 ?_
        refine B_iald hf l01 (fun _ => rfl) ⟨by omega, by omega⟩ (by omega) (by omega) dX9_placeOfOffer_20 ?_
        refine V_iload_n hf dX9_placeOfOffer_21 rfl rfl ?_
        refine V_icmp_ne (tgt := 27) hf (by first | exact hR _ _ _ (by decide) | exact ⟨by omega, by omega⟩) (by first | exact hR _ _ _ (by decide) | exact ⟨by omega, by omega⟩) dX9_placeOfOffer_22 (by decide) (fun h22 => ?_) (fun h22 => ?_)
        · refine V_iinc (ls2 := [_, _, _]) hf dX9_placeOfOffer_27 (by decide) rfl rfl rfl ?_
          refine V_goto (tgt := 2) hf dX9_placeOfOffer_30 (by decide) ?_
          refine ih (k + 1) (by omega) (by omega) (fun j h0 h1 => ?_) (by omega)
          by_cases hj : j = k
          · subst hj
            intro hp
            first | exact absurd hp (by omega) | exact absurd hp.1 (by omega) | exact absurd hp.2 (by omega)
          · exact hno j h0 (by omega)
        · refine V_iload_n hf dX9_placeOfOffer_25 rfl rfl ?_
          exact B_iret hf he rfl dX9_placeOfOffer_26 (by decide) (by decide) (fst_yes hk0 (by omega) (by omega) hno).symm rfl
  refine V_iconst hf dX9_placeOfOffer_0 ?_
  refine V_istore_n (ls2 := [_, _, _]) hf dX9_placeOfOffer_1 rfl (by decide) rfl rfl ?_
  exact loop ((σ 0 41 3).toNat + 1) 0 (by omega) (by omega) (fun j h0 h1 => by omega) (by omega)

set_option maxHeartbeats 4000000 in
set_option maxRecDepth 100000 in
theorem d_bA {l : Launch} {D : va_G} {K : Nat → ClassId} {ad : Adr} (hl0 : l.stackTraces = false) (σ : Mem) (hR : Rng σ) (hN : NI (σ 0 41)) (a b : Int) (ha : 0 ≤ a ∧ a < σ 0 41 2) (hb : 0 ≤ b ∧ b < σ 0 41 2) : Cb l D K ad yX9_isBidAhead (.code yX9_isBidAhead cX9_isBidAhead 4 (some .boolean)) 2 0 0 σ [.ref (ad 0 40), .int (iN a), .int (iN b)] (.inl (some (.int (iN (if mbA (σ 0 41) a b then 1 else 0))))) σ := by
  refine Cb.of (own := RX9) (ls0 := [some (.ref (ad 0 40)), some (.int (iN a)), some (.int (iN b)), none]) hl0 (by decide) rfl (Nat.le_of_ble_eq_true rfl) rfl ?_
  intro X hX1 hX2 hX3 hf he hh
  subst hX1 hX2 hX3
  have n0 := hN.n0
  have n1 := hN.n1
  have n2 := hN.n2
  have n3 := hN.n3
  have p1 := hN.bi a ha.1 ha.2
  have p2 := hN.bi b hb.1 hb.2
  refine V_aload_n hf dX9_isBidAhead_0 rfl rfl ?_
  refine B_get hf l01 rfl fl_X9_9_12 rfl dX9_isBidAhead_1 ?_
  refine V_iload_n hf dX9_isBidAhead_4 rfl rfl ?_
  refine B_callSi hf (As := [_]) (d_bidAtPlace hl0 σ (a)) cvs_X9_73 rfl (Nat.le_of_ble_eq_true rfl) ⟨by decide, by decide, by decide, by decide⟩ dX9_isBidAhead_5 ?_
  refine V_iconst hf dX9_isBidAhead_8 ?_
  refine V_iadd hf dX9_isBidAhead_9 ?_
  refine B_iald hf l01 (fun _ => rfl) ⟨by omega, by omega⟩ (by omega) (by omega) dX9_isBidAhead_10 ?_
  refine V_aload_n hf dX9_isBidAhead_11 rfl rfl ?_
  refine B_get hf l01 rfl fl_X9_9_12 rfl dX9_isBidAhead_12 ?_
  refine V_iload_n hf dX9_isBidAhead_15 rfl rfl ?_
  refine B_callSi hf (As := [_]) (d_bidAtPlace hl0 σ (b)) cvs_X9_73 rfl (Nat.le_of_ble_eq_true rfl) ⟨by decide, by decide, by decide, by decide⟩ dX9_isBidAhead_16 ?_
  refine V_iconst hf dX9_isBidAhead_19 ?_
  refine V_iadd hf dX9_isBidAhead_20 ?_
  refine B_iald hf l01 (fun _ => rfl) ⟨by omega, by omega⟩ (by omega) (by omega) dX9_isBidAhead_21 ?_
  refine V_isub hf dX9_isBidAhead_22 ?_
  refine V_istore_n (ls2 := [_, _, _, _]) hf dX9_isBidAhead_23 rfl (by decide) rfl rfl ?_
  refine V_iload_n hf dX9_isBidAhead_24 rfl rfl ?_
  refine V_if_gt (tgt := 53) hf ⟨by omega, by omega⟩ dX9_isBidAhead_25 (by decide) (fun h25 => ?_) (fun h25 => ?_)
  · refine V_iconst hf dX9_isBidAhead_53 ?_
    refine V_goto (tgt := 58) hf dX9_isBidAhead_54 (by decide) ?_
    exact B_iret hf he (nar_b _) dX9_isBidAhead_58 (by decide) (by decide) (by first | (exfalso; omega) | rw [if_pos (by show _ ∨ _; omega)] | rw [if_neg (by show ¬ (_ ∨ _); omega)]) rfl
  · refine V_iload_n hf dX9_isBidAhead_28 rfl rfl ?_
    refine V_if_ne (tgt := 57) hf ⟨by omega, by omega⟩ dX9_isBidAhead_29 (by decide) (fun h29 => ?_) (fun h29 => ?_)
    · refine V_iconst hf dX9_isBidAhead_57 ?_
      exact B_iret hf he (nar_b _) dX9_isBidAhead_58 (by decide) (by decide) (by first | (exfalso; omega) | rw [if_pos (by show _ ∨ _; omega)] | rw [if_neg (by show ¬ (_ ∨ _); omega)]) rfl
    · refine V_aload_n hf dX9_isBidAhead_32 rfl rfl ?_
      refine B_get hf l01 rfl fl_X9_9_12 rfl dX9_isBidAhead_33 ?_
      refine V_iload_n hf dX9_isBidAhead_36 rfl rfl ?_
      refine B_callSi hf (As := [_]) (d_bidAtPlace hl0 σ (a)) cvs_X9_73 rfl (Nat.le_of_ble_eq_true rfl) ⟨by decide, by decide, by decide, by decide⟩ dX9_isBidAhead_37 ?_
      refine B_iald hf l01 (fun _ => rfl) ⟨by omega, by omega⟩ (by omega) (by omega) dX9_isBidAhead_40 ?_
      refine V_aload_n hf dX9_isBidAhead_41 rfl rfl ?_
      refine B_get hf l01 rfl fl_X9_9_12 rfl dX9_isBidAhead_42 ?_
      refine V_iload_n hf dX9_isBidAhead_45 rfl rfl ?_
      refine B_callSi hf (As := [_]) (d_bidAtPlace hl0 σ (b)) cvs_X9_73 rfl (Nat.le_of_ble_eq_true rfl) ⟨by decide, by decide, by decide, by decide⟩ dX9_isBidAhead_46 ?_
      refine B_iald hf l01 (fun _ => rfl) ⟨by omega, by omega⟩ (by omega) (by omega) dX9_isBidAhead_49 ?_
      refine V_icmp_ge (tgt := 57) hf (by first | exact hR _ _ _ (by decide) | exact ⟨by omega, by omega⟩) (by first | exact hR _ _ _ (by decide) | exact ⟨by omega, by omega⟩) dX9_isBidAhead_50 (by decide) (fun h50 => ?_) (fun h50 => ?_)
      · refine V_iconst hf dX9_isBidAhead_57 ?_
        exact B_iret hf he (nar_b _) dX9_isBidAhead_58 (by decide) (by decide) (by first | (exfalso; omega) | rw [if_pos (by show _ ∨ _; omega)] | rw [if_neg (by show ¬ (_ ∨ _); omega)]) rfl
      · refine V_iconst hf dX9_isBidAhead_53 ?_
        refine V_goto (tgt := 58) hf dX9_isBidAhead_54 (by decide) ?_
        exact B_iret hf he (nar_b _) dX9_isBidAhead_58 (by decide) (by decide) (by first | (exfalso; omega) | rw [if_pos (by show _ ∨ _; omega)] | rw [if_neg (by show ¬ (_ ∨ _); omega)]) rfl

set_option maxHeartbeats 4000000 in
set_option maxRecDepth 100000 in
theorem d_oA {l : Launch} {D : va_G} {K : Nat → ClassId} {ad : Adr} (hl0 : l.stackTraces = false) (σ : Mem) (hR : Rng σ) (hN : NI (σ 0 41)) (a b : Int) (ha : 0 ≤ a ∧ a < σ 0 41 3) (hb : 0 ≤ b ∧ b < σ 0 41 3) : Cb l D K ad yX9_isOfferAhead (.code yX9_isOfferAhead cX9_isOfferAhead 6 (some .boolean)) 3 0 0 σ [.ref (ad 0 40), .int (iN a), .int (iN b)] (.inl (some (.int (iN (if moA (σ 0 41) a b then 1 else 0))))) σ := by
  refine Cb.of (own := RX9) (ls0 := [some (.ref (ad 0 40)), some (.int (iN a)), some (.int (iN b)), none, none, none]) hl0 (by decide) rfl (Nat.le_of_ble_eq_true rfl) rfl ?_
  intro X hX1 hX2 hX3 hf he hh
  subst hX1 hX2 hX3
  have n0 := hN.n0
  have n1 := hN.n1
  have n2 := hN.n2
  have n3 := hN.n3
  have p1 := hN.of a ha.1 ha.2
  have p2 := hN.of b hb.1 hb.2
  have g1 : 1 ≤ mgr (σ 0 41) (σ 0 41 (108 + 4 * a + 1)) ∧ mgr (σ 0 41) (σ 0 41 (108 + 4 * a + 1)) ≤ 9 := (hN.ba _ p1.1.1 p1.1.2).2
  have g2 : 1 ≤ mgr (σ 0 41) (σ 0 41 (108 + 4 * b + 1)) ∧ mgr (σ 0 41) (σ 0 41 (108 + 4 * b + 1)) ≤ 9 := (hN.ba _ p2.1.1 p2.1.2).2
  refine V_iload_n hf dX9_isOfferAhead_0 rfl rfl ?_
  refine B_callSi hf (As := [_]) (d_offerAtPlace hl0 σ (a)) cvs_X9_82 rfl (Nat.le_of_ble_eq_true rfl) ⟨by decide, by decide, by decide, by decide⟩ dX9_isOfferAhead_1 ?_
  refine V_istore_n (ls2 := [_, _, _, _, _, _]) hf dX9_isOfferAhead_4 rfl (by decide) rfl rfl ?_
  refine V_iload_n hf dX9_isOfferAhead_5 rfl rfl ?_
  refine B_callSi hf (As := [_]) (d_offerAtPlace hl0 σ (b)) cvs_X9_82 rfl (Nat.le_of_ble_eq_true rfl) ⟨by decide, by decide, by decide, by decide⟩ dX9_isOfferAhead_6 ?_
  refine V_istore (ls2 := [_, _, _, _, _, _]) hf dX9_isOfferAhead_9 (by decide) rfl rfl ?_
  refine V_aload_n hf dX9_isOfferAhead_11 rfl rfl ?_
  refine B_get hf l01 rfl fl_X9_9_12 rfl dX9_isOfferAhead_12 ?_
  refine V_iload hf dX9_isOfferAhead_15 rfl ?_
  refine V_iconst hf dX9_isOfferAhead_17 ?_
  refine V_iadd hf dX9_isOfferAhead_18 ?_
  refine B_iald hf l01 (fun _ => rfl) ⟨by omega, by omega⟩ (by omega) (by omega) dX9_isOfferAhead_19 ?_
  refine V_aload_n hf dX9_isOfferAhead_20 rfl rfl ?_
  refine B_get hf l01 rfl fl_X9_9_12 rfl dX9_isOfferAhead_21 ?_
  refine V_iload_n hf dX9_isOfferAhead_24 rfl rfl ?_
  refine V_iconst hf dX9_isOfferAhead_25 ?_
  refine V_iadd hf dX9_isOfferAhead_26 ?_
  refine B_iald hf l01 (fun _ => rfl) ⟨by omega, by omega⟩ (by omega) (by omega) dX9_isOfferAhead_27 ?_
  refine V_isub hf dX9_isOfferAhead_28 ?_
  refine V_istore (ls2 := [_, _, _, _, _, _]) hf dX9_isOfferAhead_29 (by decide) rfl rfl ?_
  refine V_iload hf dX9_isOfferAhead_31 rfl ?_
  refine V_if_ne (tgt := 65) hf ⟨by omega, by omega⟩ dX9_isOfferAhead_33 (by decide) (fun h33 => ?_) (fun h33 => ?_)
  · refine V_iload hf dX9_isOfferAhead_65 rfl ?_
    refine V_istore (ls2 := [_, _, _, _, _, _]) hf dX9_isOfferAhead_67 (by decide) rfl rfl ?_
    refine V_iload hf dX9_isOfferAhead_69 rfl ?_
    refine V_if_gt (tgt := 95) hf ⟨by omega, by omega⟩ dX9_isOfferAhead_71 (by decide) (fun h71 => ?_) (fun h71 => ?_)
    · refine V_iconst hf dX9_isOfferAhead_95 ?_
      refine V_goto (tgt := 100) hf dX9_isOfferAhead_96 (by decide) ?_
      exact B_iret hf he (nar_b _) dX9_isOfferAhead_100 (by decide) (by decide) (by first | (exfalso; omega) | rw [if_pos (by show _ ∨ _; omega)] | rw [if_neg (by show ¬ (_ ∨ _); omega)]) rfl
    · refine V_iload hf dX9_isOfferAhead_74 rfl ?_
      refine V_if_ne (tgt := 99) hf ⟨by omega, by omega⟩ dX9_isOfferAhead_76 (by decide) (fun h76 => ?_) (fun h76 => ?_)
      · refine V_iconst hf dX9_isOfferAhead_99 ?_
        exact B_iret hf he (nar_b _) dX9_isOfferAhead_100 (by decide) (by decide) (by first | (exfalso; omega) | rw [if_pos (by show _ ∨ _; omega)] | rw [if_neg (by show ¬ (_ ∨ _); omega)]) rfl
      · refine V_aload_n hf dX9_isOfferAhead_79 rfl rfl ?_
        refine B_get hf l01 rfl fl_X9_9_12 rfl dX9_isOfferAhead_80 ?_
        refine V_iload_n hf dX9_isOfferAhead_83 rfl rfl ?_
        refine B_iald hf l01 (fun _ => rfl) ⟨by omega, by omega⟩ (by omega) (by omega) dX9_isOfferAhead_84 ?_
        refine V_aload_n hf dX9_isOfferAhead_85 rfl rfl ?_
        refine B_get hf l01 rfl fl_X9_9_12 rfl dX9_isOfferAhead_86 ?_
        refine V_iload hf dX9_isOfferAhead_89 rfl ?_
        refine B_iald hf l01 (fun _ => rfl) ⟨by omega, by omega⟩ (by omega) (by omega) dX9_isOfferAhead_91 ?_
        refine V_icmp_ge (tgt := 99) hf (by first | exact hR _ _ _ (by decide) | exact ⟨by omega, by omega⟩) (by first | exact hR _ _ _ (by decide) | exact ⟨by omega, by omega⟩) dX9_isOfferAhead_92 (by decide) (fun h92 => ?_) (fun h92 => ?_)
        · refine V_iconst hf dX9_isOfferAhead_99 ?_
          exact B_iret hf he (nar_b _) dX9_isOfferAhead_100 (by decide) (by decide) (by first | (exfalso; omega) | rw [if_pos (by show _ ∨ _; omega)] | rw [if_neg (by show ¬ (_ ∨ _); omega)]) rfl
        · refine V_iconst hf dX9_isOfferAhead_95 ?_
          refine V_goto (tgt := 100) hf dX9_isOfferAhead_96 (by decide) ?_
          exact B_iret hf he (nar_b _) dX9_isOfferAhead_100 (by decide) (by decide) (by first | (exfalso; omega) | rw [if_pos (by show _ ∨ _; omega)] | rw [if_neg (by show ¬ (_ ∨ _); omega)]) rfl
  · refine V_aload_n hf dX9_isOfferAhead_36 rfl rfl ?_
    refine V_aload_n hf dX9_isOfferAhead_37 rfl rfl ?_
    refine B_get hf l01 rfl fl_X9_9_12 rfl dX9_isOfferAhead_38 ?_
    refine V_iload_n hf dX9_isOfferAhead_41 rfl rfl ?_
    refine V_iconst hf dX9_isOfferAhead_42 ?_
    refine V_iadd hf dX9_isOfferAhead_43 ?_
    refine B_iald hf l01 (fun _ => rfl) ⟨by omega, by omega⟩ (by omega) (by omega) dX9_isOfferAhead_44 ?_
    refine B_callVi hf (As := [_]) (d_gr hl0 σ hR (σ 0 41 (108 + 4 * a + 1)) ⟨by omega, by omega⟩) cv_X9_85 l01 rfl rfl rfl (Nat.le_of_ble_eq_true rfl) ⟨by decide, by decide, by decide, by decide⟩ dX9_isOfferAhead_45 ?_
    refine V_aload_n hf dX9_isOfferAhead_48 rfl rfl ?_
    refine V_aload_n hf dX9_isOfferAhead_49 rfl rfl ?_
    refine B_get hf l01 rfl fl_X9_9_12 rfl dX9_isOfferAhead_50 ?_
    refine V_iload hf dX9_isOfferAhead_53 rfl ?_
    refine V_iconst hf dX9_isOfferAhead_55 ?_
    refine V_iadd hf dX9_isOfferAhead_56 ?_
    refine B_iald hf l01 (fun _ => rfl) ⟨by omega, by omega⟩ (by omega) (by omega) dX9_isOfferAhead_57 ?_
    refine B_callVi hf (As := [_]) (d_gr hl0 σ hR (σ 0 41 (108 + 4 * b + 1)) ⟨by omega, by omega⟩) cv_X9_85 l01 rfl rfl rfl (Nat.le_of_ble_eq_true rfl) ⟨by decide, by decide, by decide, by decide⟩ dX9_isOfferAhead_58 ?_
    refine V_isub hf dX9_isOfferAhead_61 ?_
    refine V_goto (tgt := 67) hf dX9_isOfferAhead_62 (by decide) ?_
    refine V_istore (ls2 := [_, _, _, _, _, _]) hf dX9_isOfferAhead_67 (by decide) rfl rfl ?_
    refine V_iload hf dX9_isOfferAhead_69 rfl ?_
    refine V_if_gt (tgt := 95) hf ⟨by omega, by omega⟩ dX9_isOfferAhead_71 (by decide) (fun h71 => ?_) (fun h71 => ?_)
    · refine V_iconst hf dX9_isOfferAhead_95 ?_
      refine V_goto (tgt := 100) hf dX9_isOfferAhead_96 (by decide) ?_
      exact B_iret hf he (nar_b _) dX9_isOfferAhead_100 (by decide) (by decide) (by first | (exfalso; omega) | rw [if_pos (by show _ ∨ _; omega)] | rw [if_neg (by show ¬ (_ ∨ _); omega)]) rfl
    · refine V_iload hf dX9_isOfferAhead_74 rfl ?_
      refine V_if_ne (tgt := 99) hf ⟨by omega, by omega⟩ dX9_isOfferAhead_76 (by decide) (fun h76 => ?_) (fun h76 => ?_)
      · refine V_iconst hf dX9_isOfferAhead_99 ?_
        exact B_iret hf he (nar_b _) dX9_isOfferAhead_100 (by decide) (by decide) (by first | (exfalso; omega) | rw [if_pos (by show _ ∨ _; omega)] | rw [if_neg (by show ¬ (_ ∨ _); omega)]) rfl
      · refine V_aload_n hf dX9_isOfferAhead_79 rfl rfl ?_
        refine B_get hf l01 rfl fl_X9_9_12 rfl dX9_isOfferAhead_80 ?_
        refine V_iload_n hf dX9_isOfferAhead_83 rfl rfl ?_
        refine B_iald hf l01 (fun _ => rfl) ⟨by omega, by omega⟩ (by omega) (by omega) dX9_isOfferAhead_84 ?_
        refine V_aload_n hf dX9_isOfferAhead_85 rfl rfl ?_
        refine B_get hf l01 rfl fl_X9_9_12 rfl dX9_isOfferAhead_86 ?_
        refine V_iload hf dX9_isOfferAhead_89 rfl ?_
        refine B_iald hf l01 (fun _ => rfl) ⟨by omega, by omega⟩ (by omega) (by omega) dX9_isOfferAhead_91 ?_
        refine V_icmp_ge (tgt := 99) hf (by first | exact hR _ _ _ (by decide) | exact ⟨by omega, by omega⟩) (by first | exact hR _ _ _ (by decide) | exact ⟨by omega, by omega⟩) dX9_isOfferAhead_92 (by decide) (fun h92 => ?_) (fun h92 => ?_)
        · refine V_iconst hf dX9_isOfferAhead_99 ?_
          exact B_iret hf he (nar_b _) dX9_isOfferAhead_100 (by decide) (by decide) (by first | (exfalso; omega) | rw [if_pos (by show _ ∨ _; omega)] | rw [if_neg (by show ¬ (_ ∨ _); omega)]) rfl
        · refine V_iconst hf dX9_isOfferAhead_95 ?_
          refine V_goto (tgt := 100) hf dX9_isOfferAhead_96 (by decide) ?_
          exact B_iret hf he (nar_b _) dX9_isOfferAhead_100 (by decide) (by decide) (by first | (exfalso; omega) | rw [if_pos (by show _ ∨ _; omega)] | rw [if_neg (by show ¬ (_ ∨ _); omega)]) rfl

set_option maxHeartbeats 4000000 in
set_option maxRecDepth 100000 in
theorem d_bRank {l : Launch} {D : va_G} {K : Nat → ClassId} {ad : Adr} (hl0 : l.stackTraces = false) (σ : Mem) (hR : Rng σ) (hN : NI (σ 0 41)) (r : Int) (hr : inR r) : Cb l D K ad yX9_bidRanked (.code yX9_bidRanked cX9_bidRanked 5 (some .int)) 3 0 0 σ [.ref (ad 0 40), .int (iN r)] (.inl (some (.int (iN (mbRank (σ 0 41) r))))) σ := by
  refine Cb.of (own := RX9) (ls0 := [some (.ref (ad 0 40)), some (.int (iN r)), none, none, none]) hl0 (by decide) rfl (Nat.le_of_ble_eq_true rfl) rfl ?_
  intro X hX1 hX2 hX3 hf he hh
  subst hX1 hX2 hX3
  have n0 := hN.n0
  have n1 := hN.n1
  have n2 := hN.n2
  have n3 := hN.n3
  have inner : ∀ k : Int, 0 ≤ k → k < σ 0 41 2 → B X ad σ 52 [some (.ref (ad 0 40)), some (.int (iN (r))), some (.int (iN (k))), some (.int (iN (sumI (mbF (σ 0 41) k) (σ 0 41 2)))), none] [] 0 0 → ∀ (n : Nat) (j : Int), 0 ≤ j → j ≤ σ 0 41 2 → (σ 0 41 2 - j).toNat < n → B X ad σ 17 [some (.ref (ad 0 40)), some (.int (iN (r))), some (.int (iN (k))), some (.int (iN (sumI (mbF (σ 0 41) k) j))), some (.int (iN (j)))] [] 0 0 := by
    intro k hk0 hk1 kont n
    induction n with
    | zero => intros; omega
    | succ n ih2 =>
      intro j hj0 hj1 hn
      refine V_iload hf dX9_bidRanked_17 rfl ?_
      refine V_aload_n hf dX9_bidRanked_19 rfl rfl ?_
      refine B_get hf l01 rfl fl_X9_9_12 rfl dX9_bidRanked_20 ?_
      refine V_iconst hf dX9_bidRanked_23 ?_
      refine B_iald hf l01 (fun _ => rfl) (by first | exact hR _ _ _ (by decide) | exact ⟨by omega, by omega⟩) (by omega) (by omega) dX9_bidRanked_24 ?_
      refine V_icmp_ge (tgt := 52) hf (by first | exact hR _ _ _ (by decide) | exact ⟨by omega, by omega⟩) (by first | exact hR _ _ _ (by decide) | exact ⟨by omega, by omega⟩) dX9_bidRanked_25 (by decide) (fun h25 => ?_) (fun h25 => ?_)
      · refine V_fg (ls2 := [some _, some _, some _, some _, none]) ⟨rfl, rfl, rfl, rfl, trivial⟩ ?_
        rw [show j = σ 0 41 2 by omega]
        exact kont
      · refine V_iload_n hf dX9_bidRanked_28 rfl rfl ?_
        refine V_aload_n hf dX9_bidRanked_29 rfl rfl ?_
        refine V_iload hf dX9_bidRanked_30 rfl ?_
        refine V_iload_n hf dX9_bidRanked_32 rfl rfl ?_
        refine B_callVi hf (As := [_, _]) (d_bA hl0 σ hR hN j k ⟨hj0, by omega⟩ ⟨hk0, by omega⟩) cv_X9_88 l01 rfl rfl rfl (Nat.le_of_ble_eq_true rfl) ⟨by decide, by decide, by decide, by decide⟩ dX9_bidRanked_33 ?_
        refine V_if_eq (tgt := 43) hf (by split <;> (try split) <;> exact ⟨by decide, by decide⟩) dX9_bidRanked_36 (by decide) (fun h36 => ?_) (fun h36 => ?_)
        · have hq : ¬ mbA (σ 0 41) j k := fun q => by rw [if_pos q] at h36; omega
          refine V_iconst hf dX9_bidRanked_43 ?_
          refine V_iadd hf dX9_bidRanked_44 ?_
          refine V_istore_n (ls2 := [_, _, _, _, _]) hf dX9_bidRanked_45 rfl (by decide) rfl rfl ?_
          refine V_iinc (ls2 := [_, _, _, _, _]) hf dX9_bidRanked_46 (by decide) rfl rfl rfl ?_
          refine V_goto (tgt := 17) hf dX9_bidRanked_49 (by decide) ?_
          have bk := ih2 (j + 1) (by omega) (by omega) (by omega)
          rw [sumI_s (mbF (σ 0 41) k) hj0] at bk
          first | (rw [show (mbF (σ 0 41) k) j = 1 from if_pos hq] at bk; exact bk) | (rw [show (mbF (σ 0 41) k) j = 0 from if_neg hq] at bk; exact bk)
        · have hq : mbA (σ 0 41) j k := Classical.byContradiction fun q => h36 (if_neg q)
          refine V_iconst hf dX9_bidRanked_39 ?_
          refine V_goto (tgt := 44) hf dX9_bidRanked_40 (by decide) ?_
          refine V_iadd hf dX9_bidRanked_44 ?_
          refine V_istore_n (ls2 := [_, _, _, _, _]) hf dX9_bidRanked_45 rfl (by decide) rfl rfl ?_
          refine V_iinc (ls2 := [_, _, _, _, _]) hf dX9_bidRanked_46 (by decide) rfl rfl rfl ?_
          refine V_goto (tgt := 17) hf dX9_bidRanked_49 (by decide) ?_
          have bk := ih2 (j + 1) (by omega) (by omega) (by omega)
          rw [sumI_s (mbF (σ 0 41) k) hj0] at bk
          first | (rw [show (mbF (σ 0 41) k) j = 1 from if_pos hq] at bk; exact bk) | (rw [show (mbF (σ 0 41) k) j = 0 from if_neg hq] at bk; exact bk)
  have loop : ∀ (n : Nat) (k : Int), 0 ≤ k → k ≤ σ 0 41 2 → (∀ j : Int, 0 ≤ j → j < k → ¬ (fun k => sumI (mbF (σ 0 41) k) (σ 0 41 2) = r) j) → (σ 0 41 2 - k).toNat < n → B X ad σ 2 [some (.ref (ad 0 40)), some (.int (iN (r))), some (.int (iN (k))), none, none] [] 0 0 := by
    intro n
    induction n with
    | zero => intros; omega
    | succ n ih =>
      intro k hk0 hk1 hno hn
      refine V_iload_n hf dX9_bidRanked_2 rfl rfl ?_
      refine V_aload_n hf dX9_bidRanked_3 rfl rfl ?_
      refine B_get hf l01 rfl fl_X9_9_12 rfl dX9_bidRanked_4 ?_
      refine V_iconst hf dX9_bidRanked_7 ?_
      refine B_iald hf l01 (fun _ => rfl) (by first | exact hR _ _ _ (by decide) | exact ⟨by omega, by omega⟩) (by omega) (by omega) dX9_bidRanked_8 ?_
      refine V_icmp_ge (tgt := 65) hf (by first | exact hR _ _ _ (by decide) | exact ⟨by omega, by omega⟩) (by first | exact hR _ _ _ (by decide) | exact ⟨by omega, by omega⟩) dX9_bidRanked_9 (by decide) (fun h9 => ?_) (fun h9 => ?_)
      · refine V_iconst hf dX9_bidRanked_65 ?_
        exact B_iret hf he rfl dX9_bidRanked_66 (by decide) (by decide) (fst_no (fun j h0 h1 => hno j h0 (by omega))).symm rfl
      · refine V_iconst hf dX9_bidRanked_12 ?_
        refine V_istore_n (ls2 := [_, _, _, _, _]) hf dX9_bidRanked_13 rfl (by decide) rfl rfl ?_
        refine V_iconst hf dX9_bidRanked_14 ?_
        refine V_istore (ls2 := [_, _, _, _, _]) hf dX9_bidRanked_15 (by decide) rfl rfl ?_
        refine inner k hk0 (by omega) ?_ ((σ 0 41 2).toNat + 1) 0 (by omega) (by omega) (by omega)
        refine V_iload_n hf dX9_bidRanked_52 rfl rfl ?_
        refine V_iload_n hf dX9_bidRanked_53 rfl rfl ?_
        refine V_icmp_ne (tgt := 59) hf (by have := mrk_r (f := mbF (σ 0 41) k) (n := σ 0 41 2) (by omega) (by omega) (fun _ => mbF_r); exact ⟨by omega, by omega⟩) (by first | exact hR _ _ _ (by decide) | exact ⟨by omega, by omega⟩) dX9_bidRanked_54 (by decide) (fun h54 => ?_) (fun h54 => ?_)
        · refine V_iinc (ls2 := [_, _, _, _, _]) hf dX9_bidRanked_59 (by decide) rfl rfl rfl ?_
          refine V_goto (tgt := 2) hf dX9_bidRanked_62 (by decide) ?_
          refine V_fg (ls2 := [some _, some _, some _, none, none]) ⟨rfl, rfl, rfl, trivial⟩ ?_
          refine ih (k + 1) (by omega) (by omega) (fun j h0 h1 => ?_) (by omega)
          by_cases hj : j = k
          · subst hj
            exact h54
          · exact hno j h0 (by omega)
        · refine V_iload_n hf dX9_bidRanked_57 rfl rfl ?_
          exact B_iret hf he rfl dX9_bidRanked_58 (by decide) (by decide) (fst_yes hk0 (by omega) h54 hno).symm rfl
  refine V_iconst hf dX9_bidRanked_0 ?_
  refine V_istore_n (ls2 := [_, _, _, _, _]) hf dX9_bidRanked_1 rfl (by decide) rfl rfl ?_
  exact loop ((σ 0 41 2).toNat + 1) 0 (by omega) (by omega) (fun j h0 h1 => by omega) (by omega)

set_option maxHeartbeats 4000000 in
set_option maxRecDepth 100000 in
theorem d_oRank {l : Launch} {D : va_G} {K : Nat → ClassId} {ad : Adr} (hl0 : l.stackTraces = false) (σ : Mem) (hR : Rng σ) (hN : NI (σ 0 41)) (r : Int) (hr : inR r) : Cb l D K ad yX9_offerRanked (.code yX9_offerRanked cX9_offerRanked 5 (some .int)) 4 0 0 σ [.ref (ad 0 40), .int (iN r)] (.inl (some (.int (iN (moRank (σ 0 41) r))))) σ := by
  refine Cb.of (own := RX9) (ls0 := [some (.ref (ad 0 40)), some (.int (iN r)), none, none, none]) hl0 (by decide) rfl (Nat.le_of_ble_eq_true rfl) rfl ?_
  intro X hX1 hX2 hX3 hf he hh
  subst hX1 hX2 hX3
  have n0 := hN.n0
  have n1 := hN.n1
  have n2 := hN.n2
  have n3 := hN.n3
  have inner : ∀ k : Int, 0 ≤ k → k < σ 0 41 3 → B X ad σ 52 [some (.ref (ad 0 40)), some (.int (iN (r))), some (.int (iN (k))), some (.int (iN (sumI (moF (σ 0 41) k) (σ 0 41 3)))), none] [] 0 0 → ∀ (n : Nat) (j : Int), 0 ≤ j → j ≤ σ 0 41 3 → (σ 0 41 3 - j).toNat < n → B X ad σ 17 [some (.ref (ad 0 40)), some (.int (iN (r))), some (.int (iN (k))), some (.int (iN (sumI (moF (σ 0 41) k) j))), some (.int (iN (j)))] [] 0 0 := by
    intro k hk0 hk1 kont n
    induction n with
    | zero => intros; omega
    | succ n ih2 =>
      intro j hj0 hj1 hn
      refine V_iload hf dX9_offerRanked_17 rfl ?_
      refine V_aload_n hf dX9_offerRanked_19 rfl rfl ?_
      refine B_get hf l01 rfl fl_X9_9_12 rfl dX9_offerRanked_20 ?_
      refine V_iconst hf dX9_offerRanked_23 ?_
      refine B_iald hf l01 (fun _ => rfl) (by first | exact hR _ _ _ (by decide) | exact ⟨by omega, by omega⟩) (by omega) (by omega) dX9_offerRanked_24 ?_
      refine V_icmp_ge (tgt := 52) hf (by first | exact hR _ _ _ (by decide) | exact ⟨by omega, by omega⟩) (by first | exact hR _ _ _ (by decide) | exact ⟨by omega, by omega⟩) dX9_offerRanked_25 (by decide) (fun h25 => ?_) (fun h25 => ?_)
      · refine V_fg (ls2 := [some _, some _, some _, some _, none]) ⟨rfl, rfl, rfl, rfl, trivial⟩ ?_
        rw [show j = σ 0 41 3 by omega]
        exact kont
      · refine V_iload_n hf dX9_offerRanked_28 rfl rfl ?_
        refine V_aload_n hf dX9_offerRanked_29 rfl rfl ?_
        refine V_iload hf dX9_offerRanked_30 rfl ?_
        refine V_iload_n hf dX9_offerRanked_32 rfl rfl ?_
        refine B_callVi hf (As := [_, _]) (d_oA hl0 σ hR hN j k ⟨hj0, by omega⟩ ⟨hk0, by omega⟩) cv_X9_92 l01 rfl rfl rfl (Nat.le_of_ble_eq_true rfl) ⟨by decide, by decide, by decide, by decide⟩ dX9_offerRanked_33 ?_
        refine V_if_eq (tgt := 43) hf (by split <;> (try split) <;> exact ⟨by decide, by decide⟩) dX9_offerRanked_36 (by decide) (fun h36 => ?_) (fun h36 => ?_)
        · have hq : ¬ moA (σ 0 41) j k := fun q => by rw [if_pos q] at h36; omega
          refine V_iconst hf dX9_offerRanked_43 ?_
          refine V_iadd hf dX9_offerRanked_44 ?_
          refine V_istore_n (ls2 := [_, _, _, _, _]) hf dX9_offerRanked_45 rfl (by decide) rfl rfl ?_
          refine V_iinc (ls2 := [_, _, _, _, _]) hf dX9_offerRanked_46 (by decide) rfl rfl rfl ?_
          refine V_goto (tgt := 17) hf dX9_offerRanked_49 (by decide) ?_
          have bk := ih2 (j + 1) (by omega) (by omega) (by omega)
          rw [sumI_s (moF (σ 0 41) k) hj0] at bk
          first | (rw [show (moF (σ 0 41) k) j = 1 from if_pos hq] at bk; exact bk) | (rw [show (moF (σ 0 41) k) j = 0 from if_neg hq] at bk; exact bk)
        · have hq : moA (σ 0 41) j k := Classical.byContradiction fun q => h36 (if_neg q)
          refine V_iconst hf dX9_offerRanked_39 ?_
          refine V_goto (tgt := 44) hf dX9_offerRanked_40 (by decide) ?_
          refine V_iadd hf dX9_offerRanked_44 ?_
          refine V_istore_n (ls2 := [_, _, _, _, _]) hf dX9_offerRanked_45 rfl (by decide) rfl rfl ?_
          refine V_iinc (ls2 := [_, _, _, _, _]) hf dX9_offerRanked_46 (by decide) rfl rfl rfl ?_
          refine V_goto (tgt := 17) hf dX9_offerRanked_49 (by decide) ?_
          have bk := ih2 (j + 1) (by omega) (by omega) (by omega)
          rw [sumI_s (moF (σ 0 41) k) hj0] at bk
          first | (rw [show (moF (σ 0 41) k) j = 1 from if_pos hq] at bk; exact bk) | (rw [show (moF (σ 0 41) k) j = 0 from if_neg hq] at bk; exact bk)
  have loop : ∀ (n : Nat) (k : Int), 0 ≤ k → k ≤ σ 0 41 3 → (∀ j : Int, 0 ≤ j → j < k → ¬ (fun k => sumI (moF (σ 0 41) k) (σ 0 41 3) = r) j) → (σ 0 41 3 - k).toNat < n → B X ad σ 2 [some (.ref (ad 0 40)), some (.int (iN (r))), some (.int (iN (k))), none, none] [] 0 0 := by
    intro n
    induction n with
    | zero => intros; omega
    | succ n ih =>
      intro k hk0 hk1 hno hn
      refine V_iload_n hf dX9_offerRanked_2 rfl rfl ?_
      refine V_aload_n hf dX9_offerRanked_3 rfl rfl ?_
      refine B_get hf l01 rfl fl_X9_9_12 rfl dX9_offerRanked_4 ?_
      refine V_iconst hf dX9_offerRanked_7 ?_
      refine B_iald hf l01 (fun _ => rfl) (by first | exact hR _ _ _ (by decide) | exact ⟨by omega, by omega⟩) (by omega) (by omega) dX9_offerRanked_8 ?_
      refine V_icmp_ge (tgt := 65) hf (by first | exact hR _ _ _ (by decide) | exact ⟨by omega, by omega⟩) (by first | exact hR _ _ _ (by decide) | exact ⟨by omega, by omega⟩) dX9_offerRanked_9 (by decide) (fun h9 => ?_) (fun h9 => ?_)
      · refine V_iconst hf dX9_offerRanked_65 ?_
        exact B_iret hf he rfl dX9_offerRanked_66 (by decide) (by decide) (fst_no (fun j h0 h1 => hno j h0 (by omega))).symm rfl
      · refine V_iconst hf dX9_offerRanked_12 ?_
        refine V_istore_n (ls2 := [_, _, _, _, _]) hf dX9_offerRanked_13 rfl (by decide) rfl rfl ?_
        refine V_iconst hf dX9_offerRanked_14 ?_
        refine V_istore (ls2 := [_, _, _, _, _]) hf dX9_offerRanked_15 (by decide) rfl rfl ?_
        refine inner k hk0 (by omega) ?_ ((σ 0 41 3).toNat + 1) 0 (by omega) (by omega) (by omega)
        refine V_iload_n hf dX9_offerRanked_52 rfl rfl ?_
        refine V_iload_n hf dX9_offerRanked_53 rfl rfl ?_
        refine V_icmp_ne (tgt := 59) hf (by have := mrk_r (f := moF (σ 0 41) k) (n := σ 0 41 3) (by omega) (by omega) (fun _ => moF_r); exact ⟨by omega, by omega⟩) (by first | exact hR _ _ _ (by decide) | exact ⟨by omega, by omega⟩) dX9_offerRanked_54 (by decide) (fun h54 => ?_) (fun h54 => ?_)
        · refine V_iinc (ls2 := [_, _, _, _, _]) hf dX9_offerRanked_59 (by decide) rfl rfl rfl ?_
          refine V_goto (tgt := 2) hf dX9_offerRanked_62 (by decide) ?_
          refine V_fg (ls2 := [some _, some _, some _, none, none]) ⟨rfl, rfl, rfl, trivial⟩ ?_
          refine ih (k + 1) (by omega) (by omega) (fun j h0 h1 => ?_) (by omega)
          by_cases hj : j = k
          · subst hj
            exact h54
          · exact hno j h0 (by omega)
        · refine V_iload_n hf dX9_offerRanked_57 rfl rfl ?_
          exact B_iret hf he rfl dX9_offerRanked_58 (by decide) (by decide) (fst_yes hk0 (by omega) h54 hno).symm rfl
  refine V_iconst hf dX9_offerRanked_0 ?_
  refine V_istore_n (ls2 := [_, _, _, _, _]) hf dX9_offerRanked_1 rfl (by decide) rfl rfl ?_
  exact loop ((σ 0 41 3).toNat + 1) 0 (by omega) (by omega) (fun j h0 h1 => by omega) (by omega)

set_option maxHeartbeats 4000000 in
set_option maxRecDepth 100000 in
theorem d_fits {l : Launch} {D : va_G} {K : Nat → ClassId} {ad : Adr} (hl0 : l.stackTraces = false) (σ : Mem) (hR : Rng σ) (hN : NI (σ 0 41)) (x b : Int) (hx : 0 ≤ x ∧ x < σ 0 41 3) (hb : 0 ≤ b ∧ b < σ 0 41 2) : Cb l D K ad yX9_fits (.code yX9_fits cX9_fits 5 (some .boolean)) 3 0 0 σ [.ref (ad 0 40), .int (iN x), .int (iN b)] (.inl (some (.int (iN (if mfits (σ 0 41) x b then 1 else 0))))) σ := by
  refine Cb.of (own := RX9) (ls0 := [some (.ref (ad 0 40)), some (.int (iN x)), some (.int (iN b)), none, none]) hl0 (by decide) rfl (Nat.le_of_ble_eq_true rfl) rfl ?_
  intro X hX1 hX2 hX3 hf he hh
  subst hX1 hX2 hX3
  have n0 := hN.n0
  have n1 := hN.n1
  have n2 := hN.n2
  have n3 := hN.n3
  have p1 := hN.of x hx.1 hx.2
  have p2 := hN.bi b hb.1 hb.2
  have g1 : 1 ≤ mgr (σ 0 41) (σ 0 41 (108 + 4 * x + 1)) ∧ mgr (σ 0 41) (σ 0 41 (108 + 4 * x + 1)) ≤ 9 := (hN.ba _ p1.1.1 p1.1.2).2
  refine V_iload_n hf dX9_fits_0 rfl rfl ?_
  refine B_callSi hf (As := [_]) (d_offerAtPlace hl0 σ (x)) cvs_X9_82 rfl (Nat.le_of_ble_eq_true rfl) ⟨by decide, by decide, by decide, by decide⟩ dX9_fits_1 ?_
  refine V_istore_n (ls2 := [_, _, _, _, _]) hf dX9_fits_4 rfl (by decide) rfl rfl ?_
  refine V_iload_n hf dX9_fits_5 rfl rfl ?_
  refine B_callSi hf (As := [_]) (d_bidAtPlace hl0 σ (b)) cvs_X9_73 rfl (Nat.le_of_ble_eq_true rfl) ⟨by decide, by decide, by decide, by decide⟩ dX9_fits_6 ?_
  refine V_istore (ls2 := [_, _, _, _, _]) hf dX9_fits_9 (by decide) rfl rfl ?_
  refine V_aload_n hf dX9_fits_11 rfl rfl ?_
  refine B_get hf l01 rfl fl_X9_9_12 rfl dX9_fits_12 ?_
  refine V_aload_n hf dX9_fits_15 rfl rfl ?_
  refine B_get hf l01 rfl fl_X9_9_12 rfl dX9_fits_16 ?_
  refine V_iload_n hf dX9_fits_19 rfl rfl ?_
  refine V_iconst hf dX9_fits_20 ?_
  refine V_iadd hf dX9_fits_21 ?_
  refine B_iald hf l01 (fun _ => rfl) ⟨by omega, by omega⟩ (by omega) (by omega) dX9_fits_22 ?_
  refine B_callSi hf (As := [_]) (d_barnacleAtPlace hl0 σ (σ 0 41 (108 + 4 * x + 1))) cvs_X9_70 rfl (Nat.le_of_ble_eq_true rfl) ⟨by decide, by decide, by decide, by decide⟩ dX9_fits_23 ?_
  refine B_iald hf l01 (fun _ => rfl) ⟨by omega, by omega⟩ (by omega) (by omega) dX9_fits_26 ?_
  refine V_aload_n hf dX9_fits_27 rfl rfl ?_
  refine B_get hf l01 rfl fl_X9_9_12 rfl dX9_fits_28 ?_
  refine V_iload hf dX9_fits_31 rfl ?_
  refine V_iconst hf dX9_fits_33 ?_
  refine V_iadd hf dX9_fits_34 ?_
  refine B_iald hf l01 (fun _ => rfl) ⟨by omega, by omega⟩ (by omega) (by omega) dX9_fits_35 ?_
  refine V_icmp_eq (tgt := 87) hf (by first | exact hR _ _ _ (by decide) | exact ⟨by omega, by omega⟩) (by first | exact hR _ _ _ (by decide) | exact ⟨by omega, by omega⟩) dX9_fits_36 (by decide) (fun h36 => ?_) (fun h36 => ?_)
  · refine V_iconst hf dX9_fits_87 ?_
    exact B_iret hf he (nar_b _) dX9_fits_88 (by decide) (by decide) (by first | rw [if_pos ⟨by omega, by omega, by omega⟩] | rw [if_neg (fun q => absurd q.1 (by omega))] | rw [if_neg (fun q => absurd q.2.1 (by omega))] | rw [if_neg (fun q => absurd q.2.2 (by omega))]) rfl
  · refine V_aload_n hf dX9_fits_39 rfl rfl ?_
    refine V_aload_n hf dX9_fits_40 rfl rfl ?_
    refine B_get hf l01 rfl fl_X9_9_12 rfl dX9_fits_41 ?_
    refine V_iload_n hf dX9_fits_44 rfl rfl ?_
    refine V_iconst hf dX9_fits_45 ?_
    refine V_iadd hf dX9_fits_46 ?_
    refine B_iald hf l01 (fun _ => rfl) ⟨by omega, by omega⟩ (by omega) (by omega) dX9_fits_47 ?_
    refine B_callVi hf (As := [_]) (d_gr hl0 σ hR (σ 0 41 (108 + 4 * x + 1)) ⟨by omega, by omega⟩) cv_X9_85 l01 rfl rfl rfl (Nat.le_of_ble_eq_true rfl) ⟨by decide, by decide, by decide, by decide⟩ dX9_fits_48 ?_
    refine V_aload_n hf dX9_fits_51 rfl rfl ?_
    refine B_get hf l01 rfl fl_X9_9_12 rfl dX9_fits_52 ?_
    refine V_iload hf dX9_fits_55 rfl ?_
    refine V_iconst hf dX9_fits_57 ?_
    refine V_iadd hf dX9_fits_58 ?_
    refine B_iald hf l01 (fun _ => rfl) ⟨by omega, by omega⟩ (by omega) (by omega) dX9_fits_59 ?_
    refine V_icmp_lt (tgt := 87) hf ⟨by omega, by omega⟩ (by first | exact hR _ _ _ (by decide) | exact ⟨by omega, by omega⟩) dX9_fits_60 (by decide) (fun h60 => ?_) (fun h60 => ?_)
    · refine V_iconst hf dX9_fits_87 ?_
      exact B_iret hf he (nar_b _) dX9_fits_88 (by decide) (by decide) (by first | rw [if_pos ⟨by omega, by omega, by omega⟩] | rw [if_neg (fun q => absurd q.1 (by omega))] | rw [if_neg (fun q => absurd q.2.1 (by omega))] | rw [if_neg (fun q => absurd q.2.2 (by omega))]) rfl
    · refine V_aload_n hf dX9_fits_63 rfl rfl ?_
      refine B_get hf l01 rfl fl_X9_9_12 rfl dX9_fits_64 ?_
      refine V_iload_n hf dX9_fits_67 rfl rfl ?_
      refine V_iconst hf dX9_fits_68 ?_
      refine V_iadd hf dX9_fits_69 ?_
      refine B_iald hf l01 (fun _ => rfl) (by first | exact hR _ _ _ (by decide) | exact ⟨by omega, by omega⟩) (by omega) (by omega) dX9_fits_70 ?_
      refine V_aload_n hf dX9_fits_71 rfl rfl ?_
      refine B_get hf l01 rfl fl_X9_9_12 rfl dX9_fits_72 ?_
      refine V_iload hf dX9_fits_75 rfl ?_
      refine V_iconst hf dX9_fits_77 ?_
      refine V_iadd hf dX9_fits_78 ?_
      refine B_iald hf l01 (fun _ => rfl) ⟨by omega, by omega⟩ (by omega) (by omega) dX9_fits_79 ?_
      refine V_icmp_gt (tgt := 87) hf (by first | exact hR _ _ _ (by decide) | exact ⟨by omega, by omega⟩) (by first | exact hR _ _ _ (by decide) | exact ⟨by omega, by omega⟩) dX9_fits_80 (by decide) (fun h80 => ?_) (fun h80 => ?_)
      · refine V_iconst hf dX9_fits_87 ?_
        exact B_iret hf he (nar_b _) dX9_fits_88 (by decide) (by decide) (by first | rw [if_pos ⟨by omega, by omega, by omega⟩] | rw [if_neg (fun q => absurd q.1 (by omega))] | rw [if_neg (fun q => absurd q.2.1 (by omega))] | rw [if_neg (fun q => absurd q.2.2 (by omega))]) rfl
      · refine V_iconst hf dX9_fits_83 ?_
        refine V_goto (tgt := 88) hf dX9_fits_84 (by decide) ?_
        exact B_iret hf he (nar_b _) dX9_fits_88 (by decide) (by decide) (by first | rw [if_pos ⟨by omega, by omega, by omega⟩] | rw [if_neg (fun q => absurd q.1 (by omega))] | rw [if_neg (fun q => absurd q.2.1 (by omega))] | rw [if_neg (fun q => absurd q.2.2 (by omega))]) rfl

set_option maxHeartbeats 4000000 in
set_option maxRecDepth 100000 in
theorem d_match {l : Launch} {D : va_G} {K : Nat → ClassId} {ad : Adr} (hl0 : l.stackTraces = false) (σ : Mem) (hR : Rng σ) (hN : NI (σ 0 41)) (b : Int) (hb : 0 ≤ b ∧ b < σ 0 41 2) : Cb l D K ad yX9_match (.code yX9_match cX9_match 4 (some .int)) 4 0 0 σ [.ref (ad 0 40), .int (iN b)] (.inl (some (.int (iN (mmatch (σ 0 41) b))))) σ := by
  refine Cb.of (own := RX9) (ls0 := [some (.ref (ad 0 40)), some (.int (iN b)), none, none]) hl0 (by decide) rfl (Nat.le_of_ble_eq_true rfl) rfl ?_
  intro X hX1 hX2 hX3 hf he hh
  subst hX1 hX2 hX3
  have n0 := hN.n0
  have n1 := hN.n1
  have n2 := hN.n2
  have n3 := hN.n3
  have loop : ∀ (n : Nat) (k : Int), 0 ≤ k → k ≤ σ 0 41 3 → (σ 0 41 3 - k).toNat < n → B X ad σ 4 [some (.ref (ad 0 40)), some (.int (iN (b))), some (.int (iN (mbestN (σ 0 41) b k.toNat))), some (.int (iN (k)))] [] 0 0 := by
    intro n
    induction n with
    | zero => intros; omega
    | succ n ih =>
      intro k hk0 hk1 hn
      refine V_iload_n hf dX9_match_4 rfl rfl ?_
      refine V_aload_n hf dX9_match_5 rfl rfl ?_
      refine B_get hf l01 rfl fl_X9_9_12 rfl dX9_match_6 ?_
      refine V_iconst hf dX9_match_9 ?_
      refine B_iald hf l01 (fun _ => rfl) (by first | exact hR _ _ _ (by decide) | exact ⟨by omega, by omega⟩) (by omega) (by omega) dX9_match_10 ?_
      refine V_icmp_ge (tgt := 49) hf (by first | exact hR _ _ _ (by decide) | exact ⟨by omega, by omega⟩) (by first | exact hR _ _ _ (by decide) | exact ⟨by omega, by omega⟩) dX9_match_11 (by decide) (fun h11 => ?_) (fun h11 => ?_)
      · refine V_iload_n hf dX9_match_49 rfl rfl ?_
        exact B_iret hf he rfl dX9_match_50 (by decide) (by decide) (by rw [show k = σ 0 41 3 by omega]; rfl) rfl
      · refine V_aload_n hf dX9_match_14 rfl rfl ?_
        refine V_iload_n hf dX9_match_15 rfl rfl ?_
        refine V_iload_n hf dX9_match_16 rfl rfl ?_
        have r2 := mbestN_r (σ 0 41) b k.toNat
        refine B_callVi hf (As := [_, _]) (d_fits hl0 σ hR hN k b ⟨hk0, by omega⟩ hb) cv_X9_95 l01 rfl rfl rfl (Nat.le_of_ble_eq_true rfl) ⟨by decide, by decide, by decide, by decide⟩ dX9_match_17 ?_
        refine V_if_eq (tgt := 41) hf (by split <;> (try split) <;> exact ⟨by decide, by decide⟩) dX9_match_20 (by decide) (fun h20 => ?_) (fun h20 => ?_)
        · have hz : ¬ (mfits (σ 0 41) k b ∧ (mbestN (σ 0 41) b k.toNat = -1 ∨ moA (σ 0 41) k (mbestN (σ 0 41) b k.toNat))) := fun q => by rw [if_pos q.1] at h20; omega
          refine V_iload_n hf dX9_match_41 rfl rfl ?_
          refine V_istore_n (ls2 := [_, _, _, _]) hf dX9_match_42 rfl (by decide) rfl rfl ?_
          refine V_iinc (ls2 := [_, _, _, _]) hf dX9_match_43 (by decide) rfl rfl rfl ?_
          refine V_goto (tgt := 4) hf dX9_match_46 (by decide) ?_
          have bk := ih (k + 1) (by omega) (by omega) (by omega)
          rw [mbestN_s (σ 0 41) b hk0] at bk
          first | (rw [show mbestS (σ 0 41) b k (mbestN (σ 0 41) b k.toNat) = k from if_pos hz] at bk; exact bk) | (rw [show mbestS (σ 0 41) b k (mbestN (σ 0 41) b k.toNat) = mbestN (σ 0 41) b k.toNat from if_neg hz] at bk; exact bk)
        · have hq : mfits (σ 0 41) k b := Classical.byContradiction fun q => h20 (if_neg q)
          refine V_iload_n hf dX9_match_23 rfl rfl ?_
          refine V_iconst hf dX9_match_24 ?_
          refine V_icmp_eq (tgt := 37) hf ⟨by omega, by omega⟩ ⟨by omega, by omega⟩ dX9_match_25 (by decide) (fun h25 => ?_) (fun h25 => ?_)
          · have hz : mfits (σ 0 41) k b ∧ (mbestN (σ 0 41) b k.toNat = -1 ∨ moA (σ 0 41) k (mbestN (σ 0 41) b k.toNat)) := ⟨hq, Or.inl h25⟩
            refine V_iload_n hf dX9_match_37 rfl rfl ?_
            refine V_goto (tgt := 42) hf dX9_match_38 (by decide) ?_
            refine V_istore_n (ls2 := [_, _, _, _]) hf dX9_match_42 rfl (by decide) rfl rfl ?_
            refine V_iinc (ls2 := [_, _, _, _]) hf dX9_match_43 (by decide) rfl rfl rfl ?_
            refine V_goto (tgt := 4) hf dX9_match_46 (by decide) ?_
            have bk := ih (k + 1) (by omega) (by omega) (by omega)
            rw [mbestN_s (σ 0 41) b hk0] at bk
            first | (rw [show mbestS (σ 0 41) b k (mbestN (σ 0 41) b k.toNat) = k from if_pos hz] at bk; exact bk) | (rw [show mbestS (σ 0 41) b k (mbestN (σ 0 41) b k.toNat) = mbestN (σ 0 41) b k.toNat from if_neg hz] at bk; exact bk)
          · refine V_aload_n hf dX9_match_28 rfl rfl ?_
            refine V_iload_n hf dX9_match_29 rfl rfl ?_
            refine V_iload_n hf dX9_match_30 rfl rfl ?_
            refine B_callVi hf (As := [_, _]) (d_oA hl0 σ hR hN k (mbestN (σ 0 41) b k.toNat) ⟨hk0, by omega⟩ ⟨by omega, by omega⟩) cv_X9_92 l01 rfl rfl rfl (Nat.le_of_ble_eq_true rfl) ⟨by decide, by decide, by decide, by decide⟩ dX9_match_31 ?_
            refine V_if_eq (tgt := 41) hf (by split <;> (try split) <;> exact ⟨by decide, by decide⟩) dX9_match_34 (by decide) (fun h34 => ?_) (fun h34 => ?_)
            · have hz : ¬ (mfits (σ 0 41) k b ∧ (mbestN (σ 0 41) b k.toNat = -1 ∨ moA (σ 0 41) k (mbestN (σ 0 41) b k.toNat))) := fun q => by rw [if_pos (q.2.resolve_left h25)] at h34; omega
              refine V_iload_n hf dX9_match_41 rfl rfl ?_
              refine V_istore_n (ls2 := [_, _, _, _]) hf dX9_match_42 rfl (by decide) rfl rfl ?_
              refine V_iinc (ls2 := [_, _, _, _]) hf dX9_match_43 (by decide) rfl rfl rfl ?_
              refine V_goto (tgt := 4) hf dX9_match_46 (by decide) ?_
              have bk := ih (k + 1) (by omega) (by omega) (by omega)
              rw [mbestN_s (σ 0 41) b hk0] at bk
              first | (rw [show mbestS (σ 0 41) b k (mbestN (σ 0 41) b k.toNat) = k from if_pos hz] at bk; exact bk) | (rw [show mbestS (σ 0 41) b k (mbestN (σ 0 41) b k.toNat) = mbestN (σ 0 41) b k.toNat from if_neg hz] at bk; exact bk)
            · have hz : mfits (σ 0 41) k b ∧ (mbestN (σ 0 41) b k.toNat = -1 ∨ moA (σ 0 41) k (mbestN (σ 0 41) b k.toNat)) := ⟨hq, Or.inr (Classical.byContradiction fun q => h34 (if_neg q))⟩
              refine V_iload_n hf dX9_match_37 rfl rfl ?_
              refine V_goto (tgt := 42) hf dX9_match_38 (by decide) ?_
              refine V_istore_n (ls2 := [_, _, _, _]) hf dX9_match_42 rfl (by decide) rfl rfl ?_
              refine V_iinc (ls2 := [_, _, _, _]) hf dX9_match_43 (by decide) rfl rfl rfl ?_
              refine V_goto (tgt := 4) hf dX9_match_46 (by decide) ?_
              have bk := ih (k + 1) (by omega) (by omega) (by omega)
              rw [mbestN_s (σ 0 41) b hk0] at bk
              first | (rw [show mbestS (σ 0 41) b k (mbestN (σ 0 41) b k.toNat) = k from if_pos hz] at bk; exact bk) | (rw [show mbestS (σ 0 41) b k (mbestN (σ 0 41) b k.toNat) = mbestN (σ 0 41) b k.toNat from if_neg hz] at bk; exact bk)
  refine V_iconst hf dX9_match_0 ?_
  refine V_istore_n (ls2 := [_, _, _, _]) hf dX9_match_1 rfl (by decide) rfl rfl ?_
  refine V_iconst hf dX9_match_2 ?_
  refine V_istore_n (ls2 := [_, _, _, _]) hf dX9_match_3 rfl (by decide) rfl rfl ?_
  exact loop ((σ 0 41 3).toNat + 1) 0 (by omega) (by omega) (by omega)

set_option maxHeartbeats 4000000 in
set_option maxRecDepth 100000 in
theorem d_wealth {l : Launch} {D : va_G} {K : Nat → ClassId} {ad : Adr} (hl0 : l.stackTraces = false) (σ : Mem) (hR : Rng σ) (hN : NI (σ 0 41)) (s : Int) (hs : 0 ≤ s ∧ s < 6) : Cb l D K ad yX9_wealth (.code yX9_wealth cX9_wealth 4 (some .int)) 3 0 0 σ [.ref (ad 0 40), .int (iN s)] (.inl (some (.int (iN (mwealth (σ 0 41) s))))) σ := by
  refine Cb.of (own := RX9) (ls0 := [some (.ref (ad 0 40)), some (.int (iN s)), none, none]) hl0 (by decide) rfl (Nat.le_of_ble_eq_true rfl) rfl ?_
  intro X hX1 hX2 hX3 hf he hh
  subst hX1 hX2 hX3
  have n0 := hN.n0
  have n1 := hN.n1
  have n2 := hN.n2
  have n3 := hN.n3
  have loop : ∀ (n : Nat) (k : Int), 0 ≤ k → k ≤ σ 0 41 1 → (σ 0 41 1 - k).toNat < n → B X ad σ 12 [some (.ref (ad 0 40)), some (.int (iN (s))), some (.int (iN (σ 0 41 (14 + 2 * s) + sumI (mwealthF (σ 0 41) s) k))), some (.int (iN (k)))] [] 0 0 := by
    intro n
    induction n with
    | zero => intros; omega
    | succ n ih =>
      intro k hk0 hk1 hn
      refine V_iload_n hf dX9_wealth_12 rfl rfl ?_
      refine V_aload_n hf dX9_wealth_13 rfl rfl ?_
      refine B_get hf l01 rfl fl_X9_9_12 rfl dX9_wealth_14 ?_
      refine V_iconst hf dX9_wealth_17 ?_
      refine B_iald hf l01 (fun _ => rfl) (by first | exact hR _ _ _ (by decide) | exact ⟨by omega, by omega⟩) (by omega) (by omega) dX9_wealth_18 ?_
      refine V_icmp_ge (tgt := 53) hf (by first | exact hR _ _ _ (by decide) | exact ⟨by omega, by omega⟩) (by first | exact hR _ _ _ (by decide) | exact ⟨by omega, by omega⟩) dX9_wealth_19 (by decide) (fun h19 => ?_) (fun h19 => ?_)
      · refine V_iload_n hf dX9_wealth_53 rfl rfl ?_
        exact B_iret hf he rfl dX9_wealth_54 (by decide) (by decide) (by rw [show k = σ 0 41 1 by omega]; rfl) rfl
      · refine V_iload_n hf dX9_wealth_22 rfl rfl ?_
        refine V_aload_n hf dX9_wealth_23 rfl rfl ?_
        refine B_get hf l01 rfl fl_X9_9_12 rfl dX9_wealth_24 ?_
        refine V_iload_n hf dX9_wealth_27 rfl rfl ?_
        refine B_callSi hf (As := [_]) (d_barnacleAtPlace hl0 σ (k)) cvs_X9_70 rfl (Nat.le_of_ble_eq_true rfl) ⟨by decide, by decide, by decide, by decide⟩ dX9_wealth_28 ?_
        refine B_iald hf l01 (fun _ => rfl) ⟨by omega, by omega⟩ (by omega) (by omega) dX9_wealth_31 ?_
        refine V_iload_n hf dX9_wealth_32 rfl rfl ?_
        refine V_icmp_ne (tgt := 44) hf (by first | exact hR _ _ _ (by decide) | exact ⟨by omega, by omega⟩) (by first | exact hR _ _ _ (by decide) | exact ⟨by omega, by omega⟩) dX9_wealth_33 (by decide) (fun h33 => ?_) (fun h33 => ?_)
        · refine V_iconst hf dX9_wealth_44 ?_
          refine V_iadd hf dX9_wealth_45 ?_
          refine V_istore_n (ls2 := [_, _, _, _]) hf dX9_wealth_46 rfl (by decide) rfl rfl ?_
          refine V_iinc (ls2 := [_, _, _, _]) hf dX9_wealth_47 (by decide) rfl rfl rfl ?_
          refine V_goto (tgt := 12) hf dX9_wealth_50 (by decide) ?_
          have bk := ih (k + 1) (by omega) (by omega) (by omega)
          rw [sumI_s (mwealthF (σ 0 41) s) hk0] at bk
          first | (rw [show (mwealthF (σ 0 41) s) k = mgr (σ 0 41) k from if_pos (by omega), ← Int.add_assoc] at bk; exact bk) | (rw [show (mwealthF (σ 0 41) s) k = 0 from if_neg (by omega), ← Int.add_assoc] at bk; exact bk)
        · refine V_aload_n hf dX9_wealth_36 rfl rfl ?_
          refine V_iload_n hf dX9_wealth_37 rfl rfl ?_
          refine B_callVi hf (As := [_]) (d_gr hl0 σ hR k ⟨by omega, by omega⟩) cv_X9_85 l01 rfl rfl rfl (Nat.le_of_ble_eq_true rfl) ⟨by decide, by decide, by decide, by decide⟩ dX9_wealth_38 ?_
          refine V_goto (tgt := 45) hf dX9_wealth_41 (by decide) ?_
          refine V_iadd hf dX9_wealth_45 ?_
          refine V_istore_n (ls2 := [_, _, _, _]) hf dX9_wealth_46 rfl (by decide) rfl rfl ?_
          refine V_iinc (ls2 := [_, _, _, _]) hf dX9_wealth_47 (by decide) rfl rfl rfl ?_
          refine V_goto (tgt := 12) hf dX9_wealth_50 (by decide) ?_
          have bk := ih (k + 1) (by omega) (by omega) (by omega)
          rw [sumI_s (mwealthF (σ 0 41) s) hk0] at bk
          first | (rw [show (mwealthF (σ 0 41) s) k = mgr (σ 0 41) k from if_pos (by omega), ← Int.add_assoc] at bk; exact bk) | (rw [show (mwealthF (σ 0 41) s) k = 0 from if_neg (by omega), ← Int.add_assoc] at bk; exact bk)
  refine V_aload_n hf dX9_wealth_0 rfl rfl ?_
  refine B_get hf l01 rfl fl_X9_9_12 rfl dX9_wealth_1 ?_
  refine V_iload_n hf dX9_wealth_4 rfl rfl ?_
  refine B_callSi hf (As := [_]) (d_shipAt hl0 σ (s)) cvs_X9_67 rfl (Nat.le_of_ble_eq_true rfl) ⟨by decide, by decide, by decide, by decide⟩ dX9_wealth_5 ?_
  refine B_iald hf l01 (fun _ => rfl) ⟨by omega, by omega⟩ (by omega) (by omega) dX9_wealth_8 ?_
  refine V_istore_n (ls2 := [_, _, _, _]) hf dX9_wealth_9 rfl (by decide) rfl rfl ?_
  refine V_iconst hf dX9_wealth_10 ?_
  refine V_istore_n (ls2 := [_, _, _, _]) hf dX9_wealth_11 rfl (by decide) rfl rfl ?_
  have bk := loop ((σ 0 41 1).toNat + 1) 0 (by omega) (by omega) (by omega)
  rw [sumI_0, Int.add_zero] at bk
  exact bk
