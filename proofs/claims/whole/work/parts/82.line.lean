/-! the line and the quotients, both sides -/
set_option maxHeartbeats 4000000 in
set_option maxRecDepth 100000 in
theorem cx_ws {l : Launch} {D : va_G} {K : Nat → ClassId} {ad : Adr} (hl0 : l.stackTraces = false) (σ : Mem) (hR : Rng σ) (s : Int) (hs : inR s) (hk : ¬ (0 ≤ s ∧ s < σ 0 1 0)) : Cb l D K ad yX8_writeShip (.code yX8_writeShip cX8_writeShip 5 (some .int)) 9 500 1500 σ [.ref (ad 0 23), .int (iN s)] (.inr "java/lang/IndexOutOfBoundsException") σ := by
  refine Cb.of (own := RX8) (ls0 := [some (.ref (ad 0 23)), some (.int (iN s)), none, none, none]) hl0 (by decide) rfl (Nat.le_of_ble_eq_true rfl) rfl ?_
  intro X hX1 hX2 hX3 hf he hh
  subst hX1 hX2 hX3
  refine V_aload_n hf dX8_writeShip_0 rfl rfl ?_
  refine V_iload_n hf dX8_writeShip_1 rfl rfl ?_
  refine B_callVX hf (As := [_]) (cx_reqShip hl0 σ hR s hs hk) cv_X8_73 l01 rfl rfl rfl (Nat.le_of_ble_eq_true rfl) ⟨by decide, by decide, by decide, by decide⟩ dX8_writeShip_2 ?_
  exact VX_out hf he hh (by decide) (by decide) ⟨rfl, rfl, rfl⟩

set_option maxHeartbeats 4000000 in
set_option maxRecDepth 100000 in
theorem c_out {l : Launch} {D : va_G} {K : Nat → ClassId} {ad : Adr} (hl0 : l.stackTraces = false) (σ : Mem) (hR : Rng σ) (hB : Bl σ) (i : Int) (hiR : inR i) (hi : 0 ≤ i ∧ i < σ 0 31 3) : Cb l D K ad yX8_outputAt (.code yX8_outputAt cX8_outputAt 2 (some .char)) 9 1 6 σ [.ref (ad 0 23), .int (iN i)] (.inl (some (.int (iN (σ 0 32 i))))) σ := by
  refine Cb.of (own := RX8) (ls0 := [some (.ref (ad 0 23)), some (.int (iN i))]) hl0 (by decide) rfl (Nat.le_of_ble_eq_true rfl) rfl ?_
  intro X hX1 hX2 hX3 hf he hh
  subst hX1 hX2 hX3
  refine V_iload_n hf dX8_outputAt_0 rfl rfl ?_
  refine V_if_lt (tgt := 15) hf hiR dX8_outputAt_1 (by decide) (fun h1 => ?_) (fun h1 => ?_)
  · exact absurd h1 (by omega)
  · refine V_iload_n hf dX8_outputAt_4 rfl rfl ?_
    refine V_aload_n hf dX8_outputAt_5 rfl rfl ?_
    refine B_get hf l01 rfl fl_X8_43_11 rfl dX8_outputAt_6 ?_
    refine B_callVi hf (As := []) (b4_len hl0 σ) cv_X8_243 l01 rfl rfl rfl (Nat.le_of_ble_eq_true rfl) ⟨by decide, by decide, by decide, by decide⟩ dX8_outputAt_9 ?_
    refine V_icmp_lt (tgt := 25) hf hiR (hR _ _ _ (by decide)) dX8_outputAt_12 (by decide) (fun h12 => ?_) (fun h12 => ?_)
    · refine V_aload_n hf dX8_outputAt_25 rfl rfl ?_
      refine B_get hf l01 rfl fl_X8_43_11 rfl dX8_outputAt_26 ?_
      refine V_iload_n hf dX8_outputAt_29 rfl rfl ?_
      refine B_callVi hf (As := [_]) (b4_char hl0 σ hR hB i hi) cv_X8_251 l01 rfl rfl rfl (Nat.le_of_ble_eq_true rfl) ⟨by decide, by decide, by decide, by decide⟩ dX8_outputAt_30 ?_
      exact B_iret hf he (pk_charI (by have := hB.2.2.2 i hi.1; omega) (by have := hB.2.2.2 i hi.1; omega)) dX8_outputAt_33 (by decide) (by decide) rfl rfl
    · exact absurd h12 (by omega)

set_option maxHeartbeats 4000000 in
set_option maxRecDepth 100000 in
theorem cx_out {l : Launch} {D : va_G} {K : Nat → ClassId} {ad : Adr} (hl0 : l.stackTraces = false) (σ : Mem) (hR : Rng σ) (hB : Bl σ) (i : Int) (hiR : inR i) (hi : ¬ (0 ≤ i ∧ i < σ 0 31 3)) : Cb l D K ad yX8_outputAt (.code yX8_outputAt cX8_outputAt 2 (some .char)) 9 1 6 σ [.ref (ad 0 23), .int (iN i)] (.inr "java/lang/IndexOutOfBoundsException") σ := by
  refine Cb.of (own := RX8) (ls0 := [some (.ref (ad 0 23)), some (.int (iN i))]) hl0 (by decide) rfl (Nat.le_of_ble_eq_true rfl) rfl ?_
  intro X hX1 hX2 hX3 hf he hh
  subst hX1 hX2 hX3
  refine V_iload_n hf dX8_outputAt_0 rfl rfl ?_
  refine V_if_lt (tgt := 15) hf hiR dX8_outputAt_1 (by decide) (fun h1 => ?_) (fun h1 => ?_)
  · exact V_thr hf he hh (text := "the output has no character at this index") (names := ["java/lang/RuntimeException", "java/lang/Exception"]) (by decide) (by decide) wk_X8_246 wx_IndexOutOfBoundsException (by decide) (at_X8_250) dX8_outputAt_15 dX8_outputAt_18 dX8_outputAt_19 dX8_outputAt_21 dX8_outputAt_24 ⟨by decide, (Nat.le_of_ble_eq_true rfl), by decide, by decide⟩ (by decide) (by decide) ⟨rfl, rfl, rfl⟩
  · refine V_iload_n hf dX8_outputAt_4 rfl rfl ?_
    refine V_aload_n hf dX8_outputAt_5 rfl rfl ?_
    refine B_get hf l01 rfl fl_X8_43_11 rfl dX8_outputAt_6 ?_
    refine B_callVi hf (As := []) (b4_len hl0 σ) cv_X8_243 l01 rfl rfl rfl (Nat.le_of_ble_eq_true rfl) ⟨by decide, by decide, by decide, by decide⟩ dX8_outputAt_9 ?_
    refine V_icmp_lt (tgt := 25) hf hiR (hR _ _ _ (by decide)) dX8_outputAt_12 (by decide) (fun h12 => ?_) (fun h12 => ?_)
    · exact absurd h12 (by omega)
    · exact V_thr hf he hh (text := "the output has no character at this index") (names := ["java/lang/RuntimeException", "java/lang/Exception"]) (by decide) (by decide) wk_X8_246 wx_IndexOutOfBoundsException (by decide) (at_X8_250) dX8_outputAt_15 dX8_outputAt_18 dX8_outputAt_19 dX8_outputAt_21 dX8_outputAt_24 ⟨by decide, (Nat.le_of_ble_eq_true rfl), by decide, by decide⟩ (by decide) (by decide) ⟨rfl, rfl, rfl⟩

section SW
variable {l : Launch} {D : va_G} {K : Nat → ClassId} {ad : Adr} {σ : Mem} {B : Int}
theorem putL_47 : ∀ (L : List Int) (σ : Mem) (k : Int), (k < σ 0 40 17 → putL σ L 0 47 k = σ 0 47 k) ∧ (σ 0 40 17 ≤ k → k < σ 0 40 17 + L.length → putL σ L 0 47 k = L.getD (k - σ 0 40 17).toNat 0)
  | [], σ, k => ⟨fun _ => rfl, fun h1 h2 => by
    simp only [List.length_nil] at h2
    omega⟩
  | c :: L, σ, k => by
    have e17 : signM σ c 0 40 17 = σ 0 40 17 + 1 := by
      unfold signM
      try dsimp only
      rw [st3_self, st3_j (by decide)]
    have e47 : ∀ k : Int, signM σ c 0 47 k = if k = σ 0 40 17 then c else σ 0 47 k := fun k => by
      unfold signM
      try dsimp only
      rw [st3_j (by decide), st3_if]
    obtain ⟨i1, i2⟩ := putL_47 L (signM σ c) k
    rw [e17] at i1 i2
    rw [putL]
    refine ⟨fun h => ?_, fun h1 h2 => ?_⟩
    · rw [i1 (by omega), e47, if_neg (by omega)]
    · rw [List.length_cons] at h2
      by_cases e : k = σ 0 40 17
      · rw [i1 (by omega), e47, if_pos e, show (k - σ 0 40 17).toNat = 0 by omega]
        rfl
      · rw [i2 (by omega) (by omega), show (k - σ 0 40 17).toNat = (k - (σ 0 40 17 + 1)).toNat + 1 by omega]
        rfl
theorem INV.bl (h : INV σ B) : Bl σ ∧ σ 0 33 0 ≤ 499 := by
  have o := h.ou
  unfold OUp at o
  obtain ⟨o1, o2, o3, o4, o5⟩ := o
  exact ⟨⟨o4, ⟨o3.1, by omega⟩, ⟨o2.1, o2.2.1⟩, fun k k0 => (o5 k k0).2⟩, o3.2⟩
/-- the line of a ship -/
theorem st_ws_o (hl0 : l.stackTraces = false) (h : INV σ B) (a : Int) (ha : inR a) (hk : 0 ≤ a ∧ a < σ 0 41 0) :
    ∃ (v : Int) (Φ : Mem → Prop), Cg l D K ad yX8_writeShip (.code yX8_writeShip cX8_writeShip 5 (some .int)) 9 500 1500 σ [.ref (ad 0 23), .int (iN a)] (some (.int (iN v))) Φ ∧ ∀ (ad1 : Adr) (σ1 : Mem), Φ σ1 → Rng σ1 ∧ ∀ σ2 : Mem, Rng σ2 → Wr σ1 σ2 → ∃ σ3 : Mem, Cb l D K ad1 yX9_writeShip (.code yX9_writeShip cX9_writeShip 4 (some .int)) 6 0 0 σ2 [.ref (ad1 0 40), .int (iN a)] (.inl (some (.int (iN v)))) σ3 ∧ σ3 0 40 8 = 0 ∧ (∀ j : Nat, j = 50 ∨ j = 51 → σ3 0 j = σ2 0 j) ∧ INV σ3 (B + 60000) := by
  have m := h.m
  have hN := m.ni
  have hld := mload_r hN.n1 a
  have hne : ∀ p : Int, 0 ≤ p → p < mload (σ 0 41) a → mbarn (σ 0 41) a p ≠ -1 := fun p p0 p1 => mbarn_ne hN p0 p1
  have hlr := lineN_r hN hk.1 hk.2 (mload (σ 0 41) a).toNat (fun p p0 p1 => hne p p0 (by omega))
  refine ⟨_, _, c_ws hl0 σ m h.r h.bl.1 h.bl.2 a ha hk, fun ad1 σ1 T => ⟨T.1, fun σ2 hR2 hW => ?_⟩⟩
  obtain ⟨t1, t2, t3, t4, t5, t6⟩ := T
  have e41 : σ2 0 41 = σ 0 41 := by rw [hW 0 41 (by decide), t6 0 41 (by decide)]
  have hC := g_ws (D := D) (K := K) (ad := ad1) hl0 σ2 hR2 (by rw [e41]; exact hN) a (by rw [e41]; exact hk) (by rw [e41]; exact hne)
  have hRS : Rng (st3 (st3 σ2 0 40 8 0) 0 40 17 0) := (hR2.st ⟨by decide, by decide⟩).st ⟨by decide, by decide⟩
  have hm : mlineM σ2 a = putL (st3 (st3 σ2 0 40 8 0) 0 40 17 0) (lineN (σ 0 41) a (mload (σ 0 41) a).toNat) := by
    unfold mlineM
    rw [e41]
  rw [hm] at hC
  generalize lineN (σ 0 41) a (mload (σ 0 41) a).toNat = L at *
  have s17 : st3 (st3 σ2 0 40 8 0) 0 40 17 0 0 40 17 = 0 := st3_self
  have e17 : putL (st3 (st3 σ2 0 40 8 0) 0 40 17 0) L 0 40 17 = L.length := by rw [putL_17, s17, Int.zero_add]
  rw [e17] at hC
  have hR3 : Rng (putL (st3 (st3 σ2 0 40 8 0) 0 40 17 0) L) := putL_R L _ hRS hlr.2 (by rw [s17]; decide) (by rw [s17]; omega)
  have v : ∀ (i : Int) (j : Nat), ¬ (j = 40 ∨ j = 47) → putL (st3 (st3 σ2 0 40 8 0) 0 40 17 0) L i j = σ2 i j := fun i j hij => by
    funext k
    rw [putL_o (by omega) (by omega), st3_j (by omega), st3_j (by omega)]
  have vk : ∀ k : Int, k ≠ 8 → k ≠ 17 → putL (st3 (st3 σ2 0 40 8 0) 0 40 17 0) L 0 40 k = σ2 0 40 k := fun k a b => by
    rw [putL_o (by omega) (by decide), st3_k b, st3_k a]
  have v8 : putL (st3 (st3 σ2 0 40 8 0) 0 40 17 0) L 0 40 8 = 0 := by
    rw [putL_o (by decide) (by decide), st3_k (by decide), st3_self]
  have v47 : ∀ k : Int, 0 ≤ k → k < L.length → putL (st3 (st3 σ2 0 40 8 0) 0 40 17 0) L 0 47 k = L.getD k.toNat 0 := fun k k0 k1 => by
    have := (putL_47 L (st3 (st3 σ2 0 40 8 0) 0 40 17 0) k).2 (by rw [s17]; exact k0) (by rw [s17]; omega)
    rw [this, s17, Int.sub_zero]
  generalize putL (st3 (st3 σ2 0 40 8 0) 0 40 17 0) L = σ3 at *
  have f : ∀ (i : Int) (j : Nat), ¬ (j = 40 ∨ j = 47) → ¬ (i = 0 ∧ (j = 31 ∨ j = 32 ∨ j = 33 ∨ j = 50 ∨ j = 51)) → σ3 i j = σ i j := fun i j a b => by rw [v i j a, hW i j (by omega), t6 i j (by omega)]
  have fk : ∀ k : Int, k ≠ 8 → k ≠ 17 → σ3 0 40 k = σ 0 40 k := fun k a b => by rw [vk k a b, hW 0 40 (by decide), t6 0 40 (by decide)]
  refine ⟨σ3, hC, v8, fun j hj => v 0 j (by omega), ?_⟩
  refine h.gen (by omega) hR3 (fun g _ _ _ j hj => f g j (by omega) (by omega)) ?_ ?_ (f 0 24 (by decide) (by decide)) (fun k _ _ => by rw [f 0 41 (by decide) (by decide)]) (f 0 44 (by decide) (by decide)) (f 0 45 (by decide) (by decide)) (fk 6 (by decide) (by decide)) (fk 4 (by decide) (by decide)) (by rw [f 0 23 (by decide) (by decide)]) ?_ ?_ ?_ ?_
  · rw [f 1 6 (by decide) (by decide), f 1 12 (by decide) (by decide)]
    exact h.s 1 (by decide) (by decide)
  · intro k a b c
    rw [f 1 0 (by decide) (by decide)]
    exact h.z 1 (by decide) (by decide) k a b c
  · unfold RJ
    rw [f 0 23 (by decide) (by decide), fk 11 (by decide) (by decide), fk 12 (by decide) (by decide), fk 13 (by decide) (by decide)]
    exact h.rj
  · rw [fk 7 (by decide) (by decide), f 0 23 (by decide) (by decide)]
    exact h.se
  · unfold INp
    rw [f 0 26 (by decide) (by decide), f 0 27 (by decide) (by decide), f 0 46 (by decide) (by decide), fk 10 (by decide) (by decide)]
    exact h.in_
  · have g31 : ∀ j : Nat, j = 31 ∨ j = 32 ∨ j = 33 → σ3 0 j = σ1 0 j := fun j hj => by rw [v 0 j (by omega), hW 0 j (by omega)]
    unfold OUp
    rw [g31 31 (by decide), g31 32 (by decide), g31 33 (by decide), e17, t4]
    obtain ⟨b1, b2, b3, b4⟩ := t2
    refine ⟨rfl, ⟨by omega, by omega, by omega⟩, ⟨b2.1, t3⟩, b1, fun k k0 => ⟨fun k1 => ?_, b4 k k0⟩⟩
    rw [v47 k k0 k1]
    have := t5 k.toNat (by omega)
    rw [Int.toNat_of_nonneg k0] at this
    exact this
theorem st_ws_x (hl0 : l.stackTraces = false) (h : INV σ B) (a : Int) (ha : inR a) (hk : ¬ (0 ≤ a ∧ a < σ 0 41 0)) : St l D K ad σ B yX8_writeShip (.code yX8_writeShip cX8_writeShip 5 (some .int)) 9 500 1500 yX9_writeShip (.code yX9_writeShip cX9_writeShip 4 (some .int)) 6 [.int (iN a)] ["java/lang/IndexOutOfBoundsException"] := by
  have s0 := h.m.sc.1
  refine ⟨_, 1, 0, σ, cx_ws hl0 σ h.r a ha (by rw [s0]; exact hk), Or.inr ⟨0, _, rfl, rfl, rfl⟩, h.r, fun σ2 hR2 hW => ?_⟩
  have hI := INV_w h (Int.le_refl B) hR2 hW
  have e := hW.e (j := 41) (by decide)
  exact ⟨_, _, gx_ws hl0 σ2 hR2 hI.m.ni a ha (by rw [e]; exact hk), st3_self, fun q => absurd q (by decide), fun j hj => (st3_50 j hj).trans (st3_50 j hj), INV_o (INV_o hI (Int.le_refl B) ⟨by decide, by decide⟩) (by omega) ⟨by decide, by decide⟩⟩
theorem st_outputAt (hl0 : l.stackTraces = false) (h : INV σ B) (a : Int) (ha : inR a) : St l D K ad σ B yX8_outputAt (.code yX8_outputAt cX8_outputAt 2 (some .char)) 9 1 6 yX9_outputAt (.code yX9_outputAt cX9_outputAt 2 (some .char)) 6 [.int (iN a)] ["java/lang/IndexOutOfBoundsException"] := by
  have o := h.ou
  unfold OUp at o
  obtain ⟨o1, o2, o3, o4, o5⟩ := o
  by_cases hk : 0 ≤ a ∧ a < σ 0 31 3
  · refine ⟨_, 0, _, σ, c_out hl0 σ h.r h.bl.1 a ha hk, Or.inl ⟨rfl, rfl⟩, h.r, fun σ2 hR2 hW => ?_⟩
    have hI := INV_w h (Int.le_refl B) hR2 hW
    have e40 := hW.e (j := 40) (by decide)
    have e47 := hW.e (j := 47) (by decide)
    have q := o5 a hk.1
    have q1 := q.1 hk.2
    refine ⟨_, _, g_out hl0 σ2 hR2 a ha (by rw [e40]; omega) (by rw [e40]; omega) (by rw [e47]; omega), st3_self, fun _ => by rw [e47, q1], st3_50, INV_o hI (by omega) ⟨by decide, by decide⟩⟩
  · refine ⟨_, 1, 0, σ, cx_out hl0 σ h.r h.bl.1 a ha hk, Or.inr ⟨0, _, rfl, rfl, rfl⟩, h.r, fun σ2 hR2 hW => ?_⟩
    have hI := INV_w h (Int.le_refl B) hR2 hW
    have e40 := hW.e (j := 40) (by decide)
    exact ⟨_, _, gx_out hl0 σ2 hR2 a ha (by rw [e40]; omega) (by rw [e40]; omega), st3_self, fun q => absurd q (by decide), fun j hj => (st3_50 j hj).trans (st3_50 j hj), INV_o (INV_o hI (Int.le_refl B) ⟨by decide, by decide⟩) (by omega) ⟨by decide, by decide⟩⟩
/-- a call that answers a fraction -/
def StV (l : Launch) (D : va_G) (K : Nat → ClassId) (ad : Adr) (σ : Mem) (B : Int) (yc : MethodName) (cdc : Cond) (dc mc ms : Nat) (yr : MethodName) (cdr : Cond) (dr : Nat) (exs : List String) (P : Value → Prop) : Prop :=
  ∃ (oc : Out) (k : Int) (w : Value) (σ1 : Mem), Cb l D K ad yc cdc dc mc ms σ [.ref (ad 0 23)] oc σ1 ∧ ((k = 0 ∧ oc = .inl (some w)) ∨ ∃ (i : Nat) (En : String), exs[i]? = some En ∧ oc = .inr En ∧ k = (i : Int) + 1) ∧ P w ∧ Rng σ1 ∧
    ∀ σ2 : Mem, Rng σ2 → Wr σ1 σ2 → ∃ (w2 : Value) (σ3 : Mem), Cb l D K ad yr cdr dr 0 0 σ2 [.ref (ad 0 40)] (.inl (some w2)) σ3 ∧ P w2 ∧ σ3 0 40 8 = k ∧ (k = 0 → w2 = w) ∧ (∀ j : Nat, j = 50 ∨ j = 51 → σ3 0 j = σ2 0 j) ∧ INV σ3 (B + 60000)
theorem st_meanPrice (hl0 : l.stackTraces = false) (h : INV σ B) : StV l D K ad σ B yX8_meanPrice (.code yX8_meanPrice cX8_meanPrice 2 (some .double)) 9 1 6 yX9_meanPrice (.code yX9_meanPrice cX9_meanPrice 1 (some .double)) 6 ["java/lang/ArithmeticException"] (fun w => ∃ d : UInt64, w = .double d) := by
  obtain ⟨s0, s1, s2, s3, s4, s5, s6, s7, s8, s9, s10, s11, s12⟩ := h.m.sc
  by_cases hk : σ 0 18 0 = 0
  · refine ⟨_, 1, .double 0, σ, cx_mean hl0 σ h.r hk, Or.inr ⟨0, _, rfl, rfl, rfl⟩, ⟨_, rfl⟩, h.r, fun σ2 hR2 hW => ?_⟩
    have hI := INV_w h (Int.le_refl B) hR2 hW
    have e := hW.e (j := 41) (by decide)
    exact ⟨_, _, gx_mean hl0 σ2 hR2 (by rw [e]; omega), ⟨_, rfl⟩, st3_self, fun q => absurd q (by decide), fun j hj => (st3_50 j hj).trans (st3_50 j hj), INV_o (INV_o hI (Int.le_refl B) ⟨by decide, by decide⟩) (by omega) ⟨by decide, by decide⟩⟩
  · refine ⟨_, 0, _, σ, c_mean hl0 σ h.r hk, Or.inl ⟨rfl, rfl⟩, ⟨_, rfl⟩, h.r, fun σ2 hR2 hW => ?_⟩
    have hI := INV_w h (Int.le_refl B) hR2 hW
    have e := hW.e (j := 41) (by decide)
    exact ⟨_, _, g_mean hl0 σ2 hR2 (by rw [e]; omega), ⟨_, rfl⟩, st3_self, fun _ => by rw [e, s8, s9], st3_50, INV_o hI (by omega) ⟨by decide, by decide⟩⟩
theorem st_offeredShare (hl0 : l.stackTraces = false) (h : INV σ B) : StV l D K ad σ B yX8_offeredShare (.code yX8_offeredShare cX8_offeredShare 2 (some .float)) 9 1 6 yX9_offeredShare (.code yX9_offeredShare cX9_offeredShare 1 (some .float)) 6 ["java/lang/ArithmeticException"] (fun w => ∃ d : UInt32, w = .float d) := by
  obtain ⟨s0, s1, s2, s3, s4, s5, s6, s7, s8, s9, s10, s11, s12⟩ := h.m.sc
  by_cases hk : σ 0 1 3 = 0
  · refine ⟨_, 1, .float 0, σ, cx_share hl0 σ h.r hk, Or.inr ⟨0, _, rfl, rfl, rfl⟩, ⟨_, rfl⟩, h.r, fun σ2 hR2 hW => ?_⟩
    have hI := INV_w h (Int.le_refl B) hR2 hW
    have e := hW.e (j := 41) (by decide)
    exact ⟨_, _, gx_share hl0 σ2 hR2 (by rw [e]; omega), ⟨_, rfl⟩, st3_self, fun q => absurd q (by decide), fun j hj => (st3_50 j hj).trans (st3_50 j hj), INV_o (INV_o hI (Int.le_refl B) ⟨by decide, by decide⟩) (by omega) ⟨by decide, by decide⟩⟩
  · refine ⟨_, 0, _, σ, c_share hl0 σ h.r h.m.mi hk, Or.inl ⟨rfl, rfl⟩, ⟨_, rfl⟩, h.r, fun σ2 hR2 hW => ?_⟩
    have hI := INV_w h (Int.le_refl B) hR2 hW
    have e := hW.e (j := 41) (by decide)
    exact ⟨_, _, g_share hl0 σ2 hR2 hI.m.ni (by rw [e]; omega), ⟨_, rfl⟩, st3_self, fun _ => by rw [e, s1, s3], st3_50, INV_o hI (by omega) ⟨by decide, by decide⟩⟩
end SW
