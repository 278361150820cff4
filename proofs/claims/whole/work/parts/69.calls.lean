/-! changing calls, both sides -/
section SC
variable {l : Launch} {D : va_G} {K : Nat → ClassId} {ad : Adr} {σ : Mem} {B : Int}
theorem noteR_j {r d c : Int} {j : Nat} (hj : j ≠ 23) : noteR σ r d c 0 j = σ 0 j := by
  unfold noteR
  rw [st3_oj (fun q => hj q.2), st3_oj (fun q => hj q.2), st3_oj (fun q => hj q.2)]
theorem noteR_R (h : Rng σ) {r d c : Int} (hr : inR r) (hd : inR d) (hc : inR c) : Rng (noteR σ r d c) := ((h.st hr).st hd).st hc
theorem kp_s {σ τ : Mem} {B a b : Int} (h : MR (σ 0) (τ 0 41)) (hRσ : Rng σ) (hRτ : Rng τ) (hB : BD (τ 0 41) B) (hB2 : B ≤ 80000000) (c1 : 0 ≤ a ∧ a ≤ 99) (c2 : 1 ≤ b ∧ b ≤ 5) (c3 : τ 0 41 0 < 6) : Kp σ τ (shipM σ 0 a b) (mshipM τ a b) B ∧ st3 σ 0 0 8 (σ 0 0 8 + a) 0 1 0 = mshipM τ a b 0 41 0 - 1 := by
  rcases ov_s (a := a) (b := b) h hRσ hRτ hB hB2 with ⟨-, -, -, -, -, k, v⟩ | ⟨-, c⟩ | ⟨-, -, -, c⟩
  · exact ⟨k, v⟩
  · exact absurd ⟨c1, c2⟩ c
  · omega
theorem kp_a {σ τ : Mem} {B s a : Int} (h : MR (σ 0) (τ 0 41)) (hRσ : Rng σ) (hRτ : Rng τ) (hB : BD (τ 0 41) B) (c1 : 0 ≤ s ∧ s < τ 0 41 0) (c2 : 1 ≤ a ∧ a ≤ 9) (c3 : τ 0 41 1 < 16) (c4 : 0 < mplaces (τ 0 41) s) : Kp σ τ (boardM σ 0 s a) (mbarnM τ s a) B ∧ σ 0 1 3 = mbarnM τ s a 0 41 1 - 1 := by
  rcases ov_a (s := s) (a := a) h hRσ hRτ hB with ⟨-, -, -, -, -, -, k, v⟩ | ⟨-, c⟩ | ⟨-, -, c⟩ | ⟨-, -, -, c⟩ | ⟨-, -, -, -, c, -⟩
  · exact ⟨k, v⟩
  · exact absurd c1 c
  · exact absurd c2 c
  · omega
  · omega
theorem kp_c {σ τ : Mem} {B s c : Int} (h : MR (σ 0) (τ 0 41)) (hRσ : Rng σ) (hRτ : Rng τ) (hB : BD (τ 0 41) B) (hB2 : B ≤ 80000000) (c1 : 0 ≤ s ∧ s < τ 0 41 0) (c2 : 1 ≤ c ∧ c ≤ 99) : Kp σ τ (giftM σ 0 s c) (mgiveM τ s c) B ∧ giftM σ 0 s c 0 2 s = mgiveM τ s c 0 41 (14 + 2 * s) := by
  rcases ov_c (s := s) (c := c) h hRσ hRτ hB hB2 with ⟨-, -, -, k, v⟩ | ⟨-, c⟩ | ⟨-, -, c⟩
  · exact ⟨k, v⟩
  · exact absurd c1 c
  · exact absurd c2 c
theorem kp_b {σ τ : Mem} {B s a p : Int} (h : MR (σ 0) (τ 0 41)) (hRσ : Rng σ) (hRτ : Rng τ) (hB : BD (τ 0 41) B) (hB2 : B ≤ 80000000) (c1 : 0 ≤ s ∧ s < τ 0 41 0) (c2 : 1 ≤ a ∧ a ≤ 9) (c3 : 1 ≤ p ∧ p ≤ 99) (c4 : τ 0 41 2 < 10) (c5 : 0 < mplaces (τ 0 41) s) (c6 : p ≤ τ 0 41 (14 + 2 * s) - mres (τ 0 41) s) : Kp σ τ (bidM σ 0 s a p) (mbidM τ s a p) B ∧ bidM σ 0 s a p 0 7 (slotI (caB (σ 0) a p) (σ 0 6 0)) = mbidM τ s a p 0 41 (58 + 5 * τ 0 41 2) := by
  rcases ov_b (s := s) (a := a) (p := p) h hRσ hRτ hB hB2 with ⟨-, -, -, -, -, -, -, -, k, v⟩ | ⟨-, c⟩ | ⟨-, -, c⟩ | ⟨-, -, -, -, c, -, -⟩ | ⟨-, -, -, -, -, c, -⟩ | ⟨-, -, -, -, -, -, c, -⟩
  · exact ⟨k, v⟩
  · exact absurd c1 c
  · exact absurd ⟨c2, c3⟩ c
  · omega
  · omega
  · omega
theorem kp_o {σ τ : Mem} {B b p : Int} (h : MR (σ 0) (τ 0 41)) (hRσ : Rng σ) (hRτ : Rng τ) (hB : BD (τ 0 41) B) (hB2 : B ≤ 80000000) (c1 : 0 ≤ b ∧ b < τ 0 41 1) (c2 : 1 ≤ p ∧ p ≤ 99) (c3 : mofferFor (τ 0 41) b = -1) : Kp σ τ (offerM σ 0 b p) (mofferM τ b p) B ∧ offerM σ 0 b p 0 13 (slotI (caO (σ 0) (σ 0 4 b) p) (σ 0 12 0)) = mofferM τ b p 0 41 (108 + 4 * τ 0 41 3) := by
  rcases ov_o (b := b) (p := p) h hRσ hRτ hB hB2 with ⟨-, -, -, -, -, -, -, k, v⟩ | ⟨-, c⟩ | ⟨-, -, c⟩ | ⟨-, -, -, c, -⟩
  · exact ⟨k, v⟩
  · exact absurd c1 c
  · exact absurd c2 c
  · exact absurd c3 c
theorem kp_x {σ τ : Mem} {B i : Int} (h : MR (σ 0) (τ 0 41)) (hRσ : Rng σ) (hRτ : Rng τ) (hB : BD (τ 0 41) B) (c1 : mplB (τ 0 41) i ≠ -1) : Kp σ τ (removeM σ 0 6 (rowId (σ 0) 6 i)) (closeM τ 2 (58 + 5 * mplB (τ 0 41) i) 5 108) B ∧ removeM σ 0 6 (rowId (σ 0) 6 i) 0 6 0 = closeM τ 2 (58 + 5 * mplB (τ 0 41) i) 5 108 0 41 2 := by
  rcases ov_x (i := i) h hRσ hRτ hB with ⟨-, -, -, k, v⟩ | ⟨-, c⟩
  · exact ⟨k, v⟩
  · exact absurd c c1
theorem kp_y {σ τ : Mem} {B i : Int} (h : MR (σ 0) (τ 0 41)) (hRσ : Rng σ) (hRτ : Rng τ) (hB : BD (τ 0 41) B) (c1 : mplO (τ 0 41) i ≠ -1) : Kp σ τ (removeM σ 0 12 (rowId (σ 0) 12 i)) (closeM τ 3 (108 + 4 * mplO (τ 0 41) i) 4 172) B ∧ removeM σ 0 12 (rowId (σ 0) 12 i) 0 12 0 = closeM τ 3 (108 + 4 * mplO (τ 0 41) i) 4 172 0 41 3 := by
  rcases ov_y (i := i) h hRσ hRτ hB with ⟨-, -, -, k, v⟩ | ⟨-, c⟩
  · exact ⟨k, v⟩
  · exact absurd c c1
theorem kp_f {σ τ : Mem} {B c : Int} (h : MR (σ 0) (τ 0 41)) (hRσ : Rng σ) (hRτ : Rng τ) (hB : BD (τ 0 41) B) (hB0 : 0 ≤ B) (c1 : 0 ≤ c ∧ c ≤ 9) : Kp σ τ (st3 σ 0 0 4 c) (st3 τ 0 41 6 c) B ∧ σ 0 0 4 = τ 0 41 6 := by
  rcases ov_f (c := c) h hRσ hRτ hB hB0 with ⟨-, -, k, v⟩ | ⟨-, c⟩
  · exact ⟨k, v⟩
  · exact absurd c1 c
theorem st_addShip (hl0 : l.stackTraces = false) (h : INV σ B) (hB : B ≤ 40000000) (a : Int) (ha : inR a) (b : Int) (hb : inR b) : St l D K ad σ B yX8_addShip (.code yX8_addShip cX8_addShip 3 (some .int)) 9 1 6 yX9_addShip (.code yX9_addShip cX9_addShip 3 (some .int)) 8 [.int (iN a), .int (iN b)] ["java/lang/IllegalArgumentException", "java/lang/UnsupportedOperationException"] := by
  have m := h.m
  obtain ⟨r1, r2, r3, r4, r5, r6⟩ := rem_MR h
  have z0 : inR 0 := ⟨by decide, by decide⟩
  have hM1 := r1.mi
  have hB0 : 0 ≤ B := by have := m.ni.cr 12 (by decide); have := h.b 12 (by decide) (by decide); omega
  rcases ov_s (a := a) (b := b) m h.r h.r h.b (by omega) with ⟨hv, c1, c2, c3, c4, -, -⟩ | ⟨hv, c1⟩ | ⟨hv, c1, c2, c3⟩
  · have k1 := kp_s (σ := remM σ 0) (τ := σ) (B := B) (a := a) (b := b) r1 r2 h.r h.b (by omega) c1 c2 (by exact c3)
    refine ⟨_, 0, _, _, c_addShip hl0 σ _ a b _ (c_ch_s hl0 σ h.r m.mi a b 0 ha hb z0 hv h.hi h.s hM1 c1 (by rw [r6 1 (by decide)]; exact c4)), Or.inl ⟨rfl, rfl⟩, k1.1.2.1, fun σ2 hR2 hW => ?_⟩
    have e41 : startM σ2 0 41 = σ 0 41 := by rw [startM_j (by decide), hW 0 41 (by decide), k1.1.2.2.2.2.2.1 41 (by decide), r6 41 (by decide)]
    have hN : NI (startM σ2 0 41) := by rw [e41]; exact m.ni
    have k2 := kp_s (σ := remM σ 0) (τ := startM σ2) (B := B) (a := a) (b := b) (by rw [e41]; exact r1) r2 (startM_R hR2) (by rw [e41]; exact h.b) (by omega) c1 c2 (by rw [e41]; exact c3)
    obtain ⟨σ3, hC, h8, h50, hI⟩ := chg_ok h k2.1 hW
    refine ⟨_, σ3, f_addShip hl0 σ2 hR2 _ σ3 _ a b (e_ship_o hl0 _ (startM_R hR2) hN a b ha hb c1 c2 (by rw [e41]; exact c3)) (hC l D K ad _ hl0), h8, fun _ => k2.2.symm, h50, hI⟩
  · refine ⟨_, 1, 0, σ, cx_addShip hl0 σ σ a b _ (cx_ch_sn2 hl0 σ h.r m.mi a b 0 ha hb z0 hv), Or.inr ⟨0, _, rfl, rfl, rfl⟩, h.r, fun σ2 hR2 hW => ?_⟩
    have e41 : startM σ2 0 41 = σ 0 41 := by rw [startM_j (by decide), hW 0 41 (by decide)]
    have hN : NI (startM σ2 0 41) := by rw [e41]; exact m.ni
    obtain ⟨hC, h8, h50, hI⟩ := chg_x h hR2 hW (p := 1) ⟨by decide, by decide⟩
    refine ⟨_, _, f_addShip hl0 σ2 hR2 _ _ _ a b (e_ship_1 hl0 _ (startM_R hR2) hN a b ha hb c1) (hC l D K ad _ hl0), h8, fun q => absurd q (by decide), h50, hI⟩
  · refine ⟨_, 2, 0, _, cx_addShip hl0 σ _ a b _ (cx_ch_s1 hl0 σ h.r m.mi a b 0 ha hb z0 hv), Or.inr ⟨1, _, rfl, rfl, rfl⟩, noteR_R h.r ⟨by decide, by decide⟩ ⟨by decide, by decide⟩ ⟨by decide, by decide⟩, fun σ2 hR2 hW => ?_⟩
    have e41 : startM σ2 0 41 = σ 0 41 := by rw [startM_j (by decide), hW 0 41 (by decide), noteR_j (by decide)]
    have hN : NI (startM σ2 0 41) := by rw [e41]; exact m.ni
    have hE := e_ship_2 (D := D) (K := K) (ad := ad) hl0 _ (startM_R hR2) hN a b ha hb c1 c2 (by rw [e41]; exact c3)
    obtain ⟨hC, h8, h50, hI⟩ := chg_r h hR2 hW (p := 2) ⟨by decide, by decide⟩ ⟨by decide, by decide⟩ ⟨by decide, by decide⟩
    refine ⟨_, _, f_addShip hl0 σ2 hR2 _ _ _ a b hE (hC l D K ad _ hl0), h8, fun q => absurd q (by decide), h50, hI⟩
theorem st_addBarnacle (hl0 : l.stackTraces = false) (h : INV σ B) (hB : B ≤ 40000000) (a : Int) (ha : inR a) (b : Int) (hb : inR b) : St l D K ad σ B yX8_addBarnacle (.code yX8_addBarnacle cX8_addBarnacle 3 (some .int)) 9 1 6 yX9_addBarnacle (.code yX9_addBarnacle cX9_addBarnacle 3 (some .int)) 8 [.int (iN a), .int (iN b)] ["java/lang/IndexOutOfBoundsException", "java/lang/IllegalArgumentException", "java/lang/UnsupportedOperationException"] := by
  have m := h.m
  obtain ⟨r1, r2, r3, r4, r5, r6⟩ := rem_MR h
  have z0 : inR 0 := ⟨by decide, by decide⟩
  have hM1 := r1.mi
  have hB0 : 0 ≤ B := by have := m.ni.cr 12 (by decide); have := h.b 12 (by decide) (by decide); omega
  rcases ov_a (s := a) (a := b) m h.r h.r h.b with ⟨hv, c1, c2, c3, c4, c5, -, -⟩ | ⟨hv, c1⟩ | ⟨hv, c1, c2⟩ | ⟨hv, c1, c2, c3⟩ | ⟨hv, c1, c2, c3, c4, c5⟩
  · have k1 := kp_a (σ := remM σ 0) (τ := σ) (B := B) (s := a) (a := b) r1 r2 h.r h.b (by exact c1) c2 (by exact c3) (by exact c5)
    refine ⟨_, 0, _, _, c_addBarnacle hl0 σ _ a b _ (c_ch_a hl0 σ h.r m.mi a b 0 ha hb z0 hv h.hi h.s hM1 (by rw [r6 1 (by decide)]; exact c4)), Or.inl ⟨rfl, rfl⟩, k1.1.2.1, fun σ2 hR2 hW => ?_⟩
    have e41 : startM σ2 0 41 = σ 0 41 := by rw [startM_j (by decide), hW 0 41 (by decide), k1.1.2.2.2.2.2.1 41 (by decide), r6 41 (by decide)]
    have hN : NI (startM σ2 0 41) := by rw [e41]; exact m.ni
    have k2 := kp_a (σ := remM σ 0) (τ := startM σ2) (B := B) (s := a) (a := b) (by rw [e41]; exact r1) r2 (startM_R hR2) (by rw [e41]; exact h.b) (by rw [e41]; exact c1) c2 (by rw [e41]; exact c3) (by rw [e41]; exact c5)
    obtain ⟨σ3, hC, h8, h50, hI⟩ := chg_ok h k2.1 hW
    refine ⟨_, σ3, f_addBarnacle hl0 σ2 hR2 _ σ3 _ a b (e_barn_o hl0 _ (startM_R hR2) hN a b ha hb (by rw [e41]; exact c1) c2 (by rw [e41]; exact c3) (by rw [e41]; exact c5)) (hC l D K ad _ hl0), h8, fun _ => k2.2.symm, h50, hI⟩
  · refine ⟨_, 1, 0, σ, cx_addBarnacle hl0 σ σ a b _ (cx_ch_an1 hl0 σ h.r m.mi a b 0 ha hb z0 hv), Or.inr ⟨0, _, rfl, rfl, rfl⟩, h.r, fun σ2 hR2 hW => ?_⟩
    have e41 : startM σ2 0 41 = σ 0 41 := by rw [startM_j (by decide), hW 0 41 (by decide)]
    have hN : NI (startM σ2 0 41) := by rw [e41]; exact m.ni
    obtain ⟨hC, h8, h50, hI⟩ := chg_x h hR2 hW (p := 1) ⟨by decide, by decide⟩
    refine ⟨_, _, f_addBarnacle hl0 σ2 hR2 _ _ _ a b (e_barn_1 hl0 _ (startM_R hR2) hN a b ha hb (by rw [e41]; exact c1)) (hC l D K ad _ hl0), h8, fun q => absurd q (by decide), h50, hI⟩
  · refine ⟨_, 2, 0, σ, cx_addBarnacle hl0 σ σ a b _ (cx_ch_an2 hl0 σ h.r m.mi a b 0 ha hb z0 hv), Or.inr ⟨1, _, rfl, rfl, rfl⟩, h.r, fun σ2 hR2 hW => ?_⟩
    have e41 : startM σ2 0 41 = σ 0 41 := by rw [startM_j (by decide), hW 0 41 (by decide)]
    have hN : NI (startM σ2 0 41) := by rw [e41]; exact m.ni
    obtain ⟨hC, h8, h50, hI⟩ := chg_x h hR2 hW (p := 2) ⟨by decide, by decide⟩
    refine ⟨_, _, f_addBarnacle hl0 σ2 hR2 _ _ _ a b (e_barn_2 hl0 _ (startM_R hR2) hN a b ha hb (by rw [e41]; exact c1) c2) (hC l D K ad _ hl0), h8, fun q => absurd q (by decide), h50, hI⟩
  · refine ⟨_, 3, 0, _, cx_addBarnacle hl0 σ _ a b _ (cx_ch_a2 hl0 σ h.r m.mi a b 0 ha hb z0 hv), Or.inr ⟨2, _, rfl, rfl, rfl⟩, noteR_R h.r ⟨by decide, by decide⟩ ⟨by decide, by decide⟩ ⟨by decide, by decide⟩, fun σ2 hR2 hW => ?_⟩
    have e41 : startM σ2 0 41 = σ 0 41 := by rw [startM_j (by decide), hW 0 41 (by decide), noteR_j (by decide)]
    have hN : NI (startM σ2 0 41) := by rw [e41]; exact m.ni
    have hE := e_barn_3 (D := D) (K := K) (ad := ad) hl0 _ (startM_R hR2) hN a b ha hb (by rw [e41]; exact c1) c2 (by rw [e41]; exact c3)
    obtain ⟨hC, h8, h50, hI⟩ := chg_r h hR2 hW (p := 3) ⟨by decide, by decide⟩ ⟨by decide, by decide⟩ ⟨by decide, by decide⟩
    refine ⟨_, _, f_addBarnacle hl0 σ2 hR2 _ _ _ a b hE (hC l D K ad _ hl0), h8, fun q => absurd q (by decide), h50, hI⟩
  · refine ⟨_, 3, 0, _, cx_addBarnacle hl0 σ _ a b _ (cx_ch_a3 hl0 σ h.r m.mi a b 0 ha hb z0 hv (by have := m.ni.n0; omega)), Or.inr ⟨2, _, rfl, rfl, rfl⟩, noteR_R h.r ⟨by decide, by decide⟩ (h.r _ _ _ (by decide)) ⟨by decide, by decide⟩, fun σ2 hR2 hW => ?_⟩
    have e41 : startM σ2 0 41 = σ 0 41 := by rw [startM_j (by decide), hW 0 41 (by decide), noteR_j (by decide)]
    have hN : NI (startM σ2 0 41) := by rw [e41]; exact m.ni
    have hE := e_barn_4 (D := D) (K := K) (ad := ad) hl0 _ (startM_R hR2) hN a b ha hb (by rw [e41]; exact c1) c2 (by rw [e41]; exact c3) (by rw [e41]; exact c4)
    rw [e41, ← c5] at hE
    obtain ⟨hC, h8, h50, hI⟩ := chg_r h hR2 hW (p := 3) ⟨by decide, by decide⟩ ⟨by decide, by decide⟩ (h.r _ _ _ (by decide))
    refine ⟨_, _, f_addBarnacle hl0 σ2 hR2 _ _ _ a b hE (hC l D K ad _ hl0), h8, fun q => absurd q (by decide), h50, hI⟩
theorem st_giveCoins (hl0 : l.stackTraces = false) (h : INV σ B) (hB : B ≤ 40000000) (a : Int) (ha : inR a) (b : Int) (hb : inR b) : St l D K ad σ B yX8_giveCoins (.code yX8_giveCoins cX8_giveCoins 3 (some .int)) 9 1 6 yX9_giveCoins (.code yX9_giveCoins cX9_giveCoins 3 (some .int)) 8 [.int (iN a), .int (iN b)] ["java/lang/IndexOutOfBoundsException", "java/lang/IllegalArgumentException"] := by
  have m := h.m
  obtain ⟨r1, r2, r3, r4, r5, r6⟩ := rem_MR h
  have z0 : inR 0 := ⟨by decide, by decide⟩
  have hM1 := r1.mi
  have hB0 : 0 ≤ B := by have := m.ni.cr 12 (by decide); have := h.b 12 (by decide) (by decide); omega
  rcases ov_c (s := a) (c := b) m h.r h.r h.b (by omega) with ⟨hv, c1, c2, -, -⟩ | ⟨hv, c1⟩ | ⟨hv, c1, c2⟩
  · have k1 := kp_c (σ := remM σ 0) (τ := σ) (B := B) (s := a) (c := b) r1 r2 h.r h.b (by omega) (by exact c1) c2
    refine ⟨_, 0, _, _, c_giveCoins hl0 σ _ a b _ (c_ch_c hl0 σ h.r m.mi a b 0 ha hb z0 hv h.hi h.s hM1 (by rw [r6 1 (by decide), m.sc.1]; exact c1) (by omega)), Or.inl ⟨rfl, rfl⟩, k1.1.2.1, fun σ2 hR2 hW => ?_⟩
    have e41 : startM σ2 0 41 = σ 0 41 := by rw [startM_j (by decide), hW 0 41 (by decide), k1.1.2.2.2.2.2.1 41 (by decide), r6 41 (by decide)]
    have hN : NI (startM σ2 0 41) := by rw [e41]; exact m.ni
    have k2 := kp_c (σ := remM σ 0) (τ := startM σ2) (B := B) (s := a) (c := b) (by rw [e41]; exact r1) r2 (startM_R hR2) (by rw [e41]; exact h.b) (by omega) (by rw [e41]; exact c1) c2
    obtain ⟨σ3, hC, h8, h50, hI⟩ := chg_ok h k2.1 hW
    refine ⟨_, σ3, f_giveCoins hl0 σ2 hR2 _ σ3 _ a b (e_give_o hl0 _ (startM_R hR2) hN a b ha hb (by rw [e41]; exact c1) c2) (hC l D K ad _ hl0), h8, fun _ => k2.2.symm, h50, hI⟩
  · refine ⟨_, 1, 0, σ, cx_giveCoins hl0 σ σ a b _ (cx_ch_cn1 hl0 σ h.r m.mi a b 0 ha hb z0 hv), Or.inr ⟨0, _, rfl, rfl, rfl⟩, h.r, fun σ2 hR2 hW => ?_⟩
    have e41 : startM σ2 0 41 = σ 0 41 := by rw [startM_j (by decide), hW 0 41 (by decide)]
    have hN : NI (startM σ2 0 41) := by rw [e41]; exact m.ni
    obtain ⟨hC, h8, h50, hI⟩ := chg_x h hR2 hW (p := 1) ⟨by decide, by decide⟩
    refine ⟨_, _, f_giveCoins hl0 σ2 hR2 _ _ _ a b (e_give_1 hl0 _ (startM_R hR2) hN a b ha hb (by rw [e41]; exact c1)) (hC l D K ad _ hl0), h8, fun q => absurd q (by decide), h50, hI⟩
  · refine ⟨_, 2, 0, σ, cx_giveCoins hl0 σ σ a b _ (cx_ch_cn2 hl0 σ h.r m.mi a b 0 ha hb z0 hv), Or.inr ⟨1, _, rfl, rfl, rfl⟩, h.r, fun σ2 hR2 hW => ?_⟩
    have e41 : startM σ2 0 41 = σ 0 41 := by rw [startM_j (by decide), hW 0 41 (by decide)]
    have hN : NI (startM σ2 0 41) := by rw [e41]; exact m.ni
    obtain ⟨hC, h8, h50, hI⟩ := chg_x h hR2 hW (p := 2) ⟨by decide, by decide⟩
    refine ⟨_, _, f_giveCoins hl0 σ2 hR2 _ _ _ a b (e_give_2 hl0 _ (startM_R hR2) hN a b ha hb (by rw [e41]; exact c1) c2) (hC l D K ad _ hl0), h8, fun q => absurd q (by decide), h50, hI⟩
theorem st_placeBid (hl0 : l.stackTraces = false) (h : INV σ B) (hB : B ≤ 40000000) (a : Int) (ha : inR a) (b : Int) (hb : inR b) (c : Int) (hc : inR c) : St l D K ad σ B yX8_placeBid (.code yX8_placeBid cX8_placeBid 4 (some .int)) 9 1 6 yX9_placeBid (.code yX9_placeBid cX9_placeBid 4 (some .int)) 8 [.int (iN a), .int (iN b), .int (iN c)] ["java/lang/IndexOutOfBoundsException", "java/lang/IllegalArgumentException", "java/lang/UnsupportedOperationException"] := by
  have m := h.m
  obtain ⟨r1, r2, r3, r4, r5, r6⟩ := rem_MR h
  have z0 : inR 0 := ⟨by decide, by decide⟩
  have hM1 := r1.mi
  have hB0 : 0 ≤ B := by have := m.ni.cr 12 (by decide); have := h.b 12 (by decide) (by decide); omega
  rcases ov_b (s := a) (a := b) (p := c) m h.r h.r h.b (by omega) with ⟨hv, c1, c2, c3, c4, c5, c6, c7, -, -⟩ | ⟨hv, c1⟩ | ⟨hv, c1, c2⟩ | ⟨hv, c1, c2, c3, c4, c5, c6⟩ | ⟨hv, c1, c2, c3, c4, c5, c6⟩ | ⟨hv, c1, c2, c3, c4, c5, c6, c7⟩
  · have k1 := kp_b (σ := remM σ 0) (τ := σ) (B := B) (s := a) (a := b) (p := c) r1 r2 h.r h.b (by omega) (by exact c1) c2 c3 (by exact c4) (by exact c6) (by exact c7)
    refine ⟨_, 0, _, _, c_placeBid hl0 σ _ a b c _ (c_ch_b hl0 σ h.r m.mi a b c ha hb hc  hv h.hi h.s hM1 (by rw [r6 6 (by decide)]; exact c5)), Or.inl ⟨rfl, rfl⟩, k1.1.2.1, fun σ2 hR2 hW => ?_⟩
    have e41 : startM σ2 0 41 = σ 0 41 := by rw [startM_j (by decide), hW 0 41 (by decide), k1.1.2.2.2.2.2.1 41 (by decide), r6 41 (by decide)]
    have hN : NI (startM σ2 0 41) := by rw [e41]; exact m.ni
    have k2 := kp_b (σ := remM σ 0) (τ := startM σ2) (B := B) (s := a) (a := b) (p := c) (by rw [e41]; exact r1) r2 (startM_R hR2) (by rw [e41]; exact h.b) (by omega) (by rw [e41]; exact c1) c2 c3 (by rw [e41]; exact c4) (by rw [e41]; exact c6) (by rw [e41]; exact c7)
    obtain ⟨σ3, hC, h8, h50, hI⟩ := chg_ok h k2.1 hW
    refine ⟨_, σ3, f_placeBid hl0 σ2 hR2 _ σ3 _ a b c (e_bid_o hl0 _ (startM_R hR2) hN a b ha hb c hc (by rw [e41]; exact c1) c2 c3 (by rw [e41]; exact c4) (by rw [e41]; exact c6) (by rw [e41]; exact c7)) (hC l D K ad _ hl0), h8, fun _ => k2.2.symm, h50, hI⟩
  · refine ⟨_, 1, 0, σ, cx_placeBid hl0 σ σ a b c _ (cx_ch_bn1 hl0 σ h.r m.mi a b c ha hb hc  hv), Or.inr ⟨0, _, rfl, rfl, rfl⟩, h.r, fun σ2 hR2 hW => ?_⟩
    have e41 : startM σ2 0 41 = σ 0 41 := by rw [startM_j (by decide), hW 0 41 (by decide)]
    have hN : NI (startM σ2 0 41) := by rw [e41]; exact m.ni
    obtain ⟨hC, h8, h50, hI⟩ := chg_x h hR2 hW (p := 1) ⟨by decide, by decide⟩
    refine ⟨_, _, f_placeBid hl0 σ2 hR2 _ _ _ a b c (e_bid_1 hl0 _ (startM_R hR2) hN a b ha hb c hc (by rw [e41]; exact c1)) (hC l D K ad _ hl0), h8, fun q => absurd q (by decide), h50, hI⟩
  · refine ⟨_, 2, 0, σ, cx_placeBid hl0 σ σ a b c _ (cx_ch_bn2 hl0 σ h.r m.mi a b c ha hb hc  hv), Or.inr ⟨1, _, rfl, rfl, rfl⟩, h.r, fun σ2 hR2 hW => ?_⟩
    have e41 : startM σ2 0 41 = σ 0 41 := by rw [startM_j (by decide), hW 0 41 (by decide)]
    have hN : NI (startM σ2 0 41) := by rw [e41]; exact m.ni
    obtain ⟨hC, h8, h50, hI⟩ := chg_x h hR2 hW (p := 2) ⟨by decide, by decide⟩
    refine ⟨_, _, f_placeBid hl0 σ2 hR2 _ _ _ a b c (e_bid_2 hl0 _ (startM_R hR2) hN a b ha hb c hc (by rw [e41]; exact c1) c2) (hC l D K ad _ hl0), h8, fun q => absurd q (by decide), h50, hI⟩
  · refine ⟨_, 3, 0, _, cx_placeBid hl0 σ _ a b c _ (cx_ch_b4 hl0 σ h.r m.mi a b c ha hb hc  hv), Or.inr ⟨2, _, rfl, rfl, rfl⟩, noteR_R h.r ⟨by decide, by decide⟩ (h.r _ _ _ (by decide)) ⟨by decide, by decide⟩, fun σ2 hR2 hW => ?_⟩
    have e41 : startM σ2 0 41 = σ 0 41 := by rw [startM_j (by decide), hW 0 41 (by decide), noteR_j (by decide)]
    have hN : NI (startM σ2 0 41) := by rw [e41]; exact m.ni
    have hE := e_bid_3 (D := D) (K := K) (ad := ad) hl0 _ (startM_R hR2) hN a b ha hb c hc (by rw [e41]; exact c1) c2 c3 (by rw [e41]; exact c4) (by rw [e41]; exact c5)
    rw [e41, ← c6] at hE
    obtain ⟨hC, h8, h50, hI⟩ := chg_r h hR2 hW (p := 3) ⟨by decide, by decide⟩ ⟨by decide, by decide⟩ (h.r _ _ _ (by decide))
    refine ⟨_, _, f_placeBid hl0 σ2 hR2 _ _ _ a b c hE (hC l D K ad _ hl0), h8, fun q => absurd q (by decide), h50, hI⟩
  · refine ⟨_, 3, 0, _, cx_placeBid hl0 σ _ a b c _ (cx_ch_b3 hl0 σ h.r m.mi a b c ha hb hc  hv (by have := m.ni.n0; omega)), Or.inr ⟨2, _, rfl, rfl, rfl⟩, noteR_R h.r ⟨by decide, by decide⟩ (h.r _ _ _ (by decide)) ⟨by decide, by decide⟩, fun σ2 hR2 hW => ?_⟩
    have e41 : startM σ2 0 41 = σ 0 41 := by rw [startM_j (by decide), hW 0 41 (by decide), noteR_j (by decide)]
    have hN : NI (startM σ2 0 41) := by rw [e41]; exact m.ni
    have hE := e_bid_4 (D := D) (K := K) (ad := ad) hl0 _ (startM_R hR2) hN a b ha hb c hc (by rw [e41]; exact c1) c2 c3 (by rw [e41]; exact c4) (by rw [e41]; exact c5)
    rw [e41, ← c6] at hE
    obtain ⟨hC, h8, h50, hI⟩ := chg_r h hR2 hW (p := 3) ⟨by decide, by decide⟩ ⟨by decide, by decide⟩ (h.r _ _ _ (by decide))
    refine ⟨_, _, f_placeBid hl0 σ2 hR2 _ _ _ a b c hE (hC l D K ad _ hl0), h8, fun q => absurd q (by decide), h50, hI⟩
  · refine ⟨_, 3, 0, _, cx_placeBid hl0 σ _ a b c _ (cx_ch_b5 hl0 σ h.r m.mi a b c ha hb hc  hv (by have := m.ni.n0; omega)), Or.inr ⟨2, _, rfl, rfl, rfl⟩, noteR_R h.r ⟨by decide, by decide⟩ (by have := coinsL_r m.mi c1.1 (by have := m.sc.1; omega); exact ⟨by omega, by omega⟩) ⟨by decide, by decide⟩, fun σ2 hR2 hW => ?_⟩
    have e41 : startM σ2 0 41 = σ 0 41 := by rw [startM_j (by decide), hW 0 41 (by decide), noteR_j (by decide)]
    have hN : NI (startM σ2 0 41) := by rw [e41]; exact m.ni
    have hE := e_bid_5 (D := D) (K := K) (ad := ad) hl0 _ (startM_R hR2) hN a b ha hb c hc (by rw [e41]; exact c1) c2 c3 (by rw [e41]; exact c4) (by rw [e41]; exact c5) (by rw [e41]; exact c6)
    rw [e41, ← c7] at hE
    obtain ⟨hC, h8, h50, hI⟩ := chg_r h hR2 hW (p := 3) ⟨by decide, by decide⟩ ⟨by decide, by decide⟩ (by have := coinsL_r m.mi c1.1 (by have := m.sc.1; omega); exact ⟨by omega, by omega⟩)
    refine ⟨_, _, f_placeBid hl0 σ2 hR2 _ _ _ a b c hE (hC l D K ad _ hl0), h8, fun q => absurd q (by decide), h50, hI⟩
theorem st_placeOffer (hl0 : l.stackTraces = false) (h : INV σ B) (hB : B ≤ 40000000) (a : Int) (ha : inR a) (b : Int) (hb : inR b) : St l D K ad σ B yX8_placeOffer (.code yX8_placeOffer cX8_placeOffer 3 (some .int)) 9 1 6 yX9_placeOffer (.code yX9_placeOffer cX9_placeOffer 3 (some .int)) 8 [.int (iN a), .int (iN b)] ["java/lang/IndexOutOfBoundsException", "java/lang/IllegalArgumentException", "java/lang/UnsupportedOperationException"] := by
  have m := h.m
  obtain ⟨r1, r2, r3, r4, r5, r6⟩ := rem_MR h
  have z0 : inR 0 := ⟨by decide, by decide⟩
  have hM1 := r1.mi
  have hB0 : 0 ≤ B := by have := m.ni.cr 12 (by decide); have := h.b 12 (by decide) (by decide); omega
  rcases ov_o (b := a) (p := b) m h.r h.r h.b (by omega) with ⟨hv, c1, c2, c3, c4, c5, c6, -, -⟩ | ⟨hv, c1⟩ | ⟨hv, c1, c2⟩ | ⟨hv, c1, c2, c3, c4⟩
  · have k1 := kp_o (σ := remM σ 0) (τ := σ) (B := B) (b := a) (p := b) r1 r2 h.r h.b (by omega) (by exact c1) c3 (by exact c4)
    refine ⟨_, 0, _, _, c_placeOffer hl0 σ _ a b _ (c_ch_o hl0 σ h.r m.mi a b 0 ha hb z0 hv h.hi h.s hM1 (by rw [r6 1 (by decide)]; exact c2) (by rw [r6 12 (by decide)]; exact c6)), Or.inl ⟨rfl, rfl⟩, k1.1.2.1, fun σ2 hR2 hW => ?_⟩
    have e41 : startM σ2 0 41 = σ 0 41 := by rw [startM_j (by decide), hW 0 41 (by decide), k1.1.2.2.2.2.2.1 41 (by decide), r6 41 (by decide)]
    have hN : NI (startM σ2 0 41) := by rw [e41]; exact m.ni
    have k2 := kp_o (σ := remM σ 0) (τ := startM σ2) (B := B) (b := a) (p := b) (by rw [e41]; exact r1) r2 (startM_R hR2) (by rw [e41]; exact h.b) (by omega) (by rw [e41]; exact c1) c3 (by rw [e41]; exact c4)
    obtain ⟨σ3, hC, h8, h50, hI⟩ := chg_ok h k2.1 hW
    refine ⟨_, σ3, f_placeOffer hl0 σ2 hR2 _ σ3 _ a b (e_offer_o hl0 _ (startM_R hR2) hN a b ha hb (by rw [e41]; exact c1) c3 (by rw [e41]; exact c4) (by rw [e41]; exact c5)) (hC l D K ad _ hl0), h8, fun _ => k2.2.symm, h50, hI⟩
  · refine ⟨_, 1, 0, σ, cx_placeOffer hl0 σ σ a b _ (cx_ch_on1 hl0 σ h.r m.mi a b 0 ha hb z0 hv), Or.inr ⟨0, _, rfl, rfl, rfl⟩, h.r, fun σ2 hR2 hW => ?_⟩
    have e41 : startM σ2 0 41 = σ 0 41 := by rw [startM_j (by decide), hW 0 41 (by decide)]
    have hN : NI (startM σ2 0 41) := by rw [e41]; exact m.ni
    obtain ⟨hC, h8, h50, hI⟩ := chg_x h hR2 hW (p := 1) ⟨by decide, by decide⟩
    refine ⟨_, _, f_placeOffer hl0 σ2 hR2 _ _ _ a b (e_offer_1 hl0 _ (startM_R hR2) hN a b ha hb (by rw [e41]; exact c1)) (hC l D K ad _ hl0), h8, fun q => absurd q (by decide), h50, hI⟩
  · refine ⟨_, 2, 0, σ, cx_placeOffer hl0 σ σ a b _ (cx_ch_on2 hl0 σ h.r m.mi a b 0 ha hb z0 hv), Or.inr ⟨1, _, rfl, rfl, rfl⟩, h.r, fun σ2 hR2 hW => ?_⟩
    have e41 : startM σ2 0 41 = σ 0 41 := by rw [startM_j (by decide), hW 0 41 (by decide)]
    have hN : NI (startM σ2 0 41) := by rw [e41]; exact m.ni
    obtain ⟨hC, h8, h50, hI⟩ := chg_x h hR2 hW (p := 2) ⟨by decide, by decide⟩
    refine ⟨_, _, f_placeOffer hl0 σ2 hR2 _ _ _ a b (e_offer_2 hl0 _ (startM_R hR2) hN a b ha hb (by rw [e41]; exact c1) c2) (hC l D K ad _ hl0), h8, fun q => absurd q (by decide), h50, hI⟩
  · refine ⟨_, 3, 0, _, cx_placeOffer hl0 σ _ a b _ (cx_ch_o6 hl0 σ h.r m.mi a b 0 ha hb z0 hv), Or.inr ⟨2, _, rfl, rfl, rfl⟩, noteR_R h.r ⟨by decide, by decide⟩ (by split; exact ⟨by decide, by decide⟩; exact h.r _ _ _ (by decide)) ⟨by decide, by decide⟩, fun σ2 hR2 hW => ?_⟩
    have e41 : startM σ2 0 41 = σ 0 41 := by rw [startM_j (by decide), hW 0 41 (by decide), noteR_j (by decide)]
    have hN : NI (startM σ2 0 41) := by rw [e41]; exact m.ni
    have hE := e_offer_3 (D := D) (K := K) (ad := ad) hl0 _ (startM_R hR2) hN a b ha hb (by rw [e41]; exact c1) c2 (by rw [e41]; exact c3)
    rw [e41, ← c4] at hE
    obtain ⟨hC, h8, h50, hI⟩ := chg_r h hR2 hW (p := 3) ⟨by decide, by decide⟩ ⟨by decide, by decide⟩ (by split; exact ⟨by decide, by decide⟩; exact h.r _ _ _ (by decide))
    refine ⟨_, _, f_placeOffer hl0 σ2 hR2 _ _ _ a b hE (hC l D K ad _ hl0), h8, fun q => absurd q (by decide), h50, hI⟩
theorem st_cancelBid (hl0 : l.stackTraces = false) (h : INV σ B) (hB : B ≤ 40000000) (a : Int) (ha : inR a) : St l D K ad σ B yX8_cancelBid (.code yX8_cancelBid cX8_cancelBid 2 (some .int)) 9 1 6 yX9_cancelBid (.code yX9_cancelBid cX9_cancelBid 2 (some .int)) 8 [.int (iN a)] ["java/util/NoSuchElementException"] := by
  have m := h.m
  obtain ⟨r1, r2, r3, r4, r5, r6⟩ := rem_MR h
  have z0 : inR 0 := ⟨by decide, by decide⟩
  have hM1 := r1.mi
  have hB0 : 0 ≤ B := by have := m.ni.cr 12 (by decide); have := h.b 12 (by decide) (by decide); omega
  rcases ov_x (i := a) m h.r h.r h.b with ⟨hv, c1, c2, -, -⟩ | ⟨hv, c1⟩
  · have k1 := kp_x (σ := remM σ 0) (τ := σ) (B := B) (i := a) r1 r2 h.r h.b (by exact c2)
    refine ⟨_, 0, _, _, c_cancelBid hl0 σ _ a _ (c_ch_x hl0 σ h.r m.mi a 0 0 ha z0 z0 hv h.hi h.s hM1 (fun q => c2 ((r1.rowB a).1.mp q))), Or.inl ⟨rfl, rfl⟩, k1.1.2.1, fun σ2 hR2 hW => ?_⟩
    have e41 : startM σ2 0 41 = σ 0 41 := by rw [startM_j (by decide), hW 0 41 (by decide), k1.1.2.2.2.2.2.1 41 (by decide), r6 41 (by decide)]
    have hN : NI (startM σ2 0 41) := by rw [e41]; exact m.ni
    have k2 := kp_x (σ := remM σ 0) (τ := startM σ2) (B := B) (i := a) (by rw [e41]; exact r1) r2 (startM_R hR2) (by rw [e41]; exact h.b) (by rw [e41]; exact c2)
    obtain ⟨σ3, hC, h8, h50, hI⟩ := chg_ok h k2.1 hW
    refine ⟨_, σ3, f_cancelBid hl0 σ2 hR2 _ σ3 _ a (e_canB_o hl0 _ (startM_R hR2) hN a ha (by rw [e41]; exact c2)) (hC l D K ad _ hl0), h8, fun _ => k2.2.symm, h50, hI⟩
  · refine ⟨_, 1, 0, σ, cx_cancelBid hl0 σ σ a _ (cx_ch_xn3 hl0 σ h.r m.mi a 0 0 ha z0 z0 hv), Or.inr ⟨0, _, rfl, rfl, rfl⟩, h.r, fun σ2 hR2 hW => ?_⟩
    have e41 : startM σ2 0 41 = σ 0 41 := by rw [startM_j (by decide), hW 0 41 (by decide)]
    have hN : NI (startM σ2 0 41) := by rw [e41]; exact m.ni
    obtain ⟨hC, h8, h50, hI⟩ := chg_x h hR2 hW (p := 1) ⟨by decide, by decide⟩
    refine ⟨_, _, f_cancelBid hl0 σ2 hR2 _ _ _ a (e_canB_1 hl0 _ (startM_R hR2) hN a ha (by rw [e41]; exact c1)) (hC l D K ad _ hl0), h8, fun q => absurd q (by decide), h50, hI⟩
theorem st_cancelOffer (hl0 : l.stackTraces = false) (h : INV σ B) (hB : B ≤ 40000000) (a : Int) (ha : inR a) : St l D K ad σ B yX8_cancelOffer (.code yX8_cancelOffer cX8_cancelOffer 2 (some .int)) 9 1 6 yX9_cancelOffer (.code yX9_cancelOffer cX9_cancelOffer 2 (some .int)) 8 [.int (iN a)] ["java/util/NoSuchElementException"] := by
  have m := h.m
  obtain ⟨r1, r2, r3, r4, r5, r6⟩ := rem_MR h
  have z0 : inR 0 := ⟨by decide, by decide⟩
  have hM1 := r1.mi
  have hB0 : 0 ≤ B := by have := m.ni.cr 12 (by decide); have := h.b 12 (by decide) (by decide); omega
  rcases ov_y (i := a) m h.r h.r h.b with ⟨hv, c1, c2, -, -⟩ | ⟨hv, c1⟩
  · have k1 := kp_y (σ := remM σ 0) (τ := σ) (B := B) (i := a) r1 r2 h.r h.b (by exact c2)
    refine ⟨_, 0, _, _, c_cancelOffer hl0 σ _ a _ (c_ch_y hl0 σ h.r m.mi a 0 0 ha z0 z0 hv h.hi h.s hM1 (fun q => c2 ((r1.rowO a).1.mp q))), Or.inl ⟨rfl, rfl⟩, k1.1.2.1, fun σ2 hR2 hW => ?_⟩
    have e41 : startM σ2 0 41 = σ 0 41 := by rw [startM_j (by decide), hW 0 41 (by decide), k1.1.2.2.2.2.2.1 41 (by decide), r6 41 (by decide)]
    have hN : NI (startM σ2 0 41) := by rw [e41]; exact m.ni
    have k2 := kp_y (σ := remM σ 0) (τ := startM σ2) (B := B) (i := a) (by rw [e41]; exact r1) r2 (startM_R hR2) (by rw [e41]; exact h.b) (by rw [e41]; exact c2)
    obtain ⟨σ3, hC, h8, h50, hI⟩ := chg_ok h k2.1 hW
    refine ⟨_, σ3, f_cancelOffer hl0 σ2 hR2 _ σ3 _ a (e_canO_o hl0 _ (startM_R hR2) hN a ha (by rw [e41]; exact c2)) (hC l D K ad _ hl0), h8, fun _ => k2.2.symm, h50, hI⟩
  · refine ⟨_, 1, 0, σ, cx_cancelOffer hl0 σ σ a _ (cx_ch_yn3 hl0 σ h.r m.mi a 0 0 ha z0 z0 hv), Or.inr ⟨0, _, rfl, rfl, rfl⟩, h.r, fun σ2 hR2 hW => ?_⟩
    have e41 : startM σ2 0 41 = σ 0 41 := by rw [startM_j (by decide), hW 0 41 (by decide)]
    have hN : NI (startM σ2 0 41) := by rw [e41]; exact m.ni
    obtain ⟨hC, h8, h50, hI⟩ := chg_x h hR2 hW (p := 1) ⟨by decide, by decide⟩
    refine ⟨_, _, f_cancelOffer hl0 σ2 hR2 _ _ _ a (e_canO_1 hl0 _ (startM_R hR2) hN a ha (by rw [e41]; exact c1)) (hC l D K ad _ hl0), h8, fun q => absurd q (by decide), h50, hI⟩
theorem st_setFee (hl0 : l.stackTraces = false) (h : INV σ B) (hB : B ≤ 40000000) (a : Int) (ha : inR a) : St l D K ad σ B yX8_setFee (.code yX8_setFee cX8_setFee 2 (some .int)) 9 1 6 yX9_setFee (.code yX9_setFee cX9_setFee 2 (some .int)) 8 [.int (iN a)] ["java/lang/IllegalArgumentException"] := by
  have m := h.m
  obtain ⟨r1, r2, r3, r4, r5, r6⟩ := rem_MR h
  have z0 : inR 0 := ⟨by decide, by decide⟩
  have hM1 := r1.mi
  have hB0 : 0 ≤ B := by have := m.ni.cr 12 (by decide); have := h.b 12 (by decide) (by decide); omega
  rcases ov_f (c := a) m h.r h.r h.b hB0 with ⟨hv, c1, -, -⟩ | ⟨hv, c1⟩
  · have k1 := kp_f (σ := remM σ 0) (τ := σ) (B := B) (c := a) r1 r2 h.r h.b (by omega) c1
    refine ⟨_, 0, _, _, c_setFee hl0 σ _ a _ (c_ch_f hl0 σ h.r m.mi a 0 0 ha z0 z0 hv h.hi h.s hM1), Or.inl ⟨rfl, rfl⟩, k1.1.2.1, fun σ2 hR2 hW => ?_⟩
    have e41 : startM σ2 0 41 = σ 0 41 := by rw [startM_j (by decide), hW 0 41 (by decide), k1.1.2.2.2.2.2.1 41 (by decide), r6 41 (by decide)]
    have hN : NI (startM σ2 0 41) := by rw [e41]; exact m.ni
    have k2 := kp_f (σ := remM σ 0) (τ := startM σ2) (B := B) (c := a) (by rw [e41]; exact r1) r2 (startM_R hR2) (by rw [e41]; exact h.b) (by omega) c1
    obtain ⟨σ3, hC, h8, h50, hI⟩ := chg_ok h k2.1 hW
    refine ⟨_, σ3, f_setFee hl0 σ2 hR2 _ σ3 _ a (e_fee_o hl0 _ (startM_R hR2) hN a ha c1) (hC l D K ad _ hl0), h8, fun _ => k2.2.symm, h50, hI⟩
  · refine ⟨_, 1, 0, σ, cx_setFee hl0 σ σ a _ (cx_ch_fn2 hl0 σ h.r m.mi a 0 0 ha z0 z0 hv), Or.inr ⟨0, _, rfl, rfl, rfl⟩, h.r, fun σ2 hR2 hW => ?_⟩
    have e41 : startM σ2 0 41 = σ 0 41 := by rw [startM_j (by decide), hW 0 41 (by decide)]
    have hN : NI (startM σ2 0 41) := by rw [e41]; exact m.ni
    obtain ⟨hC, h8, h50, hI⟩ := chg_x h hR2 hW (p := 1) ⟨by decide, by decide⟩
    refine ⟨_, _, f_setFee hl0 σ2 hR2 _ _ _ a (e_fee_1 hl0 _ (startM_R hR2) hN a ha c1) (hC l D K ad _ hl0), h8, fun q => absurd q (by decide), h50, hI⟩
theorem st_passTide (hl0 : l.stackTraces = false) (h : INV σ B) (hB : B ≤ 40000000) : St l D K ad σ B yX8_passTide (.code yX8_passTide cX8_passTide 1 (some .int)) 9 1 6 yX9_passTide (.code yX9_passTide cX9_passTide 1 (some .int)) 8 [] [] := by
  have m := h.m
  obtain ⟨r1, r2, r3, r4, r5, r6⟩ := rem_MR h
  have z0 : inR 0 := ⟨by decide, by decide⟩
  have hM1 := r1.mi
  obtain ⟨t1, t2, t3, t4⟩ := ov_t (σ := remM σ 0) (τ := σ) r1 r2 h.r h.b (by omega)
  refine ⟨_, 0, _, _, c_passTide hl0 σ _ _ (c_ch_t hl0 σ h.r m.mi 0 0 0 z0 z0 z0 rfl h.hi h.s hM1 t1), Or.inl ⟨rfl, rfl⟩, t3.2.1, fun σ2 hR2 hW => ?_⟩
  have e41 : startM σ2 0 41 = σ 0 41 := by rw [startM_j (by decide), hW 0 41 (by decide), t3.2.2.2.2.2.1 41 (by decide), r6 41 (by decide)]
  have hN : NI (startM σ2 0 41) := by rw [e41]; exact m.ni
  obtain ⟨u1, u2, u3, u4⟩ := ov_t (σ := remM σ 0) (τ := startM σ2) (B := B) (by rw [e41]; exact r1) r2 (startM_R hR2) (by rw [e41]; exact h.b) (by omega)
  obtain ⟨σ3, hC, h8, h50, hI⟩ := chg_ok h u3 hW
  exact ⟨_, σ3, f_passTide hl0 σ2 hR2 _ σ3 _ (e_tideIt hl0 _ (startM_R hR2) u2) (hC l D K ad _ hl0), h8, fun _ => u4.symm, h50, hI⟩
end SC
