/-! one command of an input, both sides -/
noncomputable def cmdV (σ : Mem) (n : Int) : Int :=
  if σ 0 28 n = 115 then vShip (σ 0) (σ n 30 0) (σ n 30 1)
  else if σ 0 28 n = 97 then vBarn (σ 0) (σ n 30 0) (σ n 30 1)
  else if σ 0 28 n = 99 then vGift (σ 0) (σ n 30 0) (σ n 30 1)
  else if σ 0 28 n = 98 then vBid (σ 0) (σ n 30 0) (σ n 30 1) (σ n 30 2)
  else if σ 0 28 n = 111 then vOffer (σ 0) (σ n 30 0) (σ n 30 1)
  else if σ 0 28 n = 120 then (if rowId (σ 0) 6 (σ n 30 0) = -1 then -3 else 0)
  else if σ 0 28 n = 121 then (if rowId (σ 0) 12 (σ n 30 0) = -1 then -3 else 0)
  else if σ 0 28 n = 102 then (if 0 ≤ (σ n 30 0) ∧ (σ n 30 0) ≤ 9 then 0 else -2)
  else 0
noncomputable def cmdM (σ : Mem) (n : Int) : Mem :=
  if σ 0 28 n = 115 then shipM σ 0 (σ n 30 0) (σ n 30 1)
  else if σ 0 28 n = 97 then boardM σ 0 (σ n 30 0) (σ n 30 1)
  else if σ 0 28 n = 99 then giftM σ 0 (σ n 30 0) (σ n 30 1)
  else if σ 0 28 n = 98 then bidM σ 0 (σ n 30 0) (σ n 30 1) (σ n 30 2)
  else if σ 0 28 n = 111 then offerM σ 0 (σ n 30 0) (σ n 30 1)
  else if σ 0 28 n = 120 then removeM σ 0 6 (rowId (σ 0) 6 (σ n 30 0))
  else if σ 0 28 n = 121 then removeM σ 0 12 (rowId (σ 0) 12 (σ n 30 0))
  else if σ 0 28 n = 102 then st3 σ 0 0 4 (σ n 30 0)
  else tideM 0 σ
noncomputable def cmdT (τ : Mem) (n : Int) : Mem :=
  if τ 0 48 (4 * n) = 115 then mshipM τ (τ 0 48 (4 * n + 1)) (τ 0 48 (4 * n + 2))
  else if τ 0 48 (4 * n) = 97 then mbarnM τ (τ 0 48 (4 * n + 1)) (τ 0 48 (4 * n + 2))
  else if τ 0 48 (4 * n) = 99 then mgiveM τ (τ 0 48 (4 * n + 1)) (τ 0 48 (4 * n + 2))
  else if τ 0 48 (4 * n) = 98 then mbidM τ (τ 0 48 (4 * n + 1)) (τ 0 48 (4 * n + 2)) (τ 0 48 (4 * n + 3))
  else if τ 0 48 (4 * n) = 111 then mofferM τ (τ 0 48 (4 * n + 1)) (τ 0 48 (4 * n + 2))
  else if τ 0 48 (4 * n) = 120 then closeM τ 2 (58 + 5 * mplB (τ 0 41) (τ 0 48 (4 * n + 1))) 5 108
  else if τ 0 48 (4 * n) = 121 then closeM τ 3 (108 + 4 * mplO (τ 0 41) (τ 0 48 (4 * n + 1))) 4 172
  else if τ 0 48 (4 * n) = 102 then st3 τ 0 41 6 (τ 0 48 (4 * n + 1))
  else mtideM τ
def One (l : Launch) (D : va_G) (K : Nat → ClassId) (ad : Adr) (σ τ : Mem) (n B : Int) : Prop :=
  (cmdV σ n = 0 ∧ Kp σ τ (cmdM σ n) (cmdT τ n) B ∧ Cb l D K ad yX8_perform (.code yX8_perform cX8_perform 7 (some .int)) 6 0 0 σ [.ref (ad 0 23), .int (iN n)] (.inl (some (.int (iN 0)))) (cmdM σ n) ∧ Cb l D K ad yX9_does (.code yX9_does cX9_does 4 none) 7 0 0 τ [.ref (ad 0 40), .int (iN (4 * n))] (.inl none) (cmdT τ n)) ∨
  (∃ p : Int, (cmdV σ n = -1 ∨ cmdV σ n = -2 ∨ cmdV σ n = -3) ∧ (1 ≤ p ∧ p ≤ 3) ∧ Cb l D K ad yX8_perform (.code yX8_perform cX8_perform 7 (some .int)) 6 0 0 σ [.ref (ad 0 23), .int (iN n)] (.inl (some (.int (iN (cmdV σ n))))) σ ∧ Cb l D K ad yX9_does (.code yX9_does cX9_does 4 none) 7 0 0 τ [.ref (ad 0 40), .int (iN (4 * n))] (.inl none) (thrM τ p)) ∨
  ∃ p d : Int, (1 ≤ cmdV σ n ∧ cmdV σ n ≤ 6) ∧ (1 ≤ p ∧ p ≤ 3) ∧ inR d ∧ Cb l D K ad yX8_perform (.code yX8_perform cX8_perform 7 (some .int)) 6 0 0 σ [.ref (ad 0 23), .int (iN n)] (.inl (some (.int (iN (cmdV σ n))))) σ ∧ Cb l D K ad yX9_does (.code yX9_does cX9_does 4 none) 7 0 0 τ [.ref (ad 0 40), .int (iN (4 * n))] (.inl none) (rjM τ p (cmdV σ n) d)
section ON
variable {l : Launch} {D : va_G} {K : Nat → ClassId} {ad : Adr} {σ τ : Mem} {B n : Int}
theorem one_s (hl0 : l.stackTraces = false) (m : MR (σ 0) (τ 0 41)) (hR : Rng σ) (hT : Rng τ) (hb : BD (τ 0 41) B) (hB : B ≤ 80000000) (hB0 : 0 ≤ B) (hn : 0 ≤ n ∧ n < 30) (z : σ 0 28 n = 115) (w : τ 0 48 (4 * n) = 115) (e1 : σ n 30 0 = τ 0 48 (4 * n + 1)) (e2 : σ n 30 1 = τ 0 48 (4 * n + 2)) : One l D K ad σ τ n B := by
  have eV : cmdV σ n = vShip (σ 0) (σ n 30 0) (σ n 30 1) := by
    unfold cmdV
    rw [z, if_pos rfl]
  have eM : cmdM σ n = shipM σ 0 (σ n 30 0) (σ n 30 1) := by
    unfold cmdM
    rw [z, if_pos rfl]
  have eT : cmdT τ n = mshipM τ (τ 0 48 (4 * n + 1)) (τ 0 48 (4 * n + 2)) := by
    unfold cmdT
    rw [w, if_pos rfl]
  have a0 : inR (σ n 30 0) := hR _ _ _ (by decide)
  have b0 : inR (σ n 30 1) := hR _ _ _ (by decide)
  have c0 : inR (σ n 30 2) := hR _ _ _ (by decide)
  rw [← e1, ← e2] at eT
  have J := c_judge_s (D := D) (K := K) (ad := ad) hl0 0 (by decide) σ hR m.mi (σ n 30 0) (σ n 30 1) (σ n 30 2) a0 b0 c0
  rw [← z] at J
  have hN := m.ni
  rcases ov_s m hR hT hb (by omega) with ⟨hv, c1, c2, c3, c4, kk, -⟩ | ⟨hv, c1⟩ | ⟨hv, c1, c2, c3⟩
  · rw [hv] at J
    have C := c_do_s (D := D) (K := K) (ad := ad) hl0 0 (by decide) σ hR m.mi (σ n 30 0) (σ n 30 1) (σ n 30 2) a0 b0 c0 c1 c4
    rw [← z] at C
    refine Or.inl ⟨by rw [eV, hv], ?_, ?_, ?_⟩
    · rw [eM, eT]
      exact kk
    · rw [eM]
      exact c_perf hl0 σ hR n hn _ _ J C
    · rw [eT]
      exact g_does_s hl0 τ hT (4 * n) (by omega) w _ _ (by rw [← e1, ← e2]; exact e_ship_o hl0 τ hT hN _ _ a0 b0 c1 c2 c3)
  · rw [hv] at J
    refine Or.inr (Or.inl ⟨1, by rw [eV, hv]; decide, by decide, ?_, ?_⟩)
    · rw [eV, hv]
      exact c_perfn hl0 σ hR n hn _ (by decide) J
    · exact g_does_s hl0 τ hT (4 * n) (by omega) w _ _ (by rw [← e1, ← e2]; exact e_ship_1 hl0 τ hT hN _ _ a0 b0 c1)
  · rw [hv] at J
    refine Or.inr (Or.inr ⟨2, 6, by rw [eV, hv]; decide, by decide, ⟨by decide, by decide⟩, ?_, ?_⟩)
    · rw [eV, hv]
      exact c_perfn hl0 σ hR n hn _ (by decide) J
    · rw [eV, hv]
      exact g_does_s hl0 τ hT (4 * n) (by omega) w _ _ (by rw [← e1, ← e2]; exact e_ship_2 hl0 τ hT hN _ _ a0 b0 c1 c2 c3)
theorem one_a (hl0 : l.stackTraces = false) (m : MR (σ 0) (τ 0 41)) (hR : Rng σ) (hT : Rng τ) (hb : BD (τ 0 41) B) (hB : B ≤ 80000000) (hB0 : 0 ≤ B) (hn : 0 ≤ n ∧ n < 30) (z : σ 0 28 n = 97) (w : τ 0 48 (4 * n) = 97) (e1 : σ n 30 0 = τ 0 48 (4 * n + 1)) (e2 : σ n 30 1 = τ 0 48 (4 * n + 2)) : One l D K ad σ τ n B := by
  have eV : cmdV σ n = vBarn (σ 0) (σ n 30 0) (σ n 30 1) := by
    unfold cmdV
    rw [z, if_neg (by decide), if_pos rfl]
  have eM : cmdM σ n = boardM σ 0 (σ n 30 0) (σ n 30 1) := by
    unfold cmdM
    rw [z, if_neg (by decide), if_pos rfl]
  have eT : cmdT τ n = mbarnM τ (τ 0 48 (4 * n + 1)) (τ 0 48 (4 * n + 2)) := by
    unfold cmdT
    rw [w, if_neg (by decide), if_pos rfl]
  have a0 : inR (σ n 30 0) := hR _ _ _ (by decide)
  have b0 : inR (σ n 30 1) := hR _ _ _ (by decide)
  have c0 : inR (σ n 30 2) := hR _ _ _ (by decide)
  rw [← e1, ← e2] at eT
  have J := c_judge_a (D := D) (K := K) (ad := ad) hl0 0 (by decide) σ hR m.mi (σ n 30 0) (σ n 30 1) (σ n 30 2) a0 b0 c0
  rw [← z] at J
  have hN := m.ni
  rcases ov_a m hR hT hb with ⟨hv, c1, c2, c3, c4, c5, kk, -⟩ | ⟨hv, c1⟩ | ⟨hv, c1, c2⟩ | ⟨hv, c1, c2, c3⟩ | ⟨hv, c1, c2, c3, c4, c5⟩
  · rw [hv] at J
    have C := c_do_a (D := D) (K := K) (ad := ad) hl0 0 (by decide) σ hR m.mi (σ n 30 0) (σ n 30 1) (σ n 30 2) a0 b0 c0 c4
    rw [← z] at C
    refine Or.inl ⟨by rw [eV, hv], ?_, ?_, ?_⟩
    · rw [eM, eT]
      exact kk
    · rw [eM]
      exact c_perf hl0 σ hR n hn _ _ J C
    · rw [eT]
      exact g_does_a hl0 τ hT (4 * n) (by omega) w _ _ (by rw [← e1, ← e2]; exact e_barn_o hl0 τ hT hN _ _ a0 b0 c1 c2 c3 c5)
  · rw [hv] at J
    refine Or.inr (Or.inl ⟨1, by rw [eV, hv]; decide, by decide, ?_, ?_⟩)
    · rw [eV, hv]
      exact c_perfn hl0 σ hR n hn _ (by decide) J
    · exact g_does_a hl0 τ hT (4 * n) (by omega) w _ _ (by rw [← e1, ← e2]; exact e_barn_1 hl0 τ hT hN _ _ a0 b0 c1)
  · rw [hv] at J
    refine Or.inr (Or.inl ⟨2, by rw [eV, hv]; decide, by decide, ?_, ?_⟩)
    · rw [eV, hv]
      exact c_perfn hl0 σ hR n hn _ (by decide) J
    · exact g_does_a hl0 τ hT (4 * n) (by omega) w _ _ (by rw [← e1, ← e2]; exact e_barn_2 hl0 τ hT hN _ _ a0 b0 c1 c2)
  · rw [hv] at J
    refine Or.inr (Or.inr ⟨3, 16, by rw [eV, hv]; decide, by decide, ⟨by decide, by decide⟩, ?_, ?_⟩)
    · rw [eV, hv]
      exact c_perfn hl0 σ hR n hn _ (by decide) J
    · rw [eV, hv]
      exact g_does_a hl0 τ hT (4 * n) (by omega) w _ _ (by rw [← e1, ← e2]; exact e_barn_3 hl0 τ hT hN _ _ a0 b0 c1 c2 c3)
  · rw [hv] at J
    refine Or.inr (Or.inr ⟨3, mcap (τ 0 41) (σ n 30 0), by rw [eV, hv]; decide, by decide, by rw [← c5]; exact hR _ _ _ (by decide), ?_, ?_⟩)
    · rw [eV, hv]
      exact c_perfn hl0 σ hR n hn _ (by decide) J
    · rw [eV, hv]
      exact g_does_a hl0 τ hT (4 * n) (by omega) w _ _ (by rw [← e1, ← e2]; exact e_barn_4 hl0 τ hT hN _ _ a0 b0 c1 c2 c3 c4)
theorem one_c (hl0 : l.stackTraces = false) (m : MR (σ 0) (τ 0 41)) (hR : Rng σ) (hT : Rng τ) (hb : BD (τ 0 41) B) (hB : B ≤ 80000000) (hB0 : 0 ≤ B) (hn : 0 ≤ n ∧ n < 30) (z : σ 0 28 n = 99) (w : τ 0 48 (4 * n) = 99) (e1 : σ n 30 0 = τ 0 48 (4 * n + 1)) (e2 : σ n 30 1 = τ 0 48 (4 * n + 2)) : One l D K ad σ τ n B := by
  have eV : cmdV σ n = vGift (σ 0) (σ n 30 0) (σ n 30 1) := by
    unfold cmdV
    rw [z, if_neg (by decide), if_neg (by decide), if_pos rfl]
  have eM : cmdM σ n = giftM σ 0 (σ n 30 0) (σ n 30 1) := by
    unfold cmdM
    rw [z, if_neg (by decide), if_neg (by decide), if_pos rfl]
  have eT : cmdT τ n = mgiveM τ (τ 0 48 (4 * n + 1)) (τ 0 48 (4 * n + 2)) := by
    unfold cmdT
    rw [w, if_neg (by decide), if_neg (by decide), if_pos rfl]
  have a0 : inR (σ n 30 0) := hR _ _ _ (by decide)
  have b0 : inR (σ n 30 1) := hR _ _ _ (by decide)
  have c0 : inR (σ n 30 2) := hR _ _ _ (by decide)
  rw [← e1, ← e2] at eT
  have J := c_judge_c (D := D) (K := K) (ad := ad) hl0 0 (by decide) σ hR m.mi (σ n 30 0) (σ n 30 1) (σ n 30 2) a0 b0 c0
  rw [← z] at J
  have hN := m.ni
  rcases ov_c m hR hT hb (by omega) with ⟨hv, c1, c2, kk, -⟩ | ⟨hv, c1⟩ | ⟨hv, c1, c2⟩
  · rw [hv] at J
    have C := c_do_c (D := D) (K := K) (ad := ad) hl0 0 (by decide) σ hR m.mi (σ n 30 0) (σ n 30 1) (σ n 30 2) a0 b0 c0 (by rw [m.sc.1]; exact c1) (by omega)
    rw [← z] at C
    refine Or.inl ⟨by rw [eV, hv], ?_, ?_, ?_⟩
    · rw [eM, eT]
      exact kk
    · rw [eM]
      exact c_perf hl0 σ hR n hn _ _ J C
    · rw [eT]
      exact g_does_c hl0 τ hT (4 * n) (by omega) w _ _ (by rw [← e1, ← e2]; exact e_give_o hl0 τ hT hN _ _ a0 b0 c1 c2)
  · rw [hv] at J
    refine Or.inr (Or.inl ⟨1, by rw [eV, hv]; decide, by decide, ?_, ?_⟩)
    · rw [eV, hv]
      exact c_perfn hl0 σ hR n hn _ (by decide) J
    · exact g_does_c hl0 τ hT (4 * n) (by omega) w _ _ (by rw [← e1, ← e2]; exact e_give_1 hl0 τ hT hN _ _ a0 b0 c1)
  · rw [hv] at J
    refine Or.inr (Or.inl ⟨2, by rw [eV, hv]; decide, by decide, ?_, ?_⟩)
    · rw [eV, hv]
      exact c_perfn hl0 σ hR n hn _ (by decide) J
    · exact g_does_c hl0 τ hT (4 * n) (by omega) w _ _ (by rw [← e1, ← e2]; exact e_give_2 hl0 τ hT hN _ _ a0 b0 c1 c2)
theorem one_b (hl0 : l.stackTraces = false) (m : MR (σ 0) (τ 0 41)) (hR : Rng σ) (hT : Rng τ) (hb : BD (τ 0 41) B) (hB : B ≤ 80000000) (hB0 : 0 ≤ B) (hn : 0 ≤ n ∧ n < 30) (z : σ 0 28 n = 98) (w : τ 0 48 (4 * n) = 98) (e1 : σ n 30 0 = τ 0 48 (4 * n + 1)) (e2 : σ n 30 1 = τ 0 48 (4 * n + 2)) (e3 : σ n 30 2 = τ 0 48 (4 * n + 3)) : One l D K ad σ τ n B := by
  have eV : cmdV σ n = vBid (σ 0) (σ n 30 0) (σ n 30 1) (σ n 30 2) := by
    unfold cmdV
    rw [z, if_neg (by decide), if_neg (by decide), if_neg (by decide), if_pos rfl]
  have eM : cmdM σ n = bidM σ 0 (σ n 30 0) (σ n 30 1) (σ n 30 2) := by
    unfold cmdM
    rw [z, if_neg (by decide), if_neg (by decide), if_neg (by decide), if_pos rfl]
  have eT : cmdT τ n = mbidM τ (τ 0 48 (4 * n + 1)) (τ 0 48 (4 * n + 2)) (τ 0 48 (4 * n + 3)) := by
    unfold cmdT
    rw [w, if_neg (by decide), if_neg (by decide), if_neg (by decide), if_pos rfl]
  have a0 : inR (σ n 30 0) := hR _ _ _ (by decide)
  have b0 : inR (σ n 30 1) := hR _ _ _ (by decide)
  have c0 : inR (σ n 30 2) := hR _ _ _ (by decide)
  rw [← e1, ← e2, ← e3] at eT
  have J := c_judge_b (D := D) (K := K) (ad := ad) hl0 0 (by decide) σ hR m.mi (σ n 30 0) (σ n 30 1) (σ n 30 2) a0 b0 c0
  rw [← z] at J
  have hN := m.ni
  rcases ov_b m hR hT hb (by omega) with ⟨hv, c1, c2, c3, c4, c5, c6, c7, kk, -⟩ | ⟨hv, c1⟩ | ⟨hv, c1, c2⟩ | ⟨hv, c1, c2, c3, c4, c5, c6⟩ | ⟨hv, c1, c2, c3, c4, c5, c6⟩ | ⟨hv, c1, c2, c3, c4, c5, c6, c7⟩
  · rw [hv] at J
    have C := c_do_b (D := D) (K := K) (ad := ad) hl0 0 (by decide) σ hR m.mi (σ n 30 0) (σ n 30 1) (σ n 30 2) a0 b0 c0 c5
    rw [← z] at C
    refine Or.inl ⟨by rw [eV, hv], ?_, ?_, ?_⟩
    · rw [eM, eT]
      exact kk
    · rw [eM]
      exact c_perf hl0 σ hR n hn _ _ J C
    · rw [eT]
      exact g_does_b hl0 τ hT (4 * n) (by omega) w _ _ (by rw [← e1, ← e2, ← e3]; exact e_bid_o hl0 τ hT hN _ _ a0 b0 _ c0 c1 c2 c3 c4 c6 c7)
  · rw [hv] at J
    refine Or.inr (Or.inl ⟨1, by rw [eV, hv]; decide, by decide, ?_, ?_⟩)
    · rw [eV, hv]
      exact c_perfn hl0 σ hR n hn _ (by decide) J
    · exact g_does_b hl0 τ hT (4 * n) (by omega) w _ _ (by rw [← e1, ← e2, ← e3]; exact e_bid_1 hl0 τ hT hN _ _ a0 b0 _ c0 c1)
  · rw [hv] at J
    refine Or.inr (Or.inl ⟨2, by rw [eV, hv]; decide, by decide, ?_, ?_⟩)
    · rw [eV, hv]
      exact c_perfn hl0 σ hR n hn _ (by decide) J
    · exact g_does_b hl0 τ hT (4 * n) (by omega) w _ _ (by rw [← e1, ← e2, ← e3]; exact e_bid_2 hl0 τ hT hN _ _ a0 b0 _ c0 c1 c2)
  · rw [hv] at J
    refine Or.inr (Or.inr ⟨3, τ 0 41 (58 + 5 * mbRank (τ 0 41) 9), by rw [eV, hv]; decide, by decide, by rw [← c6]; exact hR _ _ _ (by decide), ?_, ?_⟩)
    · rw [eV, hv]
      exact c_perfn hl0 σ hR n hn _ (by decide) J
    · rw [eV, hv]
      exact g_does_b hl0 τ hT (4 * n) (by omega) w _ _ (by rw [← e1, ← e2, ← e3]; exact e_bid_3 hl0 τ hT hN _ _ a0 b0 _ c0 c1 c2 c3 c4 c5)
  · rw [hv] at J
    refine Or.inr (Or.inr ⟨3, mcap (τ 0 41) (σ n 30 0), by rw [eV, hv]; decide, by decide, by rw [← c6]; exact hR _ _ _ (by decide), ?_, ?_⟩)
    · rw [eV, hv]
      exact c_perfn hl0 σ hR n hn _ (by decide) J
    · rw [eV, hv]
      exact g_does_b hl0 τ hT (4 * n) (by omega) w _ _ (by rw [← e1, ← e2, ← e3]; exact e_bid_4 hl0 τ hT hN _ _ a0 b0 _ c0 c1 c2 c3 c4 c5)
  · rw [hv] at J
    refine Or.inr (Or.inr ⟨3, τ 0 41 (14 + 2 * (σ n 30 0)) - mres (τ 0 41) (σ n 30 0), by rw [eV, hv]; decide, by decide, by rw [← c7]; have := coinsL_r m.mi c1.1 (by have := m.sc.1; omega); exact ⟨by omega, by omega⟩, ?_, ?_⟩)
    · rw [eV, hv]
      exact c_perfn hl0 σ hR n hn _ (by decide) J
    · rw [eV, hv]
      exact g_does_b hl0 τ hT (4 * n) (by omega) w _ _ (by rw [← e1, ← e2, ← e3]; exact e_bid_5 hl0 τ hT hN _ _ a0 b0 _ c0 c1 c2 c3 c4 c5 c6)
theorem one_o (hl0 : l.stackTraces = false) (m : MR (σ 0) (τ 0 41)) (hR : Rng σ) (hT : Rng τ) (hb : BD (τ 0 41) B) (hB : B ≤ 80000000) (hB0 : 0 ≤ B) (hn : 0 ≤ n ∧ n < 30) (z : σ 0 28 n = 111) (w : τ 0 48 (4 * n) = 111) (e1 : σ n 30 0 = τ 0 48 (4 * n + 1)) (e2 : σ n 30 1 = τ 0 48 (4 * n + 2)) : One l D K ad σ τ n B := by
  have eV : cmdV σ n = vOffer (σ 0) (σ n 30 0) (σ n 30 1) := by
    unfold cmdV
    rw [z, if_neg (by decide), if_neg (by decide), if_neg (by decide), if_neg (by decide), if_pos rfl]
  have eM : cmdM σ n = offerM σ 0 (σ n 30 0) (σ n 30 1) := by
    unfold cmdM
    rw [z, if_neg (by decide), if_neg (by decide), if_neg (by decide), if_neg (by decide), if_pos rfl]
  have eT : cmdT τ n = mofferM τ (τ 0 48 (4 * n + 1)) (τ 0 48 (4 * n + 2)) := by
    unfold cmdT
    rw [w, if_neg (by decide), if_neg (by decide), if_neg (by decide), if_neg (by decide), if_pos rfl]
  have a0 : inR (σ n 30 0) := hR _ _ _ (by decide)
  have b0 : inR (σ n 30 1) := hR _ _ _ (by decide)
  have c0 : inR (σ n 30 2) := hR _ _ _ (by decide)
  rw [← e1, ← e2] at eT
  have J := c_judge_o (D := D) (K := K) (ad := ad) hl0 0 (by decide) σ hR m.mi (σ n 30 0) (σ n 30 1) (σ n 30 2) a0 b0 c0
  rw [← z] at J
  have hN := m.ni
  rcases ov_o m hR hT hb (by omega) with ⟨hv, c1, c2, c3, c4, c5, c6, kk, -⟩ | ⟨hv, c1⟩ | ⟨hv, c1, c2⟩ | ⟨hv, c1, c2, c3, c4⟩
  · rw [hv] at J
    have C := c_do_o (D := D) (K := K) (ad := ad) hl0 0 (by decide) σ hR m.mi (σ n 30 0) (σ n 30 1) (σ n 30 2) a0 b0 c0 c2 c6
    rw [← z] at C
    refine Or.inl ⟨by rw [eV, hv], ?_, ?_, ?_⟩
    · rw [eM, eT]
      exact kk
    · rw [eM]
      exact c_perf hl0 σ hR n hn _ _ J C
    · rw [eT]
      exact g_does_o hl0 τ hT (4 * n) (by omega) w _ _ (by rw [← e1, ← e2]; exact e_offer_o hl0 τ hT hN _ _ a0 b0 c1 c3 c4 c5)
  · rw [hv] at J
    refine Or.inr (Or.inl ⟨1, by rw [eV, hv]; decide, by decide, ?_, ?_⟩)
    · rw [eV, hv]
      exact c_perfn hl0 σ hR n hn _ (by decide) J
    · exact g_does_o hl0 τ hT (4 * n) (by omega) w _ _ (by rw [← e1, ← e2]; exact e_offer_1 hl0 τ hT hN _ _ a0 b0 c1)
  · rw [hv] at J
    refine Or.inr (Or.inl ⟨2, by rw [eV, hv]; decide, by decide, ?_, ?_⟩)
    · rw [eV, hv]
      exact c_perfn hl0 σ hR n hn _ (by decide) J
    · exact g_does_o hl0 τ hT (4 * n) (by omega) w _ _ (by rw [← e1, ← e2]; exact e_offer_2 hl0 τ hT hN _ _ a0 b0 c1 c2)
  · rw [hv] at J
    refine Or.inr (Or.inr ⟨3, τ 0 41 (108 + 4 * mofferFor (τ 0 41) (σ n 30 0)), by rw [eV, hv]; decide, by decide, by rw [← c4]; split; exact ⟨by decide, by decide⟩; exact hR _ _ _ (by decide), ?_, ?_⟩)
    · rw [eV, hv]
      exact c_perfn hl0 σ hR n hn _ (by decide) J
    · rw [eV, hv]
      exact g_does_o hl0 τ hT (4 * n) (by omega) w _ _ (by rw [← e1, ← e2]; exact e_offer_3 hl0 τ hT hN _ _ a0 b0 c1 c2 c3)
theorem one_x (hl0 : l.stackTraces = false) (m : MR (σ 0) (τ 0 41)) (hR : Rng σ) (hT : Rng τ) (hb : BD (τ 0 41) B) (hB : B ≤ 80000000) (hB0 : 0 ≤ B) (hn : 0 ≤ n ∧ n < 30) (z : σ 0 28 n = 120) (w : τ 0 48 (4 * n) = 120) (e1 : σ n 30 0 = τ 0 48 (4 * n + 1)) : One l D K ad σ τ n B := by
  have eV : cmdV σ n = (if rowId (σ 0) 6 (σ n 30 0) = -1 then -3 else 0) := by
    unfold cmdV
    rw [z, if_neg (by decide), if_neg (by decide), if_neg (by decide), if_neg (by decide), if_neg (by decide), if_pos rfl]
  have eM : cmdM σ n = removeM σ 0 6 (rowId (σ 0) 6 (σ n 30 0)) := by
    unfold cmdM
    rw [z, if_neg (by decide), if_neg (by decide), if_neg (by decide), if_neg (by decide), if_neg (by decide), if_pos rfl]
  have eT : cmdT τ n = closeM τ 2 (58 + 5 * mplB (τ 0 41) (τ 0 48 (4 * n + 1))) 5 108 := by
    unfold cmdT
    rw [w, if_neg (by decide), if_neg (by decide), if_neg (by decide), if_neg (by decide), if_neg (by decide), if_pos rfl]
  have a0 : inR (σ n 30 0) := hR _ _ _ (by decide)
  have b0 : inR (σ n 30 1) := hR _ _ _ (by decide)
  have c0 : inR (σ n 30 2) := hR _ _ _ (by decide)
  rw [← e1] at eT
  have J := c_judge_x (D := D) (K := K) (ad := ad) hl0 0 (by decide) σ hR m.mi (σ n 30 0) (σ n 30 1) (σ n 30 2) a0 b0 c0
  rw [← z] at J
  have hN := m.ni
  rcases ov_x m hR hT hb with ⟨hv, c1, c2, kk, -⟩ | ⟨hv, c1⟩
  · rw [hv] at J
    have C := c_do_x (D := D) (K := K) (ad := ad) hl0 0 (by decide) σ hR m.mi (σ n 30 0) (σ n 30 1) (σ n 30 2) a0 b0 c0 c1
    rw [← z] at C
    refine Or.inl ⟨by rw [eV, hv], ?_, ?_, ?_⟩
    · rw [eM, eT]
      exact kk
    · rw [eM]
      exact c_perf hl0 σ hR n hn _ _ J C
    · rw [eT]
      exact g_does_x hl0 τ hT (4 * n) (by omega) w _ _ (by rw [← e1]; exact e_canB_o hl0 τ hT hN _ a0 c2)
  · rw [hv] at J
    refine Or.inr (Or.inl ⟨1, by rw [eV, hv]; decide, by decide, ?_, ?_⟩)
    · rw [eV, hv]
      exact c_perfn hl0 σ hR n hn _ (by decide) J
    · exact g_does_x hl0 τ hT (4 * n) (by omega) w _ _ (by rw [← e1]; exact e_canB_1 hl0 τ hT hN _ a0 c1)
theorem one_y (hl0 : l.stackTraces = false) (m : MR (σ 0) (τ 0 41)) (hR : Rng σ) (hT : Rng τ) (hb : BD (τ 0 41) B) (hB : B ≤ 80000000) (hB0 : 0 ≤ B) (hn : 0 ≤ n ∧ n < 30) (z : σ 0 28 n = 121) (w : τ 0 48 (4 * n) = 121) (e1 : σ n 30 0 = τ 0 48 (4 * n + 1)) : One l D K ad σ τ n B := by
  have eV : cmdV σ n = (if rowId (σ 0) 12 (σ n 30 0) = -1 then -3 else 0) := by
    unfold cmdV
    rw [z, if_neg (by decide), if_neg (by decide), if_neg (by decide), if_neg (by decide), if_neg (by decide), if_neg (by decide), if_pos rfl]
  have eM : cmdM σ n = removeM σ 0 12 (rowId (σ 0) 12 (σ n 30 0)) := by
    unfold cmdM
    rw [z, if_neg (by decide), if_neg (by decide), if_neg (by decide), if_neg (by decide), if_neg (by decide), if_neg (by decide), if_pos rfl]
  have eT : cmdT τ n = closeM τ 3 (108 + 4 * mplO (τ 0 41) (τ 0 48 (4 * n + 1))) 4 172 := by
    unfold cmdT
    rw [w, if_neg (by decide), if_neg (by decide), if_neg (by decide), if_neg (by decide), if_neg (by decide), if_neg (by decide), if_pos rfl]
  have a0 : inR (σ n 30 0) := hR _ _ _ (by decide)
  have b0 : inR (σ n 30 1) := hR _ _ _ (by decide)
  have c0 : inR (σ n 30 2) := hR _ _ _ (by decide)
  rw [← e1] at eT
  have J := c_judge_y (D := D) (K := K) (ad := ad) hl0 0 (by decide) σ hR m.mi (σ n 30 0) (σ n 30 1) (σ n 30 2) a0 b0 c0
  rw [← z] at J
  have hN := m.ni
  rcases ov_y m hR hT hb with ⟨hv, c1, c2, kk, -⟩ | ⟨hv, c1⟩
  · rw [hv] at J
    have C := c_do_y (D := D) (K := K) (ad := ad) hl0 0 (by decide) σ hR m.mi (σ n 30 0) (σ n 30 1) (σ n 30 2) a0 b0 c0 c1
    rw [← z] at C
    refine Or.inl ⟨by rw [eV, hv], ?_, ?_, ?_⟩
    · rw [eM, eT]
      exact kk
    · rw [eM]
      exact c_perf hl0 σ hR n hn _ _ J C
    · rw [eT]
      exact g_does_y hl0 τ hT (4 * n) (by omega) w _ _ (by rw [← e1]; exact e_canO_o hl0 τ hT hN _ a0 c2)
  · rw [hv] at J
    refine Or.inr (Or.inl ⟨1, by rw [eV, hv]; decide, by decide, ?_, ?_⟩)
    · rw [eV, hv]
      exact c_perfn hl0 σ hR n hn _ (by decide) J
    · exact g_does_y hl0 τ hT (4 * n) (by omega) w _ _ (by rw [← e1]; exact e_canO_1 hl0 τ hT hN _ a0 c1)
theorem one_f (hl0 : l.stackTraces = false) (m : MR (σ 0) (τ 0 41)) (hR : Rng σ) (hT : Rng τ) (hb : BD (τ 0 41) B) (hB : B ≤ 80000000) (hB0 : 0 ≤ B) (hn : 0 ≤ n ∧ n < 30) (z : σ 0 28 n = 102) (w : τ 0 48 (4 * n) = 102) (e1 : σ n 30 0 = τ 0 48 (4 * n + 1)) : One l D K ad σ τ n B := by
  have eV : cmdV σ n = (if 0 ≤ (σ n 30 0) ∧ (σ n 30 0) ≤ 9 then 0 else -2) := by
    unfold cmdV
    rw [z, if_neg (by decide), if_neg (by decide), if_neg (by decide), if_neg (by decide), if_neg (by decide), if_neg (by decide), if_neg (by decide), if_pos rfl]
  have eM : cmdM σ n = st3 σ 0 0 4 (σ n 30 0) := by
    unfold cmdM
    rw [z, if_neg (by decide), if_neg (by decide), if_neg (by decide), if_neg (by decide), if_neg (by decide), if_neg (by decide), if_neg (by decide), if_pos rfl]
  have eT : cmdT τ n = st3 τ 0 41 6 (τ 0 48 (4 * n + 1)) := by
    unfold cmdT
    rw [w, if_neg (by decide), if_neg (by decide), if_neg (by decide), if_neg (by decide), if_neg (by decide), if_neg (by decide), if_neg (by decide), if_pos rfl]
  have a0 : inR (σ n 30 0) := hR _ _ _ (by decide)
  have b0 : inR (σ n 30 1) := hR _ _ _ (by decide)
  have c0 : inR (σ n 30 2) := hR _ _ _ (by decide)
  rw [← e1] at eT
  have J := c_judge_f (D := D) (K := K) (ad := ad) hl0 0 (by decide) σ hR m.mi (σ n 30 0) (σ n 30 1) (σ n 30 2) a0 b0 c0
  rw [← z] at J
  have hN := m.ni
  rcases ov_f m hR hT hb hB0 with ⟨hv, c1, kk, -⟩ | ⟨hv, c1⟩
  · rw [hv] at J
    have C := c_do_f (D := D) (K := K) (ad := ad) hl0 0 (by decide) σ hR m.mi (σ n 30 0) (σ n 30 1) (σ n 30 2) a0 b0 c0 
    rw [← z] at C
    refine Or.inl ⟨by rw [eV, hv], ?_, ?_, ?_⟩
    · rw [eM, eT]
      exact kk
    · rw [eM]
      exact c_perf hl0 σ hR n hn _ _ J C
    · rw [eT]
      exact g_does_f hl0 τ hT (4 * n) (by omega) w _ _ (by rw [← e1]; exact e_fee_o hl0 τ hT hN _ a0 c1)
  · rw [hv] at J
    refine Or.inr (Or.inl ⟨1, by rw [eV, hv]; decide, by decide, ?_, ?_⟩)
    · rw [eV, hv]
      exact c_perfn hl0 σ hR n hn _ (by decide) J
    · exact g_does_f hl0 τ hT (4 * n) (by omega) w _ _ (by rw [← e1]; exact e_fee_1 hl0 τ hT hN _ a0 c1)
theorem one_t (hl0 : l.stackTraces = false) (m : MR (σ 0) (τ 0 41)) (hR : Rng σ) (hT : Rng τ) (hb : BD (τ 0 41) B) (hB : B ≤ 80000000) (hB0 : 0 ≤ B) (hn : 0 ≤ n ∧ n < 30) (z : σ 0 28 n = 116) (w : τ 0 48 (4 * n) = 116) : One l D K ad σ τ n B := by
  have eV : cmdV σ n = 0 := by
    unfold cmdV
    rw [z, if_neg (by decide), if_neg (by decide), if_neg (by decide), if_neg (by decide), if_neg (by decide), if_neg (by decide), if_neg (by decide), if_neg (by decide)]
  have eM : cmdM σ n = tideM 0 σ := by
    unfold cmdM
    rw [z, if_neg (by decide), if_neg (by decide), if_neg (by decide), if_neg (by decide), if_neg (by decide), if_neg (by decide), if_neg (by decide), if_neg (by decide)]
  have eT : cmdT τ n = mtideM τ := by
    unfold cmdT
    rw [w, if_neg (by decide), if_neg (by decide), if_neg (by decide), if_neg (by decide), if_neg (by decide), if_neg (by decide), if_neg (by decide), if_neg (by decide)]
  have a0 : inR (σ n 30 0) := hR _ _ _ (by decide)
  have b0 : inR (σ n 30 1) := hR _ _ _ (by decide)
  have c0 : inR (σ n 30 2) := hR _ _ _ (by decide)
  have J := c_judge_t (D := D) (K := K) (ad := ad) hl0 0 (by decide) σ hR m.mi (σ n 30 0) (σ n 30 1) (σ n 30 2) a0 b0 c0
  rw [← z] at J
  have hN := m.ni
  obtain ⟨t1, t2, kk, -⟩ := ov_t m hR hT hb (by omega)
  have hv := eV
  have C := c_do_t (D := D) (K := K) (ad := ad) hl0 0 (by decide) σ hR m.mi (σ n 30 0) (σ n 30 1) (σ n 30 2) a0 b0 c0 t1
  rw [← z] at C
  refine Or.inl ⟨eV, ?_, ?_, ?_⟩
  · rw [eM, eT]
    exact kk
  · rw [eM]
    exact c_perf hl0 σ hR n hn _ _ J C
  · rw [eT]
    exact g_does_t hl0 τ hT (4 * n) (by omega) w _ _ (e_tideIt hl0 τ hT t2)
theorem one_all (hl0 : l.stackTraces = false) (m : MR (σ 0) (τ 0 41)) (hR : Rng σ) (hT : Rng τ) (hb : BD (τ 0 41) B) (hB : B ≤ 80000000) (hB0 : 0 ≤ B) (hn : 0 ≤ n ∧ n < 30) (hC : CM σ τ n) : One l D K ad σ τ n B := by
  unfold CM at hC
  obtain ⟨w, h | h | h | h⟩ := hC
  · obtain ⟨z, e1, e2⟩ := h
    rcases z with z | z | z | z
    · exact one_s hl0 m hR hT hb hB hB0 hn z (w.trans z) e1 e2
    · exact one_a hl0 m hR hT hb hB hB0 hn z (w.trans z) e1 e2
    · exact one_c hl0 m hR hT hb hB hB0 hn z (w.trans z) e1 e2
    · exact one_o hl0 m hR hT hb hB hB0 hn z (w.trans z) e1 e2
  · obtain ⟨z, e1, e2, e3⟩ := h
    exact one_b hl0 m hR hT hb hB hB0 hn z (w.trans z) e1 e2 e3
  · obtain ⟨z, e1⟩ := h
    rcases z with z | z | z
    · exact one_x hl0 m hR hT hb hB hB0 hn z (w.trans z) e1
    · exact one_y hl0 m hR hT hb hB hB0 hn z (w.trans z) e1
    · exact one_f hl0 m hR hT hb hB hB0 hn z (w.trans z) e1
  · exact one_t hl0 m hR hT hb hB hB0 hn h (w.trans h)
end ON
