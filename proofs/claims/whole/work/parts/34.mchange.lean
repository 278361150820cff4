/-! the reference: its changes -/
/-- a book of the reference whose rows may grow older -/
def mbkOk (σ : Mem) (w b s a n : Int) : Prop := Rng σ ∧ (0 ≤ σ 0 41 w ∧ σ 0 41 w ≤ n) ∧ (∀ i : Int, 0 ≤ i → i < σ 0 41 w → 0 ≤ σ 0 41 (b + s * i + a) ∧ σ 0 41 (b + s * i + a) ≤ 2) ∧ 0 ≤ σ 0 41 11 ∧ σ 0 41 11 ≤ 200000000
def mage1 (σ : Mem) : Mem := mageR 2 58 5 4 108 (σ 0 41 2).toNat σ 0
def mages (σ : Mem) : Mem := mageR 3 108 4 3 172 (mage1 σ 0 41 3).toNat (mage1 σ) 0
noncomputable def mtide1 (σ : Mem) : Mem × Int := maucR (σ 0 41 2).toNat σ 0 0
noncomputable def mtideM (σ : Mem) : Mem := st3 (mages (mtide1 σ).1) 0 41 7 (mages (mtide1 σ).1 0 41 7 + 1)
def magesOk (σ : Mem) : Prop := mbkOk σ 2 58 5 4 10 ∧ mbkOk (mage1 σ) 3 108 4 3 16
def mtideOk (σ : Mem) : Prop := ((0 ≤ σ 0 41 2 ∧ σ 0 41 2 ≤ 10) ∧ maucOk (σ 0 41 2).toNat σ 0) ∧ magesOk (mtide1 σ).1
theorem mg1B {τ : Mem} {k : Int} (hR : Rng τ) (hk : 0 ≤ k) (hs : k < τ 0 41 2) (hn : τ 0 41 2 ≤ 10) (hg : ∀ i : Int, k ≤ i → i < τ 0 41 2 → 0 ≤ τ 0 41 (58 + 5 * i + 4) ∧ τ 0 41 (58 + 5 * i + 4) ≤ 2) (hx : 0 ≤ τ 0 41 11 ∧ τ 0 41 11 ≤ 200000100) : Rng (st3 τ 0 41 (58 + 5 * k + 4) (τ 0 41 (58 + 5 * k + 4) + 1)) ∧ (st3 τ 0 41 (58 + 5 * k + 4) (τ 0 41 (58 + 5 * k + 4) + 1)) 0 41 2 = τ 0 41 2 ∧ (st3 τ 0 41 (58 + 5 * k + 4) (τ 0 41 (58 + 5 * k + 4) + 1)) 0 41 11 = τ 0 41 11 ∧ (∀ i : Int, k + 1 ≤ i → i < τ 0 41 2 → 0 ≤ (st3 τ 0 41 (58 + 5 * k + 4) (τ 0 41 (58 + 5 * k + 4) + 1)) 0 41 (58 + 5 * i + 4) ∧ (st3 τ 0 41 (58 + 5 * k + 4) (τ 0 41 (58 + 5 * k + 4) + 1)) 0 41 (58 + 5 * i + 4) ≤ 2) := by
  have h1 := hg k (by omega) hs
  refine ⟨hR.st ⟨by omega, by omega⟩, st3_k (by omega), st3_k (by omega), fun i h0 h2 => ?_⟩
  rw [st3_k (by omega)]
  exact hg i (by omega) h2
theorem mg2B {τ : Mem} {k : Int} (hR : Rng τ) (hk : 0 ≤ k) (hs : k < τ 0 41 2) (hn : τ 0 41 2 ≤ 10) (hg : ∀ i : Int, k ≤ i → i < τ 0 41 2 → 0 ≤ τ 0 41 (58 + 5 * i + 4) ∧ τ 0 41 (58 + 5 * i + 4) ≤ 2) (hx : 0 ≤ τ 0 41 11 ∧ τ 0 41 11 ≤ 200000100) : Rng (closeM (st3 τ 0 41 (58 + 5 * k + 4) (τ 0 41 (58 + 5 * k + 4) + 1)) 2 (58 + 5 * k) 5 108) ∧ Rng (st3 (closeM (st3 τ 0 41 (58 + 5 * k + 4) (τ 0 41 (58 + 5 * k + 4) + 1)) 2 (58 + 5 * k) 5 108) 0 41 11 ((closeM (st3 τ 0 41 (58 + 5 * k + 4) (τ 0 41 (58 + 5 * k + 4) + 1)) 2 (58 + 5 * k) 5 108) 0 41 11 + 1)) ∧ (st3 (closeM (st3 τ 0 41 (58 + 5 * k + 4) (τ 0 41 (58 + 5 * k + 4) + 1)) 2 (58 + 5 * k) 5 108) 0 41 11 ((closeM (st3 τ 0 41 (58 + 5 * k + 4) (τ 0 41 (58 + 5 * k + 4) + 1)) 2 (58 + 5 * k) 5 108) 0 41 11 + 1)) 0 41 2 = τ 0 41 2 - 1 ∧ (st3 (closeM (st3 τ 0 41 (58 + 5 * k + 4) (τ 0 41 (58 + 5 * k + 4) + 1)) 2 (58 + 5 * k) 5 108) 0 41 11 ((closeM (st3 τ 0 41 (58 + 5 * k + 4) (τ 0 41 (58 + 5 * k + 4) + 1)) 2 (58 + 5 * k) 5 108) 0 41 11 + 1)) 0 41 11 = τ 0 41 11 + 1 ∧ (∀ i : Int, k ≤ i → i < τ 0 41 2 - 1 → 0 ≤ (st3 (closeM (st3 τ 0 41 (58 + 5 * k + 4) (τ 0 41 (58 + 5 * k + 4) + 1)) 2 (58 + 5 * k) 5 108) 0 41 11 ((closeM (st3 τ 0 41 (58 + 5 * k + 4) (τ 0 41 (58 + 5 * k + 4) + 1)) 2 (58 + 5 * k) 5 108) 0 41 11 + 1)) 0 41 (58 + 5 * i + 4) ∧ (st3 (closeM (st3 τ 0 41 (58 + 5 * k + 4) (τ 0 41 (58 + 5 * k + 4) + 1)) 2 (58 + 5 * k) 5 108) 0 41 11 ((closeM (st3 τ 0 41 (58 + 5 * k + 4) (τ 0 41 (58 + 5 * k + 4) + 1)) 2 (58 + 5 * k) 5 108) 0 41 11 + 1)) 0 41 (58 + 5 * i + 4) ≤ 2) := by
  obtain ⟨g1, g2, g3, g4⟩ := mg1B hR hk hs hn hg hx
  have e11 : (closeM (st3 τ 0 41 (58 + 5 * k + 4) (τ 0 41 (58 + 5 * k + 4) + 1)) 2 (58 + 5 * k) 5 108) 0 41 11 = τ 0 41 11 := (closeM_k (by omega) (by omega) (by omega)).trans g3
  have r1 := closeM_R (w := 2) (a := 58 + 5 * k) (s := 5) (e := 108) g1 (by omega) (by omega) (by omega)
  refine ⟨r1, r1.st (by rw [e11]; exact ⟨by omega, by omega⟩), ?_, ?_, fun i h0 h2 => ?_⟩
  · rw [st3_k (by omega), closeM_w (by omega) (by omega), g2]
  · rw [st3_self, e11]
  · have e1 : (st3 (closeM (st3 τ 0 41 (58 + 5 * k + 4) (τ 0 41 (58 + 5 * k + 4) + 1)) 2 (58 + 5 * k) 5 108) 0 41 11 ((closeM (st3 τ 0 41 (58 + 5 * k + 4) (τ 0 41 (58 + 5 * k + 4) + 1)) 2 (58 + 5 * k) 5 108) 0 41 11 + 1)) 0 41 (58 + 5 * i + 4) = (st3 τ 0 41 (58 + 5 * k + 4) (τ 0 41 (58 + 5 * k + 4) + 1)) 0 41 (58 + 5 * (i + 1) + 4) := by
      rw [st3_k (by omega), closeM_i (by omega) (by omega) (by omega)]
      congr 1
      omega
    rw [e1]
    exact g4 (i + 1) (by omega) (by omega)
theorem mg1O {τ : Mem} {k : Int} (hR : Rng τ) (hk : 0 ≤ k) (hs : k < τ 0 41 3) (hn : τ 0 41 3 ≤ 16) (hg : ∀ i : Int, k ≤ i → i < τ 0 41 3 → 0 ≤ τ 0 41 (108 + 4 * i + 3) ∧ τ 0 41 (108 + 4 * i + 3) ≤ 2) (hx : 0 ≤ τ 0 41 11 ∧ τ 0 41 11 ≤ 200000100) : Rng (st3 τ 0 41 (108 + 4 * k + 3) (τ 0 41 (108 + 4 * k + 3) + 1)) ∧ (st3 τ 0 41 (108 + 4 * k + 3) (τ 0 41 (108 + 4 * k + 3) + 1)) 0 41 3 = τ 0 41 3 ∧ (st3 τ 0 41 (108 + 4 * k + 3) (τ 0 41 (108 + 4 * k + 3) + 1)) 0 41 11 = τ 0 41 11 ∧ (∀ i : Int, k + 1 ≤ i → i < τ 0 41 3 → 0 ≤ (st3 τ 0 41 (108 + 4 * k + 3) (τ 0 41 (108 + 4 * k + 3) + 1)) 0 41 (108 + 4 * i + 3) ∧ (st3 τ 0 41 (108 + 4 * k + 3) (τ 0 41 (108 + 4 * k + 3) + 1)) 0 41 (108 + 4 * i + 3) ≤ 2) := by
  have h1 := hg k (by omega) hs
  refine ⟨hR.st ⟨by omega, by omega⟩, st3_k (by omega), st3_k (by omega), fun i h0 h2 => ?_⟩
  rw [st3_k (by omega)]
  exact hg i (by omega) h2
theorem mg2O {τ : Mem} {k : Int} (hR : Rng τ) (hk : 0 ≤ k) (hs : k < τ 0 41 3) (hn : τ 0 41 3 ≤ 16) (hg : ∀ i : Int, k ≤ i → i < τ 0 41 3 → 0 ≤ τ 0 41 (108 + 4 * i + 3) ∧ τ 0 41 (108 + 4 * i + 3) ≤ 2) (hx : 0 ≤ τ 0 41 11 ∧ τ 0 41 11 ≤ 200000100) : Rng (closeM (st3 τ 0 41 (108 + 4 * k + 3) (τ 0 41 (108 + 4 * k + 3) + 1)) 3 (108 + 4 * k) 4 172) ∧ Rng (st3 (closeM (st3 τ 0 41 (108 + 4 * k + 3) (τ 0 41 (108 + 4 * k + 3) + 1)) 3 (108 + 4 * k) 4 172) 0 41 11 ((closeM (st3 τ 0 41 (108 + 4 * k + 3) (τ 0 41 (108 + 4 * k + 3) + 1)) 3 (108 + 4 * k) 4 172) 0 41 11 + 1)) ∧ (st3 (closeM (st3 τ 0 41 (108 + 4 * k + 3) (τ 0 41 (108 + 4 * k + 3) + 1)) 3 (108 + 4 * k) 4 172) 0 41 11 ((closeM (st3 τ 0 41 (108 + 4 * k + 3) (τ 0 41 (108 + 4 * k + 3) + 1)) 3 (108 + 4 * k) 4 172) 0 41 11 + 1)) 0 41 3 = τ 0 41 3 - 1 ∧ (st3 (closeM (st3 τ 0 41 (108 + 4 * k + 3) (τ 0 41 (108 + 4 * k + 3) + 1)) 3 (108 + 4 * k) 4 172) 0 41 11 ((closeM (st3 τ 0 41 (108 + 4 * k + 3) (τ 0 41 (108 + 4 * k + 3) + 1)) 3 (108 + 4 * k) 4 172) 0 41 11 + 1)) 0 41 11 = τ 0 41 11 + 1 ∧ (∀ i : Int, k ≤ i → i < τ 0 41 3 - 1 → 0 ≤ (st3 (closeM (st3 τ 0 41 (108 + 4 * k + 3) (τ 0 41 (108 + 4 * k + 3) + 1)) 3 (108 + 4 * k) 4 172) 0 41 11 ((closeM (st3 τ 0 41 (108 + 4 * k + 3) (τ 0 41 (108 + 4 * k + 3) + 1)) 3 (108 + 4 * k) 4 172) 0 41 11 + 1)) 0 41 (108 + 4 * i + 3) ∧ (st3 (closeM (st3 τ 0 41 (108 + 4 * k + 3) (τ 0 41 (108 + 4 * k + 3) + 1)) 3 (108 + 4 * k) 4 172) 0 41 11 ((closeM (st3 τ 0 41 (108 + 4 * k + 3) (τ 0 41 (108 + 4 * k + 3) + 1)) 3 (108 + 4 * k) 4 172) 0 41 11 + 1)) 0 41 (108 + 4 * i + 3) ≤ 2) := by
  obtain ⟨g1, g2, g3, g4⟩ := mg1O hR hk hs hn hg hx
  have e11 : (closeM (st3 τ 0 41 (108 + 4 * k + 3) (τ 0 41 (108 + 4 * k + 3) + 1)) 3 (108 + 4 * k) 4 172) 0 41 11 = τ 0 41 11 := (closeM_k (by omega) (by omega) (by omega)).trans g3
  have r1 := closeM_R (w := 3) (a := 108 + 4 * k) (s := 4) (e := 172) g1 (by omega) (by omega) (by omega)
  refine ⟨r1, r1.st (by rw [e11]; exact ⟨by omega, by omega⟩), ?_, ?_, fun i h0 h2 => ?_⟩
  · rw [st3_k (by omega), closeM_w (by omega) (by omega), g2]
  · rw [st3_self, e11]
  · have e1 : (st3 (closeM (st3 τ 0 41 (108 + 4 * k + 3) (τ 0 41 (108 + 4 * k + 3) + 1)) 3 (108 + 4 * k) 4 172) 0 41 11 ((closeM (st3 τ 0 41 (108 + 4 * k + 3) (τ 0 41 (108 + 4 * k + 3) + 1)) 3 (108 + 4 * k) 4 172) 0 41 11 + 1)) 0 41 (108 + 4 * i + 3) = (st3 τ 0 41 (108 + 4 * k + 3) (τ 0 41 (108 + 4 * k + 3) + 1)) 0 41 (108 + 4 * (i + 1) + 3) := by
      rw [st3_k (by omega), closeM_i (by omega) (by omega) (by omega)]
      congr 1
      omega
    rw [e1]
    exact g4 (i + 1) (by omega) (by omega)
def mshipM (σ : Mem) (c k : Int) : Mem :=
  let σ1 := st3 σ 0 41 (14 + 2 * σ 0 41 0) c
  let σ2 := st3 σ1 0 41 (14 + 2 * σ1 0 41 0 + 1) k
  let σ3 := st3 σ2 0 41 12 (σ2 0 41 12 + c)
  st3 σ3 0 41 0 (σ3 0 41 0 + 1)
def mbarnM (σ : Mem) (s a : Int) : Mem :=
  let σ1 := st3 σ 0 41 (26 + 2 * σ 0 41 1) s
  let σ2 := st3 σ1 0 41 (26 + 2 * σ1 0 41 1 + 1) a
  st3 σ2 0 41 1 (σ2 0 41 1 + 1)
def mgiveM (σ : Mem) (s c : Int) : Mem :=
  let σ1 := st3 σ 0 41 (14 + 2 * s) (σ 0 41 (14 + 2 * s) + c)
  st3 σ1 0 41 12 (σ1 0 41 12 + c)
def mbidM (σ : Mem) (s a p : Int) : Mem :=
  let q := 58 + 5 * σ 0 41 2
  let σ1 := st3 σ 0 41 q (σ 0 41 4)
  let σ2 := st3 (st3 (st3 (st3 σ1 0 41 (q + 1) s) 0 41 (q + 2) a) 0 41 (q + 3) p) 0 41 (q + 4) 0
  let σ3 := st3 σ2 0 41 2 (σ2 0 41 2 + 1)
  st3 σ3 0 41 4 (σ3 0 41 4 + 1)
def mofferM (σ : Mem) (b p : Int) : Mem :=
  let q := 108 + 4 * σ 0 41 3
  let σ1 := st3 σ 0 41 q (σ 0 41 5)
  let σ2 := st3 (st3 (st3 σ1 0 41 (q + 1) b) 0 41 (q + 2) p) 0 41 (q + 3) 0
  let σ3 := st3 σ2 0 41 3 (σ2 0 41 3 + 1)
  st3 σ3 0 41 5 (σ3 0 41 5 + 1)
def thrM (σ : Mem) (p : Int) : Mem := st3 σ 0 40 8 p
def rjM (σ : Mem) (p q a : Int) : Mem := st3 (st3 (st3 σ 0 40 14 q) 0 40 15 a) 0 40 8 p
set_option maxHeartbeats 4000000 in
set_option maxRecDepth 100000 in
theorem e_ages {l : Launch} {D : va_G} {K : Nat → ClassId} {ad : Adr} (hl0 : l.stackTraces = false) (σ : Mem) (hA : magesOk σ) : Cb l D K ad yX9_ages (.code yX9_ages cX9_ages 2 none) 3 0 0 σ [.ref (ad 0 40)] (.inl none) (mages σ) := by
  refine Cb.of (own := RX9) (ls0 := [some (.ref (ad 0 40)), none]) hl0 (by decide) rfl (Nat.le_of_ble_eq_true rfl) rfl ?_
  intro X hX1 hX2 hX3 hf he hh
  subst hX1 hX2 hX3
  have loopO : ∀ (n : Nat) (τ : Mem) (k : Int), Rng τ → 0 ≤ k → k + n = τ 0 41 3 → τ 0 41 3 ≤ 16 → (∀ i : Int, k ≤ i → i < τ 0 41 3 → 0 ≤ τ 0 41 (108 + 4 * i + 3) ∧ τ 0 41 (108 + 4 * i + 3) ≤ 2) → (0 ≤ τ 0 41 11 ∧ τ 0 41 11 + n ≤ 200000100) → Be X none ad (.inl none) (mageR 3 108 4 3 172 n τ k) 0 0 → B X ad τ 69 [some (.ref (ad 0 40)), some (.int (iN k))] [] 0 0 := by
    intro n
    induction n with
    | zero =>
      intro τ k hτ hk0 hkn hn0 hg hx hk9
      refine V_iload_n hf dX9_ages_69 rfl rfl ?_
      refine V_aload_n hf dX9_ages_70 rfl rfl ?_
      refine B_get hf l01 rfl fl_X9_9_12 rfl dX9_ages_71 ?_
      refine V_iconst hf dX9_ages_74 ?_
      refine B_iald hf l01 (fun _ => rfl) (by first | exact hR _ _ _ (by decide) | exact ⟨by omega, by omega⟩ | exact Rng.st (Rng.st hR ⟨by decide, by decide⟩) ⟨by decide, by decide⟩ _ _ _ (by decide) | exact Rng.st hR ⟨by decide, by decide⟩ _ _ _ (by decide)) (by omega) (by omega) dX9_ages_75 ?_
      refine V_icmp_ge (tgt := 134) hf ⟨by omega, by omega⟩ ⟨by omega, by omega⟩ dX9_ages_76 (by decide) (fun h76 => ?_) (fun h76 => ?_)
      · exact B_vret hf hk9 dX9_ages_134 (by decide) (by decide) rfl
      · exact absurd h76 (by omega)
    | succ n ih =>
      intro τ k hτ hk0 hkn hn0 hg hx0 hk9
      have hx : 0 ≤ τ 0 41 11 ∧ τ 0 41 11 ≤ 200000100 := by omega
      refine V_iload_n hf dX9_ages_69 rfl rfl ?_
      refine V_aload_n hf dX9_ages_70 rfl rfl ?_
      refine B_get hf l01 rfl fl_X9_9_12 rfl dX9_ages_71 ?_
      refine V_iconst hf dX9_ages_74 ?_
      refine B_iald hf l01 (fun _ => rfl) (by first | exact hR _ _ _ (by decide) | exact ⟨by omega, by omega⟩ | exact Rng.st (Rng.st hR ⟨by decide, by decide⟩) ⟨by decide, by decide⟩ _ _ _ (by decide) | exact Rng.st hR ⟨by decide, by decide⟩ _ _ _ (by decide)) (by omega) (by omega) dX9_ages_75 ?_
      refine V_icmp_ge (tgt := 134) hf ⟨by omega, by omega⟩ ⟨by omega, by omega⟩ dX9_ages_76 (by decide) (fun h76 => ?_) (fun h76 => ?_)
      · exact absurd h76 (by omega)
      · refine V_aload_n hf dX9_ages_79 rfl rfl ?_
        refine B_get hf l01 rfl fl_X9_9_12 rfl dX9_ages_80 ?_
        refine V_iload_n hf dX9_ages_83 rfl rfl ?_
        refine B_callSi hf (As := [_]) (d_offerAtPlace hl0 _ k) cvs_X9_82 rfl (Nat.le_of_ble_eq_true rfl) ⟨by decide, by decide, by decide, by decide⟩ dX9_ages_84 ?_
        refine V_iconst hf dX9_ages_87 ?_
        refine V_iadd hf dX9_ages_88 ?_
        refine V_dup2 hf dX9_ages_89 rfl rfl ?_
        refine B_iald hf l01 (fun _ => rfl) ⟨by omega, by omega⟩ (by omega) (by omega) dX9_ages_90 ?_
        refine V_iconst hf dX9_ages_91 ?_
        refine V_iadd hf dX9_ages_92 ?_
        refine B_iast hf l01 (by decide) (fun _ => rfl) ⟨by omega, by omega⟩ (by omega) (by omega) dX9_ages_93 ?_
        refine V_aload_n hf dX9_ages_94 rfl rfl ?_
        refine B_get hf l01 rfl fl_X9_9_12 rfl dX9_ages_95 ?_
        refine V_iload_n hf dX9_ages_98 rfl rfl ?_
        refine B_callSi hf (As := [_]) (d_offerAtPlace hl0 _ k) cvs_X9_82 rfl (Nat.le_of_ble_eq_true rfl) ⟨by decide, by decide, by decide, by decide⟩ dX9_ages_99 ?_
        refine V_iconst hf dX9_ages_102 ?_
        refine V_iadd hf dX9_ages_103 ?_
        refine B_iald hf l01 (fun _ => rfl) ⟨by omega, by omega⟩ (by omega) (by omega) dX9_ages_104 ?_
        refine V_iconst hf dX9_ages_105 ?_
        refine V_icmp_ne (tgt := 128) hf (by rw [st3_self]; have := hg k (by omega) (by omega); exact ⟨by omega, by omega⟩) ⟨by decide, by decide⟩ dX9_ages_106 (by decide) (fun h106 => ?_) (fun h106 => ?_)
        · rw [show mageR 3 108 4 3 172 (n + 1) τ k = mageR 3 108 4 3 172 n (st3 τ 0 41 (108 + 4 * k + 3) (τ 0 41 (108 + 4 * k + 3) + 1)) (k + 1) from if_neg h106] at hk9
          obtain ⟨u1, u2, u3, u4⟩ := mg1O hτ hk0 (by omega) hn0 hg hx
          refine V_iinc (ls2 := [_, _]) hf dX9_ages_128 (by decide) rfl rfl rfl ?_
          refine V_goto (tgt := 69) hf dX9_ages_131 (by decide) ?_
          first | exact ih _ (k + 1) u1 (by omega) (by omega) (by omega) (fun i h0 h2 => u4 i h0 (by omega)) (by omega) hk9 | exact ih _ k u2 (by omega) (by omega) (by omega) (fun i h0 h2 => u5 i h0 (by omega)) (by omega) hk9
        · rw [show mageR 3 108 4 3 172 (n + 1) τ k = mageR 3 108 4 3 172 n (st3 (closeM (st3 τ 0 41 (108 + 4 * k + 3) (τ 0 41 (108 + 4 * k + 3) + 1)) 3 (108 + 4 * k) 4 172) 0 41 11 ((closeM (st3 τ 0 41 (108 + 4 * k + 3) (τ 0 41 (108 + 4 * k + 3) + 1)) 3 (108 + 4 * k) 4 172) 0 41 11 + 1)) k from if_pos h106] at hk9
          obtain ⟨u1, u2, u3, u4, u5⟩ := mg2O hτ hk0 (by omega) hn0 hg hx
          refine V_aload_n hf dX9_ages_109 rfl rfl ?_
          refine V_iload_n hf dX9_ages_110 rfl rfl ?_
          refine B_callVv hf (As := [_]) (e_closesO hl0 (st3 τ 0 41 (108 + 4 * k + 3) (τ 0 41 (108 + 4 * k + 3) + 1)) (hτ.st (by have := hg k (by omega) (by omega); exact ⟨by omega, by omega⟩)) k ⟨by omega, by omega⟩) cv_X9_166 l01 rfl rfl rfl (Nat.le_of_ble_eq_true rfl) ⟨by decide, by decide, by decide, by decide⟩ dX9_ages_111 ?_
          refine V_aload_n hf dX9_ages_114 rfl rfl ?_
          refine B_get hf l01 rfl fl_X9_9_12 rfl dX9_ages_115 ?_
          refine V_bipush hf dX9_ages_118 (by decide +kernel) ?_
          refine V_dup2 hf dX9_ages_120 rfl rfl ?_
          refine B_iald hf l01 (fun _ => rfl) ⟨by omega, by omega⟩ (by omega) (by omega) dX9_ages_121 ?_
          refine V_iconst hf dX9_ages_122 ?_
          refine V_iadd hf dX9_ages_123 ?_
          refine B_iast hf l01 (by decide) (fun _ => rfl) ⟨by omega, by omega⟩ (by omega) (by omega) dX9_ages_124 ?_
          refine V_goto (tgt := 69) hf dX9_ages_125 (by decide) ?_
          first | exact ih _ (k + 1) u1 (by omega) (by omega) (by omega) (fun i h0 h2 => u4 i h0 (by omega)) (by omega) hk9 | exact ih _ k u2 (by omega) (by omega) (by omega) (fun i h0 h2 => u5 i h0 (by omega)) (by omega) hk9
  have loopB : ∀ (n : Nat) (τ : Mem) (k : Int), Rng τ → 0 ≤ k → k + n = τ 0 41 2 → τ 0 41 2 ≤ 10 → (∀ i : Int, k ≤ i → i < τ 0 41 2 → 0 ≤ τ 0 41 (58 + 5 * i + 4) ∧ τ 0 41 (58 + 5 * i + 4) ≤ 2) → (0 ≤ τ 0 41 11 ∧ τ 0 41 11 + n ≤ 200000100) → B X ad (mageR 2 58 5 4 108 n τ k) 67 [some (.ref (ad 0 40)), none] [] 0 0 → B X ad τ 2 [some (.ref (ad 0 40)), some (.int (iN k))] [] 0 0 := by
    intro n
    induction n with
    | zero =>
      intro τ k hτ hk0 hkn hn0 hg hx hk9
      refine V_iload_n hf dX9_ages_2 rfl rfl ?_
      refine V_aload_n hf dX9_ages_3 rfl rfl ?_
      refine B_get hf l01 rfl fl_X9_9_12 rfl dX9_ages_4 ?_
      refine V_iconst hf dX9_ages_7 ?_
      refine B_iald hf l01 (fun _ => rfl) (by first | exact hR _ _ _ (by decide) | exact ⟨by omega, by omega⟩ | exact Rng.st (Rng.st hR ⟨by decide, by decide⟩) ⟨by decide, by decide⟩ _ _ _ (by decide) | exact Rng.st hR ⟨by decide, by decide⟩ _ _ _ (by decide)) (by omega) (by omega) dX9_ages_8 ?_
      refine V_icmp_ge (tgt := 67) hf ⟨by omega, by omega⟩ ⟨by omega, by omega⟩ dX9_ages_9 (by decide) (fun h9 => ?_) (fun h9 => ?_)
      · refine V_fg (ls2 := [some _, none]) ⟨rfl, trivial⟩ ?_
        exact hk9
      · exact absurd h9 (by omega)
    | succ n ih =>
      intro τ k hτ hk0 hkn hn0 hg hx0 hk9
      have hx : 0 ≤ τ 0 41 11 ∧ τ 0 41 11 ≤ 200000100 := by omega
      refine V_iload_n hf dX9_ages_2 rfl rfl ?_
      refine V_aload_n hf dX9_ages_3 rfl rfl ?_
      refine B_get hf l01 rfl fl_X9_9_12 rfl dX9_ages_4 ?_
      refine V_iconst hf dX9_ages_7 ?_
      refine B_iald hf l01 (fun _ => rfl) (by first | exact hR _ _ _ (by decide) | exact ⟨by omega, by omega⟩ | exact Rng.st (Rng.st hR ⟨by decide, by decide⟩) ⟨by decide, by decide⟩ _ _ _ (by decide) | exact Rng.st hR ⟨by decide, by decide⟩ _ _ _ (by decide)) (by omega) (by omega) dX9_ages_8 ?_
      refine V_icmp_ge (tgt := 67) hf ⟨by omega, by omega⟩ ⟨by omega, by omega⟩ dX9_ages_9 (by decide) (fun h9 => ?_) (fun h9 => ?_)
      · exact absurd h9 (by omega)
      · refine V_aload_n hf dX9_ages_12 rfl rfl ?_
        refine B_get hf l01 rfl fl_X9_9_12 rfl dX9_ages_13 ?_
        refine V_iload_n hf dX9_ages_16 rfl rfl ?_
        refine B_callSi hf (As := [_]) (d_bidAtPlace hl0 _ k) cvs_X9_73 rfl (Nat.le_of_ble_eq_true rfl) ⟨by decide, by decide, by decide, by decide⟩ dX9_ages_17 ?_
        refine V_iconst hf dX9_ages_20 ?_
        refine V_iadd hf dX9_ages_21 ?_
        refine V_dup2 hf dX9_ages_22 rfl rfl ?_
        refine B_iald hf l01 (fun _ => rfl) ⟨by omega, by omega⟩ (by omega) (by omega) dX9_ages_23 ?_
        refine V_iconst hf dX9_ages_24 ?_
        refine V_iadd hf dX9_ages_25 ?_
        refine B_iast hf l01 (by decide) (fun _ => rfl) ⟨by omega, by omega⟩ (by omega) (by omega) dX9_ages_26 ?_
        refine V_aload_n hf dX9_ages_27 rfl rfl ?_
        refine B_get hf l01 rfl fl_X9_9_12 rfl dX9_ages_28 ?_
        refine V_iload_n hf dX9_ages_31 rfl rfl ?_
        refine B_callSi hf (As := [_]) (d_bidAtPlace hl0 _ k) cvs_X9_73 rfl (Nat.le_of_ble_eq_true rfl) ⟨by decide, by decide, by decide, by decide⟩ dX9_ages_32 ?_
        refine V_iconst hf dX9_ages_35 ?_
        refine V_iadd hf dX9_ages_36 ?_
        refine B_iald hf l01 (fun _ => rfl) ⟨by omega, by omega⟩ (by omega) (by omega) dX9_ages_37 ?_
        refine V_iconst hf dX9_ages_38 ?_
        refine V_icmp_ne (tgt := 61) hf (by rw [st3_self]; have := hg k (by omega) (by omega); exact ⟨by omega, by omega⟩) ⟨by decide, by decide⟩ dX9_ages_39 (by decide) (fun h39 => ?_) (fun h39 => ?_)
        · rw [show mageR 2 58 5 4 108 (n + 1) τ k = mageR 2 58 5 4 108 n (st3 τ 0 41 (58 + 5 * k + 4) (τ 0 41 (58 + 5 * k + 4) + 1)) (k + 1) from if_neg h39] at hk9
          obtain ⟨u1, u2, u3, u4⟩ := mg1B hτ hk0 (by omega) hn0 hg hx
          refine V_iinc (ls2 := [_, _]) hf dX9_ages_61 (by decide) rfl rfl rfl ?_
          refine V_goto (tgt := 2) hf dX9_ages_64 (by decide) ?_
          first | exact ih _ (k + 1) u1 (by omega) (by omega) (by omega) (fun i h0 h2 => u4 i h0 (by omega)) (by omega) hk9 | exact ih _ k u2 (by omega) (by omega) (by omega) (fun i h0 h2 => u5 i h0 (by omega)) (by omega) hk9
        · rw [show mageR 2 58 5 4 108 (n + 1) τ k = mageR 2 58 5 4 108 n (st3 (closeM (st3 τ 0 41 (58 + 5 * k + 4) (τ 0 41 (58 + 5 * k + 4) + 1)) 2 (58 + 5 * k) 5 108) 0 41 11 ((closeM (st3 τ 0 41 (58 + 5 * k + 4) (τ 0 41 (58 + 5 * k + 4) + 1)) 2 (58 + 5 * k) 5 108) 0 41 11 + 1)) k from if_pos h39] at hk9
          obtain ⟨u1, u2, u3, u4, u5⟩ := mg2B hτ hk0 (by omega) hn0 hg hx
          refine V_aload_n hf dX9_ages_42 rfl rfl ?_
          refine V_iload_n hf dX9_ages_43 rfl rfl ?_
          refine B_callVv hf (As := [_]) (e_closesB hl0 (st3 τ 0 41 (58 + 5 * k + 4) (τ 0 41 (58 + 5 * k + 4) + 1)) (hτ.st (by have := hg k (by omega) (by omega); exact ⟨by omega, by omega⟩)) k ⟨by omega, by omega⟩) cv_X9_156 l01 rfl rfl rfl (Nat.le_of_ble_eq_true rfl) ⟨by decide, by decide, by decide, by decide⟩ dX9_ages_44 ?_
          refine V_aload_n hf dX9_ages_47 rfl rfl ?_
          refine B_get hf l01 rfl fl_X9_9_12 rfl dX9_ages_48 ?_
          refine V_bipush hf dX9_ages_51 (by decide +kernel) ?_
          refine V_dup2 hf dX9_ages_53 rfl rfl ?_
          refine B_iald hf l01 (fun _ => rfl) ⟨by omega, by omega⟩ (by omega) (by omega) dX9_ages_54 ?_
          refine V_iconst hf dX9_ages_55 ?_
          refine V_iadd hf dX9_ages_56 ?_
          refine B_iast hf l01 (by decide) (fun _ => rfl) ⟨by omega, by omega⟩ (by omega) (by omega) dX9_ages_57 ?_
          refine V_goto (tgt := 2) hf dX9_ages_58 (by decide) ?_
          first | exact ih _ (k + 1) u1 (by omega) (by omega) (by omega) (fun i h0 h2 => u4 i h0 (by omega)) (by omega) hk9 | exact ih _ k u2 (by omega) (by omega) (by omega) (fun i h0 h2 => u5 i h0 (by omega)) (by omega) hk9
  refine V_iconst hf dX9_ages_0 ?_
  refine V_istore_n (ls2 := [_, _]) hf dX9_ages_1 rfl (by decide) rfl rfl ?_
  refine loopB (σ 0 41 2).toNat σ 0 hA.1.1 (by omega) (by have := hA.1.2.1; omega) hA.1.2.1.2 (fun i h0 h2 => hA.1.2.2.1 i h0 h2) (by have := hA.1.2.2.2; have := hA.1.2.1; omega) ?_
  change B X ad (mage1 σ) 67 _ [] 0 0
  refine V_iconst hf dX9_ages_67 ?_
  refine V_istore_n (ls2 := [_, _]) hf dX9_ages_68 rfl (by decide) rfl rfl ?_
  exact loopO (mage1 σ 0 41 3).toNat (mage1 σ) 0 hA.2.1 (by omega) (by have := hA.2.2.1; omega) hA.2.2.1.2 (fun i h0 h2 => hA.2.2.2.1 i h0 h2) (by have := hA.2.2.2.2; have := hA.2.2.1; omega) he

set_option maxHeartbeats 4000000 in
set_option maxRecDepth 100000 in
theorem e_tideIt {l : Launch} {D : va_G} {K : Nat → ClassId} {ad : Adr} (hl0 : l.stackTraces = false) (σ : Mem) (hR : Rng σ) (hT : mtideOk σ) : Cb l D K ad yX9_tideIt (.code yX9_tideIt cX9_tideIt 2 (some .int)) 6 0 0 σ [.ref (ad 0 40)] (.inl (some (.int (iN ((mtide1 σ).2))))) (mtideM σ) := by
  refine Cb.of (own := RX9) (ls0 := [some (.ref (ad 0 40)), none]) hl0 (by decide) rfl (Nat.le_of_ble_eq_true rfl) rfl ?_
  intro X hX1 hX2 hX3 hf he hh
  subst hX1 hX2 hX3
  refine V_aload_n hf dX9_tideIt_0 rfl rfl ?_
  refine B_callVi hf (As := []) (e_auctions hl0 σ hR hT.1.1 hT.1.2) cv_X9_187 l01 rfl rfl rfl (Nat.le_of_ble_eq_true rfl) ⟨by decide, by decide, by decide, by decide⟩ dX9_tideIt_1 ?_
  refine V_istore_n (ls2 := [_, _]) hf dX9_tideIt_4 rfl (by decide) rfl rfl ?_
  refine V_aload_n hf dX9_tideIt_5 rfl rfl ?_
  refine B_callVv hf (As := []) (e_ages hl0 (mtide1 σ).1 hT.2) cv_X9_191 l01 rfl rfl rfl (Nat.le_of_ble_eq_true rfl) ⟨by decide, by decide, by decide, by decide⟩ dX9_tideIt_6 ?_
  refine V_aload_n hf dX9_tideIt_9 rfl rfl ?_
  refine B_get hf l01 rfl fl_X9_9_12 rfl dX9_tideIt_10 ?_
  refine V_bipush hf dX9_tideIt_13 (by decide +kernel) ?_
  refine V_dup2 hf dX9_tideIt_15 rfl rfl ?_
  refine B_iald hf l01 (fun _ => rfl) (by first | exact hR _ _ _ (by decide) | exact ⟨by omega, by omega⟩ | exact Rng.st (Rng.st hR ⟨by decide, by decide⟩) ⟨by decide, by decide⟩ _ _ _ (by decide) | exact Rng.st hR ⟨by decide, by decide⟩ _ _ _ (by decide)) (by omega) (by omega) dX9_tideIt_16 ?_
  refine V_iconst hf dX9_tideIt_17 ?_
  refine V_iadd hf dX9_tideIt_18 ?_
  refine B_iast hf l01 (by decide) (fun _ => rfl) (by first | exact hR _ _ _ (by decide) | exact ⟨by omega, by omega⟩ | exact Rng.st (Rng.st hR ⟨by decide, by decide⟩) ⟨by decide, by decide⟩ _ _ _ (by decide) | exact Rng.st hR ⟨by decide, by decide⟩ _ _ _ (by decide)) (by omega) (by omega) dX9_tideIt_19 ?_
  refine V_iload_n hf dX9_tideIt_20 rfl rfl ?_
  exact B_iret hf he rfl dX9_tideIt_21 (by decide) (by decide) rfl rfl

set_option maxHeartbeats 4000000 in
set_option maxRecDepth 100000 in
theorem e_ship_o {l : Launch} {D : va_G} {K : Nat → ClassId} {ad : Adr} (hl0 : l.stackTraces = false) (σ : Mem) (hR : Rng σ) (hN : NI (σ 0 41)) (c k : Int) (hc : inR c) (hk : inR k) (h1 : 0 ≤ c ∧ c ≤ 99) (h2 : 1 ≤ k ∧ k ≤ 5) (h3 : σ 0 41 0 < 6) : Cb l D K ad yX9_shipIt (.code yX9_shipIt cX9_shipIt 3 (some .int)) 5 0 0 σ [.ref (ad 0 40), .int (iN c), .int (iN k)] (.inl (some (.int (iN (mshipM σ c k 0 41 0 - 1))))) (mshipM σ c k) := by
  refine Cb.of (own := RX9) (ls0 := [some (.ref (ad 0 40)), some (.int (iN c)), some (.int (iN k))]) hl0 (by decide) rfl (Nat.le_of_ble_eq_true rfl) rfl ?_
  intro X hX1 hX2 hX3 hf he hh
  subst hX1 hX2 hX3
  have n0 := hN.n0
  have n1 := hN.n1
  have n2 := hN.n2
  have n3 := hN.n3
  refine V_iload_n hf dX9_shipIt_0 rfl rfl ?_
  refine V_i2l hf (by first | exact hR _ _ _ (by decide) | exact ⟨by omega, by omega⟩ | exact Rng.st (Rng.st hR ⟨by decide, by decide⟩) ⟨by decide, by decide⟩ _ _ _ (by decide) | exact Rng.st hR ⟨by decide, by decide⟩ _ _ _ (by decide)) dX9_shipIt_1 ?_
  refine V_lconst (a := 0) hf (by decide +kernel) dX9_shipIt_2 ?_
  refine V_ldc2 (a := 99) hf (by decide +kernel) wcl_X9_102 dX9_shipIt_3 ?_
  refine B_callSi hf (As := [_, _, _]) (d_in hl0 σ (c) (0) (99) hc ⟨by decide, by decide⟩ ⟨by decide, by decide⟩) cvs_X9_63 rfl (Nat.le_of_ble_eq_true rfl) ⟨by decide, by decide, by decide, by decide⟩ dX9_shipIt_6 ?_
  refine V_if_eq (tgt := 24) hf (by split <;> exact ⟨by decide, by decide⟩) dX9_shipIt_9 (by decide) (fun h9 => ?_) (fun h9 => ?_)
  · exact absurd h9 (by first | omega | (split at h9 <;> omega))
  · refine V_iload_n hf dX9_shipIt_12 rfl rfl ?_
    refine V_i2l hf (by first | exact hR _ _ _ (by decide) | exact ⟨by omega, by omega⟩ | exact Rng.st (Rng.st hR ⟨by decide, by decide⟩) ⟨by decide, by decide⟩ _ _ _ (by decide) | exact Rng.st hR ⟨by decide, by decide⟩ _ _ _ (by decide)) dX9_shipIt_13 ?_
    refine V_lconst (a := 1) hf (by decide +kernel) dX9_shipIt_14 ?_
    refine V_ldc2 (a := 5) hf (by decide +kernel) wcl_X9_104 dX9_shipIt_15 ?_
    refine B_callSi hf (As := [_, _, _]) (d_in hl0 σ (k) (1) (5) hk ⟨by decide, by decide⟩ ⟨by decide, by decide⟩) cvs_X9_63 rfl (Nat.le_of_ble_eq_true rfl) ⟨by decide, by decide, by decide, by decide⟩ dX9_shipIt_18 ?_
    refine V_if_ne (tgt := 30) hf (by split <;> exact ⟨by decide, by decide⟩) dX9_shipIt_21 (by decide) (fun h21 => ?_) (fun h21 => ?_)
    · refine V_aload_n hf dX9_shipIt_30 rfl rfl ?_
      refine B_get hf l01 rfl fl_X9_9_12 rfl dX9_shipIt_31 ?_
      refine V_iconst hf dX9_shipIt_34 ?_
      refine B_iald hf l01 (fun _ => rfl) (by first | exact hR _ _ _ (by decide) | exact ⟨by omega, by omega⟩ | exact Rng.st (Rng.st hR ⟨by decide, by decide⟩) ⟨by decide, by decide⟩ _ _ _ (by decide) | exact Rng.st hR ⟨by decide, by decide⟩ _ _ _ (by decide)) (by omega) (by omega) dX9_shipIt_35 ?_
      refine V_bipush hf dX9_shipIt_36 (by decide +kernel) ?_
      refine V_icmp_ne (tgt := 50) hf (by first | exact hR _ _ _ (by decide) | exact ⟨by omega, by omega⟩ | exact Rng.st (Rng.st hR ⟨by decide, by decide⟩) ⟨by decide, by decide⟩ _ _ _ (by decide) | exact Rng.st hR ⟨by decide, by decide⟩ _ _ _ (by decide)) (by first | exact hR _ _ _ (by decide) | exact ⟨by omega, by omega⟩ | exact Rng.st (Rng.st hR ⟨by decide, by decide⟩) ⟨by decide, by decide⟩ _ _ _ (by decide) | exact Rng.st hR ⟨by decide, by decide⟩ _ _ _ (by decide)) dX9_shipIt_38 (by decide) (fun h38 => ?_) (fun h38 => ?_)
      · refine V_aload_n hf dX9_shipIt_50 rfl rfl ?_
        refine B_get hf l01 rfl fl_X9_9_12 rfl dX9_shipIt_51 ?_
        refine V_aload_n hf dX9_shipIt_54 rfl rfl ?_
        refine B_get hf l01 rfl fl_X9_9_12 rfl dX9_shipIt_55 ?_
        refine V_iconst hf dX9_shipIt_58 ?_
        refine B_iald hf l01 (fun _ => rfl) (by first | exact hR _ _ _ (by decide) | exact ⟨by omega, by omega⟩ | exact Rng.st (Rng.st hR ⟨by decide, by decide⟩) ⟨by decide, by decide⟩ _ _ _ (by decide) | exact Rng.st hR ⟨by decide, by decide⟩ _ _ _ (by decide)) (by omega) (by omega) dX9_shipIt_59 ?_
        refine B_callSi hf (As := [_]) (d_shipAt hl0 σ (σ 0 41 0)) cvs_X9_67 rfl (Nat.le_of_ble_eq_true rfl) ⟨by decide, by decide, by decide, by decide⟩ dX9_shipIt_60 ?_
        refine V_iload_n hf dX9_shipIt_63 rfl rfl ?_
        refine B_iast hf l01 (by decide) (fun _ => rfl) ⟨by omega, by omega⟩ (by omega) (by omega) dX9_shipIt_64 ?_
        refine V_aload_n hf dX9_shipIt_65 rfl rfl ?_
        refine B_get hf l01 rfl fl_X9_9_12 rfl dX9_shipIt_66 ?_
        refine V_aload_n hf dX9_shipIt_69 rfl rfl ?_
        refine B_get hf l01 rfl fl_X9_9_12 rfl dX9_shipIt_70 ?_
        refine V_iconst hf dX9_shipIt_73 ?_
        refine B_iald hf l01 (fun _ => rfl) (by first | exact hR _ _ _ (by decide) | exact ⟨by omega, by omega⟩ | exact Rng.st (Rng.st hR ⟨by decide, by decide⟩) ⟨by decide, by decide⟩ _ _ _ (by decide) | exact Rng.st hR ⟨by decide, by decide⟩ _ _ _ (by decide)) (by omega) (by omega) dX9_shipIt_74 ?_
        refine B_callSi hf (As := [_]) (d_shipAt hl0 _ _) cvs_X9_67 rfl (Nat.le_of_ble_eq_true rfl) ⟨by decide, by decide, by decide, by decide⟩ dX9_shipIt_75 ?_
        refine V_iconst hf dX9_shipIt_78 ?_
        refine V_iadd hf dX9_shipIt_79 ?_
        refine V_iload_n hf dX9_shipIt_80 rfl rfl ?_
        refine B_iast hf l01 (by decide) (fun _ => rfl) (by rw [st3_k (by omega)]; exact ⟨by omega, by omega⟩) (by rw [st3_k (by omega)]; omega) (by rw [st3_k (by omega)]; omega) dX9_shipIt_81 ?_
        refine V_aload_n hf dX9_shipIt_82 rfl rfl ?_
        refine B_get hf l01 rfl fl_X9_9_12 rfl dX9_shipIt_83 ?_
        refine V_bipush hf dX9_shipIt_86 (by decide +kernel) ?_
        refine V_dup2 hf dX9_shipIt_88 rfl rfl ?_
        refine B_iald hf l01 (fun _ => rfl) (by first | exact hR _ _ _ (by decide) | exact ⟨by omega, by omega⟩ | exact Rng.st (Rng.st hR ⟨by decide, by decide⟩) ⟨by decide, by decide⟩ _ _ _ (by decide) | exact Rng.st hR ⟨by decide, by decide⟩ _ _ _ (by decide)) (by omega) (by omega) dX9_shipIt_89 ?_
        refine V_iload_n hf dX9_shipIt_90 rfl rfl ?_
        refine V_iadd hf dX9_shipIt_91 ?_
        refine B_iast hf l01 (by decide) (fun _ => rfl) (by first | exact hR _ _ _ (by decide) | exact ⟨by omega, by omega⟩ | exact Rng.st (Rng.st hR ⟨by decide, by decide⟩) ⟨by decide, by decide⟩ _ _ _ (by decide) | exact Rng.st hR ⟨by decide, by decide⟩ _ _ _ (by decide)) (by omega) (by omega) dX9_shipIt_92 ?_
        refine V_aload_n hf dX9_shipIt_93 rfl rfl ?_
        refine B_get hf l01 rfl fl_X9_9_12 rfl dX9_shipIt_94 ?_
        refine V_iconst hf dX9_shipIt_97 ?_
        refine V_dup2 hf dX9_shipIt_98 rfl rfl ?_
        refine B_iald hf l01 (fun _ => rfl) (by first | exact hR _ _ _ (by decide) | exact ⟨by omega, by omega⟩ | exact Rng.st (Rng.st hR ⟨by decide, by decide⟩) ⟨by decide, by decide⟩ _ _ _ (by decide) | exact Rng.st hR ⟨by decide, by decide⟩ _ _ _ (by decide)) (by omega) (by omega) dX9_shipIt_99 ?_
        refine V_iconst hf dX9_shipIt_100 ?_
        refine V_iadd hf dX9_shipIt_101 ?_
        refine B_iast hf l01 (by decide) (fun _ => rfl) (by first | exact hR _ _ _ (by decide) | exact ⟨by omega, by omega⟩ | exact Rng.st (Rng.st hR ⟨by decide, by decide⟩) ⟨by decide, by decide⟩ _ _ _ (by decide) | exact Rng.st hR ⟨by decide, by decide⟩ _ _ _ (by decide)) (by omega) (by omega) dX9_shipIt_102 ?_
        refine V_aload_n hf dX9_shipIt_103 rfl rfl ?_
        refine B_get hf l01 rfl fl_X9_9_12 rfl dX9_shipIt_104 ?_
        refine V_iconst hf dX9_shipIt_107 ?_
        refine B_iald hf l01 (fun _ => rfl) (by first | exact hR _ _ _ (by decide) | exact ⟨by omega, by omega⟩ | exact Rng.st (Rng.st hR ⟨by decide, by decide⟩) ⟨by decide, by decide⟩ _ _ _ (by decide) | exact Rng.st hR ⟨by decide, by decide⟩ _ _ _ (by decide)) (by omega) (by omega) dX9_shipIt_108 ?_
        refine V_iconst hf dX9_shipIt_109 ?_
        refine V_isub hf dX9_shipIt_110 ?_
        exact B_iret hf he rfl dX9_shipIt_111 (by decide) (by decide) rfl rfl
      · exact absurd h38 (by first | omega | (split at h38 <;> omega))
    · exact absurd h21 (by first | omega | (split at h21 <;> omega))

set_option maxHeartbeats 4000000 in
set_option maxRecDepth 100000 in
theorem e_ship_1 {l : Launch} {D : va_G} {K : Nat → ClassId} {ad : Adr} (hl0 : l.stackTraces = false) (σ : Mem) (hR : Rng σ) (hN : NI (σ 0 41)) (c k : Int) (hc : inR c) (hk : inR k) (h1 : ¬ ((0 ≤ c ∧ c ≤ 99) ∧ 1 ≤ k ∧ k ≤ 5)) : Cb l D K ad yX9_shipIt (.code yX9_shipIt cX9_shipIt 3 (some .int)) 5 0 0 σ [.ref (ad 0 40), .int (iN c), .int (iN k)] (.inl (some (.int (iN (-1))))) (thrM σ 1) := by
  refine Cb.of (own := RX9) (ls0 := [some (.ref (ad 0 40)), some (.int (iN c)), some (.int (iN k))]) hl0 (by decide) rfl (Nat.le_of_ble_eq_true rfl) rfl ?_
  intro X hX1 hX2 hX3 hf he hh
  subst hX1 hX2 hX3
  have n0 := hN.n0
  have n1 := hN.n1
  have n2 := hN.n2
  have n3 := hN.n3
  refine V_iload_n hf dX9_shipIt_0 rfl rfl ?_
  refine V_i2l hf (by first | exact hR _ _ _ (by decide) | exact ⟨by omega, by omega⟩ | exact Rng.st (Rng.st hR ⟨by decide, by decide⟩) ⟨by decide, by decide⟩ _ _ _ (by decide) | exact Rng.st hR ⟨by decide, by decide⟩ _ _ _ (by decide)) dX9_shipIt_1 ?_
  refine V_lconst (a := 0) hf (by decide +kernel) dX9_shipIt_2 ?_
  refine V_ldc2 (a := 99) hf (by decide +kernel) wcl_X9_102 dX9_shipIt_3 ?_
  refine B_callSi hf (As := [_, _, _]) (d_in hl0 σ (c) (0) (99) hc ⟨by decide, by decide⟩ ⟨by decide, by decide⟩) cvs_X9_63 rfl (Nat.le_of_ble_eq_true rfl) ⟨by decide, by decide, by decide, by decide⟩ dX9_shipIt_6 ?_
  refine V_if_eq (tgt := 24) hf (by split <;> exact ⟨by decide, by decide⟩) dX9_shipIt_9 (by decide) (fun h9 => ?_) (fun h9 => ?_)
  · refine V_aload_n hf dX9_shipIt_24 rfl rfl ?_
    refine V_iconst hf dX9_shipIt_25 ?_
    refine B_callVi hf (As := [_]) (d_throwing hl0 σ hR 1) cv_X9_47 l01 rfl rfl rfl (Nat.le_of_ble_eq_true rfl) ⟨by decide, by decide, by decide, by decide⟩ dX9_shipIt_26 ?_
    exact B_iret hf he rfl dX9_shipIt_29 (by decide) (by decide) rfl rfl
  · refine V_iload_n hf dX9_shipIt_12 rfl rfl ?_
    refine V_i2l hf (by first | exact hR _ _ _ (by decide) | exact ⟨by omega, by omega⟩ | exact Rng.st (Rng.st hR ⟨by decide, by decide⟩) ⟨by decide, by decide⟩ _ _ _ (by decide) | exact Rng.st hR ⟨by decide, by decide⟩ _ _ _ (by decide)) dX9_shipIt_13 ?_
    refine V_lconst (a := 1) hf (by decide +kernel) dX9_shipIt_14 ?_
    refine V_ldc2 (a := 5) hf (by decide +kernel) wcl_X9_104 dX9_shipIt_15 ?_
    refine B_callSi hf (As := [_, _, _]) (d_in hl0 σ (k) (1) (5) hk ⟨by decide, by decide⟩ ⟨by decide, by decide⟩) cvs_X9_63 rfl (Nat.le_of_ble_eq_true rfl) ⟨by decide, by decide, by decide, by decide⟩ dX9_shipIt_18 ?_
    refine V_if_ne (tgt := 30) hf (by split <;> exact ⟨by decide, by decide⟩) dX9_shipIt_21 (by decide) (fun h21 => ?_) (fun h21 => ?_)
    · exact absurd h21 (by first | omega | (split at h21 <;> omega))
    · refine V_aload_n hf dX9_shipIt_24 rfl rfl ?_
      refine V_iconst hf dX9_shipIt_25 ?_
      refine B_callVi hf (As := [_]) (d_throwing hl0 σ hR 1) cv_X9_47 l01 rfl rfl rfl (Nat.le_of_ble_eq_true rfl) ⟨by decide, by decide, by decide, by decide⟩ dX9_shipIt_26 ?_
      exact B_iret hf he rfl dX9_shipIt_29 (by decide) (by decide) rfl rfl

set_option maxHeartbeats 4000000 in
set_option maxRecDepth 100000 in
theorem e_ship_2 {l : Launch} {D : va_G} {K : Nat → ClassId} {ad : Adr} (hl0 : l.stackTraces = false) (σ : Mem) (hR : Rng σ) (hN : NI (σ 0 41)) (c k : Int) (hc : inR c) (hk : inR k) (h1 : 0 ≤ c ∧ c ≤ 99) (h2 : 1 ≤ k ∧ k ≤ 5) (h3 : σ 0 41 0 = 6) : Cb l D K ad yX9_shipIt (.code yX9_shipIt cX9_shipIt 3 (some .int)) 5 0 0 σ [.ref (ad 0 40), .int (iN c), .int (iN k)] (.inl (some (.int (iN (-1))))) (rjM σ 2 1 6) := by
  refine Cb.of (own := RX9) (ls0 := [some (.ref (ad 0 40)), some (.int (iN c)), some (.int (iN k))]) hl0 (by decide) rfl (Nat.le_of_ble_eq_true rfl) rfl ?_
  intro X hX1 hX2 hX3 hf he hh
  subst hX1 hX2 hX3
  have n0 := hN.n0
  have n1 := hN.n1
  have n2 := hN.n2
  have n3 := hN.n3
  refine V_iload_n hf dX9_shipIt_0 rfl rfl ?_
  refine V_i2l hf (by first | exact hR _ _ _ (by decide) | exact ⟨by omega, by omega⟩ | exact Rng.st (Rng.st hR ⟨by decide, by decide⟩) ⟨by decide, by decide⟩ _ _ _ (by decide) | exact Rng.st hR ⟨by decide, by decide⟩ _ _ _ (by decide)) dX9_shipIt_1 ?_
  refine V_lconst (a := 0) hf (by decide +kernel) dX9_shipIt_2 ?_
  refine V_ldc2 (a := 99) hf (by decide +kernel) wcl_X9_102 dX9_shipIt_3 ?_
  refine B_callSi hf (As := [_, _, _]) (d_in hl0 σ (c) (0) (99) hc ⟨by decide, by decide⟩ ⟨by decide, by decide⟩) cvs_X9_63 rfl (Nat.le_of_ble_eq_true rfl) ⟨by decide, by decide, by decide, by decide⟩ dX9_shipIt_6 ?_
  refine V_if_eq (tgt := 24) hf (by split <;> exact ⟨by decide, by decide⟩) dX9_shipIt_9 (by decide) (fun h9 => ?_) (fun h9 => ?_)
  · exact absurd h9 (by first | omega | (split at h9 <;> omega))
  · refine V_iload_n hf dX9_shipIt_12 rfl rfl ?_
    refine V_i2l hf (by first | exact hR _ _ _ (by decide) | exact ⟨by omega, by omega⟩ | exact Rng.st (Rng.st hR ⟨by decide, by decide⟩) ⟨by decide, by decide⟩ _ _ _ (by decide) | exact Rng.st hR ⟨by decide, by decide⟩ _ _ _ (by decide)) dX9_shipIt_13 ?_
    refine V_lconst (a := 1) hf (by decide +kernel) dX9_shipIt_14 ?_
    refine V_ldc2 (a := 5) hf (by decide +kernel) wcl_X9_104 dX9_shipIt_15 ?_
    refine B_callSi hf (As := [_, _, _]) (d_in hl0 σ (k) (1) (5) hk ⟨by decide, by decide⟩ ⟨by decide, by decide⟩) cvs_X9_63 rfl (Nat.le_of_ble_eq_true rfl) ⟨by decide, by decide, by decide, by decide⟩ dX9_shipIt_18 ?_
    refine V_if_ne (tgt := 30) hf (by split <;> exact ⟨by decide, by decide⟩) dX9_shipIt_21 (by decide) (fun h21 => ?_) (fun h21 => ?_)
    · refine V_aload_n hf dX9_shipIt_30 rfl rfl ?_
      refine B_get hf l01 rfl fl_X9_9_12 rfl dX9_shipIt_31 ?_
      refine V_iconst hf dX9_shipIt_34 ?_
      refine B_iald hf l01 (fun _ => rfl) (by first | exact hR _ _ _ (by decide) | exact ⟨by omega, by omega⟩ | exact Rng.st (Rng.st hR ⟨by decide, by decide⟩) ⟨by decide, by decide⟩ _ _ _ (by decide) | exact Rng.st hR ⟨by decide, by decide⟩ _ _ _ (by decide)) (by omega) (by omega) dX9_shipIt_35 ?_
      refine V_bipush hf dX9_shipIt_36 (by decide +kernel) ?_
      refine V_icmp_ne (tgt := 50) hf (by first | exact hR _ _ _ (by decide) | exact ⟨by omega, by omega⟩ | exact Rng.st (Rng.st hR ⟨by decide, by decide⟩) ⟨by decide, by decide⟩ _ _ _ (by decide) | exact Rng.st hR ⟨by decide, by decide⟩ _ _ _ (by decide)) (by first | exact hR _ _ _ (by decide) | exact ⟨by omega, by omega⟩ | exact Rng.st (Rng.st hR ⟨by decide, by decide⟩) ⟨by decide, by decide⟩ _ _ _ (by decide) | exact Rng.st hR ⟨by decide, by decide⟩ _ _ _ (by decide)) dX9_shipIt_38 (by decide) (fun h38 => ?_) (fun h38 => ?_)
      · exact absurd h38 (by first | omega | (split at h38 <;> omega))
      · refine V_aload_n hf dX9_shipIt_41 rfl rfl ?_
        refine V_iconst hf dX9_shipIt_42 ?_
        refine V_iconst hf dX9_shipIt_43 ?_
        refine V_bipush hf dX9_shipIt_44 (by decide +kernel) ?_
        refine B_callVi hf (As := [_, _, _]) (d_rejecting hl0 σ 1 (6) ((hR.st ⟨by decide, by decide⟩).st ⟨by decide, by decide⟩) 2) cv_X9_106 l01 rfl rfl rfl (Nat.le_of_ble_eq_true rfl) ⟨by decide, by decide, by decide, by decide⟩ dX9_shipIt_46 ?_
        exact B_iret hf he rfl dX9_shipIt_49 (by decide) (by decide) rfl rfl
    · exact absurd h21 (by first | omega | (split at h21 <;> omega))

set_option maxHeartbeats 4000000 in
set_option maxRecDepth 100000 in
theorem e_barn_o {l : Launch} {D : va_G} {K : Nat → ClassId} {ad : Adr} (hl0 : l.stackTraces = false) (σ : Mem) (hR : Rng σ) (hN : NI (σ 0 41)) (s a : Int) (hs : inR s) (ha : inR a) (h1 : 0 ≤ s ∧ s < σ 0 41 0) (h2 : 1 ≤ a ∧ a ≤ 9) (h3 : σ 0 41 1 < 16) (h4 : 0 < mplaces (σ 0 41) s) : Cb l D K ad yX9_barnacleIt (.code yX9_barnacleIt cX9_barnacleIt 3 (some .int)) 5 0 0 σ [.ref (ad 0 40), .int (iN s), .int (iN a)] (.inl (some (.int (iN (mbarnM σ s a 0 41 1 - 1))))) (mbarnM σ s a) := by
  refine Cb.of (own := RX9) (ls0 := [some (.ref (ad 0 40)), some (.int (iN s)), some (.int (iN a))]) hl0 (by decide) rfl (Nat.le_of_ble_eq_true rfl) rfl ?_
  intro X hX1 hX2 hX3 hf he hh
  subst hX1 hX2 hX3
  have n0 := hN.n0
  have n1 := hN.n1
  have n2 := hN.n2
  have n3 := hN.n3
  refine V_aload_n hf dX9_barnacleIt_0 rfl rfl ?_
  refine V_iload_n hf dX9_barnacleIt_1 rfl rfl ?_
  refine B_callVi hf (As := [_]) (d_isShip hl0 σ hR hN s hs) cv_X9_120 l01 rfl rfl rfl (Nat.le_of_ble_eq_true rfl) ⟨by decide, by decide, by decide, by decide⟩ dX9_barnacleIt_2 ?_
  refine V_if_ne (tgt := 14) hf (by split <;> exact ⟨by decide, by decide⟩) dX9_barnacleIt_5 (by decide) (fun h5 => ?_) (fun h5 => ?_)
  · refine V_iload_n hf dX9_barnacleIt_14 rfl rfl ?_
    refine V_i2l hf (by first | exact hR _ _ _ (by decide) | exact ⟨by omega, by omega⟩ | exact Rng.st (Rng.st hR ⟨by decide, by decide⟩) ⟨by decide, by decide⟩ _ _ _ (by decide) | exact Rng.st hR ⟨by decide, by decide⟩ _ _ _ (by decide)) dX9_barnacleIt_15 ?_
    refine V_lconst (a := 1) hf (by decide +kernel) dX9_barnacleIt_16 ?_
    refine V_ldc2 (a := 9) hf (by decide +kernel) wcl_X9_124 dX9_barnacleIt_17 ?_
    refine B_callSi hf (As := [_, _, _]) (d_in hl0 σ (a) (1) (9) ha ⟨by decide, by decide⟩ ⟨by decide, by decide⟩) cvs_X9_63 rfl (Nat.le_of_ble_eq_true rfl) ⟨by decide, by decide, by decide, by decide⟩ dX9_barnacleIt_20 ?_
    refine V_if_ne (tgt := 32) hf (by split <;> exact ⟨by decide, by decide⟩) dX9_barnacleIt_23 (by decide) (fun h23 => ?_) (fun h23 => ?_)
    · refine V_aload_n hf dX9_barnacleIt_32 rfl rfl ?_
      refine B_get hf l01 rfl fl_X9_9_12 rfl dX9_barnacleIt_33 ?_
      refine V_iconst hf dX9_barnacleIt_36 ?_
      refine B_iald hf l01 (fun _ => rfl) (by first | exact hR _ _ _ (by decide) | exact ⟨by omega, by omega⟩ | exact Rng.st (Rng.st hR ⟨by decide, by decide⟩) ⟨by decide, by decide⟩ _ _ _ (by decide) | exact Rng.st hR ⟨by decide, by decide⟩ _ _ _ (by decide)) (by omega) (by omega) dX9_barnacleIt_37 ?_
      refine V_bipush hf dX9_barnacleIt_38 (by decide +kernel) ?_
      refine V_icmp_ne (tgt := 52) hf (by first | exact hR _ _ _ (by decide) | exact ⟨by omega, by omega⟩ | exact Rng.st (Rng.st hR ⟨by decide, by decide⟩) ⟨by decide, by decide⟩ _ _ _ (by decide) | exact Rng.st hR ⟨by decide, by decide⟩ _ _ _ (by decide)) (by first | exact hR _ _ _ (by decide) | exact ⟨by omega, by omega⟩ | exact Rng.st (Rng.st hR ⟨by decide, by decide⟩) ⟨by decide, by decide⟩ _ _ _ (by decide) | exact Rng.st hR ⟨by decide, by decide⟩ _ _ _ (by decide)) dX9_barnacleIt_40 (by decide) (fun h40 => ?_) (fun h40 => ?_)
      · refine V_aload_n hf dX9_barnacleIt_52 rfl rfl ?_
        refine V_iload_n hf dX9_barnacleIt_53 rfl rfl ?_
        refine B_callVi hf (As := [_]) (d_places hl0 σ hR hN s ⟨by omega, by omega⟩) cv_X9_126 l01 rfl rfl rfl (Nat.le_of_ble_eq_true rfl) ⟨by decide, by decide, by decide, by decide⟩ dX9_barnacleIt_54 ?_
        refine V_if_gt (tgt := 72) hf (by have := mplaces_r hN (s := s) (by omega) (by omega); exact ⟨by omega, by omega⟩) dX9_barnacleIt_57 (by decide) (fun h57 => ?_) (fun h57 => ?_)
        · refine V_aload_n hf dX9_barnacleIt_72 rfl rfl ?_
          refine B_get hf l01 rfl fl_X9_9_12 rfl dX9_barnacleIt_73 ?_
          refine V_aload_n hf dX9_barnacleIt_76 rfl rfl ?_
          refine B_get hf l01 rfl fl_X9_9_12 rfl dX9_barnacleIt_77 ?_
          refine V_iconst hf dX9_barnacleIt_80 ?_
          refine B_iald hf l01 (fun _ => rfl) (by first | exact hR _ _ _ (by decide) | exact ⟨by omega, by omega⟩ | exact Rng.st (Rng.st hR ⟨by decide, by decide⟩) ⟨by decide, by decide⟩ _ _ _ (by decide) | exact Rng.st hR ⟨by decide, by decide⟩ _ _ _ (by decide)) (by omega) (by omega) dX9_barnacleIt_81 ?_
          refine B_callSi hf (As := [_]) (d_barnacleAtPlace hl0 σ (σ 0 41 1)) cvs_X9_70 rfl (Nat.le_of_ble_eq_true rfl) ⟨by decide, by decide, by decide, by decide⟩ dX9_barnacleIt_82 ?_
          refine V_iload_n hf dX9_barnacleIt_85 rfl rfl ?_
          refine B_iast hf l01 (by decide) (fun _ => rfl) ⟨by omega, by omega⟩ (by omega) (by omega) dX9_barnacleIt_86 ?_
          refine V_aload_n hf dX9_barnacleIt_87 rfl rfl ?_
          refine B_get hf l01 rfl fl_X9_9_12 rfl dX9_barnacleIt_88 ?_
          refine V_aload_n hf dX9_barnacleIt_91 rfl rfl ?_
          refine B_get hf l01 rfl fl_X9_9_12 rfl dX9_barnacleIt_92 ?_
          refine V_iconst hf dX9_barnacleIt_95 ?_
          refine B_iald hf l01 (fun _ => rfl) (by first | exact hR _ _ _ (by decide) | exact ⟨by omega, by omega⟩ | exact Rng.st (Rng.st hR ⟨by decide, by decide⟩) ⟨by decide, by decide⟩ _ _ _ (by decide) | exact Rng.st hR ⟨by decide, by decide⟩ _ _ _ (by decide)) (by omega) (by omega) dX9_barnacleIt_96 ?_
          refine B_callSi hf (As := [_]) (d_barnacleAtPlace hl0 _ _) cvs_X9_70 rfl (Nat.le_of_ble_eq_true rfl) ⟨by decide, by decide, by decide, by decide⟩ dX9_barnacleIt_97 ?_
          refine V_iconst hf dX9_barnacleIt_100 ?_
          refine V_iadd hf dX9_barnacleIt_101 ?_
          refine V_iload_n hf dX9_barnacleIt_102 rfl rfl ?_
          refine B_iast hf l01 (by decide) (fun _ => rfl) (by rw [st3_k (by omega)]; exact ⟨by omega, by omega⟩) (by rw [st3_k (by omega)]; omega) (by rw [st3_k (by omega)]; omega) dX9_barnacleIt_103 ?_
          refine V_aload_n hf dX9_barnacleIt_104 rfl rfl ?_
          refine B_get hf l01 rfl fl_X9_9_12 rfl dX9_barnacleIt_105 ?_
          refine V_iconst hf dX9_barnacleIt_108 ?_
          refine V_dup2 hf dX9_barnacleIt_109 rfl rfl ?_
          refine B_iald hf l01 (fun _ => rfl) (by first | exact hR _ _ _ (by decide) | exact ⟨by omega, by omega⟩ | exact Rng.st (Rng.st hR ⟨by decide, by decide⟩) ⟨by decide, by decide⟩ _ _ _ (by decide) | exact Rng.st hR ⟨by decide, by decide⟩ _ _ _ (by decide)) (by omega) (by omega) dX9_barnacleIt_110 ?_
          refine V_iconst hf dX9_barnacleIt_111 ?_
          refine V_iadd hf dX9_barnacleIt_112 ?_
          refine B_iast hf l01 (by decide) (fun _ => rfl) (by first | exact hR _ _ _ (by decide) | exact ⟨by omega, by omega⟩ | exact Rng.st (Rng.st hR ⟨by decide, by decide⟩) ⟨by decide, by decide⟩ _ _ _ (by decide) | exact Rng.st hR ⟨by decide, by decide⟩ _ _ _ (by decide)) (by omega) (by omega) dX9_barnacleIt_113 ?_
          refine V_aload_n hf dX9_barnacleIt_114 rfl rfl ?_
          refine B_get hf l01 rfl fl_X9_9_12 rfl dX9_barnacleIt_115 ?_
          refine V_iconst hf dX9_barnacleIt_118 ?_
          refine B_iald hf l01 (fun _ => rfl) (by first | exact hR _ _ _ (by decide) | exact ⟨by omega, by omega⟩ | exact Rng.st (Rng.st hR ⟨by decide, by decide⟩) ⟨by decide, by decide⟩ _ _ _ (by decide) | exact Rng.st hR ⟨by decide, by decide⟩ _ _ _ (by decide)) (by omega) (by omega) dX9_barnacleIt_119 ?_
          refine V_iconst hf dX9_barnacleIt_120 ?_
          refine V_isub hf dX9_barnacleIt_121 ?_
          exact B_iret hf he rfl dX9_barnacleIt_122 (by decide) (by decide) rfl rfl
        · exact absurd h57 (by first | omega | (split at h57 <;> omega))
      · exact absurd h40 (by first | omega | (split at h40 <;> omega))
    · exact absurd h23 (by first | omega | (split at h23 <;> omega))
  · exact absurd h5 (by first | omega | (split at h5 <;> omega))

set_option maxHeartbeats 4000000 in
set_option maxRecDepth 100000 in
theorem e_barn_1 {l : Launch} {D : va_G} {K : Nat → ClassId} {ad : Adr} (hl0 : l.stackTraces = false) (σ : Mem) (hR : Rng σ) (hN : NI (σ 0 41)) (s a : Int) (hs : inR s) (ha : inR a) (h1 : ¬ (0 ≤ s ∧ s < σ 0 41 0)) : Cb l D K ad yX9_barnacleIt (.code yX9_barnacleIt cX9_barnacleIt 3 (some .int)) 5 0 0 σ [.ref (ad 0 40), .int (iN s), .int (iN a)] (.inl (some (.int (iN (-1))))) (thrM σ 1) := by
  refine Cb.of (own := RX9) (ls0 := [some (.ref (ad 0 40)), some (.int (iN s)), some (.int (iN a))]) hl0 (by decide) rfl (Nat.le_of_ble_eq_true rfl) rfl ?_
  intro X hX1 hX2 hX3 hf he hh
  subst hX1 hX2 hX3
  have n0 := hN.n0
  have n1 := hN.n1
  have n2 := hN.n2
  have n3 := hN.n3
  refine V_aload_n hf dX9_barnacleIt_0 rfl rfl ?_
  refine V_iload_n hf dX9_barnacleIt_1 rfl rfl ?_
  refine B_callVi hf (As := [_]) (d_isShip hl0 σ hR hN s hs) cv_X9_120 l01 rfl rfl rfl (Nat.le_of_ble_eq_true rfl) ⟨by decide, by decide, by decide, by decide⟩ dX9_barnacleIt_2 ?_
  refine V_if_ne (tgt := 14) hf (by split <;> exact ⟨by decide, by decide⟩) dX9_barnacleIt_5 (by decide) (fun h5 => ?_) (fun h5 => ?_)
  · exact absurd h5 (by first | omega | (split at h5 <;> omega))
  · refine V_aload_n hf dX9_barnacleIt_8 rfl rfl ?_
    refine V_iconst hf dX9_barnacleIt_9 ?_
    refine B_callVi hf (As := [_]) (d_throwing hl0 σ hR 1) cv_X9_47 l01 rfl rfl rfl (Nat.le_of_ble_eq_true rfl) ⟨by decide, by decide, by decide, by decide⟩ dX9_barnacleIt_10 ?_
    exact B_iret hf he rfl dX9_barnacleIt_13 (by decide) (by decide) rfl rfl

set_option maxHeartbeats 4000000 in
set_option maxRecDepth 100000 in
theorem e_barn_2 {l : Launch} {D : va_G} {K : Nat → ClassId} {ad : Adr} (hl0 : l.stackTraces = false) (σ : Mem) (hR : Rng σ) (hN : NI (σ 0 41)) (s a : Int) (hs : inR s) (ha : inR a) (h1 : 0 ≤ s ∧ s < σ 0 41 0) (h2 : ¬ (1 ≤ a ∧ a ≤ 9)) : Cb l D K ad yX9_barnacleIt (.code yX9_barnacleIt cX9_barnacleIt 3 (some .int)) 5 0 0 σ [.ref (ad 0 40), .int (iN s), .int (iN a)] (.inl (some (.int (iN (-1))))) (thrM σ 2) := by
  refine Cb.of (own := RX9) (ls0 := [some (.ref (ad 0 40)), some (.int (iN s)), some (.int (iN a))]) hl0 (by decide) rfl (Nat.le_of_ble_eq_true rfl) rfl ?_
  intro X hX1 hX2 hX3 hf he hh
  subst hX1 hX2 hX3
  have n0 := hN.n0
  have n1 := hN.n1
  have n2 := hN.n2
  have n3 := hN.n3
  refine V_aload_n hf dX9_barnacleIt_0 rfl rfl ?_
  refine V_iload_n hf dX9_barnacleIt_1 rfl rfl ?_
  refine B_callVi hf (As := [_]) (d_isShip hl0 σ hR hN s hs) cv_X9_120 l01 rfl rfl rfl (Nat.le_of_ble_eq_true rfl) ⟨by decide, by decide, by decide, by decide⟩ dX9_barnacleIt_2 ?_
  refine V_if_ne (tgt := 14) hf (by split <;> exact ⟨by decide, by decide⟩) dX9_barnacleIt_5 (by decide) (fun h5 => ?_) (fun h5 => ?_)
  · refine V_iload_n hf dX9_barnacleIt_14 rfl rfl ?_
    refine V_i2l hf (by first | exact hR _ _ _ (by decide) | exact ⟨by omega, by omega⟩ | exact Rng.st (Rng.st hR ⟨by decide, by decide⟩) ⟨by decide, by decide⟩ _ _ _ (by decide) | exact Rng.st hR ⟨by decide, by decide⟩ _ _ _ (by decide)) dX9_barnacleIt_15 ?_
    refine V_lconst (a := 1) hf (by decide +kernel) dX9_barnacleIt_16 ?_
    refine V_ldc2 (a := 9) hf (by decide +kernel) wcl_X9_124 dX9_barnacleIt_17 ?_
    refine B_callSi hf (As := [_, _, _]) (d_in hl0 σ (a) (1) (9) ha ⟨by decide, by decide⟩ ⟨by decide, by decide⟩) cvs_X9_63 rfl (Nat.le_of_ble_eq_true rfl) ⟨by decide, by decide, by decide, by decide⟩ dX9_barnacleIt_20 ?_
    refine V_if_ne (tgt := 32) hf (by split <;> exact ⟨by decide, by decide⟩) dX9_barnacleIt_23 (by decide) (fun h23 => ?_) (fun h23 => ?_)
    · exact absurd h23 (by first | omega | (split at h23 <;> omega))
    · refine V_aload_n hf dX9_barnacleIt_26 rfl rfl ?_
      refine V_iconst hf dX9_barnacleIt_27 ?_
      refine B_callVi hf (As := [_]) (d_throwing hl0 σ hR 2) cv_X9_47 l01 rfl rfl rfl (Nat.le_of_ble_eq_true rfl) ⟨by decide, by decide, by decide, by decide⟩ dX9_barnacleIt_28 ?_
      exact B_iret hf he rfl dX9_barnacleIt_31 (by decide) (by decide) rfl rfl
  · exact absurd h5 (by first | omega | (split at h5 <;> omega))

set_option maxHeartbeats 4000000 in
set_option maxRecDepth 100000 in
theorem e_barn_3 {l : Launch} {D : va_G} {K : Nat → ClassId} {ad : Adr} (hl0 : l.stackTraces = false) (σ : Mem) (hR : Rng σ) (hN : NI (σ 0 41)) (s a : Int) (hs : inR s) (ha : inR a) (h1 : 0 ≤ s ∧ s < σ 0 41 0) (h2 : 1 ≤ a ∧ a ≤ 9) (h3 : σ 0 41 1 = 16) : Cb l D K ad yX9_barnacleIt (.code yX9_barnacleIt cX9_barnacleIt 3 (some .int)) 5 0 0 σ [.ref (ad 0 40), .int (iN s), .int (iN a)] (.inl (some (.int (iN (-1))))) (rjM σ 3 2 16) := by
  refine Cb.of (own := RX9) (ls0 := [some (.ref (ad 0 40)), some (.int (iN s)), some (.int (iN a))]) hl0 (by decide) rfl (Nat.le_of_ble_eq_true rfl) rfl ?_
  intro X hX1 hX2 hX3 hf he hh
  subst hX1 hX2 hX3
  have n0 := hN.n0
  have n1 := hN.n1
  have n2 := hN.n2
  have n3 := hN.n3
  refine V_aload_n hf dX9_barnacleIt_0 rfl rfl ?_
  refine V_iload_n hf dX9_barnacleIt_1 rfl rfl ?_
  refine B_callVi hf (As := [_]) (d_isShip hl0 σ hR hN s hs) cv_X9_120 l01 rfl rfl rfl (Nat.le_of_ble_eq_true rfl) ⟨by decide, by decide, by decide, by decide⟩ dX9_barnacleIt_2 ?_
  refine V_if_ne (tgt := 14) hf (by split <;> exact ⟨by decide, by decide⟩) dX9_barnacleIt_5 (by decide) (fun h5 => ?_) (fun h5 => ?_)
  · refine V_iload_n hf dX9_barnacleIt_14 rfl rfl ?_
    refine V_i2l hf (by first | exact hR _ _ _ (by decide) | exact ⟨by omega, by omega⟩ | exact Rng.st (Rng.st hR ⟨by decide, by decide⟩) ⟨by decide, by decide⟩ _ _ _ (by decide) | exact Rng.st hR ⟨by decide, by decide⟩ _ _ _ (by decide)) dX9_barnacleIt_15 ?_
    refine V_lconst (a := 1) hf (by decide +kernel) dX9_barnacleIt_16 ?_
    refine V_ldc2 (a := 9) hf (by decide +kernel) wcl_X9_124 dX9_barnacleIt_17 ?_
    refine B_callSi hf (As := [_, _, _]) (d_in hl0 σ (a) (1) (9) ha ⟨by decide, by decide⟩ ⟨by decide, by decide⟩) cvs_X9_63 rfl (Nat.le_of_ble_eq_true rfl) ⟨by decide, by decide, by decide, by decide⟩ dX9_barnacleIt_20 ?_
    refine V_if_ne (tgt := 32) hf (by split <;> exact ⟨by decide, by decide⟩) dX9_barnacleIt_23 (by decide) (fun h23 => ?_) (fun h23 => ?_)
    · refine V_aload_n hf dX9_barnacleIt_32 rfl rfl ?_
      refine B_get hf l01 rfl fl_X9_9_12 rfl dX9_barnacleIt_33 ?_
      refine V_iconst hf dX9_barnacleIt_36 ?_
      refine B_iald hf l01 (fun _ => rfl) (by first | exact hR _ _ _ (by decide) | exact ⟨by omega, by omega⟩ | exact Rng.st (Rng.st hR ⟨by decide, by decide⟩) ⟨by decide, by decide⟩ _ _ _ (by decide) | exact Rng.st hR ⟨by decide, by decide⟩ _ _ _ (by decide)) (by omega) (by omega) dX9_barnacleIt_37 ?_
      refine V_bipush hf dX9_barnacleIt_38 (by decide +kernel) ?_
      refine V_icmp_ne (tgt := 52) hf (by first | exact hR _ _ _ (by decide) | exact ⟨by omega, by omega⟩ | exact Rng.st (Rng.st hR ⟨by decide, by decide⟩) ⟨by decide, by decide⟩ _ _ _ (by decide) | exact Rng.st hR ⟨by decide, by decide⟩ _ _ _ (by decide)) (by first | exact hR _ _ _ (by decide) | exact ⟨by omega, by omega⟩ | exact Rng.st (Rng.st hR ⟨by decide, by decide⟩) ⟨by decide, by decide⟩ _ _ _ (by decide) | exact Rng.st hR ⟨by decide, by decide⟩ _ _ _ (by decide)) dX9_barnacleIt_40 (by decide) (fun h40 => ?_) (fun h40 => ?_)
      · exact absurd h40 (by first | omega | (split at h40 <;> omega))
      · refine V_aload_n hf dX9_barnacleIt_43 rfl rfl ?_
        refine V_iconst hf dX9_barnacleIt_44 ?_
        refine V_iconst hf dX9_barnacleIt_45 ?_
        refine V_bipush hf dX9_barnacleIt_46 (by decide +kernel) ?_
        refine B_callVi hf (As := [_, _, _]) (d_rejecting hl0 σ 2 (16) ((hR.st ⟨by decide, by decide⟩).st ⟨by decide, by decide⟩) 3) cv_X9_106 l01 rfl rfl rfl (Nat.le_of_ble_eq_true rfl) ⟨by decide, by decide, by decide, by decide⟩ dX9_barnacleIt_48 ?_
        exact B_iret hf he rfl dX9_barnacleIt_51 (by decide) (by decide) rfl rfl
    · exact absurd h23 (by first | omega | (split at h23 <;> omega))
  · exact absurd h5 (by first | omega | (split at h5 <;> omega))

set_option maxHeartbeats 4000000 in
set_option maxRecDepth 100000 in
theorem e_barn_4 {l : Launch} {D : va_G} {K : Nat → ClassId} {ad : Adr} (hl0 : l.stackTraces = false) (σ : Mem) (hR : Rng σ) (hN : NI (σ 0 41)) (s a : Int) (hs : inR s) (ha : inR a) (h1 : 0 ≤ s ∧ s < σ 0 41 0) (h2 : 1 ≤ a ∧ a ≤ 9) (h3 : σ 0 41 1 < 16) (h4 : mplaces (σ 0 41) s ≤ 0) : Cb l D K ad yX9_barnacleIt (.code yX9_barnacleIt cX9_barnacleIt 3 (some .int)) 5 0 0 σ [.ref (ad 0 40), .int (iN s), .int (iN a)] (.inl (some (.int (iN (-1))))) (rjM σ 3 3 (mcap (σ 0 41) s)) := by
  refine Cb.of (own := RX9) (ls0 := [some (.ref (ad 0 40)), some (.int (iN s)), some (.int (iN a))]) hl0 (by decide) rfl (Nat.le_of_ble_eq_true rfl) rfl ?_
  intro X hX1 hX2 hX3 hf he hh
  subst hX1 hX2 hX3
  have n0 := hN.n0
  have n1 := hN.n1
  have n2 := hN.n2
  have n3 := hN.n3
  refine V_aload_n hf dX9_barnacleIt_0 rfl rfl ?_
  refine V_iload_n hf dX9_barnacleIt_1 rfl rfl ?_
  refine B_callVi hf (As := [_]) (d_isShip hl0 σ hR hN s hs) cv_X9_120 l01 rfl rfl rfl (Nat.le_of_ble_eq_true rfl) ⟨by decide, by decide, by decide, by decide⟩ dX9_barnacleIt_2 ?_
  refine V_if_ne (tgt := 14) hf (by split <;> exact ⟨by decide, by decide⟩) dX9_barnacleIt_5 (by decide) (fun h5 => ?_) (fun h5 => ?_)
  · refine V_iload_n hf dX9_barnacleIt_14 rfl rfl ?_
    refine V_i2l hf (by first | exact hR _ _ _ (by decide) | exact ⟨by omega, by omega⟩ | exact Rng.st (Rng.st hR ⟨by decide, by decide⟩) ⟨by decide, by decide⟩ _ _ _ (by decide) | exact Rng.st hR ⟨by decide, by decide⟩ _ _ _ (by decide)) dX9_barnacleIt_15 ?_
    refine V_lconst (a := 1) hf (by decide +kernel) dX9_barnacleIt_16 ?_
    refine V_ldc2 (a := 9) hf (by decide +kernel) wcl_X9_124 dX9_barnacleIt_17 ?_
    refine B_callSi hf (As := [_, _, _]) (d_in hl0 σ (a) (1) (9) ha ⟨by decide, by decide⟩ ⟨by decide, by decide⟩) cvs_X9_63 rfl (Nat.le_of_ble_eq_true rfl) ⟨by decide, by decide, by decide, by decide⟩ dX9_barnacleIt_20 ?_
    refine V_if_ne (tgt := 32) hf (by split <;> exact ⟨by decide, by decide⟩) dX9_barnacleIt_23 (by decide) (fun h23 => ?_) (fun h23 => ?_)
    · refine V_aload_n hf dX9_barnacleIt_32 rfl rfl ?_
      refine B_get hf l01 rfl fl_X9_9_12 rfl dX9_barnacleIt_33 ?_
      refine V_iconst hf dX9_barnacleIt_36 ?_
      refine B_iald hf l01 (fun _ => rfl) (by first | exact hR _ _ _ (by decide) | exact ⟨by omega, by omega⟩ | exact Rng.st (Rng.st hR ⟨by decide, by decide⟩) ⟨by decide, by decide⟩ _ _ _ (by decide) | exact Rng.st hR ⟨by decide, by decide⟩ _ _ _ (by decide)) (by omega) (by omega) dX9_barnacleIt_37 ?_
      refine V_bipush hf dX9_barnacleIt_38 (by decide +kernel) ?_
      refine V_icmp_ne (tgt := 52) hf (by first | exact hR _ _ _ (by decide) | exact ⟨by omega, by omega⟩ | exact Rng.st (Rng.st hR ⟨by decide, by decide⟩) ⟨by decide, by decide⟩ _ _ _ (by decide) | exact Rng.st hR ⟨by decide, by decide⟩ _ _ _ (by decide)) (by first | exact hR _ _ _ (by decide) | exact ⟨by omega, by omega⟩ | exact Rng.st (Rng.st hR ⟨by decide, by decide⟩) ⟨by decide, by decide⟩ _ _ _ (by decide) | exact Rng.st hR ⟨by decide, by decide⟩ _ _ _ (by decide)) dX9_barnacleIt_40 (by decide) (fun h40 => ?_) (fun h40 => ?_)
      · refine V_aload_n hf dX9_barnacleIt_52 rfl rfl ?_
        refine V_iload_n hf dX9_barnacleIt_53 rfl rfl ?_
        refine B_callVi hf (As := [_]) (d_places hl0 σ hR hN s ⟨by omega, by omega⟩) cv_X9_126 l01 rfl rfl rfl (Nat.le_of_ble_eq_true rfl) ⟨by decide, by decide, by decide, by decide⟩ dX9_barnacleIt_54 ?_
        refine V_if_gt (tgt := 72) hf (by have := mplaces_r hN (s := s) (by omega) (by omega); exact ⟨by omega, by omega⟩) dX9_barnacleIt_57 (by decide) (fun h57 => ?_) (fun h57 => ?_)
        · exact absurd h57 (by first | omega | (split at h57 <;> omega))
        · refine V_aload_n hf dX9_barnacleIt_60 rfl rfl ?_
          refine V_iconst hf dX9_barnacleIt_61 ?_
          refine V_iconst hf dX9_barnacleIt_62 ?_
          refine V_aload_n hf dX9_barnacleIt_63 rfl rfl ?_
          refine V_iload_n hf dX9_barnacleIt_64 rfl rfl ?_
          refine B_callVi hf (As := [_]) (d_cap hl0 σ hR s ⟨by omega, by omega⟩) cv_X9_76 l01 rfl rfl rfl (Nat.le_of_ble_eq_true rfl) ⟨by decide, by decide, by decide, by decide⟩ dX9_barnacleIt_65 ?_
          refine B_callVi hf (As := [_, _, _]) (d_rejecting hl0 σ 3 (mcap (σ 0 41) s) ((hR.st ⟨by decide, by decide⟩).st (hR _ _ _ (by decide))) 3) cv_X9_106 l01 rfl rfl rfl (Nat.le_of_ble_eq_true rfl) ⟨by decide, by decide, by decide, by decide⟩ dX9_barnacleIt_68 ?_
          exact B_iret hf he rfl dX9_barnacleIt_71 (by decide) (by decide) rfl rfl
      · exact absurd h40 (by first | omega | (split at h40 <;> omega))
    · exact absurd h23 (by first | omega | (split at h23 <;> omega))
  · exact absurd h5 (by first | omega | (split at h5 <;> omega))

set_option maxHeartbeats 4000000 in
set_option maxRecDepth 100000 in
theorem e_give_o {l : Launch} {D : va_G} {K : Nat → ClassId} {ad : Adr} (hl0 : l.stackTraces = false) (σ : Mem) (hR : Rng σ) (hN : NI (σ 0 41)) (s a : Int) (hs : inR s) (ha : inR a) (h1 : 0 ≤ s ∧ s < σ 0 41 0) (h2 : 1 ≤ a ∧ a ≤ 99) : Cb l D K ad yX9_giveIt (.code yX9_giveIt cX9_giveIt 3 (some .int)) 5 0 0 σ [.ref (ad 0 40), .int (iN s), .int (iN a)] (.inl (some (.int (iN (mgiveM σ s a 0 41 (14 + 2 * s)))))) (mgiveM σ s a) := by
  refine Cb.of (own := RX9) (ls0 := [some (.ref (ad 0 40)), some (.int (iN s)), some (.int (iN a))]) hl0 (by decide) rfl (Nat.le_of_ble_eq_true rfl) rfl ?_
  intro X hX1 hX2 hX3 hf he hh
  subst hX1 hX2 hX3
  have n0 := hN.n0
  have n1 := hN.n1
  have n2 := hN.n2
  have n3 := hN.n3
  refine V_aload_n hf dX9_giveIt_0 rfl rfl ?_
  refine V_iload_n hf dX9_giveIt_1 rfl rfl ?_
  refine B_callVi hf (As := [_]) (d_isShip hl0 σ hR hN s hs) cv_X9_120 l01 rfl rfl rfl (Nat.le_of_ble_eq_true rfl) ⟨by decide, by decide, by decide, by decide⟩ dX9_giveIt_2 ?_
  refine V_if_ne (tgt := 14) hf (by split <;> exact ⟨by decide, by decide⟩) dX9_giveIt_5 (by decide) (fun h5 => ?_) (fun h5 => ?_)
  · refine V_iload_n hf dX9_giveIt_14 rfl rfl ?_
    refine V_i2l hf (by first | exact hR _ _ _ (by decide) | exact ⟨by omega, by omega⟩ | exact Rng.st (Rng.st hR ⟨by decide, by decide⟩) ⟨by decide, by decide⟩ _ _ _ (by decide) | exact Rng.st hR ⟨by decide, by decide⟩ _ _ _ (by decide)) dX9_giveIt_15 ?_
    refine V_lconst (a := 1) hf (by decide +kernel) dX9_giveIt_16 ?_
    refine V_ldc2 (a := 99) hf (by decide +kernel) wcl_X9_102 dX9_giveIt_17 ?_
    refine B_callSi hf (As := [_, _, _]) (d_in hl0 σ (a) (1) (99) ha ⟨by decide, by decide⟩ ⟨by decide, by decide⟩) cvs_X9_63 rfl (Nat.le_of_ble_eq_true rfl) ⟨by decide, by decide, by decide, by decide⟩ dX9_giveIt_20 ?_
    refine V_if_ne (tgt := 32) hf (by split <;> exact ⟨by decide, by decide⟩) dX9_giveIt_23 (by decide) (fun h23 => ?_) (fun h23 => ?_)
    · refine V_aload_n hf dX9_giveIt_32 rfl rfl ?_
      refine B_get hf l01 rfl fl_X9_9_12 rfl dX9_giveIt_33 ?_
      refine V_iload_n hf dX9_giveIt_36 rfl rfl ?_
      refine B_callSi hf (As := [_]) (d_shipAt hl0 σ (s)) cvs_X9_67 rfl (Nat.le_of_ble_eq_true rfl) ⟨by decide, by decide, by decide, by decide⟩ dX9_giveIt_37 ?_
      refine V_dup2 hf dX9_giveIt_40 rfl rfl ?_
      refine B_iald hf l01 (fun _ => rfl) ⟨by omega, by omega⟩ (by omega) (by omega) dX9_giveIt_41 ?_
      refine V_iload_n hf dX9_giveIt_42 rfl rfl ?_
      refine V_iadd hf dX9_giveIt_43 ?_
      refine B_iast hf l01 (by decide) (fun _ => rfl) ⟨by omega, by omega⟩ (by omega) (by omega) dX9_giveIt_44 ?_
      refine V_aload_n hf dX9_giveIt_45 rfl rfl ?_
      refine B_get hf l01 rfl fl_X9_9_12 rfl dX9_giveIt_46 ?_
      refine V_bipush hf dX9_giveIt_49 (by decide +kernel) ?_
      refine V_dup2 hf dX9_giveIt_51 rfl rfl ?_
      refine B_iald hf l01 (fun _ => rfl) (by first | exact hR _ _ _ (by decide) | exact ⟨by omega, by omega⟩ | exact Rng.st (Rng.st hR ⟨by decide, by decide⟩) ⟨by decide, by decide⟩ _ _ _ (by decide) | exact Rng.st hR ⟨by decide, by decide⟩ _ _ _ (by decide)) (by omega) (by omega) dX9_giveIt_52 ?_
      refine V_iload_n hf dX9_giveIt_53 rfl rfl ?_
      refine V_iadd hf dX9_giveIt_54 ?_
      refine B_iast hf l01 (by decide) (fun _ => rfl) (by first | exact hR _ _ _ (by decide) | exact ⟨by omega, by omega⟩ | exact Rng.st (Rng.st hR ⟨by decide, by decide⟩) ⟨by decide, by decide⟩ _ _ _ (by decide) | exact Rng.st hR ⟨by decide, by decide⟩ _ _ _ (by decide)) (by omega) (by omega) dX9_giveIt_55 ?_
      refine V_aload_n hf dX9_giveIt_56 rfl rfl ?_
      refine B_get hf l01 rfl fl_X9_9_12 rfl dX9_giveIt_57 ?_
      refine V_iload_n hf dX9_giveIt_60 rfl rfl ?_
      refine B_callSi hf (As := [_]) (d_shipAt hl0 _ s) cvs_X9_67 rfl (Nat.le_of_ble_eq_true rfl) ⟨by decide, by decide, by decide, by decide⟩ dX9_giveIt_61 ?_
      refine B_iald hf l01 (fun _ => rfl) ⟨by omega, by omega⟩ (by omega) (by omega) dX9_giveIt_64 ?_
      exact B_iret hf he rfl dX9_giveIt_65 (by decide) (by decide) rfl rfl
    · exact absurd h23 (by first | omega | (split at h23 <;> omega))
  · exact absurd h5 (by first | omega | (split at h5 <;> omega))

set_option maxHeartbeats 4000000 in
set_option maxRecDepth 100000 in
theorem e_give_1 {l : Launch} {D : va_G} {K : Nat → ClassId} {ad : Adr} (hl0 : l.stackTraces = false) (σ : Mem) (hR : Rng σ) (hN : NI (σ 0 41)) (s a : Int) (hs : inR s) (ha : inR a) (h1 : ¬ (0 ≤ s ∧ s < σ 0 41 0)) : Cb l D K ad yX9_giveIt (.code yX9_giveIt cX9_giveIt 3 (some .int)) 5 0 0 σ [.ref (ad 0 40), .int (iN s), .int (iN a)] (.inl (some (.int (iN (-1))))) (thrM σ 1) := by
  refine Cb.of (own := RX9) (ls0 := [some (.ref (ad 0 40)), some (.int (iN s)), some (.int (iN a))]) hl0 (by decide) rfl (Nat.le_of_ble_eq_true rfl) rfl ?_
  intro X hX1 hX2 hX3 hf he hh
  subst hX1 hX2 hX3
  have n0 := hN.n0
  have n1 := hN.n1
  have n2 := hN.n2
  have n3 := hN.n3
  refine V_aload_n hf dX9_giveIt_0 rfl rfl ?_
  refine V_iload_n hf dX9_giveIt_1 rfl rfl ?_
  refine B_callVi hf (As := [_]) (d_isShip hl0 σ hR hN s hs) cv_X9_120 l01 rfl rfl rfl (Nat.le_of_ble_eq_true rfl) ⟨by decide, by decide, by decide, by decide⟩ dX9_giveIt_2 ?_
  refine V_if_ne (tgt := 14) hf (by split <;> exact ⟨by decide, by decide⟩) dX9_giveIt_5 (by decide) (fun h5 => ?_) (fun h5 => ?_)
  · exact absurd h5 (by first | omega | (split at h5 <;> omega))
  · refine V_aload_n hf dX9_giveIt_8 rfl rfl ?_
    refine V_iconst hf dX9_giveIt_9 ?_
    refine B_callVi hf (As := [_]) (d_throwing hl0 σ hR 1) cv_X9_47 l01 rfl rfl rfl (Nat.le_of_ble_eq_true rfl) ⟨by decide, by decide, by decide, by decide⟩ dX9_giveIt_10 ?_
    exact B_iret hf he rfl dX9_giveIt_13 (by decide) (by decide) rfl rfl

set_option maxHeartbeats 4000000 in
set_option maxRecDepth 100000 in
theorem e_give_2 {l : Launch} {D : va_G} {K : Nat → ClassId} {ad : Adr} (hl0 : l.stackTraces = false) (σ : Mem) (hR : Rng σ) (hN : NI (σ 0 41)) (s a : Int) (hs : inR s) (ha : inR a) (h1 : 0 ≤ s ∧ s < σ 0 41 0) (h2 : ¬ (1 ≤ a ∧ a ≤ 99)) : Cb l D K ad yX9_giveIt (.code yX9_giveIt cX9_giveIt 3 (some .int)) 5 0 0 σ [.ref (ad 0 40), .int (iN s), .int (iN a)] (.inl (some (.int (iN (-1))))) (thrM σ 2) := by
  refine Cb.of (own := RX9) (ls0 := [some (.ref (ad 0 40)), some (.int (iN s)), some (.int (iN a))]) hl0 (by decide) rfl (Nat.le_of_ble_eq_true rfl) rfl ?_
  intro X hX1 hX2 hX3 hf he hh
  subst hX1 hX2 hX3
  have n0 := hN.n0
  have n1 := hN.n1
  have n2 := hN.n2
  have n3 := hN.n3
  refine V_aload_n hf dX9_giveIt_0 rfl rfl ?_
  refine V_iload_n hf dX9_giveIt_1 rfl rfl ?_
  refine B_callVi hf (As := [_]) (d_isShip hl0 σ hR hN s hs) cv_X9_120 l01 rfl rfl rfl (Nat.le_of_ble_eq_true rfl) ⟨by decide, by decide, by decide, by decide⟩ dX9_giveIt_2 ?_
  refine V_if_ne (tgt := 14) hf (by split <;> exact ⟨by decide, by decide⟩) dX9_giveIt_5 (by decide) (fun h5 => ?_) (fun h5 => ?_)
  · refine V_iload_n hf dX9_giveIt_14 rfl rfl ?_
    refine V_i2l hf (by first | exact hR _ _ _ (by decide) | exact ⟨by omega, by omega⟩ | exact Rng.st (Rng.st hR ⟨by decide, by decide⟩) ⟨by decide, by decide⟩ _ _ _ (by decide) | exact Rng.st hR ⟨by decide, by decide⟩ _ _ _ (by decide)) dX9_giveIt_15 ?_
    refine V_lconst (a := 1) hf (by decide +kernel) dX9_giveIt_16 ?_
    refine V_ldc2 (a := 99) hf (by decide +kernel) wcl_X9_102 dX9_giveIt_17 ?_
    refine B_callSi hf (As := [_, _, _]) (d_in hl0 σ (a) (1) (99) ha ⟨by decide, by decide⟩ ⟨by decide, by decide⟩) cvs_X9_63 rfl (Nat.le_of_ble_eq_true rfl) ⟨by decide, by decide, by decide, by decide⟩ dX9_giveIt_20 ?_
    refine V_if_ne (tgt := 32) hf (by split <;> exact ⟨by decide, by decide⟩) dX9_giveIt_23 (by decide) (fun h23 => ?_) (fun h23 => ?_)
    · exact absurd h23 (by first | omega | (split at h23 <;> omega))
    · refine V_aload_n hf dX9_giveIt_26 rfl rfl ?_
      refine V_iconst hf dX9_giveIt_27 ?_
      refine B_callVi hf (As := [_]) (d_throwing hl0 σ hR 2) cv_X9_47 l01 rfl rfl rfl (Nat.le_of_ble_eq_true rfl) ⟨by decide, by decide, by decide, by decide⟩ dX9_giveIt_28 ?_
      exact B_iret hf he rfl dX9_giveIt_31 (by decide) (by decide) rfl rfl
  · exact absurd h5 (by first | omega | (split at h5 <;> omega))

set_option maxHeartbeats 4000000 in
set_option maxRecDepth 100000 in
theorem e_bid_o {l : Launch} {D : va_G} {K : Nat → ClassId} {ad : Adr} (hl0 : l.stackTraces = false) (σ : Mem) (hR : Rng σ) (hN : NI (σ 0 41)) (s a : Int) (hs : inR s) (ha : inR a) (p : Int) (hp : inR p) (h1 : 0 ≤ s ∧ s < σ 0 41 0) (h2 : 1 ≤ a ∧ a ≤ 9) (h3 : 1 ≤ p ∧ p ≤ 99) (h4 : σ 0 41 2 < 10) (h5 : 0 < mplaces (σ 0 41) s) (h6 : p ≤ σ 0 41 (14 + 2 * s) - mres (σ 0 41) s) : Cb l D K ad yX9_bidIt (.code yX9_bidIt cX9_bidIt 6 (some .int)) 5 0 0 σ [.ref (ad 0 40), .int (iN s), .int (iN a), .int (iN p)] (.inl (some (.int (iN (mbidM σ s a p 0 41 (58 + 5 * σ 0 41 2)))))) (mbidM σ s a p) := by
  refine Cb.of (own := RX9) (ls0 := [some (.ref (ad 0 40)), some (.int (iN s)), some (.int (iN a)), some (.int (iN p)), none, none]) hl0 (by decide) rfl (Nat.le_of_ble_eq_true rfl) rfl ?_
  intro X hX1 hX2 hX3 hf he hh
  subst hX1 hX2 hX3
  have n0 := hN.n0
  have n1 := hN.n1
  have n2 := hN.n2
  have n3 := hN.n3
  refine V_aload_n hf dX9_bidIt_0 rfl rfl ?_
  refine V_iload_n hf dX9_bidIt_1 rfl rfl ?_
  refine B_callVi hf (As := [_]) (d_isShip hl0 σ hR hN s hs) cv_X9_120 l01 rfl rfl rfl (Nat.le_of_ble_eq_true rfl) ⟨by decide, by decide, by decide, by decide⟩ dX9_bidIt_2 ?_
  refine V_if_ne (tgt := 14) hf (by split <;> exact ⟨by decide, by decide⟩) dX9_bidIt_5 (by decide) (fun h5 => ?_) (fun h5 => ?_)
  · refine V_iload_n hf dX9_bidIt_14 rfl rfl ?_
    refine V_i2l hf (by first | exact hR _ _ _ (by decide) | exact ⟨by omega, by omega⟩ | exact Rng.st (Rng.st hR ⟨by decide, by decide⟩) ⟨by decide, by decide⟩ _ _ _ (by decide) | exact Rng.st hR ⟨by decide, by decide⟩ _ _ _ (by decide)) dX9_bidIt_15 ?_
    refine V_lconst (a := 1) hf (by decide +kernel) dX9_bidIt_16 ?_
    refine V_ldc2 (a := 9) hf (by decide +kernel) wcl_X9_124 dX9_bidIt_17 ?_
    refine B_callSi hf (As := [_, _, _]) (d_in hl0 σ (a) (1) (9) ha ⟨by decide, by decide⟩ ⟨by decide, by decide⟩) cvs_X9_63 rfl (Nat.le_of_ble_eq_true rfl) ⟨by decide, by decide, by decide, by decide⟩ dX9_bidIt_20 ?_
    refine V_if_eq (tgt := 38) hf (by split <;> exact ⟨by decide, by decide⟩) dX9_bidIt_23 (by decide) (fun h23 => ?_) (fun h23 => ?_)
    · exact absurd h23 (by first | omega | (split at h23 <;> omega))
    · refine V_iload_n hf dX9_bidIt_26 rfl rfl ?_
      refine V_i2l hf (by first | exact hR _ _ _ (by decide) | exact ⟨by omega, by omega⟩ | exact Rng.st (Rng.st hR ⟨by decide, by decide⟩) ⟨by decide, by decide⟩ _ _ _ (by decide) | exact Rng.st hR ⟨by decide, by decide⟩ _ _ _ (by decide)) dX9_bidIt_27 ?_
      refine V_lconst (a := 1) hf (by decide +kernel) dX9_bidIt_28 ?_
      refine V_ldc2 (a := 99) hf (by decide +kernel) wcl_X9_102 dX9_bidIt_29 ?_
      refine B_callSi hf (As := [_, _, _]) (d_in hl0 σ (p) (1) (99) hp ⟨by decide, by decide⟩ ⟨by decide, by decide⟩) cvs_X9_63 rfl (Nat.le_of_ble_eq_true rfl) ⟨by decide, by decide, by decide, by decide⟩ dX9_bidIt_32 ?_
      refine V_if_ne (tgt := 44) hf (by split <;> exact ⟨by decide, by decide⟩) dX9_bidIt_35 (by decide) (fun h35 => ?_) (fun h35 => ?_)
      · refine V_aload_n hf dX9_bidIt_44 rfl rfl ?_
        refine B_get hf l01 rfl fl_X9_9_12 rfl dX9_bidIt_45 ?_
        refine V_iconst hf dX9_bidIt_48 ?_
        refine B_iald hf l01 (fun _ => rfl) (by first | exact hR _ _ _ (by decide) | exact ⟨by omega, by omega⟩ | exact Rng.st (Rng.st hR ⟨by decide, by decide⟩) ⟨by decide, by decide⟩ _ _ _ (by decide) | exact Rng.st hR ⟨by decide, by decide⟩ _ _ _ (by decide)) (by omega) (by omega) dX9_bidIt_49 ?_
        refine V_bipush hf dX9_bidIt_50 (by decide +kernel) ?_
        refine V_icmp_ne (tgt := 76) hf (by first | exact hR _ _ _ (by decide) | exact ⟨by omega, by omega⟩ | exact Rng.st (Rng.st hR ⟨by decide, by decide⟩) ⟨by decide, by decide⟩ _ _ _ (by decide) | exact Rng.st hR ⟨by decide, by decide⟩ _ _ _ (by decide)) (by first | exact hR _ _ _ (by decide) | exact ⟨by omega, by omega⟩ | exact Rng.st (Rng.st hR ⟨by decide, by decide⟩) ⟨by decide, by decide⟩ _ _ _ (by decide) | exact Rng.st hR ⟨by decide, by decide⟩ _ _ _ (by decide)) dX9_bidIt_52 (by decide) (fun h52 => ?_) (fun h52 => ?_)
        · refine V_aload_n hf dX9_bidIt_76 rfl rfl ?_
          refine V_iload_n hf dX9_bidIt_77 rfl rfl ?_
          refine B_callVi hf (As := [_]) (d_places hl0 σ hR hN s ⟨by omega, by omega⟩) cv_X9_126 l01 rfl rfl rfl (Nat.le_of_ble_eq_true rfl) ⟨by decide, by decide, by decide, by decide⟩ dX9_bidIt_78 ?_
          refine V_if_gt (tgt := 96) hf (by have := mplaces_r hN (s := s) (by omega) (by omega); exact ⟨by omega, by omega⟩) dX9_bidIt_81 (by decide) (fun h81 => ?_) (fun h81 => ?_)
          · refine V_aload_n hf dX9_bidIt_96 rfl rfl ?_
            refine B_get hf l01 rfl fl_X9_9_12 rfl dX9_bidIt_97 ?_
            refine V_iload_n hf dX9_bidIt_100 rfl rfl ?_
            refine B_callSi hf (As := [_]) (d_shipAt hl0 σ (s)) cvs_X9_67 rfl (Nat.le_of_ble_eq_true rfl) ⟨by decide, by decide, by decide, by decide⟩ dX9_bidIt_101 ?_
            refine B_iald hf l01 (fun _ => rfl) ⟨by omega, by omega⟩ (by omega) (by omega) dX9_bidIt_104 ?_
            refine V_aload_n hf dX9_bidIt_105 rfl rfl ?_
            refine V_iload_n hf dX9_bidIt_106 rfl rfl ?_
            refine B_callVi hf (As := [_]) (d_res hl0 σ hR hN s hs) cv_X9_138 l01 rfl rfl rfl (Nat.le_of_ble_eq_true rfl) ⟨by decide, by decide, by decide, by decide⟩ dX9_bidIt_107 ?_
            refine V_isub hf dX9_bidIt_110 ?_
            refine V_istore (ls2 := [_, _, _, _, _, _]) hf dX9_bidIt_111 (by decide) rfl rfl ?_
            refine V_iload hf dX9_bidIt_113 rfl ?_
            refine V_iload_n hf dX9_bidIt_115 rfl rfl ?_
            refine V_icmp_ge (tgt := 128) hf (by have := mres_r hN s; have := hN.sh s h1.1 h1.2; exact ⟨by omega, by omega⟩) (by first | exact hR _ _ _ (by decide) | exact ⟨by omega, by omega⟩ | exact Rng.st (Rng.st hR ⟨by decide, by decide⟩) ⟨by decide, by decide⟩ _ _ _ (by decide) | exact Rng.st hR ⟨by decide, by decide⟩ _ _ _ (by decide)) dX9_bidIt_116 (by decide) (fun h116 => ?_) (fun h116 => ?_)
            · refine V_aload_n hf dX9_bidIt_128 rfl rfl ?_
              refine B_get hf l01 rfl fl_X9_9_12 rfl dX9_bidIt_129 ?_
              refine V_iconst hf dX9_bidIt_132 ?_
              refine B_iald hf l01 (fun _ => rfl) (by first | exact hR _ _ _ (by decide) | exact ⟨by omega, by omega⟩ | exact Rng.st (Rng.st hR ⟨by decide, by decide⟩) ⟨by decide, by decide⟩ _ _ _ (by decide) | exact Rng.st hR ⟨by decide, by decide⟩ _ _ _ (by decide)) (by omega) (by omega) dX9_bidIt_133 ?_
              refine B_callSi hf (As := [_]) (d_bidAtPlace hl0 σ (σ 0 41 2)) cvs_X9_73 rfl (Nat.le_of_ble_eq_true rfl) ⟨by decide, by decide, by decide, by decide⟩ dX9_bidIt_134 ?_
              refine V_istore (ls2 := [_, _, _, _, _, _]) hf dX9_bidIt_137 (by decide) rfl rfl ?_
              refine V_aload_n hf dX9_bidIt_139 rfl rfl ?_
              refine B_get hf l01 rfl fl_X9_9_12 rfl dX9_bidIt_140 ?_
              refine V_iload hf dX9_bidIt_143 rfl ?_
              refine V_aload_n hf dX9_bidIt_145 rfl rfl ?_
              refine B_get hf l01 rfl fl_X9_9_12 rfl dX9_bidIt_146 ?_
              refine V_iconst hf dX9_bidIt_149 ?_
              refine B_iald hf l01 (fun _ => rfl) (by first | exact hR _ _ _ (by decide) | exact ⟨by omega, by omega⟩ | exact Rng.st (Rng.st hR ⟨by decide, by decide⟩) ⟨by decide, by decide⟩ _ _ _ (by decide) | exact Rng.st hR ⟨by decide, by decide⟩ _ _ _ (by decide)) (by omega) (by omega) dX9_bidIt_150 ?_
              refine B_iast hf l01 (by decide) (fun _ => rfl) ⟨by omega, by omega⟩ (by omega) (by omega) dX9_bidIt_151 ?_
              refine V_aload_n hf dX9_bidIt_152 rfl rfl ?_
              refine B_get hf l01 rfl fl_X9_9_12 rfl dX9_bidIt_153 ?_
              refine V_iload hf dX9_bidIt_156 rfl ?_
              refine V_iconst hf dX9_bidIt_158 ?_
              refine V_iadd hf dX9_bidIt_159 ?_
              refine V_iload_n hf dX9_bidIt_160 rfl rfl ?_
              refine B_iast hf l01 (by decide) (fun _ => rfl) ⟨by omega, by omega⟩ (by omega) (by omega) dX9_bidIt_161 ?_
              refine V_aload_n hf dX9_bidIt_162 rfl rfl ?_
              refine B_get hf l01 rfl fl_X9_9_12 rfl dX9_bidIt_163 ?_
              refine V_iload hf dX9_bidIt_166 rfl ?_
              refine V_iconst hf dX9_bidIt_168 ?_
              refine V_iadd hf dX9_bidIt_169 ?_
              refine V_iload_n hf dX9_bidIt_170 rfl rfl ?_
              refine B_iast hf l01 (by decide) (fun _ => rfl) ⟨by omega, by omega⟩ (by omega) (by omega) dX9_bidIt_171 ?_
              refine V_aload_n hf dX9_bidIt_172 rfl rfl ?_
              refine B_get hf l01 rfl fl_X9_9_12 rfl dX9_bidIt_173 ?_
              refine V_iload hf dX9_bidIt_176 rfl ?_
              refine V_iconst hf dX9_bidIt_178 ?_
              refine V_iadd hf dX9_bidIt_179 ?_
              refine V_iload_n hf dX9_bidIt_180 rfl rfl ?_
              refine B_iast hf l01 (by decide) (fun _ => rfl) ⟨by omega, by omega⟩ (by omega) (by omega) dX9_bidIt_181 ?_
              refine V_aload_n hf dX9_bidIt_182 rfl rfl ?_
              refine B_get hf l01 rfl fl_X9_9_12 rfl dX9_bidIt_183 ?_
              refine V_iload hf dX9_bidIt_186 rfl ?_
              refine V_iconst hf dX9_bidIt_188 ?_
              refine V_iadd hf dX9_bidIt_189 ?_
              refine V_iconst hf dX9_bidIt_190 ?_
              refine B_iast hf l01 (by decide) (fun _ => rfl) ⟨by omega, by omega⟩ (by omega) (by omega) dX9_bidIt_191 ?_
              refine V_aload_n hf dX9_bidIt_192 rfl rfl ?_
              refine B_get hf l01 rfl fl_X9_9_12 rfl dX9_bidIt_193 ?_
              refine V_iconst hf dX9_bidIt_196 ?_
              refine V_dup2 hf dX9_bidIt_197 rfl rfl ?_
              refine B_iald hf l01 (fun _ => rfl) (by first | exact hR _ _ _ (by decide) | exact ⟨by omega, by omega⟩ | exact Rng.st (Rng.st hR ⟨by decide, by decide⟩) ⟨by decide, by decide⟩ _ _ _ (by decide) | exact Rng.st hR ⟨by decide, by decide⟩ _ _ _ (by decide)) (by omega) (by omega) dX9_bidIt_198 ?_
              refine V_iconst hf dX9_bidIt_199 ?_
              refine V_iadd hf dX9_bidIt_200 ?_
              refine B_iast hf l01 (by decide) (fun _ => rfl) (by first | exact hR _ _ _ (by decide) | exact ⟨by omega, by omega⟩ | exact Rng.st (Rng.st hR ⟨by decide, by decide⟩) ⟨by decide, by decide⟩ _ _ _ (by decide) | exact Rng.st hR ⟨by decide, by decide⟩ _ _ _ (by decide)) (by omega) (by omega) dX9_bidIt_201 ?_
              refine V_aload_n hf dX9_bidIt_202 rfl rfl ?_
              refine B_get hf l01 rfl fl_X9_9_12 rfl dX9_bidIt_203 ?_
              refine V_iconst hf dX9_bidIt_206 ?_
              refine V_dup2 hf dX9_bidIt_207 rfl rfl ?_
              refine B_iald hf l01 (fun _ => rfl) (by first | exact hR _ _ _ (by decide) | exact ⟨by omega, by omega⟩ | exact Rng.st (Rng.st hR ⟨by decide, by decide⟩) ⟨by decide, by decide⟩ _ _ _ (by decide) | exact Rng.st hR ⟨by decide, by decide⟩ _ _ _ (by decide)) (by omega) (by omega) dX9_bidIt_208 ?_
              refine V_iconst hf dX9_bidIt_209 ?_
              refine V_iadd hf dX9_bidIt_210 ?_
              refine B_iast hf l01 (by decide) (fun _ => rfl) (by first | exact hR _ _ _ (by decide) | exact ⟨by omega, by omega⟩ | exact Rng.st (Rng.st hR ⟨by decide, by decide⟩) ⟨by decide, by decide⟩ _ _ _ (by decide) | exact Rng.st hR ⟨by decide, by decide⟩ _ _ _ (by decide)) (by omega) (by omega) dX9_bidIt_211 ?_
              refine V_aload_n hf dX9_bidIt_212 rfl rfl ?_
              refine B_get hf l01 rfl fl_X9_9_12 rfl dX9_bidIt_213 ?_
              refine V_iload hf dX9_bidIt_216 rfl ?_
              refine B_iald hf l01 (fun _ => rfl) (by first | exact hR _ _ _ (by decide) | exact ⟨by omega, by omega⟩ | exact Rng.st (Rng.st hR ⟨by decide, by decide⟩) ⟨by decide, by decide⟩ _ _ _ (by decide) | exact Rng.st hR ⟨by decide, by decide⟩ _ _ _ (by decide)) (by omega) (by omega) dX9_bidIt_218 ?_
              exact B_iret hf he rfl dX9_bidIt_219 (by decide) (by decide) rfl rfl
            · exact absurd h116 (by first | omega | (split at h116 <;> omega))
          · exact absurd h81 (by first | omega | (split at h81 <;> omega))
        · exact absurd h52 (by first | omega | (split at h52 <;> omega))
      · exact absurd h35 (by first | omega | (split at h35 <;> omega))
  · exact absurd h5 (by first | omega | (split at h5 <;> omega))

set_option maxHeartbeats 4000000 in
set_option maxRecDepth 100000 in
theorem e_bid_1 {l : Launch} {D : va_G} {K : Nat → ClassId} {ad : Adr} (hl0 : l.stackTraces = false) (σ : Mem) (hR : Rng σ) (hN : NI (σ 0 41)) (s a : Int) (hs : inR s) (ha : inR a) (p : Int) (hp : inR p) (h1 : ¬ (0 ≤ s ∧ s < σ 0 41 0)) : Cb l D K ad yX9_bidIt (.code yX9_bidIt cX9_bidIt 6 (some .int)) 5 0 0 σ [.ref (ad 0 40), .int (iN s), .int (iN a), .int (iN p)] (.inl (some (.int (iN (-1))))) (thrM σ 1) := by
  refine Cb.of (own := RX9) (ls0 := [some (.ref (ad 0 40)), some (.int (iN s)), some (.int (iN a)), some (.int (iN p)), none, none]) hl0 (by decide) rfl (Nat.le_of_ble_eq_true rfl) rfl ?_
  intro X hX1 hX2 hX3 hf he hh
  subst hX1 hX2 hX3
  have n0 := hN.n0
  have n1 := hN.n1
  have n2 := hN.n2
  have n3 := hN.n3
  refine V_aload_n hf dX9_bidIt_0 rfl rfl ?_
  refine V_iload_n hf dX9_bidIt_1 rfl rfl ?_
  refine B_callVi hf (As := [_]) (d_isShip hl0 σ hR hN s hs) cv_X9_120 l01 rfl rfl rfl (Nat.le_of_ble_eq_true rfl) ⟨by decide, by decide, by decide, by decide⟩ dX9_bidIt_2 ?_
  refine V_if_ne (tgt := 14) hf (by split <;> exact ⟨by decide, by decide⟩) dX9_bidIt_5 (by decide) (fun h5 => ?_) (fun h5 => ?_)
  · exact absurd h5 (by first | omega | (split at h5 <;> omega))
  · refine V_aload_n hf dX9_bidIt_8 rfl rfl ?_
    refine V_iconst hf dX9_bidIt_9 ?_
    refine B_callVi hf (As := [_]) (d_throwing hl0 σ hR 1) cv_X9_47 l01 rfl rfl rfl (Nat.le_of_ble_eq_true rfl) ⟨by decide, by decide, by decide, by decide⟩ dX9_bidIt_10 ?_
    exact B_iret hf he rfl dX9_bidIt_13 (by decide) (by decide) rfl rfl

set_option maxHeartbeats 4000000 in
set_option maxRecDepth 100000 in
theorem e_bid_2 {l : Launch} {D : va_G} {K : Nat → ClassId} {ad : Adr} (hl0 : l.stackTraces = false) (σ : Mem) (hR : Rng σ) (hN : NI (σ 0 41)) (s a : Int) (hs : inR s) (ha : inR a) (p : Int) (hp : inR p) (h1 : 0 ≤ s ∧ s < σ 0 41 0) (h2 : ¬ ((1 ≤ a ∧ a ≤ 9) ∧ 1 ≤ p ∧ p ≤ 99)) : Cb l D K ad yX9_bidIt (.code yX9_bidIt cX9_bidIt 6 (some .int)) 5 0 0 σ [.ref (ad 0 40), .int (iN s), .int (iN a), .int (iN p)] (.inl (some (.int (iN (-1))))) (thrM σ 2) := by
  refine Cb.of (own := RX9) (ls0 := [some (.ref (ad 0 40)), some (.int (iN s)), some (.int (iN a)), some (.int (iN p)), none, none]) hl0 (by decide) rfl (Nat.le_of_ble_eq_true rfl) rfl ?_
  intro X hX1 hX2 hX3 hf he hh
  subst hX1 hX2 hX3
  have n0 := hN.n0
  have n1 := hN.n1
  have n2 := hN.n2
  have n3 := hN.n3
  refine V_aload_n hf dX9_bidIt_0 rfl rfl ?_
  refine V_iload_n hf dX9_bidIt_1 rfl rfl ?_
  refine B_callVi hf (As := [_]) (d_isShip hl0 σ hR hN s hs) cv_X9_120 l01 rfl rfl rfl (Nat.le_of_ble_eq_true rfl) ⟨by decide, by decide, by decide, by decide⟩ dX9_bidIt_2 ?_
  refine V_if_ne (tgt := 14) hf (by split <;> exact ⟨by decide, by decide⟩) dX9_bidIt_5 (by decide) (fun h5 => ?_) (fun h5 => ?_)
  · refine V_iload_n hf dX9_bidIt_14 rfl rfl ?_
    refine V_i2l hf (by first | exact hR _ _ _ (by decide) | exact ⟨by omega, by omega⟩ | exact Rng.st (Rng.st hR ⟨by decide, by decide⟩) ⟨by decide, by decide⟩ _ _ _ (by decide) | exact Rng.st hR ⟨by decide, by decide⟩ _ _ _ (by decide)) dX9_bidIt_15 ?_
    refine V_lconst (a := 1) hf (by decide +kernel) dX9_bidIt_16 ?_
    refine V_ldc2 (a := 9) hf (by decide +kernel) wcl_X9_124 dX9_bidIt_17 ?_
    refine B_callSi hf (As := [_, _, _]) (d_in hl0 σ (a) (1) (9) ha ⟨by decide, by decide⟩ ⟨by decide, by decide⟩) cvs_X9_63 rfl (Nat.le_of_ble_eq_true rfl) ⟨by decide, by decide, by decide, by decide⟩ dX9_bidIt_20 ?_
    refine V_if_eq (tgt := 38) hf (by split <;> exact ⟨by decide, by decide⟩) dX9_bidIt_23 (by decide) (fun h23 => ?_) (fun h23 => ?_)
    · refine V_aload_n hf dX9_bidIt_38 rfl rfl ?_
      refine V_iconst hf dX9_bidIt_39 ?_
      refine B_callVi hf (As := [_]) (d_throwing hl0 σ hR 2) cv_X9_47 l01 rfl rfl rfl (Nat.le_of_ble_eq_true rfl) ⟨by decide, by decide, by decide, by decide⟩ dX9_bidIt_40 ?_
      exact B_iret hf he rfl dX9_bidIt_43 (by decide) (by decide) rfl rfl
    · refine V_iload_n hf dX9_bidIt_26 rfl rfl ?_
      refine V_i2l hf (by first | exact hR _ _ _ (by decide) | exact ⟨by omega, by omega⟩ | exact Rng.st (Rng.st hR ⟨by decide, by decide⟩) ⟨by decide, by decide⟩ _ _ _ (by decide) | exact Rng.st hR ⟨by decide, by decide⟩ _ _ _ (by decide)) dX9_bidIt_27 ?_
      refine V_lconst (a := 1) hf (by decide +kernel) dX9_bidIt_28 ?_
      refine V_ldc2 (a := 99) hf (by decide +kernel) wcl_X9_102 dX9_bidIt_29 ?_
      refine B_callSi hf (As := [_, _, _]) (d_in hl0 σ (p) (1) (99) hp ⟨by decide, by decide⟩ ⟨by decide, by decide⟩) cvs_X9_63 rfl (Nat.le_of_ble_eq_true rfl) ⟨by decide, by decide, by decide, by decide⟩ dX9_bidIt_32 ?_
      refine V_if_ne (tgt := 44) hf (by split <;> exact ⟨by decide, by decide⟩) dX9_bidIt_35 (by decide) (fun h35 => ?_) (fun h35 => ?_)
      · exact absurd h35 (by first | omega | (split at h35 <;> omega))
      · refine V_aload_n hf dX9_bidIt_38 rfl rfl ?_
        refine V_iconst hf dX9_bidIt_39 ?_
        refine B_callVi hf (As := [_]) (d_throwing hl0 σ hR 2) cv_X9_47 l01 rfl rfl rfl (Nat.le_of_ble_eq_true rfl) ⟨by decide, by decide, by decide, by decide⟩ dX9_bidIt_40 ?_
        exact B_iret hf he rfl dX9_bidIt_43 (by decide) (by decide) rfl rfl
  · exact absurd h5 (by first | omega | (split at h5 <;> omega))

set_option maxHeartbeats 4000000 in
set_option maxRecDepth 100000 in
theorem e_bid_3 {l : Launch} {D : va_G} {K : Nat → ClassId} {ad : Adr} (hl0 : l.stackTraces = false) (σ : Mem) (hR : Rng σ) (hN : NI (σ 0 41)) (s a : Int) (hs : inR s) (ha : inR a) (p : Int) (hp : inR p) (h1 : 0 ≤ s ∧ s < σ 0 41 0) (h2 : 1 ≤ a ∧ a ≤ 9) (h3 : 1 ≤ p ∧ p ≤ 99) (h4 : σ 0 41 2 = 10) (h5 : mbRank (σ 0 41) 9 ≠ -1) : Cb l D K ad yX9_bidIt (.code yX9_bidIt cX9_bidIt 6 (some .int)) 5 0 0 σ [.ref (ad 0 40), .int (iN s), .int (iN a), .int (iN p)] (.inl (some (.int (iN (-1))))) (rjM σ 3 4 (σ 0 41 (58 + 5 * mbRank (σ 0 41) 9))) := by
  refine Cb.of (own := RX9) (ls0 := [some (.ref (ad 0 40)), some (.int (iN s)), some (.int (iN a)), some (.int (iN p)), none, none]) hl0 (by decide) rfl (Nat.le_of_ble_eq_true rfl) rfl ?_
  intro X hX1 hX2 hX3 hf he hh
  subst hX1 hX2 hX3
  have n0 := hN.n0
  have n1 := hN.n1
  have n2 := hN.n2
  have n3 := hN.n3
  refine V_aload_n hf dX9_bidIt_0 rfl rfl ?_
  refine V_iload_n hf dX9_bidIt_1 rfl rfl ?_
  refine B_callVi hf (As := [_]) (d_isShip hl0 σ hR hN s hs) cv_X9_120 l01 rfl rfl rfl (Nat.le_of_ble_eq_true rfl) ⟨by decide, by decide, by decide, by decide⟩ dX9_bidIt_2 ?_
  refine V_if_ne (tgt := 14) hf (by split <;> exact ⟨by decide, by decide⟩) dX9_bidIt_5 (by decide) (fun h5 => ?_) (fun h5 => ?_)
  · refine V_iload_n hf dX9_bidIt_14 rfl rfl ?_
    refine V_i2l hf (by first | exact hR _ _ _ (by decide) | exact ⟨by omega, by omega⟩ | exact Rng.st (Rng.st hR ⟨by decide, by decide⟩) ⟨by decide, by decide⟩ _ _ _ (by decide) | exact Rng.st hR ⟨by decide, by decide⟩ _ _ _ (by decide)) dX9_bidIt_15 ?_
    refine V_lconst (a := 1) hf (by decide +kernel) dX9_bidIt_16 ?_
    refine V_ldc2 (a := 9) hf (by decide +kernel) wcl_X9_124 dX9_bidIt_17 ?_
    refine B_callSi hf (As := [_, _, _]) (d_in hl0 σ (a) (1) (9) ha ⟨by decide, by decide⟩ ⟨by decide, by decide⟩) cvs_X9_63 rfl (Nat.le_of_ble_eq_true rfl) ⟨by decide, by decide, by decide, by decide⟩ dX9_bidIt_20 ?_
    refine V_if_eq (tgt := 38) hf (by split <;> exact ⟨by decide, by decide⟩) dX9_bidIt_23 (by decide) (fun h23 => ?_) (fun h23 => ?_)
    · exact absurd h23 (by first | omega | (split at h23 <;> omega))
    · refine V_iload_n hf dX9_bidIt_26 rfl rfl ?_
      refine V_i2l hf (by first | exact hR _ _ _ (by decide) | exact ⟨by omega, by omega⟩ | exact Rng.st (Rng.st hR ⟨by decide, by decide⟩) ⟨by decide, by decide⟩ _ _ _ (by decide) | exact Rng.st hR ⟨by decide, by decide⟩ _ _ _ (by decide)) dX9_bidIt_27 ?_
      refine V_lconst (a := 1) hf (by decide +kernel) dX9_bidIt_28 ?_
      refine V_ldc2 (a := 99) hf (by decide +kernel) wcl_X9_102 dX9_bidIt_29 ?_
      refine B_callSi hf (As := [_, _, _]) (d_in hl0 σ (p) (1) (99) hp ⟨by decide, by decide⟩ ⟨by decide, by decide⟩) cvs_X9_63 rfl (Nat.le_of_ble_eq_true rfl) ⟨by decide, by decide, by decide, by decide⟩ dX9_bidIt_32 ?_
      refine V_if_ne (tgt := 44) hf (by split <;> exact ⟨by decide, by decide⟩) dX9_bidIt_35 (by decide) (fun h35 => ?_) (fun h35 => ?_)
      · refine V_aload_n hf dX9_bidIt_44 rfl rfl ?_
        refine B_get hf l01 rfl fl_X9_9_12 rfl dX9_bidIt_45 ?_
        refine V_iconst hf dX9_bidIt_48 ?_
        refine B_iald hf l01 (fun _ => rfl) (by first | exact hR _ _ _ (by decide) | exact ⟨by omega, by omega⟩ | exact Rng.st (Rng.st hR ⟨by decide, by decide⟩) ⟨by decide, by decide⟩ _ _ _ (by decide) | exact Rng.st hR ⟨by decide, by decide⟩ _ _ _ (by decide)) (by omega) (by omega) dX9_bidIt_49 ?_
        refine V_bipush hf dX9_bidIt_50 (by decide +kernel) ?_
        refine V_icmp_ne (tgt := 76) hf (by first | exact hR _ _ _ (by decide) | exact ⟨by omega, by omega⟩ | exact Rng.st (Rng.st hR ⟨by decide, by decide⟩) ⟨by decide, by decide⟩ _ _ _ (by decide) | exact Rng.st hR ⟨by decide, by decide⟩ _ _ _ (by decide)) (by first | exact hR _ _ _ (by decide) | exact ⟨by omega, by omega⟩ | exact Rng.st (Rng.st hR ⟨by decide, by decide⟩) ⟨by decide, by decide⟩ _ _ _ (by decide) | exact Rng.st hR ⟨by decide, by decide⟩ _ _ _ (by decide)) dX9_bidIt_52 (by decide) (fun h52 => ?_) (fun h52 => ?_)
        · exact absurd h52 (by first | omega | (split at h52 <;> omega))
        · refine V_aload_n hf dX9_bidIt_55 rfl rfl ?_
          refine V_iconst hf dX9_bidIt_56 ?_
          refine V_iconst hf dX9_bidIt_57 ?_
          refine V_aload_n hf dX9_bidIt_58 rfl rfl ?_
          refine B_get hf l01 rfl fl_X9_9_12 rfl dX9_bidIt_59 ?_
          refine V_aload_n hf dX9_bidIt_62 rfl rfl ?_
          refine V_bipush hf dX9_bidIt_63 (by decide +kernel) ?_
          refine B_callVi hf (As := [_]) (d_bRank hl0 σ hR hN 9 ⟨by decide, by decide⟩) cv_X9_135 l01 rfl rfl rfl (Nat.le_of_ble_eq_true rfl) ⟨by decide, by decide, by decide, by decide⟩ dX9_bidIt_65 ?_
          have r9 : -1 ≤ mbRank (σ 0 41) 9 ∧ (mbRank (σ 0 41) 9 < σ 0 41 2 ∨ mbRank (σ 0 41) 9 = -1) := fst_r (P := fun k => sumI (mbF (σ 0 41) k) (σ 0 41 2) = 9)
          refine B_callSi hf (As := [_]) (d_bidAtPlace hl0 σ (mbRank (σ 0 41) 9)) cvs_X9_73 rfl (Nat.le_of_ble_eq_true rfl) ⟨by decide, by decide, by decide, by decide⟩ dX9_bidIt_68 ?_
          refine B_iald hf l01 (fun _ => rfl) ⟨by omega, by omega⟩ (by omega) (by omega) dX9_bidIt_71 ?_
          refine B_callVi hf (As := [_, _, _]) (d_rejecting hl0 σ 4 (σ 0 41 (58 + 5 * mbRank (σ 0 41) 9)) ((hR.st ⟨by decide, by decide⟩).st (hR _ _ _ (by decide))) 3) cv_X9_106 l01 rfl rfl rfl (Nat.le_of_ble_eq_true rfl) ⟨by decide, by decide, by decide, by decide⟩ dX9_bidIt_72 ?_
          exact B_iret hf he rfl dX9_bidIt_75 (by decide) (by decide) rfl rfl
      · exact absurd h35 (by first | omega | (split at h35 <;> omega))
  · exact absurd h5 (by first | omega | (split at h5 <;> omega))

set_option maxHeartbeats 4000000 in
set_option maxRecDepth 100000 in
theorem e_bid_4 {l : Launch} {D : va_G} {K : Nat → ClassId} {ad : Adr} (hl0 : l.stackTraces = false) (σ : Mem) (hR : Rng σ) (hN : NI (σ 0 41)) (s a : Int) (hs : inR s) (ha : inR a) (p : Int) (hp : inR p) (h1 : 0 ≤ s ∧ s < σ 0 41 0) (h2 : 1 ≤ a ∧ a ≤ 9) (h3 : 1 ≤ p ∧ p ≤ 99) (h4 : σ 0 41 2 < 10) (h5 : mplaces (σ 0 41) s ≤ 0) : Cb l D K ad yX9_bidIt (.code yX9_bidIt cX9_bidIt 6 (some .int)) 5 0 0 σ [.ref (ad 0 40), .int (iN s), .int (iN a), .int (iN p)] (.inl (some (.int (iN (-1))))) (rjM σ 3 3 (mcap (σ 0 41) s)) := by
  refine Cb.of (own := RX9) (ls0 := [some (.ref (ad 0 40)), some (.int (iN s)), some (.int (iN a)), some (.int (iN p)), none, none]) hl0 (by decide) rfl (Nat.le_of_ble_eq_true rfl) rfl ?_
  intro X hX1 hX2 hX3 hf he hh
  subst hX1 hX2 hX3
  have n0 := hN.n0
  have n1 := hN.n1
  have n2 := hN.n2
  have n3 := hN.n3
  refine V_aload_n hf dX9_bidIt_0 rfl rfl ?_
  refine V_iload_n hf dX9_bidIt_1 rfl rfl ?_
  refine B_callVi hf (As := [_]) (d_isShip hl0 σ hR hN s hs) cv_X9_120 l01 rfl rfl rfl (Nat.le_of_ble_eq_true rfl) ⟨by decide, by decide, by decide, by decide⟩ dX9_bidIt_2 ?_
  refine V_if_ne (tgt := 14) hf (by split <;> exact ⟨by decide, by decide⟩) dX9_bidIt_5 (by decide) (fun h5 => ?_) (fun h5 => ?_)
  · refine V_iload_n hf dX9_bidIt_14 rfl rfl ?_
    refine V_i2l hf (by first | exact hR _ _ _ (by decide) | exact ⟨by omega, by omega⟩ | exact Rng.st (Rng.st hR ⟨by decide, by decide⟩) ⟨by decide, by decide⟩ _ _ _ (by decide) | exact Rng.st hR ⟨by decide, by decide⟩ _ _ _ (by decide)) dX9_bidIt_15 ?_
    refine V_lconst (a := 1) hf (by decide +kernel) dX9_bidIt_16 ?_
    refine V_ldc2 (a := 9) hf (by decide +kernel) wcl_X9_124 dX9_bidIt_17 ?_
    refine B_callSi hf (As := [_, _, _]) (d_in hl0 σ (a) (1) (9) ha ⟨by decide, by decide⟩ ⟨by decide, by decide⟩) cvs_X9_63 rfl (Nat.le_of_ble_eq_true rfl) ⟨by decide, by decide, by decide, by decide⟩ dX9_bidIt_20 ?_
    refine V_if_eq (tgt := 38) hf (by split <;> exact ⟨by decide, by decide⟩) dX9_bidIt_23 (by decide) (fun h23 => ?_) (fun h23 => ?_)
    · exact absurd h23 (by first | omega | (split at h23 <;> omega))
    · refine V_iload_n hf dX9_bidIt_26 rfl rfl ?_
      refine V_i2l hf (by first | exact hR _ _ _ (by decide) | exact ⟨by omega, by omega⟩ | exact Rng.st (Rng.st hR ⟨by decide, by decide⟩) ⟨by decide, by decide⟩ _ _ _ (by decide) | exact Rng.st hR ⟨by decide, by decide⟩ _ _ _ (by decide)) dX9_bidIt_27 ?_
      refine V_lconst (a := 1) hf (by decide +kernel) dX9_bidIt_28 ?_
      refine V_ldc2 (a := 99) hf (by decide +kernel) wcl_X9_102 dX9_bidIt_29 ?_
      refine B_callSi hf (As := [_, _, _]) (d_in hl0 σ (p) (1) (99) hp ⟨by decide, by decide⟩ ⟨by decide, by decide⟩) cvs_X9_63 rfl (Nat.le_of_ble_eq_true rfl) ⟨by decide, by decide, by decide, by decide⟩ dX9_bidIt_32 ?_
      refine V_if_ne (tgt := 44) hf (by split <;> exact ⟨by decide, by decide⟩) dX9_bidIt_35 (by decide) (fun h35 => ?_) (fun h35 => ?_)
      · refine V_aload_n hf dX9_bidIt_44 rfl rfl ?_
        refine B_get hf l01 rfl fl_X9_9_12 rfl dX9_bidIt_45 ?_
        refine V_iconst hf dX9_bidIt_48 ?_
        refine B_iald hf l01 (fun _ => rfl) (by first | exact hR _ _ _ (by decide) | exact ⟨by omega, by omega⟩ | exact Rng.st (Rng.st hR ⟨by decide, by decide⟩) ⟨by decide, by decide⟩ _ _ _ (by decide) | exact Rng.st hR ⟨by decide, by decide⟩ _ _ _ (by decide)) (by omega) (by omega) dX9_bidIt_49 ?_
        refine V_bipush hf dX9_bidIt_50 (by decide +kernel) ?_
        refine V_icmp_ne (tgt := 76) hf (by first | exact hR _ _ _ (by decide) | exact ⟨by omega, by omega⟩ | exact Rng.st (Rng.st hR ⟨by decide, by decide⟩) ⟨by decide, by decide⟩ _ _ _ (by decide) | exact Rng.st hR ⟨by decide, by decide⟩ _ _ _ (by decide)) (by first | exact hR _ _ _ (by decide) | exact ⟨by omega, by omega⟩ | exact Rng.st (Rng.st hR ⟨by decide, by decide⟩) ⟨by decide, by decide⟩ _ _ _ (by decide) | exact Rng.st hR ⟨by decide, by decide⟩ _ _ _ (by decide)) dX9_bidIt_52 (by decide) (fun h52 => ?_) (fun h52 => ?_)
        · refine V_aload_n hf dX9_bidIt_76 rfl rfl ?_
          refine V_iload_n hf dX9_bidIt_77 rfl rfl ?_
          refine B_callVi hf (As := [_]) (d_places hl0 σ hR hN s ⟨by omega, by omega⟩) cv_X9_126 l01 rfl rfl rfl (Nat.le_of_ble_eq_true rfl) ⟨by decide, by decide, by decide, by decide⟩ dX9_bidIt_78 ?_
          refine V_if_gt (tgt := 96) hf (by have := mplaces_r hN (s := s) (by omega) (by omega); exact ⟨by omega, by omega⟩) dX9_bidIt_81 (by decide) (fun h81 => ?_) (fun h81 => ?_)
          · exact absurd h81 (by first | omega | (split at h81 <;> omega))
          · refine V_aload_n hf dX9_bidIt_84 rfl rfl ?_
            refine V_iconst hf dX9_bidIt_85 ?_
            refine V_iconst hf dX9_bidIt_86 ?_
            refine V_aload_n hf dX9_bidIt_87 rfl rfl ?_
            refine V_iload_n hf dX9_bidIt_88 rfl rfl ?_
            refine B_callVi hf (As := [_]) (d_cap hl0 σ hR s ⟨by omega, by omega⟩) cv_X9_76 l01 rfl rfl rfl (Nat.le_of_ble_eq_true rfl) ⟨by decide, by decide, by decide, by decide⟩ dX9_bidIt_89 ?_
            refine B_callVi hf (As := [_, _, _]) (d_rejecting hl0 σ 3 (mcap (σ 0 41) s) ((hR.st ⟨by decide, by decide⟩).st (hR _ _ _ (by decide))) 3) cv_X9_106 l01 rfl rfl rfl (Nat.le_of_ble_eq_true rfl) ⟨by decide, by decide, by decide, by decide⟩ dX9_bidIt_92 ?_
            exact B_iret hf he rfl dX9_bidIt_95 (by decide) (by decide) rfl rfl
        · exact absurd h52 (by first | omega | (split at h52 <;> omega))
      · exact absurd h35 (by first | omega | (split at h35 <;> omega))
  · exact absurd h5 (by first | omega | (split at h5 <;> omega))

set_option maxHeartbeats 4000000 in
set_option maxRecDepth 100000 in
theorem e_bid_5 {l : Launch} {D : va_G} {K : Nat → ClassId} {ad : Adr} (hl0 : l.stackTraces = false) (σ : Mem) (hR : Rng σ) (hN : NI (σ 0 41)) (s a : Int) (hs : inR s) (ha : inR a) (p : Int) (hp : inR p) (h1 : 0 ≤ s ∧ s < σ 0 41 0) (h2 : 1 ≤ a ∧ a ≤ 9) (h3 : 1 ≤ p ∧ p ≤ 99) (h4 : σ 0 41 2 < 10) (h5 : 0 < mplaces (σ 0 41) s) (h6 : σ 0 41 (14 + 2 * s) - mres (σ 0 41) s < p) : Cb l D K ad yX9_bidIt (.code yX9_bidIt cX9_bidIt 6 (some .int)) 5 0 0 σ [.ref (ad 0 40), .int (iN s), .int (iN a), .int (iN p)] (.inl (some (.int (iN (-1))))) (rjM σ 3 5 (σ 0 41 (14 + 2 * s) - mres (σ 0 41) s)) := by
  refine Cb.of (own := RX9) (ls0 := [some (.ref (ad 0 40)), some (.int (iN s)), some (.int (iN a)), some (.int (iN p)), none, none]) hl0 (by decide) rfl (Nat.le_of_ble_eq_true rfl) rfl ?_
  intro X hX1 hX2 hX3 hf he hh
  subst hX1 hX2 hX3
  have n0 := hN.n0
  have n1 := hN.n1
  have n2 := hN.n2
  have n3 := hN.n3
  refine V_aload_n hf dX9_bidIt_0 rfl rfl ?_
  refine V_iload_n hf dX9_bidIt_1 rfl rfl ?_
  refine B_callVi hf (As := [_]) (d_isShip hl0 σ hR hN s hs) cv_X9_120 l01 rfl rfl rfl (Nat.le_of_ble_eq_true rfl) ⟨by decide, by decide, by decide, by decide⟩ dX9_bidIt_2 ?_
  refine V_if_ne (tgt := 14) hf (by split <;> exact ⟨by decide, by decide⟩) dX9_bidIt_5 (by decide) (fun h5 => ?_) (fun h5 => ?_)
  · refine V_iload_n hf dX9_bidIt_14 rfl rfl ?_
    refine V_i2l hf (by first | exact hR _ _ _ (by decide) | exact ⟨by omega, by omega⟩ | exact Rng.st (Rng.st hR ⟨by decide, by decide⟩) ⟨by decide, by decide⟩ _ _ _ (by decide) | exact Rng.st hR ⟨by decide, by decide⟩ _ _ _ (by decide)) dX9_bidIt_15 ?_
    refine V_lconst (a := 1) hf (by decide +kernel) dX9_bidIt_16 ?_
    refine V_ldc2 (a := 9) hf (by decide +kernel) wcl_X9_124 dX9_bidIt_17 ?_
    refine B_callSi hf (As := [_, _, _]) (d_in hl0 σ (a) (1) (9) ha ⟨by decide, by decide⟩ ⟨by decide, by decide⟩) cvs_X9_63 rfl (Nat.le_of_ble_eq_true rfl) ⟨by decide, by decide, by decide, by decide⟩ dX9_bidIt_20 ?_
    refine V_if_eq (tgt := 38) hf (by split <;> exact ⟨by decide, by decide⟩) dX9_bidIt_23 (by decide) (fun h23 => ?_) (fun h23 => ?_)
    · exact absurd h23 (by first | omega | (split at h23 <;> omega))
    · refine V_iload_n hf dX9_bidIt_26 rfl rfl ?_
      refine V_i2l hf (by first | exact hR _ _ _ (by decide) | exact ⟨by omega, by omega⟩ | exact Rng.st (Rng.st hR ⟨by decide, by decide⟩) ⟨by decide, by decide⟩ _ _ _ (by decide) | exact Rng.st hR ⟨by decide, by decide⟩ _ _ _ (by decide)) dX9_bidIt_27 ?_
      refine V_lconst (a := 1) hf (by decide +kernel) dX9_bidIt_28 ?_
      refine V_ldc2 (a := 99) hf (by decide +kernel) wcl_X9_102 dX9_bidIt_29 ?_
      refine B_callSi hf (As := [_, _, _]) (d_in hl0 σ (p) (1) (99) hp ⟨by decide, by decide⟩ ⟨by decide, by decide⟩) cvs_X9_63 rfl (Nat.le_of_ble_eq_true rfl) ⟨by decide, by decide, by decide, by decide⟩ dX9_bidIt_32 ?_
      refine V_if_ne (tgt := 44) hf (by split <;> exact ⟨by decide, by decide⟩) dX9_bidIt_35 (by decide) (fun h35 => ?_) (fun h35 => ?_)
      · refine V_aload_n hf dX9_bidIt_44 rfl rfl ?_
        refine B_get hf l01 rfl fl_X9_9_12 rfl dX9_bidIt_45 ?_
        refine V_iconst hf dX9_bidIt_48 ?_
        refine B_iald hf l01 (fun _ => rfl) (by first | exact hR _ _ _ (by decide) | exact ⟨by omega, by omega⟩ | exact Rng.st (Rng.st hR ⟨by decide, by decide⟩) ⟨by decide, by decide⟩ _ _ _ (by decide) | exact Rng.st hR ⟨by decide, by decide⟩ _ _ _ (by decide)) (by omega) (by omega) dX9_bidIt_49 ?_
        refine V_bipush hf dX9_bidIt_50 (by decide +kernel) ?_
        refine V_icmp_ne (tgt := 76) hf (by first | exact hR _ _ _ (by decide) | exact ⟨by omega, by omega⟩ | exact Rng.st (Rng.st hR ⟨by decide, by decide⟩) ⟨by decide, by decide⟩ _ _ _ (by decide) | exact Rng.st hR ⟨by decide, by decide⟩ _ _ _ (by decide)) (by first | exact hR _ _ _ (by decide) | exact ⟨by omega, by omega⟩ | exact Rng.st (Rng.st hR ⟨by decide, by decide⟩) ⟨by decide, by decide⟩ _ _ _ (by decide) | exact Rng.st hR ⟨by decide, by decide⟩ _ _ _ (by decide)) dX9_bidIt_52 (by decide) (fun h52 => ?_) (fun h52 => ?_)
        · refine V_aload_n hf dX9_bidIt_76 rfl rfl ?_
          refine V_iload_n hf dX9_bidIt_77 rfl rfl ?_
          refine B_callVi hf (As := [_]) (d_places hl0 σ hR hN s ⟨by omega, by omega⟩) cv_X9_126 l01 rfl rfl rfl (Nat.le_of_ble_eq_true rfl) ⟨by decide, by decide, by decide, by decide⟩ dX9_bidIt_78 ?_
          refine V_if_gt (tgt := 96) hf (by have := mplaces_r hN (s := s) (by omega) (by omega); exact ⟨by omega, by omega⟩) dX9_bidIt_81 (by decide) (fun h81 => ?_) (fun h81 => ?_)
          · refine V_aload_n hf dX9_bidIt_96 rfl rfl ?_
            refine B_get hf l01 rfl fl_X9_9_12 rfl dX9_bidIt_97 ?_
            refine V_iload_n hf dX9_bidIt_100 rfl rfl ?_
            refine B_callSi hf (As := [_]) (d_shipAt hl0 σ (s)) cvs_X9_67 rfl (Nat.le_of_ble_eq_true rfl) ⟨by decide, by decide, by decide, by decide⟩ dX9_bidIt_101 ?_
            refine B_iald hf l01 (fun _ => rfl) ⟨by omega, by omega⟩ (by omega) (by omega) dX9_bidIt_104 ?_
            refine V_aload_n hf dX9_bidIt_105 rfl rfl ?_
            refine V_iload_n hf dX9_bidIt_106 rfl rfl ?_
            refine B_callVi hf (As := [_]) (d_res hl0 σ hR hN s hs) cv_X9_138 l01 rfl rfl rfl (Nat.le_of_ble_eq_true rfl) ⟨by decide, by decide, by decide, by decide⟩ dX9_bidIt_107 ?_
            refine V_isub hf dX9_bidIt_110 ?_
            refine V_istore (ls2 := [_, _, _, _, _, _]) hf dX9_bidIt_111 (by decide) rfl rfl ?_
            refine V_iload hf dX9_bidIt_113 rfl ?_
            refine V_iload_n hf dX9_bidIt_115 rfl rfl ?_
            refine V_icmp_ge (tgt := 128) hf (by have := mres_r hN s; have := hN.sh s h1.1 h1.2; exact ⟨by omega, by omega⟩) (by first | exact hR _ _ _ (by decide) | exact ⟨by omega, by omega⟩ | exact Rng.st (Rng.st hR ⟨by decide, by decide⟩) ⟨by decide, by decide⟩ _ _ _ (by decide) | exact Rng.st hR ⟨by decide, by decide⟩ _ _ _ (by decide)) dX9_bidIt_116 (by decide) (fun h116 => ?_) (fun h116 => ?_)
            · exact absurd h116 (by first | omega | (split at h116 <;> omega))
            · refine V_aload_n hf dX9_bidIt_119 rfl rfl ?_
              refine V_iconst hf dX9_bidIt_120 ?_
              refine V_iconst hf dX9_bidIt_121 ?_
              refine V_iload hf dX9_bidIt_122 rfl ?_
              refine B_callVi hf (As := [_, _, _]) (d_rejecting hl0 σ 5 (σ 0 41 (14 + 2 * s) - mres (σ 0 41) s) ((hR.st ⟨by decide, by decide⟩).st (by have := mres_r hN s; have := hN.sh s h1.1 h1.2; exact ⟨by omega, by omega⟩)) 3) cv_X9_106 l01 rfl rfl rfl (Nat.le_of_ble_eq_true rfl) ⟨by decide, by decide, by decide, by decide⟩ dX9_bidIt_124 ?_
              exact B_iret hf he rfl dX9_bidIt_127 (by decide) (by decide) rfl rfl
          · exact absurd h81 (by first | omega | (split at h81 <;> omega))
        · exact absurd h52 (by first | omega | (split at h52 <;> omega))
      · exact absurd h35 (by first | omega | (split at h35 <;> omega))
  · exact absurd h5 (by first | omega | (split at h5 <;> omega))

set_option maxHeartbeats 4000000 in
set_option maxRecDepth 100000 in
theorem e_offer_o {l : Launch} {D : va_G} {K : Nat → ClassId} {ad : Adr} (hl0 : l.stackTraces = false) (σ : Mem) (hR : Rng σ) (hN : NI (σ 0 41)) (b p : Int) (hb : inR b) (hp : inR p) (h1 : 0 ≤ b ∧ b < σ 0 41 1) (h2 : 1 ≤ p ∧ p ≤ 99) (h3 : mofferFor (σ 0 41) b = -1) (h4 : σ 0 41 3 < 16) : Cb l D K ad yX9_offerIt (.code yX9_offerIt cX9_offerIt 4 (some .int)) 5 0 0 σ [.ref (ad 0 40), .int (iN b), .int (iN p)] (.inl (some (.int (iN (mofferM σ b p 0 41 (108 + 4 * σ 0 41 3)))))) (mofferM σ b p) := by
  refine Cb.of (own := RX9) (ls0 := [some (.ref (ad 0 40)), some (.int (iN b)), some (.int (iN p)), none]) hl0 (by decide) rfl (Nat.le_of_ble_eq_true rfl) rfl ?_
  intro X hX1 hX2 hX3 hf he hh
  subst hX1 hX2 hX3
  have n0 := hN.n0
  have n1 := hN.n1
  have n2 := hN.n2
  have n3 := hN.n3
  refine V_aload_n hf dX9_offerIt_0 rfl rfl ?_
  refine V_iload_n hf dX9_offerIt_1 rfl rfl ?_
  refine B_callVi hf (As := [_]) (d_isBarn hl0 σ hR hN b hb) cv_X9_144 l01 rfl rfl rfl (Nat.le_of_ble_eq_true rfl) ⟨by decide, by decide, by decide, by decide⟩ dX9_offerIt_2 ?_
  refine V_if_ne (tgt := 14) hf (by split <;> exact ⟨by decide, by decide⟩) dX9_offerIt_5 (by decide) (fun h5 => ?_) (fun h5 => ?_)
  · refine V_iload_n hf dX9_offerIt_14 rfl rfl ?_
    refine V_i2l hf (by first | exact hR _ _ _ (by decide) | exact ⟨by omega, by omega⟩ | exact Rng.st (Rng.st hR ⟨by decide, by decide⟩) ⟨by decide, by decide⟩ _ _ _ (by decide) | exact Rng.st hR ⟨by decide, by decide⟩ _ _ _ (by decide)) dX9_offerIt_15 ?_
    refine V_lconst (a := 1) hf (by decide +kernel) dX9_offerIt_16 ?_
    refine V_ldc2 (a := 99) hf (by decide +kernel) wcl_X9_102 dX9_offerIt_17 ?_
    refine B_callSi hf (As := [_, _, _]) (d_in hl0 σ (p) (1) (99) hp ⟨by decide, by decide⟩ ⟨by decide, by decide⟩) cvs_X9_63 rfl (Nat.le_of_ble_eq_true rfl) ⟨by decide, by decide, by decide, by decide⟩ dX9_offerIt_20 ?_
    refine V_if_ne (tgt := 32) hf (by split <;> exact ⟨by decide, by decide⟩) dX9_offerIt_23 (by decide) (fun h23 => ?_) (fun h23 => ?_)
    · refine V_aload_n hf dX9_offerIt_32 rfl rfl ?_
      refine V_iload_n hf dX9_offerIt_33 rfl rfl ?_
      refine B_callVi hf (As := [_]) (d_offerFor hl0 σ hR hN b hb) cv_X9_147 l01 rfl rfl rfl (Nat.le_of_ble_eq_true rfl) ⟨by decide, by decide, by decide, by decide⟩ dX9_offerIt_34 ?_
      have r9 : -1 ≤ mofferFor (σ 0 41) b ∧ (mofferFor (σ 0 41) b < σ 0 41 3 ∨ mofferFor (σ 0 41) b = -1) := fst_r (P := fun k => σ 0 41 (108 + 4 * k + 1) = b)
      refine V_iconst hf dX9_offerIt_37 ?_
      refine V_icmp_eq (tgt := 62) hf ⟨by omega, by omega⟩ ⟨by omega, by omega⟩ dX9_offerIt_38 (by decide) (fun h38 => ?_) (fun h38 => ?_)
      · refine V_aload_n hf dX9_offerIt_62 rfl rfl ?_
        refine B_get hf l01 rfl fl_X9_9_12 rfl dX9_offerIt_63 ?_
        refine V_iconst hf dX9_offerIt_66 ?_
        refine B_iald hf l01 (fun _ => rfl) (by first | exact hR _ _ _ (by decide) | exact ⟨by omega, by omega⟩ | exact Rng.st (Rng.st hR ⟨by decide, by decide⟩) ⟨by decide, by decide⟩ _ _ _ (by decide) | exact Rng.st hR ⟨by decide, by decide⟩ _ _ _ (by decide)) (by omega) (by omega) dX9_offerIt_67 ?_
        refine B_callSi hf (As := [_]) (d_offerAtPlace hl0 σ (σ 0 41 3)) cvs_X9_82 rfl (Nat.le_of_ble_eq_true rfl) ⟨by decide, by decide, by decide, by decide⟩ dX9_offerIt_68 ?_
        refine V_istore_n (ls2 := [_, _, _, _]) hf dX9_offerIt_71 rfl (by decide) rfl rfl ?_
        refine V_aload_n hf dX9_offerIt_72 rfl rfl ?_
        refine B_get hf l01 rfl fl_X9_9_12 rfl dX9_offerIt_73 ?_
        refine V_iload_n hf dX9_offerIt_76 rfl rfl ?_
        refine V_aload_n hf dX9_offerIt_77 rfl rfl ?_
        refine B_get hf l01 rfl fl_X9_9_12 rfl dX9_offerIt_78 ?_
        refine V_iconst hf dX9_offerIt_81 ?_
        refine B_iald hf l01 (fun _ => rfl) (by first | exact hR _ _ _ (by decide) | exact ⟨by omega, by omega⟩ | exact Rng.st (Rng.st hR ⟨by decide, by decide⟩) ⟨by decide, by decide⟩ _ _ _ (by decide) | exact Rng.st hR ⟨by decide, by decide⟩ _ _ _ (by decide)) (by omega) (by omega) dX9_offerIt_82 ?_
        refine B_iast hf l01 (by decide) (fun _ => rfl) ⟨by omega, by omega⟩ (by omega) (by omega) dX9_offerIt_83 ?_
        refine V_aload_n hf dX9_offerIt_84 rfl rfl ?_
        refine B_get hf l01 rfl fl_X9_9_12 rfl dX9_offerIt_85 ?_
        refine V_iload_n hf dX9_offerIt_88 rfl rfl ?_
        refine V_iconst hf dX9_offerIt_89 ?_
        refine V_iadd hf dX9_offerIt_90 ?_
        refine V_iload_n hf dX9_offerIt_91 rfl rfl ?_
        refine B_iast hf l01 (by decide) (fun _ => rfl) ⟨by omega, by omega⟩ (by omega) (by omega) dX9_offerIt_92 ?_
        refine V_aload_n hf dX9_offerIt_93 rfl rfl ?_
        refine B_get hf l01 rfl fl_X9_9_12 rfl dX9_offerIt_94 ?_
        refine V_iload_n hf dX9_offerIt_97 rfl rfl ?_
        refine V_iconst hf dX9_offerIt_98 ?_
        refine V_iadd hf dX9_offerIt_99 ?_
        refine V_iload_n hf dX9_offerIt_100 rfl rfl ?_
        refine B_iast hf l01 (by decide) (fun _ => rfl) ⟨by omega, by omega⟩ (by omega) (by omega) dX9_offerIt_101 ?_
        refine V_aload_n hf dX9_offerIt_102 rfl rfl ?_
        refine B_get hf l01 rfl fl_X9_9_12 rfl dX9_offerIt_103 ?_
        refine V_iload_n hf dX9_offerIt_106 rfl rfl ?_
        refine V_iconst hf dX9_offerIt_107 ?_
        refine V_iadd hf dX9_offerIt_108 ?_
        refine V_iconst hf dX9_offerIt_109 ?_
        refine B_iast hf l01 (by decide) (fun _ => rfl) ⟨by omega, by omega⟩ (by omega) (by omega) dX9_offerIt_110 ?_
        refine V_aload_n hf dX9_offerIt_111 rfl rfl ?_
        refine B_get hf l01 rfl fl_X9_9_12 rfl dX9_offerIt_112 ?_
        refine V_iconst hf dX9_offerIt_115 ?_
        refine V_dup2 hf dX9_offerIt_116 rfl rfl ?_
        refine B_iald hf l01 (fun _ => rfl) (by first | exact hR _ _ _ (by decide) | exact ⟨by omega, by omega⟩ | exact Rng.st (Rng.st hR ⟨by decide, by decide⟩) ⟨by decide, by decide⟩ _ _ _ (by decide) | exact Rng.st hR ⟨by decide, by decide⟩ _ _ _ (by decide)) (by omega) (by omega) dX9_offerIt_117 ?_
        refine V_iconst hf dX9_offerIt_118 ?_
        refine V_iadd hf dX9_offerIt_119 ?_
        refine B_iast hf l01 (by decide) (fun _ => rfl) (by first | exact hR _ _ _ (by decide) | exact ⟨by omega, by omega⟩ | exact Rng.st (Rng.st hR ⟨by decide, by decide⟩) ⟨by decide, by decide⟩ _ _ _ (by decide) | exact Rng.st hR ⟨by decide, by decide⟩ _ _ _ (by decide)) (by omega) (by omega) dX9_offerIt_120 ?_
        refine V_aload_n hf dX9_offerIt_121 rfl rfl ?_
        refine B_get hf l01 rfl fl_X9_9_12 rfl dX9_offerIt_122 ?_
        refine V_iconst hf dX9_offerIt_125 ?_
        refine V_dup2 hf dX9_offerIt_126 rfl rfl ?_
        refine B_iald hf l01 (fun _ => rfl) (by first | exact hR _ _ _ (by decide) | exact ⟨by omega, by omega⟩ | exact Rng.st (Rng.st hR ⟨by decide, by decide⟩) ⟨by decide, by decide⟩ _ _ _ (by decide) | exact Rng.st hR ⟨by decide, by decide⟩ _ _ _ (by decide)) (by omega) (by omega) dX9_offerIt_127 ?_
        refine V_iconst hf dX9_offerIt_128 ?_
        refine V_iadd hf dX9_offerIt_129 ?_
        refine B_iast hf l01 (by decide) (fun _ => rfl) (by first | exact hR _ _ _ (by decide) | exact ⟨by omega, by omega⟩ | exact Rng.st (Rng.st hR ⟨by decide, by decide⟩) ⟨by decide, by decide⟩ _ _ _ (by decide) | exact Rng.st hR ⟨by decide, by decide⟩ _ _ _ (by decide)) (by omega) (by omega) dX9_offerIt_130 ?_
        refine V_aload_n hf dX9_offerIt_131 rfl rfl ?_
        refine B_get hf l01 rfl fl_X9_9_12 rfl dX9_offerIt_132 ?_
        refine V_iload_n hf dX9_offerIt_135 rfl rfl ?_
        refine B_iald hf l01 (fun _ => rfl) (by first | exact hR _ _ _ (by decide) | exact ⟨by omega, by omega⟩ | exact Rng.st (Rng.st hR ⟨by decide, by decide⟩) ⟨by decide, by decide⟩ _ _ _ (by decide) | exact Rng.st hR ⟨by decide, by decide⟩ _ _ _ (by decide)) (by omega) (by omega) dX9_offerIt_136 ?_
        exact B_iret hf he rfl dX9_offerIt_137 (by decide) (by decide) rfl rfl
      · exact absurd h38 (by first | omega | (split at h38 <;> omega))
    · exact absurd h23 (by first | omega | (split at h23 <;> omega))
  · exact absurd h5 (by first | omega | (split at h5 <;> omega))

set_option maxHeartbeats 4000000 in
set_option maxRecDepth 100000 in
theorem e_offer_1 {l : Launch} {D : va_G} {K : Nat → ClassId} {ad : Adr} (hl0 : l.stackTraces = false) (σ : Mem) (hR : Rng σ) (hN : NI (σ 0 41)) (b p : Int) (hb : inR b) (hp : inR p) (h1 : ¬ (0 ≤ b ∧ b < σ 0 41 1)) : Cb l D K ad yX9_offerIt (.code yX9_offerIt cX9_offerIt 4 (some .int)) 5 0 0 σ [.ref (ad 0 40), .int (iN b), .int (iN p)] (.inl (some (.int (iN (-1))))) (thrM σ 1) := by
  refine Cb.of (own := RX9) (ls0 := [some (.ref (ad 0 40)), some (.int (iN b)), some (.int (iN p)), none]) hl0 (by decide) rfl (Nat.le_of_ble_eq_true rfl) rfl ?_
  intro X hX1 hX2 hX3 hf he hh
  subst hX1 hX2 hX3
  have n0 := hN.n0
  have n1 := hN.n1
  have n2 := hN.n2
  have n3 := hN.n3
  refine V_aload_n hf dX9_offerIt_0 rfl rfl ?_
  refine V_iload_n hf dX9_offerIt_1 rfl rfl ?_
  refine B_callVi hf (As := [_]) (d_isBarn hl0 σ hR hN b hb) cv_X9_144 l01 rfl rfl rfl (Nat.le_of_ble_eq_true rfl) ⟨by decide, by decide, by decide, by decide⟩ dX9_offerIt_2 ?_
  refine V_if_ne (tgt := 14) hf (by split <;> exact ⟨by decide, by decide⟩) dX9_offerIt_5 (by decide) (fun h5 => ?_) (fun h5 => ?_)
  · exact absurd h5 (by first | omega | (split at h5 <;> omega))
  · refine V_aload_n hf dX9_offerIt_8 rfl rfl ?_
    refine V_iconst hf dX9_offerIt_9 ?_
    refine B_callVi hf (As := [_]) (d_throwing hl0 σ hR 1) cv_X9_47 l01 rfl rfl rfl (Nat.le_of_ble_eq_true rfl) ⟨by decide, by decide, by decide, by decide⟩ dX9_offerIt_10 ?_
    exact B_iret hf he rfl dX9_offerIt_13 (by decide) (by decide) rfl rfl

set_option maxHeartbeats 4000000 in
set_option maxRecDepth 100000 in
theorem e_offer_2 {l : Launch} {D : va_G} {K : Nat → ClassId} {ad : Adr} (hl0 : l.stackTraces = false) (σ : Mem) (hR : Rng σ) (hN : NI (σ 0 41)) (b p : Int) (hb : inR b) (hp : inR p) (h1 : 0 ≤ b ∧ b < σ 0 41 1) (h2 : ¬ (1 ≤ p ∧ p ≤ 99)) : Cb l D K ad yX9_offerIt (.code yX9_offerIt cX9_offerIt 4 (some .int)) 5 0 0 σ [.ref (ad 0 40), .int (iN b), .int (iN p)] (.inl (some (.int (iN (-1))))) (thrM σ 2) := by
  refine Cb.of (own := RX9) (ls0 := [some (.ref (ad 0 40)), some (.int (iN b)), some (.int (iN p)), none]) hl0 (by decide) rfl (Nat.le_of_ble_eq_true rfl) rfl ?_
  intro X hX1 hX2 hX3 hf he hh
  subst hX1 hX2 hX3
  have n0 := hN.n0
  have n1 := hN.n1
  have n2 := hN.n2
  have n3 := hN.n3
  refine V_aload_n hf dX9_offerIt_0 rfl rfl ?_
  refine V_iload_n hf dX9_offerIt_1 rfl rfl ?_
  refine B_callVi hf (As := [_]) (d_isBarn hl0 σ hR hN b hb) cv_X9_144 l01 rfl rfl rfl (Nat.le_of_ble_eq_true rfl) ⟨by decide, by decide, by decide, by decide⟩ dX9_offerIt_2 ?_
  refine V_if_ne (tgt := 14) hf (by split <;> exact ⟨by decide, by decide⟩) dX9_offerIt_5 (by decide) (fun h5 => ?_) (fun h5 => ?_)
  · refine V_iload_n hf dX9_offerIt_14 rfl rfl ?_
    refine V_i2l hf (by first | exact hR _ _ _ (by decide) | exact ⟨by omega, by omega⟩ | exact Rng.st (Rng.st hR ⟨by decide, by decide⟩) ⟨by decide, by decide⟩ _ _ _ (by decide) | exact Rng.st hR ⟨by decide, by decide⟩ _ _ _ (by decide)) dX9_offerIt_15 ?_
    refine V_lconst (a := 1) hf (by decide +kernel) dX9_offerIt_16 ?_
    refine V_ldc2 (a := 99) hf (by decide +kernel) wcl_X9_102 dX9_offerIt_17 ?_
    refine B_callSi hf (As := [_, _, _]) (d_in hl0 σ (p) (1) (99) hp ⟨by decide, by decide⟩ ⟨by decide, by decide⟩) cvs_X9_63 rfl (Nat.le_of_ble_eq_true rfl) ⟨by decide, by decide, by decide, by decide⟩ dX9_offerIt_20 ?_
    refine V_if_ne (tgt := 32) hf (by split <;> exact ⟨by decide, by decide⟩) dX9_offerIt_23 (by decide) (fun h23 => ?_) (fun h23 => ?_)
    · exact absurd h23 (by first | omega | (split at h23 <;> omega))
    · refine V_aload_n hf dX9_offerIt_26 rfl rfl ?_
      refine V_iconst hf dX9_offerIt_27 ?_
      refine B_callVi hf (As := [_]) (d_throwing hl0 σ hR 2) cv_X9_47 l01 rfl rfl rfl (Nat.le_of_ble_eq_true rfl) ⟨by decide, by decide, by decide, by decide⟩ dX9_offerIt_28 ?_
      exact B_iret hf he rfl dX9_offerIt_31 (by decide) (by decide) rfl rfl
  · exact absurd h5 (by first | omega | (split at h5 <;> omega))

set_option maxHeartbeats 4000000 in
set_option maxRecDepth 100000 in
theorem e_offer_3 {l : Launch} {D : va_G} {K : Nat → ClassId} {ad : Adr} (hl0 : l.stackTraces = false) (σ : Mem) (hR : Rng σ) (hN : NI (σ 0 41)) (b p : Int) (hb : inR b) (hp : inR p) (h1 : 0 ≤ b ∧ b < σ 0 41 1) (h2 : 1 ≤ p ∧ p ≤ 99) (h3 : mofferFor (σ 0 41) b ≠ -1) : Cb l D K ad yX9_offerIt (.code yX9_offerIt cX9_offerIt 4 (some .int)) 5 0 0 σ [.ref (ad 0 40), .int (iN b), .int (iN p)] (.inl (some (.int (iN (-1))))) (rjM σ 3 6 (σ 0 41 (108 + 4 * mofferFor (σ 0 41) b))) := by
  refine Cb.of (own := RX9) (ls0 := [some (.ref (ad 0 40)), some (.int (iN b)), some (.int (iN p)), none]) hl0 (by decide) rfl (Nat.le_of_ble_eq_true rfl) rfl ?_
  intro X hX1 hX2 hX3 hf he hh
  subst hX1 hX2 hX3
  have n0 := hN.n0
  have n1 := hN.n1
  have n2 := hN.n2
  have n3 := hN.n3
  refine V_aload_n hf dX9_offerIt_0 rfl rfl ?_
  refine V_iload_n hf dX9_offerIt_1 rfl rfl ?_
  refine B_callVi hf (As := [_]) (d_isBarn hl0 σ hR hN b hb) cv_X9_144 l01 rfl rfl rfl (Nat.le_of_ble_eq_true rfl) ⟨by decide, by decide, by decide, by decide⟩ dX9_offerIt_2 ?_
  refine V_if_ne (tgt := 14) hf (by split <;> exact ⟨by decide, by decide⟩) dX9_offerIt_5 (by decide) (fun h5 => ?_) (fun h5 => ?_)
  · refine V_iload_n hf dX9_offerIt_14 rfl rfl ?_
    refine V_i2l hf (by first | exact hR _ _ _ (by decide) | exact ⟨by omega, by omega⟩ | exact Rng.st (Rng.st hR ⟨by decide, by decide⟩) ⟨by decide, by decide⟩ _ _ _ (by decide) | exact Rng.st hR ⟨by decide, by decide⟩ _ _ _ (by decide)) dX9_offerIt_15 ?_
    refine V_lconst (a := 1) hf (by decide +kernel) dX9_offerIt_16 ?_
    refine V_ldc2 (a := 99) hf (by decide +kernel) wcl_X9_102 dX9_offerIt_17 ?_
    refine B_callSi hf (As := [_, _, _]) (d_in hl0 σ (p) (1) (99) hp ⟨by decide, by decide⟩ ⟨by decide, by decide⟩) cvs_X9_63 rfl (Nat.le_of_ble_eq_true rfl) ⟨by decide, by decide, by decide, by decide⟩ dX9_offerIt_20 ?_
    refine V_if_ne (tgt := 32) hf (by split <;> exact ⟨by decide, by decide⟩) dX9_offerIt_23 (by decide) (fun h23 => ?_) (fun h23 => ?_)
    · refine V_aload_n hf dX9_offerIt_32 rfl rfl ?_
      refine V_iload_n hf dX9_offerIt_33 rfl rfl ?_
      refine B_callVi hf (As := [_]) (d_offerFor hl0 σ hR hN b hb) cv_X9_147 l01 rfl rfl rfl (Nat.le_of_ble_eq_true rfl) ⟨by decide, by decide, by decide, by decide⟩ dX9_offerIt_34 ?_
      have r9 : -1 ≤ mofferFor (σ 0 41) b ∧ (mofferFor (σ 0 41) b < σ 0 41 3 ∨ mofferFor (σ 0 41) b = -1) := fst_r (P := fun k => σ 0 41 (108 + 4 * k + 1) = b)
      refine V_iconst hf dX9_offerIt_37 ?_
      refine V_icmp_eq (tgt := 62) hf ⟨by omega, by omega⟩ ⟨by omega, by omega⟩ dX9_offerIt_38 (by decide) (fun h38 => ?_) (fun h38 => ?_)
      · exact absurd h38 (by first | omega | (split at h38 <;> omega))
      · refine V_aload_n hf dX9_offerIt_41 rfl rfl ?_
        refine V_iconst hf dX9_offerIt_42 ?_
        refine V_bipush hf dX9_offerIt_43 (by decide +kernel) ?_
        refine V_aload_n hf dX9_offerIt_45 rfl rfl ?_
        refine B_get hf l01 rfl fl_X9_9_12 rfl dX9_offerIt_46 ?_
        refine V_aload_n hf dX9_offerIt_49 rfl rfl ?_
        refine V_iload_n hf dX9_offerIt_50 rfl rfl ?_
        refine B_callVi hf (As := [_]) (d_offerFor hl0 σ hR hN b hb) cv_X9_147 l01 rfl rfl rfl (Nat.le_of_ble_eq_true rfl) ⟨by decide, by decide, by decide, by decide⟩ dX9_offerIt_51 ?_
        refine B_callSi hf (As := [_]) (d_offerAtPlace hl0 σ (mofferFor (σ 0 41) b)) cvs_X9_82 rfl (Nat.le_of_ble_eq_true rfl) ⟨by decide, by decide, by decide, by decide⟩ dX9_offerIt_54 ?_
        refine B_iald hf l01 (fun _ => rfl) ⟨by omega, by omega⟩ (by omega) (by omega) dX9_offerIt_57 ?_
        refine B_callVi hf (As := [_, _, _]) (d_rejecting hl0 σ 6 (σ 0 41 (108 + 4 * mofferFor (σ 0 41) b)) ((hR.st ⟨by decide, by decide⟩).st (hR _ _ _ (by decide))) 3) cv_X9_106 l01 rfl rfl rfl (Nat.le_of_ble_eq_true rfl) ⟨by decide, by decide, by decide, by decide⟩ dX9_offerIt_58 ?_
        exact B_iret hf he rfl dX9_offerIt_61 (by decide) (by decide) rfl rfl
    · exact absurd h23 (by first | omega | (split at h23 <;> omega))
  · exact absurd h5 (by first | omega | (split at h5 <;> omega))

set_option maxHeartbeats 4000000 in
set_option maxRecDepth 100000 in
theorem e_canB_o {l : Launch} {D : va_G} {K : Nat → ClassId} {ad : Adr} (hl0 : l.stackTraces = false) (σ : Mem) (hR : Rng σ) (hN : NI (σ 0 41)) (i : Int) (hi : inR i) (h1 : mplB (σ 0 41) i ≠ -1) : Cb l D K ad yX9_cancelBidIt (.code yX9_cancelBidIt cX9_cancelBidIt 2 (some .int)) 5 0 0 σ [.ref (ad 0 40), .int (iN i)] (.inl (some (.int (iN (closeM σ 2 (58 + 5 * mplB (σ 0 41) i) 5 108 0 41 2))))) (closeM σ 2 (58 + 5 * mplB (σ 0 41) i) 5 108) := by
  refine Cb.of (own := RX9) (ls0 := [some (.ref (ad 0 40)), some (.int (iN i))]) hl0 (by decide) rfl (Nat.le_of_ble_eq_true rfl) rfl ?_
  intro X hX1 hX2 hX3 hf he hh
  subst hX1 hX2 hX3
  have n0 := hN.n0
  have n1 := hN.n1
  have n2 := hN.n2
  have n3 := hN.n3
  refine V_aload_n hf dX9_cancelBidIt_0 rfl rfl ?_
  refine V_iload_n hf dX9_cancelBidIt_1 rfl rfl ?_
  refine B_callVi hf (As := [_]) (d_plB hl0 σ hR hN i hi) cv_X9_153 l01 rfl rfl rfl (Nat.le_of_ble_eq_true rfl) ⟨by decide, by decide, by decide, by decide⟩ dX9_cancelBidIt_2 ?_
  have r9 : -1 ≤ mplB (σ 0 41) i ∧ (mplB (σ 0 41) i < σ 0 41 2 ∨ mplB (σ 0 41) i = -1) := fst_r (P := fun k => σ 0 41 (58 + 5 * k) = i)
  refine V_iconst hf dX9_cancelBidIt_5 ?_
  refine V_icmp_ne (tgt := 15) hf ⟨by omega, by omega⟩ ⟨by omega, by omega⟩ dX9_cancelBidIt_6 (by decide) (fun h6 => ?_) (fun h6 => ?_)
  · refine V_aload_n hf dX9_cancelBidIt_15 rfl rfl ?_
    refine V_aload_n hf dX9_cancelBidIt_16 rfl rfl ?_
    refine V_iload_n hf dX9_cancelBidIt_17 rfl rfl ?_
    refine B_callVi hf (As := [_]) (d_plB hl0 σ hR hN i hi) cv_X9_153 l01 rfl rfl rfl (Nat.le_of_ble_eq_true rfl) ⟨by decide, by decide, by decide, by decide⟩ dX9_cancelBidIt_18 ?_
    refine B_callVv hf (As := [_]) (e_closesB hl0 σ hR (mplB (σ 0 41) i) ⟨by omega, by omega⟩) cv_X9_156 l01 rfl rfl rfl (Nat.le_of_ble_eq_true rfl) ⟨by decide, by decide, by decide, by decide⟩ dX9_cancelBidIt_21 ?_
    refine V_aload_n hf dX9_cancelBidIt_24 rfl rfl ?_
    refine B_get hf l01 rfl fl_X9_9_12 rfl dX9_cancelBidIt_25 ?_
    refine V_iconst hf dX9_cancelBidIt_28 ?_
    refine B_iald hf l01 (fun _ => rfl) (by first | exact hR _ _ _ (by decide) | exact ⟨by omega, by omega⟩ | exact Rng.st (Rng.st hR ⟨by decide, by decide⟩) ⟨by decide, by decide⟩ _ _ _ (by decide) | exact Rng.st hR ⟨by decide, by decide⟩ _ _ _ (by decide)) (by omega) (by omega) dX9_cancelBidIt_29 ?_
    exact B_iret hf he rfl dX9_cancelBidIt_30 (by decide) (by decide) rfl rfl
  · exact absurd h6 (by first | omega | (split at h6 <;> omega))

set_option maxHeartbeats 4000000 in
set_option maxRecDepth 100000 in
theorem e_canB_1 {l : Launch} {D : va_G} {K : Nat → ClassId} {ad : Adr} (hl0 : l.stackTraces = false) (σ : Mem) (hR : Rng σ) (hN : NI (σ 0 41)) (i : Int) (hi : inR i) (h1 : mplB (σ 0 41) i = -1) : Cb l D K ad yX9_cancelBidIt (.code yX9_cancelBidIt cX9_cancelBidIt 2 (some .int)) 5 0 0 σ [.ref (ad 0 40), .int (iN i)] (.inl (some (.int (iN (-1))))) (thrM σ 1) := by
  refine Cb.of (own := RX9) (ls0 := [some (.ref (ad 0 40)), some (.int (iN i))]) hl0 (by decide) rfl (Nat.le_of_ble_eq_true rfl) rfl ?_
  intro X hX1 hX2 hX3 hf he hh
  subst hX1 hX2 hX3
  have n0 := hN.n0
  have n1 := hN.n1
  have n2 := hN.n2
  have n3 := hN.n3
  refine V_aload_n hf dX9_cancelBidIt_0 rfl rfl ?_
  refine V_iload_n hf dX9_cancelBidIt_1 rfl rfl ?_
  refine B_callVi hf (As := [_]) (d_plB hl0 σ hR hN i hi) cv_X9_153 l01 rfl rfl rfl (Nat.le_of_ble_eq_true rfl) ⟨by decide, by decide, by decide, by decide⟩ dX9_cancelBidIt_2 ?_
  have r9 : -1 ≤ mplB (σ 0 41) i ∧ (mplB (σ 0 41) i < σ 0 41 2 ∨ mplB (σ 0 41) i = -1) := fst_r (P := fun k => σ 0 41 (58 + 5 * k) = i)
  refine V_iconst hf dX9_cancelBidIt_5 ?_
  refine V_icmp_ne (tgt := 15) hf ⟨by omega, by omega⟩ ⟨by omega, by omega⟩ dX9_cancelBidIt_6 (by decide) (fun h6 => ?_) (fun h6 => ?_)
  · exact absurd h6 (by first | omega | (split at h6 <;> omega))
  · refine V_aload_n hf dX9_cancelBidIt_9 rfl rfl ?_
    refine V_iconst hf dX9_cancelBidIt_10 ?_
    refine B_callVi hf (As := [_]) (d_throwing hl0 σ hR 1) cv_X9_47 l01 rfl rfl rfl (Nat.le_of_ble_eq_true rfl) ⟨by decide, by decide, by decide, by decide⟩ dX9_cancelBidIt_11 ?_
    exact B_iret hf he rfl dX9_cancelBidIt_14 (by decide) (by decide) rfl rfl

set_option maxHeartbeats 4000000 in
set_option maxRecDepth 100000 in
theorem e_canO_o {l : Launch} {D : va_G} {K : Nat → ClassId} {ad : Adr} (hl0 : l.stackTraces = false) (σ : Mem) (hR : Rng σ) (hN : NI (σ 0 41)) (i : Int) (hi : inR i) (h1 : mplO (σ 0 41) i ≠ -1) : Cb l D K ad yX9_cancelOfferIt (.code yX9_cancelOfferIt cX9_cancelOfferIt 2 (some .int)) 5 0 0 σ [.ref (ad 0 40), .int (iN i)] (.inl (some (.int (iN (closeM σ 3 (108 + 4 * mplO (σ 0 41) i) 4 172 0 41 3))))) (closeM σ 3 (108 + 4 * mplO (σ 0 41) i) 4 172) := by
  refine Cb.of (own := RX9) (ls0 := [some (.ref (ad 0 40)), some (.int (iN i))]) hl0 (by decide) rfl (Nat.le_of_ble_eq_true rfl) rfl ?_
  intro X hX1 hX2 hX3 hf he hh
  subst hX1 hX2 hX3
  have n0 := hN.n0
  have n1 := hN.n1
  have n2 := hN.n2
  have n3 := hN.n3
  refine V_aload_n hf dX9_cancelOfferIt_0 rfl rfl ?_
  refine V_iload_n hf dX9_cancelOfferIt_1 rfl rfl ?_
  refine B_callVi hf (As := [_]) (d_plO hl0 σ hR hN i hi) cv_X9_163 l01 rfl rfl rfl (Nat.le_of_ble_eq_true rfl) ⟨by decide, by decide, by decide, by decide⟩ dX9_cancelOfferIt_2 ?_
  have r9 : -1 ≤ mplO (σ 0 41) i ∧ (mplO (σ 0 41) i < σ 0 41 3 ∨ mplO (σ 0 41) i = -1) := fst_r (P := fun k => σ 0 41 (108 + 4 * k) = i)
  refine V_iconst hf dX9_cancelOfferIt_5 ?_
  refine V_icmp_ne (tgt := 15) hf ⟨by omega, by omega⟩ ⟨by omega, by omega⟩ dX9_cancelOfferIt_6 (by decide) (fun h6 => ?_) (fun h6 => ?_)
  · refine V_aload_n hf dX9_cancelOfferIt_15 rfl rfl ?_
    refine V_aload_n hf dX9_cancelOfferIt_16 rfl rfl ?_
    refine V_iload_n hf dX9_cancelOfferIt_17 rfl rfl ?_
    refine B_callVi hf (As := [_]) (d_plO hl0 σ hR hN i hi) cv_X9_163 l01 rfl rfl rfl (Nat.le_of_ble_eq_true rfl) ⟨by decide, by decide, by decide, by decide⟩ dX9_cancelOfferIt_18 ?_
    refine B_callVv hf (As := [_]) (e_closesO hl0 σ hR (mplO (σ 0 41) i) ⟨by omega, by omega⟩) cv_X9_166 l01 rfl rfl rfl (Nat.le_of_ble_eq_true rfl) ⟨by decide, by decide, by decide, by decide⟩ dX9_cancelOfferIt_21 ?_
    refine V_aload_n hf dX9_cancelOfferIt_24 rfl rfl ?_
    refine B_get hf l01 rfl fl_X9_9_12 rfl dX9_cancelOfferIt_25 ?_
    refine V_iconst hf dX9_cancelOfferIt_28 ?_
    refine B_iald hf l01 (fun _ => rfl) (by first | exact hR _ _ _ (by decide) | exact ⟨by omega, by omega⟩ | exact Rng.st (Rng.st hR ⟨by decide, by decide⟩) ⟨by decide, by decide⟩ _ _ _ (by decide) | exact Rng.st hR ⟨by decide, by decide⟩ _ _ _ (by decide)) (by omega) (by omega) dX9_cancelOfferIt_29 ?_
    exact B_iret hf he rfl dX9_cancelOfferIt_30 (by decide) (by decide) rfl rfl
  · exact absurd h6 (by first | omega | (split at h6 <;> omega))

set_option maxHeartbeats 4000000 in
set_option maxRecDepth 100000 in
theorem e_canO_1 {l : Launch} {D : va_G} {K : Nat → ClassId} {ad : Adr} (hl0 : l.stackTraces = false) (σ : Mem) (hR : Rng σ) (hN : NI (σ 0 41)) (i : Int) (hi : inR i) (h1 : mplO (σ 0 41) i = -1) : Cb l D K ad yX9_cancelOfferIt (.code yX9_cancelOfferIt cX9_cancelOfferIt 2 (some .int)) 5 0 0 σ [.ref (ad 0 40), .int (iN i)] (.inl (some (.int (iN (-1))))) (thrM σ 1) := by
  refine Cb.of (own := RX9) (ls0 := [some (.ref (ad 0 40)), some (.int (iN i))]) hl0 (by decide) rfl (Nat.le_of_ble_eq_true rfl) rfl ?_
  intro X hX1 hX2 hX3 hf he hh
  subst hX1 hX2 hX3
  have n0 := hN.n0
  have n1 := hN.n1
  have n2 := hN.n2
  have n3 := hN.n3
  refine V_aload_n hf dX9_cancelOfferIt_0 rfl rfl ?_
  refine V_iload_n hf dX9_cancelOfferIt_1 rfl rfl ?_
  refine B_callVi hf (As := [_]) (d_plO hl0 σ hR hN i hi) cv_X9_163 l01 rfl rfl rfl (Nat.le_of_ble_eq_true rfl) ⟨by decide, by decide, by decide, by decide⟩ dX9_cancelOfferIt_2 ?_
  have r9 : -1 ≤ mplO (σ 0 41) i ∧ (mplO (σ 0 41) i < σ 0 41 3 ∨ mplO (σ 0 41) i = -1) := fst_r (P := fun k => σ 0 41 (108 + 4 * k) = i)
  refine V_iconst hf dX9_cancelOfferIt_5 ?_
  refine V_icmp_ne (tgt := 15) hf ⟨by omega, by omega⟩ ⟨by omega, by omega⟩ dX9_cancelOfferIt_6 (by decide) (fun h6 => ?_) (fun h6 => ?_)
  · exact absurd h6 (by first | omega | (split at h6 <;> omega))
  · refine V_aload_n hf dX9_cancelOfferIt_9 rfl rfl ?_
    refine V_iconst hf dX9_cancelOfferIt_10 ?_
    refine B_callVi hf (As := [_]) (d_throwing hl0 σ hR 1) cv_X9_47 l01 rfl rfl rfl (Nat.le_of_ble_eq_true rfl) ⟨by decide, by decide, by decide, by decide⟩ dX9_cancelOfferIt_11 ?_
    exact B_iret hf he rfl dX9_cancelOfferIt_14 (by decide) (by decide) rfl rfl

set_option maxHeartbeats 4000000 in
set_option maxRecDepth 100000 in
theorem e_fee_o {l : Launch} {D : va_G} {K : Nat → ClassId} {ad : Adr} (hl0 : l.stackTraces = false) (σ : Mem) (hR : Rng σ) (hN : NI (σ 0 41)) (c : Int) (hc : inR c) (h1 : 0 ≤ c ∧ c ≤ 9) : Cb l D K ad yX9_feeIt (.code yX9_feeIt cX9_feeIt 3 (some .int)) 5 0 0 σ [.ref (ad 0 40), .int (iN c)] (.inl (some (.int (iN (σ 0 41 6))))) (st3 σ 0 41 6 c) := by
  refine Cb.of (own := RX9) (ls0 := [some (.ref (ad 0 40)), some (.int (iN c)), none]) hl0 (by decide) rfl (Nat.le_of_ble_eq_true rfl) rfl ?_
  intro X hX1 hX2 hX3 hf he hh
  subst hX1 hX2 hX3
  have n0 := hN.n0
  have n1 := hN.n1
  have n2 := hN.n2
  have n3 := hN.n3
  refine V_iload_n hf dX9_feeIt_0 rfl rfl ?_
  refine V_i2l hf (by first | exact hR _ _ _ (by decide) | exact ⟨by omega, by omega⟩ | exact Rng.st (Rng.st hR ⟨by decide, by decide⟩) ⟨by decide, by decide⟩ _ _ _ (by decide) | exact Rng.st hR ⟨by decide, by decide⟩ _ _ _ (by decide)) dX9_feeIt_1 ?_
  refine V_lconst (a := 0) hf (by decide +kernel) dX9_feeIt_2 ?_
  refine V_ldc2 (a := 9) hf (by decide +kernel) wcl_X9_124 dX9_feeIt_3 ?_
  refine B_callSi hf (As := [_, _, _]) (d_in hl0 σ (c) (0) (9) hc ⟨by decide, by decide⟩ ⟨by decide, by decide⟩) cvs_X9_63 rfl (Nat.le_of_ble_eq_true rfl) ⟨by decide, by decide, by decide, by decide⟩ dX9_feeIt_6 ?_
  refine V_if_ne (tgt := 18) hf (by split <;> exact ⟨by decide, by decide⟩) dX9_feeIt_9 (by decide) (fun h9 => ?_) (fun h9 => ?_)
  · refine V_aload_n hf dX9_feeIt_18 rfl rfl ?_
    refine B_get hf l01 rfl fl_X9_9_12 rfl dX9_feeIt_19 ?_
    refine V_bipush hf dX9_feeIt_22 (by decide +kernel) ?_
    refine B_iald hf l01 (fun _ => rfl) (by first | exact hR _ _ _ (by decide) | exact ⟨by omega, by omega⟩ | exact Rng.st (Rng.st hR ⟨by decide, by decide⟩) ⟨by decide, by decide⟩ _ _ _ (by decide) | exact Rng.st hR ⟨by decide, by decide⟩ _ _ _ (by decide)) (by omega) (by omega) dX9_feeIt_24 ?_
    refine V_istore_n (ls2 := [_, _, _]) hf dX9_feeIt_25 rfl (by decide) rfl rfl ?_
    refine V_aload_n hf dX9_feeIt_26 rfl rfl ?_
    refine B_get hf l01 rfl fl_X9_9_12 rfl dX9_feeIt_27 ?_
    refine V_bipush hf dX9_feeIt_30 (by decide +kernel) ?_
    refine V_iload_n hf dX9_feeIt_32 rfl rfl ?_
    refine B_iast hf l01 (by decide) (fun _ => rfl) (by first | exact hR _ _ _ (by decide) | exact ⟨by omega, by omega⟩ | exact Rng.st (Rng.st hR ⟨by decide, by decide⟩) ⟨by decide, by decide⟩ _ _ _ (by decide) | exact Rng.st hR ⟨by decide, by decide⟩ _ _ _ (by decide)) (by omega) (by omega) dX9_feeIt_33 ?_
    refine V_iload_n hf dX9_feeIt_34 rfl rfl ?_
    exact B_iret hf he rfl dX9_feeIt_35 (by decide) (by decide) rfl rfl
  · exact absurd h9 (by first | omega | (split at h9 <;> omega))

set_option maxHeartbeats 4000000 in
set_option maxRecDepth 100000 in
theorem e_fee_1 {l : Launch} {D : va_G} {K : Nat → ClassId} {ad : Adr} (hl0 : l.stackTraces = false) (σ : Mem) (hR : Rng σ) (hN : NI (σ 0 41)) (c : Int) (hc : inR c) (h1 : ¬ (0 ≤ c ∧ c ≤ 9)) : Cb l D K ad yX9_feeIt (.code yX9_feeIt cX9_feeIt 3 (some .int)) 5 0 0 σ [.ref (ad 0 40), .int (iN c)] (.inl (some (.int (iN (-1))))) (thrM σ 1) := by
  refine Cb.of (own := RX9) (ls0 := [some (.ref (ad 0 40)), some (.int (iN c)), none]) hl0 (by decide) rfl (Nat.le_of_ble_eq_true rfl) rfl ?_
  intro X hX1 hX2 hX3 hf he hh
  subst hX1 hX2 hX3
  have n0 := hN.n0
  have n1 := hN.n1
  have n2 := hN.n2
  have n3 := hN.n3
  refine V_iload_n hf dX9_feeIt_0 rfl rfl ?_
  refine V_i2l hf (by first | exact hR _ _ _ (by decide) | exact ⟨by omega, by omega⟩ | exact Rng.st (Rng.st hR ⟨by decide, by decide⟩) ⟨by decide, by decide⟩ _ _ _ (by decide) | exact Rng.st hR ⟨by decide, by decide⟩ _ _ _ (by decide)) dX9_feeIt_1 ?_
  refine V_lconst (a := 0) hf (by decide +kernel) dX9_feeIt_2 ?_
  refine V_ldc2 (a := 9) hf (by decide +kernel) wcl_X9_124 dX9_feeIt_3 ?_
  refine B_callSi hf (As := [_, _, _]) (d_in hl0 σ (c) (0) (9) hc ⟨by decide, by decide⟩ ⟨by decide, by decide⟩) cvs_X9_63 rfl (Nat.le_of_ble_eq_true rfl) ⟨by decide, by decide, by decide, by decide⟩ dX9_feeIt_6 ?_
  refine V_if_ne (tgt := 18) hf (by split <;> exact ⟨by decide, by decide⟩) dX9_feeIt_9 (by decide) (fun h9 => ?_) (fun h9 => ?_)
  · exact absurd h9 (by first | omega | (split at h9 <;> omega))
  · refine V_aload_n hf dX9_feeIt_12 rfl rfl ?_
    refine V_iconst hf dX9_feeIt_13 ?_
    refine B_callVi hf (As := [_]) (d_throwing hl0 σ hR 1) cv_X9_47 l01 rfl rfl rfl (Nat.le_of_ble_eq_true rfl) ⟨by decide, by decide, by decide, by decide⟩ dX9_feeIt_14 ?_
    exact B_iret hf he rfl dX9_feeIt_17 (by decide) (by decide) rfl rfl
