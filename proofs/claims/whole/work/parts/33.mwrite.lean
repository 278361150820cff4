/-! the reference: what it writes -/
theorem cpy_0 {σ : Mem} {g1 : Int} {j1 : Nat} {sp g2 : Int} {j2 : Nat} {dp : Int} : cpy σ g1 j1 sp g2 j2 dp 0 = σ := by
  funext a b c
  unfold cpy
  rw [if_neg (by omega)]
theorem cpy_s {σ : Mem} {g1 : Int} {j1 : Nat} {sp g2 : Int} {j2 : Nat} {dp n i i' : Int} (hn : 0 ≤ n) (hi : i = dp + n) (hi' : i' = sp + n) (h : ¬ (g1 = g2 ∧ j1 = j2 ∧ dp ≤ sp + n ∧ sp + n < dp + n)) : st3 (cpy σ g1 j1 sp g2 j2 dp n) g2 j2 i (cpy σ g1 j1 sp g2 j2 dp n g1 j1 i') = cpy σ g1 j1 sp g2 j2 dp (n + 1) := by
  subst hi hi'
  have e : cpy σ g1 j1 sp g2 j2 dp n g1 j1 (sp + n) = σ g1 j1 (sp + n) := if_neg h
  rw [e]
  funext a b c
  unfold st3 cpy
  by_cases q : a = g2 ∧ b = j2
  · obtain ⟨rfl, rfl⟩ := q
    by_cases q1 : c = dp + n
    · subst q1
      rw [if_pos ⟨rfl, rfl, rfl⟩, if_pos ⟨rfl, rfl, by omega, by omega⟩, show sp + (dp + n - dp) = sp + n by omega]
    · rw [if_neg (fun z => q1 z.2.2)]
      by_cases q2 : dp ≤ c ∧ c < dp + n
      · rw [if_pos ⟨rfl, rfl, q2.1, q2.2⟩, if_pos ⟨rfl, rfl, q2.1, by omega⟩]
      · rw [if_neg (fun z => q2 ⟨z.2.2.1, z.2.2.2⟩), if_neg (fun z => q2 ⟨z.2.2.1, by omega⟩)]
  · rw [if_neg (fun z => q ⟨z.1, z.2.1⟩), if_neg (fun z => q ⟨z.1, z.2.1⟩), if_neg (fun z => q ⟨z.1, z.2.1⟩)]
/-- downwards, over places that were not read yet -/
theorem cpy_d {σ : Mem} {g : Int} {j : Nat} {sp dp n i i' sp1 dp1 n1 : Int} (hn : 0 ≤ n) (hi : i = dp) (hi' : i' = sp) (hs : sp1 = sp + 1) (hd : dp1 = dp + 1) (hn1 : n1 = n + 1) (h : sp ≤ dp) : st3 (cpy σ g j sp1 g j dp1 n) g j i (cpy σ g j sp1 g j dp1 n g j i') = cpy σ g j sp g j dp n1 := by
  subst hi hi' hs hd hn1
  have e : cpy σ g j (i' + 1) g j (i + 1) n g j i' = σ g j i' := if_neg (by omega)
  rw [e]
  funext a b c
  unfold st3 cpy
  by_cases q : a = g ∧ b = j
  · obtain ⟨rfl, rfl⟩ := q
    by_cases q1 : c = i
    · subst q1
      rw [if_pos ⟨rfl, rfl, rfl⟩, if_pos ⟨rfl, rfl, by omega, by omega⟩, show i' + (c - c) = i' by omega]
    · rw [if_neg (fun z => q1 z.2.2)]
      by_cases q2 : i + 1 ≤ c ∧ c < i + 1 + n
      · rw [if_pos ⟨rfl, rfl, q2.1, q2.2⟩, if_pos ⟨rfl, rfl, by omega, by omega⟩, show i' + 1 + (c - (i + 1)) = i' + (c - i) by omega]
      · rw [if_neg (fun z => q2 ⟨z.2.2.1, z.2.2.2⟩), if_neg (fun z => q2 ⟨by omega, by omega⟩)]
  · rw [if_neg (fun z => q ⟨z.1, z.2.1⟩), if_neg (fun z => q ⟨z.1, z.2.1⟩), if_neg (fun z => q ⟨z.1, z.2.1⟩)]
def fill (σ : Mem) (g : Int) (j : Nat) (a n : Int) : Mem := fun g' j' k => if g' = g ∧ j' = j ∧ a ≤ k ∧ k < a + n then 0 else σ g' j' k
theorem fill_0 {σ : Mem} {g : Int} {j : Nat} {a : Int} : fill σ g j a 0 = σ := by
  funext p q r
  unfold fill
  rw [if_neg (by omega)]
theorem fill_s {σ : Mem} {g : Int} {j : Nat} {a n i : Int} (hn : 0 ≤ n) (hi : i = a + n) : st3 (fill σ g j a n) g j i 0 = fill σ g j a (n + 1) := by
  subst hi
  funext p q r
  unfold st3 fill
  by_cases h : p = g ∧ q = j
  · obtain ⟨rfl, rfl⟩ := h
    by_cases q1 : r = a + n
    · rw [if_pos ⟨rfl, rfl, q1⟩, if_pos ⟨rfl, rfl, by omega, by omega⟩]
    · rw [if_neg (fun z => q1 z.2.2)]
      by_cases q2 : a ≤ r ∧ r < a + n
      · rw [if_pos ⟨rfl, rfl, q2.1, q2.2⟩, if_pos ⟨rfl, rfl, q2.1, by omega⟩]
      · rw [if_neg (fun z => q2 ⟨z.2.2.1, z.2.2.2⟩), if_neg (fun z => q2 ⟨z.2.2.1, by omega⟩)]
  · rw [if_neg (fun z => h ⟨z.1, z.2.1⟩), if_neg (fun z => h ⟨z.1, z.2.1⟩), if_neg (fun z => h ⟨z.1, z.2.1⟩)]
theorem Rng.fill {σ : Mem} (h : Rng σ) {g : Int} {j : Nat} {a n : Int} : Rng (fill σ g j a n) := by
  intro p q r hb
  show inR (if _ then _ else _)
  split
  · exact ⟨by decide, by decide⟩
  · exact h p q r hb
def startM (σ : Mem) : Mem := cpy (st3 (st3 σ 0 40 8 0) 0 40 14 0) 0 41 0 0 42 0 212
def shiftM (σ : Mem) : Mem :=
  let τ := cpy σ 0 45 212 0 45 0 1484
  st3 τ 0 40 6 (τ 0 40 6 - 1)
def pushM (σ1 : Mem) : Mem :=
  let σ2 := cpy σ1 0 42 0 0 45 (212 * σ1 0 40 6) 212
  st3 σ2 0 40 6 (σ2 0 40 6 + 1)
def rejM (σ : Mem) : Mem :=
  let σ1 := st3 σ 0 40 11 (σ 0 40 14)
  let σ2 := st3 σ1 0 40 12 (σ1 0 40 15)
  st3 σ2 0 40 13 0
def closeM (σ : Mem) (w at_ s e : Int) : Mem :=
  let σ1 := cpy σ 0 41 (at_ + s) 0 41 at_ (e - s - at_)
  let σ2 := fill σ1 0 41 (e - s) s
  st3 σ2 0 41 w (σ2 0 41 w - 1)
def rememM (σ : Mem) (y s b p : Int) : Mem :=
  let σ1 := cpy σ 0 41 172 0 41 176 36
  let σ2 := st3 (st3 (st3 (st3 σ1 0 41 172 y) 0 41 173 s) 0 41 174 b) 0 41 175 p
  st3 σ2 0 41 13 (if σ2 0 41 13 + 1 < 10 then σ2 0 41 13 + 1 else 10)
def mtradeA (σ : Mem) (b x : Int) : Mem :=
  let k := σ 0 41 (108 + 4 * x + 1)
  let y := σ 0 41 (58 + 5 * b + 1)
  let s := σ 0 41 (26 + 2 * k)
  let p := (σ 0 41 (58 + 5 * b + 3) + σ 0 41 (108 + 4 * x + 2)) / 2
  let f := if p < σ 0 41 6 then p else σ 0 41 6
  let σ1 := st3 σ 0 41 (14 + 2 * y) (σ 0 41 (14 + 2 * y) - p)
  let σ2 := st3 σ1 0 41 (14 + 2 * s) (σ1 0 41 (14 + 2 * s) + (p - f))
  let σ3 := st3 σ2 0 41 10 (σ2 0 41 10 + f)
  let σ4 := st3 σ3 0 41 (26 + 2 * k) y
  let σ5 := st3 σ4 0 41 8 (σ4 0 41 8 + 1)
  st3 σ5 0 41 9 (σ5 0 41 9 + p)
def mtradeB (σ : Mem) (b x : Int) : Mem :=
  rememM (mtradeA σ b x) (σ 0 41 (58 + 5 * b + 1)) (σ 0 41 (26 + 2 * σ 0 41 (108 + 4 * x + 1))) (σ 0 41 (108 + 4 * x + 1)) ((σ 0 41 (58 + 5 * b + 3) + σ 0 41 (108 + 4 * x + 2)) / 2)
def mtradeM (σ : Mem) (b x : Int) : Mem := closeM (closeM (mtradeB σ b x) 2 (58 + 5 * b) 5 108) 3 (108 + 4 * x) 4 172
noncomputable def mbid (σ : Mem) (r : Int) : Int := mbRank (σ 0 41) r
noncomputable def moff (σ : Mem) (r : Int) : Int := mmatch (σ 0 41) (mbRank (σ 0 41) r)
noncomputable def maucR : Nat → Mem → Int → Int → Mem × Int
  | 0, σ, _, d => (σ, d)
  | n + 1, σ, r, d => if moff σ r = -1 then maucR n σ (r + 1) d else maucR n (mtradeM σ (mbid σ r) (moff σ r)) r (d + 1)
def maucOk : Nat → Mem → Int → Prop
  | 0, _, _ => True
  | n + 1, σ, r => (Rng σ ∧ NI (σ 0 41) ∧ 0 ≤ r ∧ r < σ 0 41 2 ∧ mbid σ r ≠ -1) ∧ (if moff σ r = -1 then maucOk n σ (r + 1) else Rng (mtradeA σ (mbid σ r) (moff σ r)) ∧ Rng (mtradeB σ (mbid σ r) (moff σ r)) ∧ Rng (closeM (mtradeB σ (mbid σ r) (moff σ r)) 2 (58 + 5 * mbid σ r) 5 108) ∧ maucOk n (mtradeM σ (mbid σ r) (moff σ r)) r)
def mageR (w b s a e : Int) : Nat → Mem → Int → Mem
  | 0, σ, _ => σ
  | n + 1, σ, k =>
    let σ1 := st3 σ 0 41 (b + s * k + a) (σ 0 41 (b + s * k + a) + 1)
    if σ1 0 41 (b + s * k + a) = 3 then
      let σ2 := closeM σ1 w (b + s * k) s e
      mageR w b s a e n (st3 σ2 0 41 11 (σ2 0 41 11 + 1)) k
    else mageR w b s a e n σ1 (k + 1)
theorem st3_R {σ : Mem} (h : Rng σ) {g : Int} {j : Nat} {k v : Int} (hv : inR v) : Rng (st3 σ g j k v) := h.st hv
theorem closeM_w {σ : Mem} {w a s e : Int} (h1 : w < a) (h2 : w < e - s) : closeM σ w a s e 0 41 w = σ 0 41 w - 1 := by
  unfold closeM
  rw [st3_self]
  simp only [fill, cpy]
  rw [if_neg (by omega), if_neg (by omega)]
theorem closeM_k {σ : Mem} {w a s e k : Int} (h1 : k < a) (h2 : k < e - s) (h3 : k ≠ w) : closeM σ w a s e 0 41 k = σ 0 41 k := by
  unfold closeM
  rw [st3_k h3]
  simp only [fill, cpy]
  rw [if_neg (by omega), if_neg (by omega)]
theorem closeM_o {σ : Mem} {w a s e k : Int} (h0 : 0 ≤ s) (h1 : e ≤ k) (h2 : k ≠ w) : closeM σ w a s e 0 41 k = σ 0 41 k := by
  unfold closeM
  rw [st3_k h2]
  simp only [fill, cpy]
  rw [if_neg (by omega), if_neg (by omega)]
theorem closeM_i {σ : Mem} {w a s e k : Int} (h1 : a ≤ k) (h2 : k < e - s) (h3 : k ≠ w) : closeM σ w a s e 0 41 k = σ 0 41 (k + s) := by
  unfold closeM
  rw [st3_k h3]
  simp only [fill, cpy]
  rw [if_neg (by omega), if_pos (by refine ⟨?_, ?_, ?_, ?_⟩ <;> first | trivial | omega)]
  congr 1
  omega
theorem closeM_j {σ : Mem} {w a s e k g : Int} {j : Nat} (h : ¬ (g = 0 ∧ j = 41)) : closeM σ w a s e g j k = σ g j k := by
  unfold closeM
  simp only [st3, fill, cpy]
  rw [if_neg (fun q => h ⟨q.1, q.2.1⟩), if_neg (fun q => h ⟨q.1, q.2.1⟩), if_neg (fun q => h ⟨q.1, q.2.1⟩)]
theorem closeM_R {σ : Mem} (h : Rng σ) {w a s e : Int} (h1 : w < a) (h2 : w < e - s) (h3 : 0 ≤ σ 0 41 w) : Rng (closeM σ w a s e) := by
  have hw : fill (cpy σ 0 41 (a + s) 0 41 a (e - s - a)) 0 41 (e - s) s 0 41 w = σ 0 41 w := by
    simp only [fill, cpy]
    rw [if_neg (by omega), if_neg (by omega)]
  have hz := h 0 41 w (by decide)
  exact ((h.cpy (by decide)).fill).st (by rw [hw]; exact ⟨by omega, by have := hz.2; omega⟩)
theorem rememM_k {σ : Mem} {y s b p k : Int} (h : k < 172) (h2 : k ≠ 13) : rememM σ y s b p 0 41 k = σ 0 41 k := by
  unfold rememM
  rw [st3_k h2, st3_k (by omega), st3_k (by omega), st3_k (by omega), st3_k (by omega)]
  simp only [cpy]
  rw [if_neg (by omega)]
theorem mtradeM_2 {σ : Mem} {b x : Int} (hN : NI (σ 0 41)) (hb : 0 ≤ b ∧ b < σ 0 41 2) (hx : 0 ≤ x ∧ x < σ 0 41 3) : mtradeM σ b x 0 41 2 = σ 0 41 2 - 1 ∧ mtradeB σ b x 0 41 2 = σ 0 41 2 ∧ mtradeB σ b x 0 41 3 = σ 0 41 3 ∧ mtradeM σ b x 0 41 3 = σ 0 41 3 - 1 := by
  have p1 := hN.of x hx.1 hx.2
  have p2 := hN.bi b hb.1 hb.2
  have p3 := hN.ba _ p1.1.1 p1.1.2
  have eB : ∀ k : Int, 2 ≤ k → k < 4 → mtradeB σ b x 0 41 k = σ 0 41 k := by
    intro k k1 k2
    unfold mtradeB
    rw [rememM_k (by omega) (by omega)]
    unfold mtradeA
    rw [st3_k (by omega), st3_k (by omega), st3_k (by omega), st3_k (by omega), st3_k (by omega), st3_k (by omega)]
  refine ⟨?_, eB 2 (by omega) (by omega), eB 3 (by omega) (by omega), ?_⟩
  · unfold mtradeM
    rw [closeM_k (by omega) (by omega) (by omega), closeM_w (by omega) (by omega), eB 2 (by omega) (by omega)]
  · unfold mtradeM
    rw [closeM_w (by omega) (by omega), closeM_k (by omega) (by omega) (by omega), eB 3 (by omega) (by omega)]
theorem cpy_k {σ : Mem} {g1 : Int} {j1 : Nat} {sp g2 : Int} {j2 : Nat} {dp n g : Int} {j : Nat} {k : Int} (h : ¬ j = j2) : cpy σ g1 j1 sp g2 j2 dp n g j k = σ g j k := if_neg (fun q => h q.2.1)
set_option maxHeartbeats 4000000 in
set_option maxRecDepth 100000 in
theorem e_starts {l : Launch} {D : va_G} {K : Nat → ClassId} {ad : Adr} (hl0 : l.stackTraces = false) (σ : Mem) (hR : Rng σ) : Cb l D K ad yX9_starts (.code yX9_starts cX9_starts 2 none) 1 0 0 σ [.ref (ad 0 40)] (.inl none) (startM σ) := by
  refine Cb.of (own := RX9) (ls0 := [some (.ref (ad 0 40)), none]) hl0 (by decide) rfl (Nat.le_of_ble_eq_true rfl) rfl ?_
  intro X hX1 hX2 hX3 hf he hh
  subst hX1 hX2 hX3
  have loop : ∀ (n : Nat) (k : Int), 0 ≤ k → k ≤ 212 → ((212 : Int) - k).toNat < n → B X ad (cpy (st3 (st3 σ 0 40 8 0) 0 40 14 0) 0 41 (0) 0 42 (0) k) 12 [some (.ref (ad 0 40)), some (.int (iN (k)))] [] 0 0 := by
    intro n
    induction n with
    | zero => intros; omega
    | succ n ih =>
      intro k hk0 hk1 hn
      refine V_iload_n hf dX9_starts_12 rfl rfl ?_
      refine V_sipush hf dX9_starts_13 (by decide +kernel) ?_
      refine V_icmp_ge (tgt := 37) hf (by first | exact hR _ _ _ (by decide) | exact ⟨by omega, by omega⟩ | exact Rng.st (Rng.st hR ⟨by decide, by decide⟩) ⟨by decide, by decide⟩ _ _ _ (by decide) | exact Rng.st hR ⟨by decide, by decide⟩ _ _ _ (by decide)) (by first | exact hR _ _ _ (by decide) | exact ⟨by omega, by omega⟩ | exact Rng.st (Rng.st hR ⟨by decide, by decide⟩) ⟨by decide, by decide⟩ _ _ _ (by decide) | exact Rng.st hR ⟨by decide, by decide⟩ _ _ _ (by decide)) dX9_starts_16 (by decide) (fun h16 => ?_) (fun h16 => ?_)
      · rw [show k = 212 by omega]
        exact B_vret hf he dX9_starts_37 (by decide) (by decide) rfl
      · refine V_aload_n hf dX9_starts_19 rfl rfl ?_
        refine B_get hf l01 rfl fl_X9_13_12 rfl dX9_starts_20 ?_
        refine V_iload_n hf dX9_starts_23 rfl rfl ?_
        refine V_aload_n hf dX9_starts_24 rfl rfl ?_
        refine B_get hf l01 rfl fl_X9_9_12 rfl dX9_starts_25 ?_
        refine V_iload_n hf dX9_starts_28 rfl rfl ?_
        refine B_iald hf l01 (fun _ => rfl) (by first | exact hR _ _ _ (by decide) | exact ⟨by omega, by omega⟩ | exact Rng.st (Rng.st hR ⟨by decide, by decide⟩) ⟨by decide, by decide⟩ _ _ _ (by decide) | exact Rng.st hR ⟨by decide, by decide⟩ _ _ _ (by decide)) (by omega) (by omega) dX9_starts_29 ?_
        refine B_iast hf l01 (by decide) (fun _ => rfl) (by first | exact hR _ _ _ (by decide) | exact ⟨by omega, by omega⟩ | exact Rng.st (Rng.st hR ⟨by decide, by decide⟩) ⟨by decide, by decide⟩ _ _ _ (by decide) | exact Rng.st hR ⟨by decide, by decide⟩ _ _ _ (by decide)) (by omega) (by omega) dX9_starts_30 ?_
        refine V_iinc (ls2 := [_, _]) hf dX9_starts_31 (by decide) rfl rfl rfl ?_
        refine V_goto (tgt := 12) hf dX9_starts_34 (by decide) ?_
        rw [cpy_s hk0 (by omega) (by omega) (fun q => absurd q.2.1 (by decide))]
        exact ih (k + 1) (by omega) (by omega) (by omega)
  refine V_aload_n hf dX9_starts_0 rfl rfl ?_
  refine V_iconst hf dX9_starts_1 ?_
  refine B_putI (kI := 8) hf rfl l01 rfl fp_X9_38_12 rfl rfl (Nat.le_of_ble_eq_true rfl) (by decide) (cs_40_8 _ _ _ _ _) dX9_starts_2 ?_
  refine V_aload_n hf dX9_starts_5 rfl rfl ?_
  refine V_iconst hf dX9_starts_6 ?_
  refine B_putI (kI := 14) hf rfl l01 rfl fp_X9_41_12 rfl rfl (Nat.le_of_ble_eq_true rfl) (by decide) (cs_40_14 _ _ _ _ _) dX9_starts_7 ?_
  refine V_iconst hf dX9_starts_10 ?_
  refine V_istore_n (ls2 := [_, _]) hf dX9_starts_11 rfl (by decide) rfl rfl ?_
  have bk := loop (212 + 1) 0 (by omega) (by omega) (by decide)
  rw [cpy_0] at bk
  exact bk

set_option maxHeartbeats 4000000 in
set_option maxRecDepth 100000 in
theorem e_changed_t {l : Launch} {D : va_G} {K : Nat → ClassId} {ad : Adr} (hl0 : l.stackTraces = false) (σ : Mem) (hR : Rng σ) (t : Int) (h8 : 0 < σ 0 40 8) (h14 : σ 0 40 14 ≤ 0) : Cb l D K ad yX9_changed (.code yX9_changed cX9_changed 3 (some .int)) 2 0 0 σ [.ref (ad 0 40), .int (iN t)] (.inl (some (.int (iN (t))))) σ := by
  refine Cb.of (own := RX9) (ls0 := [some (.ref (ad 0 40)), some (.int (iN t)), none]) hl0 (by decide) rfl (Nat.le_of_ble_eq_true rfl) rfl ?_
  intro X hX1 hX2 hX3 hf he hh
  subst hX1 hX2 hX3
  refine V_aload_n hf dX9_changed_0 rfl rfl ?_
  refine B_get hf l01 rfl fl_X9_38_12 rfl dX9_changed_1 ?_
  refine V_if_le (tgt := 37) hf (by first | exact hR _ _ _ (by decide) | exact ⟨by omega, by omega⟩ | exact Rng.st (Rng.st hR ⟨by decide, by decide⟩) ⟨by decide, by decide⟩ _ _ _ (by decide) | exact Rng.st hR ⟨by decide, by decide⟩ _ _ _ (by decide)) dX9_changed_4 (by decide) (fun h4 => ?_) (fun h4 => ?_)
  · exact absurd h4 (by first | omega | (split at h4 <;> omega))
  · refine V_aload_n hf dX9_changed_7 rfl rfl ?_
    refine B_get hf l01 rfl fl_X9_41_12 rfl dX9_changed_8 ?_
    refine V_if_le (tgt := 35) hf (by first | exact hR _ _ _ (by decide) | exact ⟨by omega, by omega⟩ | exact Rng.st (Rng.st hR ⟨by decide, by decide⟩) ⟨by decide, by decide⟩ _ _ _ (by decide) | exact Rng.st hR ⟨by decide, by decide⟩ _ _ _ (by decide)) dX9_changed_11 (by decide) (fun h11 => ?_) (fun h11 => ?_)
    · refine V_iload_n hf dX9_changed_35 rfl rfl ?_
      exact B_iret hf he rfl dX9_changed_36 (by decide) (by decide) rfl rfl
    · exact absurd h11 (by first | omega | (split at h11 <;> omega))

set_option maxHeartbeats 4000000 in
set_option maxRecDepth 100000 in
theorem e_changed_r {l : Launch} {D : va_G} {K : Nat → ClassId} {ad : Adr} (hl0 : l.stackTraces = false) (σ : Mem) (hR : Rng σ) (t : Int) (h8 : 0 < σ 0 40 8) (h14 : 0 < σ 0 40 14) : Cb l D K ad yX9_changed (.code yX9_changed cX9_changed 3 (some .int)) 2 0 0 σ [.ref (ad 0 40), .int (iN t)] (.inl (some (.int (iN (t))))) (rejM σ) := by
  refine Cb.of (own := RX9) (ls0 := [some (.ref (ad 0 40)), some (.int (iN t)), none]) hl0 (by decide) rfl (Nat.le_of_ble_eq_true rfl) rfl ?_
  intro X hX1 hX2 hX3 hf he hh
  subst hX1 hX2 hX3
  refine V_aload_n hf dX9_changed_0 rfl rfl ?_
  refine B_get hf l01 rfl fl_X9_38_12 rfl dX9_changed_1 ?_
  refine V_if_le (tgt := 37) hf (by first | exact hR _ _ _ (by decide) | exact ⟨by omega, by omega⟩ | exact Rng.st (Rng.st hR ⟨by decide, by decide⟩) ⟨by decide, by decide⟩ _ _ _ (by decide) | exact Rng.st hR ⟨by decide, by decide⟩ _ _ _ (by decide)) dX9_changed_4 (by decide) (fun h4 => ?_) (fun h4 => ?_)
  · exact absurd h4 (by first | omega | (split at h4 <;> omega))
  · refine V_aload_n hf dX9_changed_7 rfl rfl ?_
    refine B_get hf l01 rfl fl_X9_41_12 rfl dX9_changed_8 ?_
    refine V_if_le (tgt := 35) hf (by first | exact hR _ _ _ (by decide) | exact ⟨by omega, by omega⟩ | exact Rng.st (Rng.st hR ⟨by decide, by decide⟩) ⟨by decide, by decide⟩ _ _ _ (by decide) | exact Rng.st hR ⟨by decide, by decide⟩ _ _ _ (by decide)) dX9_changed_11 (by decide) (fun h11 => ?_) (fun h11 => ?_)
    · exact absurd h11 (by first | omega | (split at h11 <;> omega))
    · refine V_aload_n hf dX9_changed_14 rfl rfl ?_
      refine V_aload_n hf dX9_changed_15 rfl rfl ?_
      refine B_get hf l01 rfl fl_X9_41_12 rfl dX9_changed_16 ?_
      refine B_putI (kI := 11) hf rfl l01 rfl fp_X9_51_12 rfl rfl (Nat.le_of_ble_eq_true rfl) (by decide) (cs_40_11 _ _ _ _ _) dX9_changed_19 ?_
      refine V_aload_n hf dX9_changed_22 rfl rfl ?_
      refine V_aload_n hf dX9_changed_23 rfl rfl ?_
      refine B_get hf l01 rfl fl_X9_44_12 rfl dX9_changed_24 ?_
      refine B_putI (kI := 12) hf rfl l01 rfl fp_X9_54_12 rfl rfl (Nat.le_of_ble_eq_true rfl) (by decide) (cs_40_12 _ _ _ _ _) dX9_changed_27 ?_
      refine V_aload_n hf dX9_changed_30 rfl rfl ?_
      refine V_iconst hf dX9_changed_31 ?_
      refine B_putI (kI := 13) hf rfl l01 rfl fp_X9_57_12 rfl rfl (Nat.le_of_ble_eq_true rfl) (by decide) (cs_40_13 _ _ _ _ _) dX9_changed_32 ?_
      refine V_iload_n hf dX9_changed_35 rfl rfl ?_
      exact B_iret hf he rfl dX9_changed_36 (by decide) (by decide) rfl rfl

set_option maxHeartbeats 4000000 in
set_option maxRecDepth 100000 in
theorem e_changed_o {l : Launch} {D : va_G} {K : Nat → ClassId} {ad : Adr} (hl0 : l.stackTraces = false) (σ : Mem) (hR : Rng σ) (t : Int) (h8 : σ 0 40 8 ≤ 0) (h6 : 0 ≤ σ 0 40 6 ∧ σ 0 40 6 < 8) : Cb l D K ad yX9_changed (.code yX9_changed cX9_changed 3 (some .int)) 2 0 0 σ [.ref (ad 0 40), .int (iN t)] (.inl (some (.int (iN t)))) (pushM σ) := by
  refine Cb.of (own := RX9) (ls0 := [some (.ref (ad 0 40)), some (.int (iN t)), none]) hl0 (by decide) rfl (Nat.le_of_ble_eq_true rfl) rfl ?_
  intro X hX1 hX2 hX3 hf he hh
  subst hX1 hX2 hX3
  have loop2 : ∀ (n : Nat) (k : Int), 0 ≤ k → k ≤ 212 → ((212 : Int) - k).toNat < n → B X ad (cpy σ 0 42 0 0 45 (212 * σ 0 40 6) k) 89 [some (.ref (ad 0 40)), some (.int (iN (t))), some (.int (iN (k)))] [] 0 0 := by
    intro n
    induction n with
    | zero => intros; omega
    | succ n ih =>
      intro k hk0 hk1 hn
      refine V_iload_n hf dX9_changed_89 rfl rfl ?_
      refine V_sipush hf dX9_changed_90 (by decide +kernel) ?_
      refine V_icmp_ge (tgt := 123) hf (by first | exact hR _ _ _ (by decide) | exact ⟨by omega, by omega⟩ | exact Rng.st (Rng.st hR ⟨by decide, by decide⟩) ⟨by decide, by decide⟩ _ _ _ (by decide) | exact Rng.st hR ⟨by decide, by decide⟩ _ _ _ (by decide)) (by first | exact hR _ _ _ (by decide) | exact ⟨by omega, by omega⟩ | exact Rng.st (Rng.st hR ⟨by decide, by decide⟩) ⟨by decide, by decide⟩ _ _ _ (by decide) | exact Rng.st hR ⟨by decide, by decide⟩ _ _ _ (by decide)) dX9_changed_93 (by decide) (fun h93 => ?_) (fun h93 => ?_)
      · rw [show k = 212 by omega]
        refine V_aload_n hf dX9_changed_123 rfl rfl ?_
        refine V_dup hf dX9_changed_124 rfl ?_
        refine B_get hf l01 rfl fl_X9_60_12 rfl dX9_changed_125 ?_
        refine V_iconst hf dX9_changed_128 ?_
        refine V_iadd hf dX9_changed_129 ?_
        refine B_putI (kI := 6) hf rfl l01 rfl fp_X9_60_12 rfl rfl (Nat.le_of_ble_eq_true rfl) (by decide) (cs_40_6 _ _ _ _ _) dX9_changed_130 ?_
        refine V_iload_n hf dX9_changed_133 rfl rfl ?_
        exact B_iret hf he rfl dX9_changed_134 (by decide) (by decide) (by first | rfl | omega) rfl
      · refine V_aload_n hf dX9_changed_96 rfl rfl ?_
        refine B_get hf l01 rfl fl_X9_22_12 rfl dX9_changed_97 ?_
        refine V_sipush hf dX9_changed_100 (by decide +kernel) ?_
        refine V_aload_n hf dX9_changed_103 rfl rfl ?_
        refine B_get hf l01 rfl fl_X9_60_12 rfl dX9_changed_104 ?_
        refine V_imul hf dX9_changed_107 ?_
        refine V_iload_n hf dX9_changed_108 rfl rfl ?_
        refine V_iadd hf dX9_changed_109 ?_
        refine V_aload_n hf dX9_changed_110 rfl rfl ?_
        refine B_get hf l01 rfl fl_X9_13_12 rfl dX9_changed_111 ?_
        refine V_iload_n hf dX9_changed_114 rfl rfl ?_
        refine B_iald hf l01 (fun _ => rfl) (by first | exact hR _ _ _ (by decide) | exact ⟨by omega, by omega⟩ | exact Rng.st (Rng.st hR ⟨by decide, by decide⟩) ⟨by decide, by decide⟩ _ _ _ (by decide) | exact Rng.st hR ⟨by decide, by decide⟩ _ _ _ (by decide)) (by omega) (by omega) dX9_changed_115 ?_
        refine B_iast hf l01 (by decide) (fun _ => rfl) (by rw [cpy_k (by decide)]; exact ⟨by omega, by omega⟩) (by rw [cpy_k (by decide)]; omega) (by rw [cpy_k (by decide)]; omega) dX9_changed_116 ?_
        refine V_iinc (ls2 := [_, _, _]) hf dX9_changed_117 (by decide) rfl rfl rfl ?_
        refine V_goto (tgt := 89) hf dX9_changed_120 (by decide) ?_
        rw [show (cpy σ 0 42 0 0 45 (212 * σ 0 40 6) k) 0 40 6 = σ 0 40 6 from cpy_k (by decide)]
        rw [cpy_s hk0 (by omega) (by omega) (fun q => absurd q.2.1 (by decide))]
        exact ih (k + 1) (by omega) (by omega) (by omega)
  refine V_aload_n hf dX9_changed_0 rfl rfl ?_
  refine B_get hf l01 rfl fl_X9_38_12 rfl dX9_changed_1 ?_
  refine V_if_le (tgt := 37) hf (by first | exact hR _ _ _ (by decide) | exact ⟨by omega, by omega⟩ | exact Rng.st (Rng.st hR ⟨by decide, by decide⟩) ⟨by decide, by decide⟩ _ _ _ (by decide) | exact Rng.st hR ⟨by decide, by decide⟩ _ _ _ (by decide)) dX9_changed_4 (by decide) (fun h4 => ?_) (fun h4 => ?_)
  · refine V_aload_n hf dX9_changed_37 rfl rfl ?_
    refine B_get hf l01 rfl fl_X9_60_12 rfl dX9_changed_38 ?_
    refine V_bipush hf dX9_changed_41 (by decide +kernel) ?_
    refine V_icmp_ne (tgt := 87) hf (by first | exact hR _ _ _ (by decide) | exact ⟨by omega, by omega⟩ | exact Rng.st (Rng.st hR ⟨by decide, by decide⟩) ⟨by decide, by decide⟩ _ _ _ (by decide) | exact Rng.st hR ⟨by decide, by decide⟩ _ _ _ (by decide)) (by first | exact hR _ _ _ (by decide) | exact ⟨by omega, by omega⟩ | exact Rng.st (Rng.st hR ⟨by decide, by decide⟩) ⟨by decide, by decide⟩ _ _ _ (by decide) | exact Rng.st hR ⟨by decide, by decide⟩ _ _ _ (by decide)) dX9_changed_43 (by decide) (fun h43 => ?_) (fun h43 => ?_)
    · refine V_iconst hf dX9_changed_87 ?_
      refine V_istore_n (ls2 := [_, _, _]) hf dX9_changed_88 rfl (by decide) rfl rfl ?_
      have bk := loop2 (212 + 1) 0 (by omega) (by omega) (by decide)
      rw [cpy_0] at bk
      exact bk
    · exact absurd h43 (by first | omega | (split at h43 <;> omega))
  · exact absurd h4 (by first | omega | (split at h4 <;> omega))

set_option maxHeartbeats 4000000 in
set_option maxRecDepth 100000 in
theorem e_changed_s {l : Launch} {D : va_G} {K : Nat → ClassId} {ad : Adr} (hl0 : l.stackTraces = false) (σ : Mem) (hR : Rng σ) (t : Int) (h8 : σ 0 40 8 ≤ 0) (h6 : σ 0 40 6 = 8) : Cb l D K ad yX9_changed (.code yX9_changed cX9_changed 3 (some .int)) 2 0 0 σ [.ref (ad 0 40), .int (iN t)] (.inl (some (.int (iN t)))) (pushM (shiftM σ)) := by
  refine Cb.of (own := RX9) (ls0 := [some (.ref (ad 0 40)), some (.int (iN t)), none]) hl0 (by decide) rfl (Nat.le_of_ble_eq_true rfl) rfl ?_
  intro X hX1 hX2 hX3 hf he hh
  subst hX1 hX2 hX3
  have hsh : shiftM σ 0 40 6 = 7 := by
    unfold shiftM
    rw [st3_self, cpy_k (by decide)]
    omega
  have loop2 : ∀ (n : Nat) (k : Int), 0 ≤ k → k ≤ 212 → ((212 : Int) - k).toNat < n → B X ad (cpy (shiftM σ) 0 42 0 0 45 (212 * (shiftM σ) 0 40 6) k) 89 [some (.ref (ad 0 40)), some (.int (iN (t))), some (.int (iN (k)))] [] 0 0 := by
    intro n
    induction n with
    | zero => intros; omega
    | succ n ih =>
      intro k hk0 hk1 hn
      refine V_iload_n hf dX9_changed_89 rfl rfl ?_
      refine V_sipush hf dX9_changed_90 (by decide +kernel) ?_
      refine V_icmp_ge (tgt := 123) hf (by first | exact hR _ _ _ (by decide) | exact ⟨by omega, by omega⟩ | exact Rng.st (Rng.st hR ⟨by decide, by decide⟩) ⟨by decide, by decide⟩ _ _ _ (by decide) | exact Rng.st hR ⟨by decide, by decide⟩ _ _ _ (by decide)) (by first | exact hR _ _ _ (by decide) | exact ⟨by omega, by omega⟩ | exact Rng.st (Rng.st hR ⟨by decide, by decide⟩) ⟨by decide, by decide⟩ _ _ _ (by decide) | exact Rng.st hR ⟨by decide, by decide⟩ _ _ _ (by decide)) dX9_changed_93 (by decide) (fun h93 => ?_) (fun h93 => ?_)
      · rw [show k = 212 by omega]
        refine V_aload_n hf dX9_changed_123 rfl rfl ?_
        refine V_dup hf dX9_changed_124 rfl ?_
        refine B_get hf l01 rfl fl_X9_60_12 rfl dX9_changed_125 ?_
        refine V_iconst hf dX9_changed_128 ?_
        refine V_iadd hf dX9_changed_129 ?_
        refine B_putI (kI := 6) hf rfl l01 rfl fp_X9_60_12 rfl rfl (Nat.le_of_ble_eq_true rfl) (by decide) (cs_40_6 _ _ _ _ _) dX9_changed_130 ?_
        refine V_iload_n hf dX9_changed_133 rfl rfl ?_
        exact B_iret hf he rfl dX9_changed_134 (by decide) (by decide) (by first | rfl | omega) rfl
      · refine V_aload_n hf dX9_changed_96 rfl rfl ?_
        refine B_get hf l01 rfl fl_X9_22_12 rfl dX9_changed_97 ?_
        refine V_sipush hf dX9_changed_100 (by decide +kernel) ?_
        refine V_aload_n hf dX9_changed_103 rfl rfl ?_
        refine B_get hf l01 rfl fl_X9_60_12 rfl dX9_changed_104 ?_
        refine V_imul hf dX9_changed_107 ?_
        refine V_iload_n hf dX9_changed_108 rfl rfl ?_
        refine V_iadd hf dX9_changed_109 ?_
        refine V_aload_n hf dX9_changed_110 rfl rfl ?_
        refine B_get hf l01 rfl fl_X9_13_12 rfl dX9_changed_111 ?_
        refine V_iload_n hf dX9_changed_114 rfl rfl ?_
        refine B_iald hf l01 (fun _ => rfl) (by first | exact hR _ _ _ (by decide) | exact ⟨by omega, by omega⟩ | exact Rng.st (Rng.st hR ⟨by decide, by decide⟩) ⟨by decide, by decide⟩ _ _ _ (by decide) | exact Rng.st hR ⟨by decide, by decide⟩ _ _ _ (by decide)) (by omega) (by omega) dX9_changed_115 ?_
        refine B_iast hf l01 (by decide) (fun _ => rfl) (by rw [cpy_k (by decide)]; exact ⟨by omega, by omega⟩) (by rw [cpy_k (by decide)]; omega) (by rw [cpy_k (by decide)]; omega) dX9_changed_116 ?_
        refine V_iinc (ls2 := [_, _, _]) hf dX9_changed_117 (by decide) rfl rfl rfl ?_
        refine V_goto (tgt := 89) hf dX9_changed_120 (by decide) ?_
        rw [show (cpy (shiftM σ) 0 42 0 0 45 (212 * (shiftM σ) 0 40 6) k) 0 40 6 = (shiftM σ) 0 40 6 from cpy_k (by decide)]
        rw [cpy_s hk0 (by omega) (by omega) (fun q => absurd q.2.1 (by decide))]
        exact ih (k + 1) (by omega) (by omega) (by omega)
  have loop1 : ∀ (n : Nat) (k : Int), 0 ≤ k → k ≤ 1484 → ((1484 : Int) - k).toNat < n → B X ad (cpy σ 0 45 212 0 45 0 k) 48 [some (.ref (ad 0 40)), some (.int (iN (t))), some (.int (iN (k)))] [] 0 0 := by
    intro n
    induction n with
    | zero => intros; omega
    | succ n ih =>
      intro k hk0 hk1 hn
      refine V_iload_n hf dX9_changed_48 rfl rfl ?_
      refine V_sipush hf dX9_changed_49 (by decide +kernel) ?_
      refine V_icmp_ge (tgt := 77) hf (by first | exact hR _ _ _ (by decide) | exact ⟨by omega, by omega⟩ | exact Rng.st (Rng.st hR ⟨by decide, by decide⟩) ⟨by decide, by decide⟩ _ _ _ (by decide) | exact Rng.st hR ⟨by decide, by decide⟩ _ _ _ (by decide)) (by first | exact hR _ _ _ (by decide) | exact ⟨by omega, by omega⟩ | exact Rng.st (Rng.st hR ⟨by decide, by decide⟩) ⟨by decide, by decide⟩ _ _ _ (by decide) | exact Rng.st hR ⟨by decide, by decide⟩ _ _ _ (by decide)) dX9_changed_52 (by decide) (fun h52 => ?_) (fun h52 => ?_)
      · rw [show k = 1484 by omega]
        refine V_aload_n hf dX9_changed_77 rfl rfl ?_
        refine V_dup hf dX9_changed_78 rfl ?_
        refine B_get hf l01 rfl fl_X9_60_12 rfl dX9_changed_79 ?_
        refine V_iconst hf dX9_changed_82 ?_
        refine V_isub hf dX9_changed_83 ?_
        refine B_putI (kI := 6) hf rfl l01 rfl fp_X9_60_12 rfl rfl (Nat.le_of_ble_eq_true rfl) (by decide) (cs_40_6 _ _ _ _ _) dX9_changed_84 ?_
        refine V_iconst hf dX9_changed_87 ?_
        refine V_istore_n (ls2 := [_, _, _]) hf dX9_changed_88 rfl (by decide) rfl rfl ?_
        have bk := loop2 (212 + 1) 0 (by omega) (by omega) (by decide)
        rw [cpy_0] at bk
        exact bk
      · refine V_aload_n hf dX9_changed_55 rfl rfl ?_
        refine B_get hf l01 rfl fl_X9_22_12 rfl dX9_changed_56 ?_
        refine V_iload_n hf dX9_changed_59 rfl rfl ?_
        refine V_aload_n hf dX9_changed_60 rfl rfl ?_
        refine B_get hf l01 rfl fl_X9_22_12 rfl dX9_changed_61 ?_
        refine V_iload_n hf dX9_changed_64 rfl rfl ?_
        refine V_sipush hf dX9_changed_65 (by decide +kernel) ?_
        refine V_iadd hf dX9_changed_68 ?_
        refine B_iald hf l01 (fun _ => rfl) (by first | exact hR _ _ _ (by decide) | exact ⟨by omega, by omega⟩ | exact Rng.st (Rng.st hR ⟨by decide, by decide⟩) ⟨by decide, by decide⟩ _ _ _ (by decide) | exact Rng.st hR ⟨by decide, by decide⟩ _ _ _ (by decide)) (by omega) (by omega) dX9_changed_69 ?_
        refine B_iast hf l01 (by decide) (fun _ => rfl) (by first | exact hR _ _ _ (by decide) | exact ⟨by omega, by omega⟩ | exact Rng.st (Rng.st hR ⟨by decide, by decide⟩) ⟨by decide, by decide⟩ _ _ _ (by decide) | exact Rng.st hR ⟨by decide, by decide⟩ _ _ _ (by decide)) (by omega) (by omega) dX9_changed_70 ?_
        refine V_iinc (ls2 := [_, _, _]) hf dX9_changed_71 (by decide) rfl rfl rfl ?_
        refine V_goto (tgt := 48) hf dX9_changed_74 (by decide) ?_
        rw [cpy_s hk0 (by omega) (by omega) (by omega)]
        exact ih (k + 1) (by omega) (by omega) (by omega)
  refine V_aload_n hf dX9_changed_0 rfl rfl ?_
  refine B_get hf l01 rfl fl_X9_38_12 rfl dX9_changed_1 ?_
  refine V_if_le (tgt := 37) hf (by first | exact hR _ _ _ (by decide) | exact ⟨by omega, by omega⟩ | exact Rng.st (Rng.st hR ⟨by decide, by decide⟩) ⟨by decide, by decide⟩ _ _ _ (by decide) | exact Rng.st hR ⟨by decide, by decide⟩ _ _ _ (by decide)) dX9_changed_4 (by decide) (fun h4 => ?_) (fun h4 => ?_)
  · refine V_aload_n hf dX9_changed_37 rfl rfl ?_
    refine B_get hf l01 rfl fl_X9_60_12 rfl dX9_changed_38 ?_
    refine V_bipush hf dX9_changed_41 (by decide +kernel) ?_
    refine V_icmp_ne (tgt := 87) hf (by first | exact hR _ _ _ (by decide) | exact ⟨by omega, by omega⟩ | exact Rng.st (Rng.st hR ⟨by decide, by decide⟩) ⟨by decide, by decide⟩ _ _ _ (by decide) | exact Rng.st hR ⟨by decide, by decide⟩ _ _ _ (by decide)) (by first | exact hR _ _ _ (by decide) | exact ⟨by omega, by omega⟩ | exact Rng.st (Rng.st hR ⟨by decide, by decide⟩) ⟨by decide, by decide⟩ _ _ _ (by decide) | exact Rng.st hR ⟨by decide, by decide⟩ _ _ _ (by decide)) dX9_changed_43 (by decide) (fun h43 => ?_) (fun h43 => ?_)
    · exact absurd h43 (by first | omega | (split at h43 <;> omega))
    · refine V_iconst hf dX9_changed_46 ?_
      refine V_istore_n (ls2 := [_, _, _]) hf dX9_changed_47 rfl (by decide) rfl rfl ?_
      have bk := loop1 (1484 + 1) 0 (by omega) (by omega) (by decide)
      rw [cpy_0] at bk
      exact bk
  · exact absurd h4 (by first | omega | (split at h4 <;> omega))

set_option maxHeartbeats 4000000 in
set_option maxRecDepth 100000 in
theorem e_closes {l : Launch} {D : va_G} {K : Nat → ClassId} {ad : Adr} (hl0 : l.stackTraces = false) (σ : Mem) (hR : Rng σ) (w a s e : Int) (hw : 0 ≤ w ∧ w < 14) (hs : 1 ≤ s ∧ s ≤ 5) (ha : 14 ≤ a ∧ a ≤ e - s) (he : e ≤ 212) : Cb l D K ad yX9_closes (.code yX9_closes cX9_closes 6 none) 1 0 0 σ [.ref (ad 0 40), .int (iN w), .int (iN a), .int (iN s), .int (iN e)] (.inl none) (closeM σ w a s e) := by
  refine Cb.of (own := RX9) (ls0 := [some (.ref (ad 0 40)), some (.int (iN w)), some (.int (iN a)), some (.int (iN s)), some (.int (iN e)), none]) hl0 (by decide) rfl (Nat.le_of_ble_eq_true rfl) rfl ?_
  intro X hX1 hX2 hX3 hf he hh
  subst hX1 hX2 hX3
  have loop2 : ∀ (n : Nat) (k : Int), e - s ≤ k → k ≤ e → (e - k).toNat < n → B X ad (fill (cpy σ 0 41 (a + s) 0 41 a (e - s - a)) 0 41 (e - s) (k - (e - s))) 40 [some (.ref (ad 0 40)), some (.int (iN (w))), some (.int (iN (a))), some (.int (iN (s))), some (.int (iN (e))), some (.int (iN (k)))] [] 0 0 := by
    intro n
    induction n with
    | zero => intros; omega
    | succ n ih =>
      intro k hk0 hk1 hn
      refine V_iload hf dX9_closes_40 rfl ?_
      refine V_iload hf dX9_closes_42 rfl ?_
      refine V_icmp_ge (tgt := 61) hf (by first | exact hR _ _ _ (by decide) | exact ⟨by omega, by omega⟩ | exact Rng.st (Rng.st hR ⟨by decide, by decide⟩) ⟨by decide, by decide⟩ _ _ _ (by decide) | exact Rng.st hR ⟨by decide, by decide⟩ _ _ _ (by decide)) (by first | exact hR _ _ _ (by decide) | exact ⟨by omega, by omega⟩ | exact Rng.st (Rng.st hR ⟨by decide, by decide⟩) ⟨by decide, by decide⟩ _ _ _ (by decide) | exact Rng.st hR ⟨by decide, by decide⟩ _ _ _ (by decide)) dX9_closes_44 (by decide) (fun h44 => ?_) (fun h44 => ?_)
      · rw [show k = e by omega, show e - (e - s) = s by omega]
        refine V_aload_n hf dX9_closes_61 rfl rfl ?_
        refine B_get hf l01 rfl fl_X9_9_12 rfl dX9_closes_62 ?_
        refine V_iload_n hf dX9_closes_65 rfl rfl ?_
        refine V_dup2 hf dX9_closes_66 rfl rfl ?_
        refine B_iald hf l01 (fun _ => rfl) (by first | exact hR _ _ _ (by decide) | exact ⟨by omega, by omega⟩ | exact Rng.st (Rng.st hR ⟨by decide, by decide⟩) ⟨by decide, by decide⟩ _ _ _ (by decide) | exact Rng.st hR ⟨by decide, by decide⟩ _ _ _ (by decide)) (by omega) (by omega) dX9_closes_67 ?_
        refine V_iconst hf dX9_closes_68 ?_
        refine V_isub hf dX9_closes_69 ?_
        refine B_iast hf l01 (by decide) (fun _ => rfl) (by first | exact hR _ _ _ (by decide) | exact ⟨by omega, by omega⟩ | exact Rng.st (Rng.st hR ⟨by decide, by decide⟩) ⟨by decide, by decide⟩ _ _ _ (by decide) | exact Rng.st hR ⟨by decide, by decide⟩ _ _ _ (by decide)) (by omega) (by omega) dX9_closes_70 ?_
        exact B_vret hf he dX9_closes_71 (by decide) (by decide) rfl
      · refine V_aload_n hf dX9_closes_47 rfl rfl ?_
        refine B_get hf l01 rfl fl_X9_9_12 rfl dX9_closes_48 ?_
        refine V_iload hf dX9_closes_51 rfl ?_
        refine V_iconst hf dX9_closes_53 ?_
        refine B_iast hf l01 (by decide) (fun _ => rfl) (by first | exact hR _ _ _ (by decide) | exact ⟨by omega, by omega⟩ | exact Rng.st (Rng.st hR ⟨by decide, by decide⟩) ⟨by decide, by decide⟩ _ _ _ (by decide) | exact Rng.st hR ⟨by decide, by decide⟩ _ _ _ (by decide)) (by omega) (by omega) dX9_closes_54 ?_
        refine V_iinc (ls2 := [_, _, _, _, _, _]) hf dX9_closes_55 (by decide) rfl rfl rfl ?_
        refine V_goto (tgt := 40) hf dX9_closes_58 (by decide) ?_
        rw [fill_s (by omega) (by omega), show k - (e - s) + 1 = k + 1 - (e - s) by omega]
        exact ih (k + 1) (by omega) (by omega) (by omega)
  have loop1 : ∀ (n : Nat) (k : Int), a ≤ k → k ≤ e - s → (e - s - k).toNat < n → B X ad (cpy σ 0 41 (a + s) 0 41 a (k - a)) 3 [some (.ref (ad 0 40)), some (.int (iN (w))), some (.int (iN (a))), some (.int (iN (s))), some (.int (iN (e))), some (.int (iN (k)))] [] 0 0 := by
    intro n
    induction n with
    | zero => intros; omega
    | succ n ih =>
      intro k hk0 hk1 hn
      refine V_iload hf dX9_closes_3 rfl ?_
      refine V_iload hf dX9_closes_5 rfl ?_
      refine V_iload_n hf dX9_closes_7 rfl rfl ?_
      refine V_isub hf dX9_closes_8 ?_
      refine V_icmp_ge (tgt := 34) hf (by first | exact hR _ _ _ (by decide) | exact ⟨by omega, by omega⟩ | exact Rng.st (Rng.st hR ⟨by decide, by decide⟩) ⟨by decide, by decide⟩ _ _ _ (by decide) | exact Rng.st hR ⟨by decide, by decide⟩ _ _ _ (by decide)) (by first | exact hR _ _ _ (by decide) | exact ⟨by omega, by omega⟩ | exact Rng.st (Rng.st hR ⟨by decide, by decide⟩) ⟨by decide, by decide⟩ _ _ _ (by decide) | exact Rng.st hR ⟨by decide, by decide⟩ _ _ _ (by decide)) dX9_closes_9 (by decide) (fun h9 => ?_) (fun h9 => ?_)
      · rw [show k - a = e - s - a by omega]
        refine V_iload hf dX9_closes_34 rfl ?_
        refine V_iload_n hf dX9_closes_36 rfl rfl ?_
        refine V_isub hf dX9_closes_37 ?_
        refine V_istore (ls2 := [_, _, _, _, _, _]) hf dX9_closes_38 (by decide) rfl rfl ?_
        have bk := loop2 (s.toNat + 1) (e - s) (by omega) (by omega) (by omega)
        rw [show e - s - (e - s) = 0 by omega, fill_0] at bk
        exact bk
      · refine V_aload_n hf dX9_closes_12 rfl rfl ?_
        refine B_get hf l01 rfl fl_X9_9_12 rfl dX9_closes_13 ?_
        refine V_iload hf dX9_closes_16 rfl ?_
        refine V_aload_n hf dX9_closes_18 rfl rfl ?_
        refine B_get hf l01 rfl fl_X9_9_12 rfl dX9_closes_19 ?_
        refine V_iload hf dX9_closes_22 rfl ?_
        refine V_iload_n hf dX9_closes_24 rfl rfl ?_
        refine V_iadd hf dX9_closes_25 ?_
        refine B_iald hf l01 (fun _ => rfl) (by first | exact hR _ _ _ (by decide) | exact ⟨by omega, by omega⟩ | exact Rng.st (Rng.st hR ⟨by decide, by decide⟩) ⟨by decide, by decide⟩ _ _ _ (by decide) | exact Rng.st hR ⟨by decide, by decide⟩ _ _ _ (by decide)) (by omega) (by omega) dX9_closes_26 ?_
        refine B_iast hf l01 (by decide) (fun _ => rfl) (by first | exact hR _ _ _ (by decide) | exact ⟨by omega, by omega⟩ | exact Rng.st (Rng.st hR ⟨by decide, by decide⟩) ⟨by decide, by decide⟩ _ _ _ (by decide) | exact Rng.st hR ⟨by decide, by decide⟩ _ _ _ (by decide)) (by omega) (by omega) dX9_closes_27 ?_
        refine V_iinc (ls2 := [_, _, _, _, _, _]) hf dX9_closes_28 (by decide) rfl rfl rfl ?_
        refine V_goto (tgt := 3) hf dX9_closes_31 (by decide) ?_
        rw [cpy_s (by omega) (by omega) (by omega) (by omega), show k - a + 1 = k + 1 - a by omega]
        exact ih (k + 1) (by omega) (by omega) (by omega)
  refine V_iload_n hf dX9_closes_0 rfl rfl ?_
  refine V_istore (ls2 := [_, _, _, _, _, _]) hf dX9_closes_1 (by decide) rfl rfl ?_
  have bk := loop1 ((e - s - a).toNat + 1) a (by omega) (by omega) (by omega)
  rw [Int.sub_self, cpy_0] at bk
  exact bk

set_option maxHeartbeats 4000000 in
set_option maxRecDepth 100000 in
theorem e_closesB {l : Launch} {D : va_G} {K : Nat → ClassId} {ad : Adr} (hl0 : l.stackTraces = false) (σ : Mem) (hR : Rng σ) (k : Int) (hk : 0 ≤ k ∧ k < 10) : Cb l D K ad yX9_closesBid (.code yX9_closesBid cX9_closesBid 2 none) 2 0 0 σ [.ref (ad 0 40), .int (iN k)] (.inl none) (closeM σ 2 (58 + 5 * k) 5 108) := by
  refine Cb.of (own := RX9) (ls0 := [some (.ref (ad 0 40)), some (.int (iN k))]) hl0 (by decide) rfl (Nat.le_of_ble_eq_true rfl) rfl ?_
  intro X hX1 hX2 hX3 hf he hh
  subst hX1 hX2 hX3
  refine V_aload_n hf dX9_closesBid_0 rfl rfl ?_
  refine V_iconst hf dX9_closesBid_1 ?_
  refine V_iload_n hf dX9_closesBid_2 rfl rfl ?_
  refine B_callSi hf (As := [_]) (d_bidAtPlace hl0 σ (k)) cvs_X9_73 rfl (Nat.le_of_ble_eq_true rfl) ⟨by decide, by decide, by decide, by decide⟩ dX9_closesBid_3 ?_
  refine V_iconst hf dX9_closesBid_6 ?_
  refine V_bipush hf dX9_closesBid_7 (by decide +kernel) ?_
  refine B_callVv hf (As := [_, _, _, _]) (e_closes hl0 σ hR 2 (58 + 5 * k) 5 108 (by decide) (by decide) ⟨by omega, by omega⟩ (by decide)) cv_X9_98 l01 rfl rfl rfl (Nat.le_of_ble_eq_true rfl) ⟨by decide, by decide, by decide, by decide⟩ dX9_closesBid_9 ?_
  exact B_vret hf he dX9_closesBid_12 (by decide) (by decide) rfl

set_option maxHeartbeats 4000000 in
set_option maxRecDepth 100000 in
theorem e_closesO {l : Launch} {D : va_G} {K : Nat → ClassId} {ad : Adr} (hl0 : l.stackTraces = false) (σ : Mem) (hR : Rng σ) (k : Int) (hk : 0 ≤ k ∧ k < 16) : Cb l D K ad yX9_closesOffer (.code yX9_closesOffer cX9_closesOffer 2 none) 2 0 0 σ [.ref (ad 0 40), .int (iN k)] (.inl none) (closeM σ 3 (108 + 4 * k) 4 172) := by
  refine Cb.of (own := RX9) (ls0 := [some (.ref (ad 0 40)), some (.int (iN k))]) hl0 (by decide) rfl (Nat.le_of_ble_eq_true rfl) rfl ?_
  intro X hX1 hX2 hX3 hf he hh
  subst hX1 hX2 hX3
  refine V_aload_n hf dX9_closesOffer_0 rfl rfl ?_
  refine V_iconst hf dX9_closesOffer_1 ?_
  refine V_iload_n hf dX9_closesOffer_2 rfl rfl ?_
  refine B_callSi hf (As := [_]) (d_offerAtPlace hl0 σ (k)) cvs_X9_82 rfl (Nat.le_of_ble_eq_true rfl) ⟨by decide, by decide, by decide, by decide⟩ dX9_closesOffer_3 ?_
  refine V_iconst hf dX9_closesOffer_6 ?_
  refine V_sipush hf dX9_closesOffer_7 (by decide +kernel) ?_
  refine B_callVv hf (As := [_, _, _, _]) (e_closes hl0 σ hR 3 (108 + 4 * k) 4 172 (by decide) (by decide) ⟨by omega, by omega⟩ (by decide)) cv_X9_98 l01 rfl rfl rfl (Nat.le_of_ble_eq_true rfl) ⟨by decide, by decide, by decide, by decide⟩ dX9_closesOffer_10 ?_
  exact B_vret hf he dX9_closesOffer_13 (by decide) (by decide) rfl

set_option maxHeartbeats 4000000 in
set_option maxRecDepth 100000 in
theorem e_remembers {l : Launch} {D : va_G} {K : Nat → ClassId} {ad : Adr} (hl0 : l.stackTraces = false) (σ : Mem) (hR : Rng σ) (y s b p : Int) (h13 : 0 ≤ σ 0 41 13 ∧ σ 0 41 13 ≤ 100000000) : Cb l D K ad yX9_remembers (.code yX9_remembers cX9_remembers 6 none) 1 0 0 σ [.ref (ad 0 40), .int (iN y), .int (iN s), .int (iN b), .int (iN p)] (.inl none) (rememM σ y s b p) := by
  refine Cb.of (own := RX9) (ls0 := [some (.ref (ad 0 40)), some (.int (iN y)), some (.int (iN s)), some (.int (iN b)), some (.int (iN p)), none]) hl0 (by decide) rfl (Nat.le_of_ble_eq_true rfl) rfl ?_
  intro X hX1 hX2 hX3 hf he hh
  subst hX1 hX2 hX3
  have loop : ∀ (n : Nat) (k : Int), 175 ≤ k → k ≤ 211 → (k - 175).toNat < n → B X ad (cpy σ 0 41 (k - 3) 0 41 (k + 1) (211 - k)) 5 [some (.ref (ad 0 40)), some (.int (iN (y))), some (.int (iN (s))), some (.int (iN (b))), some (.int (iN (p))), some (.int (iN (k)))] [] 0 0 := by
    intro n
    induction n with
    | zero => intros; omega
    | succ n ih =>
      intro k hk0 hk1 hn
      refine V_iload hf dX9_remembers_5 rfl ?_
      refine V_sipush hf dX9_remembers_7 (by decide +kernel) ?_
      refine V_icmp_lt (tgt := 35) hf (by first | exact hR _ _ _ (by decide) | exact ⟨by omega, by omega⟩ | exact Rng.st (Rng.st hR ⟨by decide, by decide⟩) ⟨by decide, by decide⟩ _ _ _ (by decide) | exact Rng.st hR ⟨by decide, by decide⟩ _ _ _ (by decide)) (by first | exact hR _ _ _ (by decide) | exact ⟨by omega, by omega⟩ | exact Rng.st (Rng.st hR ⟨by decide, by decide⟩) ⟨by decide, by decide⟩ _ _ _ (by decide) | exact Rng.st hR ⟨by decide, by decide⟩ _ _ _ (by decide)) dX9_remembers_10 (by decide) (fun h10 => ?_) (fun h10 => ?_)
      · rw [show k = 175 by omega]
        refine V_aload_n hf dX9_remembers_35 rfl rfl ?_
        refine B_get hf l01 rfl fl_X9_9_12 rfl dX9_remembers_36 ?_
        refine V_sipush hf dX9_remembers_39 (by decide +kernel) ?_
        refine V_iload_n hf dX9_remembers_42 rfl rfl ?_
        refine B_iast hf l01 (by decide) (fun _ => rfl) (by first | exact hR _ _ _ (by decide) | exact ⟨by omega, by omega⟩ | exact Rng.st (Rng.st hR ⟨by decide, by decide⟩) ⟨by decide, by decide⟩ _ _ _ (by decide) | exact Rng.st hR ⟨by decide, by decide⟩ _ _ _ (by decide)) (by omega) (by omega) dX9_remembers_43 ?_
        refine V_aload_n hf dX9_remembers_44 rfl rfl ?_
        refine B_get hf l01 rfl fl_X9_9_12 rfl dX9_remembers_45 ?_
        refine V_sipush hf dX9_remembers_48 (by decide +kernel) ?_
        refine V_iload_n hf dX9_remembers_51 rfl rfl ?_
        refine B_iast hf l01 (by decide) (fun _ => rfl) (by first | exact hR _ _ _ (by decide) | exact ⟨by omega, by omega⟩ | exact Rng.st (Rng.st hR ⟨by decide, by decide⟩) ⟨by decide, by decide⟩ _ _ _ (by decide) | exact Rng.st hR ⟨by decide, by decide⟩ _ _ _ (by decide)) (by omega) (by omega) dX9_remembers_52 ?_
        refine V_aload_n hf dX9_remembers_53 rfl rfl ?_
        refine B_get hf l01 rfl fl_X9_9_12 rfl dX9_remembers_54 ?_
        refine V_sipush hf dX9_remembers_57 (by decide +kernel) ?_
        refine V_iload_n hf dX9_remembers_60 rfl rfl ?_
        refine B_iast hf l01 (by decide) (fun _ => rfl) (by first | exact hR _ _ _ (by decide) | exact ⟨by omega, by omega⟩ | exact Rng.st (Rng.st hR ⟨by decide, by decide⟩) ⟨by decide, by decide⟩ _ _ _ (by decide) | exact Rng.st hR ⟨by decide, by decide⟩ _ _ _ (by decide)) (by omega) (by omega) dX9_remembers_61 ?_
        refine V_aload_n hf dX9_remembers_62 rfl rfl ?_
        refine B_get hf l01 rfl fl_X9_9_12 rfl dX9_remembers_63 ?_
        refine V_sipush hf dX9_remembers_66 (by decide +kernel) ?_
        refine V_iload hf dX9_remembers_69 rfl ?_
        refine B_iast hf l01 (by decide) (fun _ => rfl) (by first | exact hR _ _ _ (by decide) | exact ⟨by omega, by omega⟩ | exact Rng.st (Rng.st hR ⟨by decide, by decide⟩) ⟨by decide, by decide⟩ _ _ _ (by decide) | exact Rng.st hR ⟨by decide, by decide⟩ _ _ _ (by decide)) (by omega) (by omega) dX9_remembers_71 ?_
        refine V_aload_n hf dX9_remembers_72 rfl rfl ?_
        refine B_get hf l01 rfl fl_X9_9_12 rfl dX9_remembers_73 ?_
        refine V_bipush hf dX9_remembers_76 (by decide +kernel) ?_
        refine V_bipush hf dX9_remembers_78 (by decide +kernel) ?_
        refine V_aload_n hf dX9_remembers_80 rfl rfl ?_
        refine B_get hf l01 rfl fl_X9_9_12 rfl dX9_remembers_81 ?_
        refine V_bipush hf dX9_remembers_84 (by decide +kernel) ?_
        refine B_iald hf l01 (fun _ => rfl) (by first | exact hR _ _ _ (by decide) | exact ⟨by omega, by omega⟩ | exact Rng.st (Rng.st hR ⟨by decide, by decide⟩) ⟨by decide, by decide⟩ _ _ _ (by decide) | exact Rng.st hR ⟨by decide, by decide⟩ _ _ _ (by decide)) (by omega) (by omega) dX9_remembers_86 ?_
        refine V_iconst hf dX9_remembers_87 ?_
        refine V_iadd hf dX9_remembers_88 ?_
        refine V_min hf ⟨by decide, by decide⟩ (by rw [st3_k (by decide), st3_k (by decide), st3_k (by decide), st3_k (by decide)]; simp only [cpy]; rw [if_neg (by decide)]; exact ⟨by omega, by omega⟩) wl_X9_172 ⟨by decide, (Nat.le_of_ble_eq_true rfl), by decide, by decide⟩ dX9_remembers_89 ?_
        refine B_iast hf l01 (by decide) (fun _ => rfl) (by first | exact hR _ _ _ (by decide) | exact ⟨by omega, by omega⟩ | exact Rng.st (Rng.st hR ⟨by decide, by decide⟩) ⟨by decide, by decide⟩ _ _ _ (by decide) | exact Rng.st hR ⟨by decide, by decide⟩ _ _ _ (by decide)) (by omega) (by omega) dX9_remembers_92 ?_
        exact B_vret hf he dX9_remembers_93 (by decide) (by decide) rfl
      · refine V_aload_n hf dX9_remembers_13 rfl rfl ?_
        refine B_get hf l01 rfl fl_X9_9_12 rfl dX9_remembers_14 ?_
        refine V_iload hf dX9_remembers_17 rfl ?_
        refine V_aload_n hf dX9_remembers_19 rfl rfl ?_
        refine B_get hf l01 rfl fl_X9_9_12 rfl dX9_remembers_20 ?_
        refine V_iload hf dX9_remembers_23 rfl ?_
        refine V_iconst hf dX9_remembers_25 ?_
        refine V_isub hf dX9_remembers_26 ?_
        refine B_iald hf l01 (fun _ => rfl) (by first | exact hR _ _ _ (by decide) | exact ⟨by omega, by omega⟩ | exact Rng.st (Rng.st hR ⟨by decide, by decide⟩) ⟨by decide, by decide⟩ _ _ _ (by decide) | exact Rng.st hR ⟨by decide, by decide⟩ _ _ _ (by decide)) (by omega) (by omega) dX9_remembers_27 ?_
        refine B_iast hf l01 (by decide) (fun _ => rfl) (by first | exact hR _ _ _ (by decide) | exact ⟨by omega, by omega⟩ | exact Rng.st (Rng.st hR ⟨by decide, by decide⟩) ⟨by decide, by decide⟩ _ _ _ (by decide) | exact Rng.st hR ⟨by decide, by decide⟩ _ _ _ (by decide)) (by omega) (by omega) dX9_remembers_28 ?_
        refine V_iinc (ls2 := [_, _, _, _, _, _]) hf dX9_remembers_29 (by decide) rfl rfl rfl ?_
        refine V_goto (tgt := 5) hf dX9_remembers_32 (by decide) ?_
        rw [cpy_d (sp := k + -1 - 3) (dp := k + -1 + 1) (n1 := 211 - (k + -1)) (by omega) (by omega) (by omega) (by omega) (by omega) (by omega) (by omega)]
        exact ih (k + -1) (by omega) (by omega) (by omega)
  refine V_sipush hf dX9_remembers_0 (by decide +kernel) ?_
  refine V_istore (ls2 := [_, _, _, _, _, _]) hf dX9_remembers_3 (by decide) rfl rfl ?_
  have bk := loop (36 + 1) 211 (by omega) (by omega) (by decide)
  rw [show (211 : Int) - 211 = 0 by decide, cpy_0] at bk
  exact bk

set_option maxHeartbeats 4000000 in
set_option maxRecDepth 100000 in
theorem e_trades {l : Launch} {D : va_G} {K : Nat → ClassId} {ad : Adr} (hl0 : l.stackTraces = false) (σ : Mem) (hR : Rng σ) (hN : NI (σ 0 41)) (b x : Int) (hb : 0 ≤ b ∧ b < σ 0 41 2) (hx : 0 ≤ x ∧ x < σ 0 41 3) (hA : Rng (mtradeA σ b x)) (hB : Rng (mtradeB σ b x)) (hC : Rng (closeM (mtradeB σ b x) 2 (58 + 5 * b) 5 108)) : Cb l D K ad yX9_trades (.code yX9_trades cX9_trades 8 none) 4 0 0 σ [.ref (ad 0 40), .int (iN b), .int (iN x)] (.inl none) (mtradeM σ b x) := by
  refine Cb.of (own := RX9) (ls0 := [some (.ref (ad 0 40)), some (.int (iN b)), some (.int (iN x)), none, none, none, none, none]) hl0 (by decide) rfl (Nat.le_of_ble_eq_true rfl) rfl ?_
  intro X hX1 hX2 hX3 hf he hh
  subst hX1 hX2 hX3
  have n0 := hN.n0
  have n1 := hN.n1
  have n2 := hN.n2
  have n3 := hN.n3
  have p1 := hN.of x hx.1 hx.2
  have p2 := hN.bi b hb.1 hb.2
  have p3 := hN.ba _ p1.1.1 p1.1.2
  have c6 := hN.cr 6 (by decide)
  have c13 := hN.cr 13 (by decide)
  refine V_aload_n hf dX9_trades_0 rfl rfl ?_
  refine B_get hf l01 rfl fl_X9_9_12 rfl dX9_trades_1 ?_
  refine V_iload_n hf dX9_trades_4 rfl rfl ?_
  refine B_callSi hf (As := [_]) (d_offerAtPlace hl0 σ (x)) cvs_X9_82 rfl (Nat.le_of_ble_eq_true rfl) ⟨by decide, by decide, by decide, by decide⟩ dX9_trades_5 ?_
  refine V_iconst hf dX9_trades_8 ?_
  refine V_iadd hf dX9_trades_9 ?_
  refine B_iald hf l01 (fun _ => rfl) ⟨by omega, by omega⟩ (by omega) (by omega) dX9_trades_10 ?_
  refine V_istore_n (ls2 := [_, _, _, _, _, _, _, _]) hf dX9_trades_11 rfl (by decide) rfl rfl ?_
  refine V_aload_n hf dX9_trades_12 rfl rfl ?_
  refine B_get hf l01 rfl fl_X9_9_12 rfl dX9_trades_13 ?_
  refine V_iload_n hf dX9_trades_16 rfl rfl ?_
  refine B_callSi hf (As := [_]) (d_bidAtPlace hl0 σ (b)) cvs_X9_73 rfl (Nat.le_of_ble_eq_true rfl) ⟨by decide, by decide, by decide, by decide⟩ dX9_trades_17 ?_
  refine V_iconst hf dX9_trades_20 ?_
  refine V_iadd hf dX9_trades_21 ?_
  refine B_iald hf l01 (fun _ => rfl) ⟨by omega, by omega⟩ (by omega) (by omega) dX9_trades_22 ?_
  refine V_istore (ls2 := [_, _, _, _, _, _, _, _]) hf dX9_trades_23 (by decide) rfl rfl ?_
  refine V_aload_n hf dX9_trades_25 rfl rfl ?_
  refine B_get hf l01 rfl fl_X9_9_12 rfl dX9_trades_26 ?_
  refine V_iload_n hf dX9_trades_29 rfl rfl ?_
  refine B_callSi hf (As := [_]) (d_barnacleAtPlace hl0 σ (σ 0 41 (108 + 4 * x + 1))) cvs_X9_70 rfl (Nat.le_of_ble_eq_true rfl) ⟨by decide, by decide, by decide, by decide⟩ dX9_trades_30 ?_
  refine B_iald hf l01 (fun _ => rfl) ⟨by omega, by omega⟩ (by omega) (by omega) dX9_trades_33 ?_
  refine V_istore (ls2 := [_, _, _, _, _, _, _, _]) hf dX9_trades_34 (by decide) rfl rfl ?_
  refine V_aload_n hf dX9_trades_36 rfl rfl ?_
  refine B_get hf l01 rfl fl_X9_9_12 rfl dX9_trades_37 ?_
  refine V_iload_n hf dX9_trades_40 rfl rfl ?_
  refine B_callSi hf (As := [_]) (d_bidAtPlace hl0 σ (b)) cvs_X9_73 rfl (Nat.le_of_ble_eq_true rfl) ⟨by decide, by decide, by decide, by decide⟩ dX9_trades_41 ?_
  refine V_iconst hf dX9_trades_44 ?_
  refine V_iadd hf dX9_trades_45 ?_
  refine B_iald hf l01 (fun _ => rfl) ⟨by omega, by omega⟩ (by omega) (by omega) dX9_trades_46 ?_
  refine V_aload_n hf dX9_trades_47 rfl rfl ?_
  refine B_get hf l01 rfl fl_X9_9_12 rfl dX9_trades_48 ?_
  refine V_iload_n hf dX9_trades_51 rfl rfl ?_
  refine B_callSi hf (As := [_]) (d_offerAtPlace hl0 σ (x)) cvs_X9_82 rfl (Nat.le_of_ble_eq_true rfl) ⟨by decide, by decide, by decide, by decide⟩ dX9_trades_52 ?_
  refine V_iconst hf dX9_trades_55 ?_
  refine V_iadd hf dX9_trades_56 ?_
  refine B_iald hf l01 (fun _ => rfl) ⟨by omega, by omega⟩ (by omega) (by omega) dX9_trades_57 ?_
  refine V_iadd hf dX9_trades_58 ?_
  refine V_iconst hf dX9_trades_59 ?_
  refine V_idiv hf ⟨by omega, by omega⟩ (by omega) (by decide) ⟨by decide, by decide⟩ dX9_trades_60 ?_
  refine V_istore (ls2 := [_, _, _, _, _, _, _, _]) hf dX9_trades_61 (by decide) rfl rfl ?_
  refine V_aload_n hf dX9_trades_63 rfl rfl ?_
  refine B_get hf l01 rfl fl_X9_9_12 rfl dX9_trades_64 ?_
  refine V_bipush hf dX9_trades_67 (by decide +kernel) ?_
  refine B_iald hf l01 (fun _ => rfl) (by first | exact hR _ _ _ (by decide) | exact ⟨by omega, by omega⟩ | exact Rng.st (Rng.st hR ⟨by decide, by decide⟩) ⟨by decide, by decide⟩ _ _ _ (by decide) | exact Rng.st hR ⟨by decide, by decide⟩ _ _ _ (by decide)) (by omega) (by omega) dX9_trades_69 ?_
  refine V_iload hf dX9_trades_70 rfl ?_
  refine V_min hf ⟨by omega, by omega⟩ ⟨by omega, by omega⟩ wl_X9_172 ⟨by decide, (Nat.le_of_ble_eq_true rfl), by decide, by decide⟩ dX9_trades_72 ?_
  refine V_istore (ls2 := [_, _, _, _, _, _, _, _]) hf dX9_trades_75 (by decide) rfl rfl ?_
  refine V_aload_n hf dX9_trades_77 rfl rfl ?_
  refine B_get hf l01 rfl fl_X9_9_12 rfl dX9_trades_78 ?_
  refine V_iload hf dX9_trades_81 rfl ?_
  refine B_callSi hf (As := [_]) (d_shipAt hl0 σ (σ 0 41 (58 + 5 * b + 1))) cvs_X9_67 rfl (Nat.le_of_ble_eq_true rfl) ⟨by decide, by decide, by decide, by decide⟩ dX9_trades_83 ?_
  refine V_dup2 hf dX9_trades_86 rfl rfl ?_
  refine B_iald hf l01 (fun _ => rfl) ⟨by omega, by omega⟩ (by omega) (by omega) dX9_trades_87 ?_
  refine V_iload hf dX9_trades_88 rfl ?_
  refine V_isub hf dX9_trades_90 ?_
  refine B_iast hf l01 (by decide) (fun _ => rfl) ⟨by omega, by omega⟩ (by omega) (by omega) dX9_trades_91 ?_
  refine V_aload_n hf dX9_trades_92 rfl rfl ?_
  refine B_get hf l01 rfl fl_X9_9_12 rfl dX9_trades_93 ?_
  refine V_iload hf dX9_trades_96 rfl ?_
  refine B_callSi hf (As := [_]) (d_shipAt hl0 _ (σ 0 41 (26 + 2 * σ 0 41 (108 + 4 * x + 1)))) cvs_X9_67 rfl (Nat.le_of_ble_eq_true rfl) ⟨by decide, by decide, by decide, by decide⟩ dX9_trades_98 ?_
  refine V_dup2 hf dX9_trades_101 rfl rfl ?_
  refine B_iald hf l01 (fun _ => rfl) ⟨by omega, by omega⟩ (by omega) (by omega) dX9_trades_102 ?_
  refine V_iload hf dX9_trades_103 rfl ?_
  refine V_iload hf dX9_trades_105 rfl ?_
  refine V_isub hf dX9_trades_107 ?_
  refine V_iadd hf dX9_trades_108 ?_
  refine B_iast hf l01 (by decide) (fun _ => rfl) ⟨by omega, by omega⟩ (by omega) (by omega) dX9_trades_109 ?_
  refine V_aload_n hf dX9_trades_110 rfl rfl ?_
  refine B_get hf l01 rfl fl_X9_9_12 rfl dX9_trades_111 ?_
  refine V_bipush hf dX9_trades_114 (by decide +kernel) ?_
  refine V_dup2 hf dX9_trades_116 rfl rfl ?_
  refine B_iald hf l01 (fun _ => rfl) (by first | exact hR _ _ _ (by decide) | exact ⟨by omega, by omega⟩ | exact Rng.st (Rng.st hR ⟨by decide, by decide⟩) ⟨by decide, by decide⟩ _ _ _ (by decide) | exact Rng.st hR ⟨by decide, by decide⟩ _ _ _ (by decide)) (by omega) (by omega) dX9_trades_117 ?_
  refine V_iload hf dX9_trades_118 rfl ?_
  refine V_iadd hf dX9_trades_120 ?_
  refine B_iast hf l01 (by decide) (fun _ => rfl) (by first | exact hR _ _ _ (by decide) | exact ⟨by omega, by omega⟩ | exact Rng.st (Rng.st hR ⟨by decide, by decide⟩) ⟨by decide, by decide⟩ _ _ _ (by decide) | exact Rng.st hR ⟨by decide, by decide⟩ _ _ _ (by decide)) (by omega) (by omega) dX9_trades_121 ?_
  refine V_aload_n hf dX9_trades_122 rfl rfl ?_
  refine B_get hf l01 rfl fl_X9_9_12 rfl dX9_trades_123 ?_
  refine V_iload_n hf dX9_trades_126 rfl rfl ?_
  refine B_callSi hf (As := [_]) (d_barnacleAtPlace hl0 _ (σ 0 41 (108 + 4 * x + 1))) cvs_X9_70 rfl (Nat.le_of_ble_eq_true rfl) ⟨by decide, by decide, by decide, by decide⟩ dX9_trades_127 ?_
  refine V_iload hf dX9_trades_130 rfl ?_
  refine B_iast hf l01 (by decide) (fun _ => rfl) ⟨by omega, by omega⟩ (by omega) (by omega) dX9_trades_132 ?_
  refine V_aload_n hf dX9_trades_133 rfl rfl ?_
  refine B_get hf l01 rfl fl_X9_9_12 rfl dX9_trades_134 ?_
  refine V_bipush hf dX9_trades_137 (by decide +kernel) ?_
  refine V_dup2 hf dX9_trades_139 rfl rfl ?_
  refine B_iald hf l01 (fun _ => rfl) (by first | exact hR _ _ _ (by decide) | exact ⟨by omega, by omega⟩ | exact Rng.st (Rng.st hR ⟨by decide, by decide⟩) ⟨by decide, by decide⟩ _ _ _ (by decide) | exact Rng.st hR ⟨by decide, by decide⟩ _ _ _ (by decide)) (by omega) (by omega) dX9_trades_140 ?_
  refine V_iconst hf dX9_trades_141 ?_
  refine V_iadd hf dX9_trades_142 ?_
  refine B_iast hf l01 (by decide) (fun _ => rfl) (by first | exact hR _ _ _ (by decide) | exact ⟨by omega, by omega⟩ | exact Rng.st (Rng.st hR ⟨by decide, by decide⟩) ⟨by decide, by decide⟩ _ _ _ (by decide) | exact Rng.st hR ⟨by decide, by decide⟩ _ _ _ (by decide)) (by omega) (by omega) dX9_trades_143 ?_
  refine V_aload_n hf dX9_trades_144 rfl rfl ?_
  refine B_get hf l01 rfl fl_X9_9_12 rfl dX9_trades_145 ?_
  refine V_bipush hf dX9_trades_148 (by decide +kernel) ?_
  refine V_dup2 hf dX9_trades_150 rfl rfl ?_
  refine B_iald hf l01 (fun _ => rfl) (by first | exact hR _ _ _ (by decide) | exact ⟨by omega, by omega⟩ | exact Rng.st (Rng.st hR ⟨by decide, by decide⟩) ⟨by decide, by decide⟩ _ _ _ (by decide) | exact Rng.st hR ⟨by decide, by decide⟩ _ _ _ (by decide)) (by omega) (by omega) dX9_trades_151 ?_
  refine V_iload hf dX9_trades_152 rfl ?_
  refine V_iadd hf dX9_trades_154 ?_
  refine B_iast hf l01 (by decide) (fun _ => rfl) (by first | exact hR _ _ _ (by decide) | exact ⟨by omega, by omega⟩ | exact Rng.st (Rng.st hR ⟨by decide, by decide⟩) ⟨by decide, by decide⟩ _ _ _ (by decide) | exact Rng.st hR ⟨by decide, by decide⟩ _ _ _ (by decide)) (by omega) (by omega) dX9_trades_155 ?_
  refine V_aload_n hf dX9_trades_156 rfl rfl ?_
  refine V_iload hf dX9_trades_157 rfl ?_
  refine V_iload hf dX9_trades_159 rfl ?_
  refine V_iload_n hf dX9_trades_161 rfl rfl ?_
  refine V_iload hf dX9_trades_162 rfl ?_
  refine B_callVv hf (As := [_, _, _, _]) (e_remembers hl0 (mtradeA σ b x) hA (σ 0 41 (58 + 5 * b + 1)) (σ 0 41 (26 + 2 * σ 0 41 (108 + 4 * x + 1))) (σ 0 41 (108 + 4 * x + 1)) ((σ 0 41 (58 + 5 * b + 3) + σ 0 41 (108 + 4 * x + 2)) / 2) (by have : mtradeA σ b x 0 41 13 = σ 0 41 13 := (by unfold mtradeA; rw [st3_k (by decide), st3_k (by decide), st3_k (by omega), st3_k (by decide), st3_k (by omega), st3_k (by omega)]); rw [this]; exact c13)) cv_X9_177 l01 rfl rfl rfl (Nat.le_of_ble_eq_true rfl) ⟨by decide, by decide, by decide, by decide⟩ dX9_trades_164 ?_
  refine V_aload_n hf dX9_trades_167 rfl rfl ?_
  refine V_iload_n hf dX9_trades_168 rfl rfl ?_
  refine B_callVv hf (As := [_]) (e_closesB hl0 (mtradeB σ b x) hB b ⟨by omega, by omega⟩) cv_X9_156 l01 rfl rfl rfl (Nat.le_of_ble_eq_true rfl) ⟨by decide, by decide, by decide, by decide⟩ dX9_trades_169 ?_
  refine V_aload_n hf dX9_trades_172 rfl rfl ?_
  refine V_iload_n hf dX9_trades_173 rfl rfl ?_
  refine B_callVv hf (As := [_]) (e_closesO hl0 (closeM (mtradeB σ b x) 2 (58 + 5 * b) 5 108) hC x ⟨by omega, by omega⟩) cv_X9_166 l01 rfl rfl rfl (Nat.le_of_ble_eq_true rfl) ⟨by decide, by decide, by decide, by decide⟩ dX9_trades_174 ?_
  exact B_vret hf he dX9_trades_177 (by decide) (by decide) rfl

set_option maxHeartbeats 4000000 in
set_option maxRecDepth 100000 in
theorem e_auctions {l : Launch} {D : va_G} {K : Nat → ClassId} {ad : Adr} (hl0 : l.stackTraces = false) (σ : Mem) (hR : Rng σ) (h2 : 0 ≤ σ 0 41 2 ∧ σ 0 41 2 ≤ 10) (hA : maucOk (σ 0 41 2).toNat σ 0) : Cb l D K ad yX9_auctions (.code yX9_auctions cX9_auctions 5 (some .int)) 5 0 0 σ [.ref (ad 0 40)] (.inl (some (.int (iN (maucR (σ 0 41 2).toNat σ 0 0).2)))) (maucR (σ 0 41 2).toNat σ 0 0).1 := by
  refine Cb.of (own := RX9) (ls0 := [some (.ref (ad 0 40)), none, none, none, none]) hl0 (by decide) rfl (Nat.le_of_ble_eq_true rfl) rfl ?_
  intro X hX1 hX2 hX3 hf he hh
  subst hX1 hX2 hX3
  have loop : ∀ (n : Nat) (τ : Mem) (r d : Int), 0 ≤ r → r + n = τ 0 41 2 → τ 0 41 2 ≤ 10 → maucOk n τ r → Be X (some .int) ad (.inl (some (.int (iN (maucR n τ r d).2)))) (maucR n τ r d).1 0 0 → B X ad τ 4 [some (.ref (ad 0 40)), some (.int (iN (d))), some (.int (iN (r))), none, none] [] 0 0 := by
    intro n
    induction n with
    | zero =>
      intro τ r d hr0 hrn h10 hA he
      refine V_iload_n hf dX9_auctions_4 rfl rfl ?_
      refine V_aload_n hf dX9_auctions_5 rfl rfl ?_
      refine B_get hf l01 rfl fl_X9_9_12 rfl dX9_auctions_6 ?_
      refine V_iconst hf dX9_auctions_9 ?_
      refine B_iald hf l01 (fun _ => rfl) (by first | exact hR _ _ _ (by decide) | exact ⟨by omega, by omega⟩ | exact Rng.st (Rng.st hR ⟨by decide, by decide⟩) ⟨by decide, by decide⟩ _ _ _ (by decide) | exact Rng.st hR ⟨by decide, by decide⟩ _ _ _ (by decide)) (by omega) (by omega) dX9_auctions_10 ?_
      refine V_icmp_ge (tgt := 52) hf ⟨by omega, by omega⟩ ⟨by omega, by omega⟩ dX9_auctions_11 (by decide) (fun h11 => ?_) (fun h11 => ?_)
      · refine V_iload_n hf dX9_auctions_52 rfl rfl ?_
        exact B_iret hf he rfl dX9_auctions_53 (by decide) (by decide) rfl rfl
      · exact absurd h11 (by first | omega | (split at h11 <;> omega))
    | succ n ih =>
      intro τ r d hr0 hrn h10 hA he
      have m0 := hA.1.2.1.n2
      have m1 := hA.1.2.1.n3
      have m2 := hA.1.2.2.2.2
      refine V_iload_n hf dX9_auctions_4 rfl rfl ?_
      refine V_aload_n hf dX9_auctions_5 rfl rfl ?_
      refine B_get hf l01 rfl fl_X9_9_12 rfl dX9_auctions_6 ?_
      refine V_iconst hf dX9_auctions_9 ?_
      refine B_iald hf l01 (fun _ => rfl) (by first | exact hR _ _ _ (by decide) | exact ⟨by omega, by omega⟩ | exact Rng.st (Rng.st hR ⟨by decide, by decide⟩) ⟨by decide, by decide⟩ _ _ _ (by decide) | exact Rng.st hR ⟨by decide, by decide⟩ _ _ _ (by decide)) (by omega) (by omega) dX9_auctions_10 ?_
      refine V_icmp_ge (tgt := 52) hf ⟨by omega, by omega⟩ ⟨by omega, by omega⟩ dX9_auctions_11 (by decide) (fun h11 => ?_) (fun h11 => ?_)
      · exact absurd h11 (by first | omega | (split at h11 <;> omega))
      · refine V_aload_n hf dX9_auctions_14 rfl rfl ?_
        refine V_iload_n hf dX9_auctions_15 rfl rfl ?_
        refine B_callVi hf (As := [_]) (d_bRank hl0 τ hA.1.1 hA.1.2.1 r ⟨by omega, by omega⟩) cv_X9_135 l01 rfl rfl rfl (Nat.le_of_ble_eq_true rfl) ⟨by decide, by decide, by decide, by decide⟩ dX9_auctions_16 ?_
        change B X ad τ 19 _ [.int (iN (mbid τ r))] 0 0
        have r9 : -1 ≤ mbid τ r ∧ (mbid τ r < τ 0 41 2 ∨ mbid τ r = -1) := fst_r (P := fun k => sumI (mbF (τ 0 41) k) (τ 0 41 2) = r) (n := τ 0 41 2)
        refine V_istore_n (ls2 := [_, _, _, _, _]) hf dX9_auctions_19 rfl (by decide) rfl rfl ?_
        refine V_aload_n hf dX9_auctions_20 rfl rfl ?_
        refine V_iload_n hf dX9_auctions_21 rfl rfl ?_
        refine B_callVi hf (As := [_]) (d_match hl0 τ hA.1.1 hA.1.2.1 (mbid τ r) ⟨by omega, by omega⟩) cv_X9_180 l01 rfl rfl rfl (Nat.le_of_ble_eq_true rfl) ⟨by decide, by decide, by decide, by decide⟩ dX9_auctions_22 ?_
        change B X ad τ 25 _ [.int (iN (moff τ r))] 0 0
        have r8 : -1 ≤ moff τ r ∧ moff τ r < ((τ 0 41 3).toNat : Int) := mbestN_r _ _ _
        refine V_istore (ls2 := [_, _, _, _, _]) hf dX9_auctions_25 (by decide) rfl rfl ?_
        refine V_iload hf dX9_auctions_27 rfl ?_
        refine V_iconst hf dX9_auctions_29 ?_
        refine V_icmp_ne (tgt := 39) hf ⟨by omega, by omega⟩ ⟨by omega, by omega⟩ dX9_auctions_30 (by decide) (fun h30 => ?_) (fun h30 => ?_)
        · have hA2 := hA.2
          rw [if_neg h30] at hA2
          have hm := mtradeM_2 hA.1.2.1 (b := mbid τ r) (x := moff τ r) ⟨by omega, by omega⟩ ⟨by omega, by omega⟩
          rw [show maucR (n + 1) τ r d = maucR n (mtradeM τ (mbid τ r) (moff τ r)) r (d + 1) from if_neg h30] at he
          refine V_aload_n hf dX9_auctions_39 rfl rfl ?_
          refine V_iload_n hf dX9_auctions_40 rfl rfl ?_
          refine V_iload hf dX9_auctions_41 rfl ?_
          refine B_callVv hf (As := [_, _]) (e_trades hl0 τ hA.1.1 hA.1.2.1 (mbid τ r) (moff τ r) ⟨by omega, by omega⟩ ⟨by omega, by omega⟩ hA2.1 hA2.2.1 hA2.2.2.1) cv_X9_183 l01 rfl rfl rfl (Nat.le_of_ble_eq_true rfl) ⟨by decide, by decide, by decide, by decide⟩ dX9_auctions_43 ?_
          refine V_iinc (ls2 := [_, _, _, _, _]) hf dX9_auctions_46 (by decide) rfl rfl rfl ?_
          refine V_goto (tgt := 4) hf dX9_auctions_49 (by decide) ?_
          refine V_fg (ls2 := [some _, some _, some _, none, none]) ⟨rfl, rfl, rfl, trivial⟩ ?_
          first | exact ih τ (r + 1) d (by omega) (by omega) (by omega) hA2 he | exact ih _ r (d + 1) (by omega) (by omega) (by omega) hA2.2.2.2 he
        · have hA2 := hA.2
          rw [if_pos h30] at hA2
          rw [show maucR (n + 1) τ r d = maucR n τ (r + 1) d from if_pos h30] at he
          refine V_iinc (ls2 := [_, _, _, _, _]) hf dX9_auctions_33 (by decide) rfl rfl rfl ?_
          refine V_goto (tgt := 49) hf dX9_auctions_36 (by decide) ?_
          refine V_goto (tgt := 4) hf dX9_auctions_49 (by decide) ?_
          refine V_fg (ls2 := [some _, some _, some _, none, none]) ⟨rfl, rfl, rfl, trivial⟩ ?_
          first | exact ih τ (r + 1) d (by omega) (by omega) (by omega) hA2 he | exact ih _ r (d + 1) (by omega) (by omega) (by omega) hA2.2.2.2 he
  refine V_iconst hf dX9_auctions_0 ?_
  refine V_istore_n (ls2 := [_, _, _, _, _]) hf dX9_auctions_1 rfl (by decide) rfl rfl ?_
  refine V_iconst hf dX9_auctions_2 ?_
  refine V_istore_n (ls2 := [_, _, _, _, _]) hf dX9_auctions_3 rfl (by decide) rfl rfl ?_
  exact loop (σ 0 41 2).toNat σ 0 0 (by omega) (by omega) h2.2 hA he
