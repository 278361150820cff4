/-! the reference: numbers written -/
def mappM (σ : Mem) (c : Int) : Mem :=
  let σ1 := st3 σ 0 40 8 0
  let σ2 := st3 σ1 0 46 (σ1 0 40 10) c
  st3 σ2 0 40 10 (σ2 0 40 10 + 1)
/-- how a number is written -/
def tenR (v : Int) : Nat → Int → Int
  | 0, t => t
  | f + 1, t => if 9 < v / t then tenR v f (t * 10) else t
def wrR (v : Int) : Nat → Mem → Int → Mem
  | 0, σ, _ => σ
  | f + 1, σ, t => if 0 < t then wrR v f (signM σ (48 + v / t % 10)) (t / 10) else σ
def putL (σ : Mem) : List Int → Mem
  | [] => σ
  | c :: L => putL (signM σ c) L
def dl (v : Int) : List Int := if v < 10 then [48 + v / 1 % 10] else if v < 100 then [48 + v / 10 % 10, 48 + v / 1 % 10] else if v < 1000 then [48 + v / 100 % 10, 48 + v / 10 % 10, 48 + v / 1 % 10] else if v < 10000 then [48 + v / 1000 % 10, 48 + v / 100 % 10, 48 + v / 10 % 10, 48 + v / 1 % 10] else if v < 100000 then [48 + v / 10000 % 10, 48 + v / 1000 % 10, 48 + v / 100 % 10, 48 + v / 10 % 10, 48 + v / 1 % 10] else if v < 1000000 then [48 + v / 100000 % 10, 48 + v / 10000 % 10, 48 + v / 1000 % 10, 48 + v / 100 % 10, 48 + v / 10 % 10, 48 + v / 1 % 10] else if v < 10000000 then [48 + v / 1000000 % 10, 48 + v / 100000 % 10, 48 + v / 10000 % 10, 48 + v / 1000 % 10, 48 + v / 100 % 10, 48 + v / 10 % 10, 48 + v / 1 % 10] else if v < 100000000 then [48 + v / 10000000 % 10, 48 + v / 1000000 % 10, 48 + v / 100000 % 10, 48 + v / 10000 % 10, 48 + v / 1000 % 10, 48 + v / 100 % 10, 48 + v / 10 % 10, 48 + v / 1 % 10] else [48 + v / 100000000 % 10, 48 + v / 10000000 % 10, 48 + v / 1000000 % 10, 48 + v / 100000 % 10, 48 + v / 10000 % 10, 48 + v / 1000 % 10, 48 + v / 100 % 10, 48 + v / 10 % 10, 48 + v / 1 % 10]
theorem wr_dl {v : Int} (h0 : 0 ≤ v) (h1 : v < 1000000000) (σ : Mem) : wrR v 10 σ (tenR v 8 1) = putL σ (dl v) := by
  by_cases h0a : v < 10
  · have e : tenR v 8 1 = 1 := by
      rw [tenR, if_neg (show ¬ 9 < v / 1 by omega)]
    rw [e]
    rw [wrR, if_pos (by decide), show (1 : Int) / 10 = 0 by decide]
    rw [wrR, if_neg (by decide)]
    unfold dl
    rw [if_pos h0a]
    rfl
  by_cases h1a : v < 100
  · have e : tenR v 8 1 = 10 := by
      rw [tenR, if_pos (show 9 < v / 1 by omega), show (1 : Int) * 10 = 10 by decide]
      rw [tenR, if_neg (show ¬ 9 < v / 10 by omega)]
    rw [e]
    rw [wrR, if_pos (by decide), show (10 : Int) / 10 = 1 by decide]
    rw [wrR, if_pos (by decide), show (1 : Int) / 10 = 0 by decide]
    rw [wrR, if_neg (by decide)]
    unfold dl
    rw [if_neg h0a, if_pos h1a]
    rfl
  by_cases h2a : v < 1000
  · have e : tenR v 8 1 = 100 := by
      rw [tenR, if_pos (show 9 < v / 1 by omega), show (1 : Int) * 10 = 10 by decide]
      rw [tenR, if_pos (show 9 < v / 10 by omega), show (10 : Int) * 10 = 100 by decide]
      rw [tenR, if_neg (show ¬ 9 < v / 100 by omega)]
    rw [e]
    rw [wrR, if_pos (by decide), show (100 : Int) / 10 = 10 by decide]
    rw [wrR, if_pos (by decide), show (10 : Int) / 10 = 1 by decide]
    rw [wrR, if_pos (by decide), show (1 : Int) / 10 = 0 by decide]
    rw [wrR, if_neg (by decide)]
    unfold dl
    rw [if_neg h0a, if_neg h1a, if_pos h2a]
    rfl
  by_cases h3a : v < 10000
  · have e : tenR v 8 1 = 1000 := by
      rw [tenR, if_pos (show 9 < v / 1 by omega), show (1 : Int) * 10 = 10 by decide]
      rw [tenR, if_pos (show 9 < v / 10 by omega), show (10 : Int) * 10 = 100 by decide]
      rw [tenR, if_pos (show 9 < v / 100 by omega), show (100 : Int) * 10 = 1000 by decide]
      rw [tenR, if_neg (show ¬ 9 < v / 1000 by omega)]
    rw [e]
    rw [wrR, if_pos (by decide), show (1000 : Int) / 10 = 100 by decide]
    rw [wrR, if_pos (by decide), show (100 : Int) / 10 = 10 by decide]
    rw [wrR, if_pos (by decide), show (10 : Int) / 10 = 1 by decide]
    rw [wrR, if_pos (by decide), show (1 : Int) / 10 = 0 by decide]
    rw [wrR, if_neg (by decide)]
    unfold dl
    rw [if_neg h0a, if_neg h1a, if_neg h2a, if_pos h3a]
    rfl
  by_cases h4a : v < 100000
  · have e : tenR v 8 1 = 10000 := by
      rw [tenR, if_pos (show 9 < v / 1 by omega), show (1 : Int) * 10 = 10 by decide]
      rw [tenR, if_pos (show 9 < v / 10 by omega), show (10 : Int) * 10 = 100 by decide]
      rw [tenR, if_pos (show 9 < v / 100 by omega), show (100 : Int) * 10 = 1000 by decide]
      rw [tenR, if_pos (show 9 < v / 1000 by omega), show (1000 : Int) * 10 = 10000 by decide]
      rw [tenR, if_neg (show ¬ 9 < v / 10000 by omega)]
    rw [e]
    rw [wrR, if_pos (by decide), show (10000 : Int) / 10 = 1000 by decide]
    rw [wrR, if_pos (by decide), show (1000 : Int) / 10 = 100 by decide]
    rw [wrR, if_pos (by decide), show (100 : Int) / 10 = 10 by decide]
    rw [wrR, if_pos (by decide), show (10 : Int) / 10 = 1 by decide]
    rw [wrR, if_pos (by decide), show (1 : Int) / 10 = 0 by decide]
    rw [wrR, if_neg (by decide)]
    unfold dl
    rw [if_neg h0a, if_neg h1a, if_neg h2a, if_neg h3a, if_pos h4a]
    rfl
  by_cases h5a : v < 1000000
  · have e : tenR v 8 1 = 100000 := by
      rw [tenR, if_pos (show 9 < v / 1 by omega), show (1 : Int) * 10 = 10 by decide]
      rw [tenR, if_pos (show 9 < v / 10 by omega), show (10 : Int) * 10 = 100 by decide]
      rw [tenR, if_pos (show 9 < v / 100 by omega), show (100 : Int) * 10 = 1000 by decide]
      rw [tenR, if_pos (show 9 < v / 1000 by omega), show (1000 : Int) * 10 = 10000 by decide]
      rw [tenR, if_pos (show 9 < v / 10000 by omega), show (10000 : Int) * 10 = 100000 by decide]
      rw [tenR, if_neg (show ¬ 9 < v / 100000 by omega)]
    rw [e]
    rw [wrR, if_pos (by decide), show (100000 : Int) / 10 = 10000 by decide]
    rw [wrR, if_pos (by decide), show (10000 : Int) / 10 = 1000 by decide]
    rw [wrR, if_pos (by decide), show (1000 : Int) / 10 = 100 by decide]
    rw [wrR, if_pos (by decide), show (100 : Int) / 10 = 10 by decide]
    rw [wrR, if_pos (by decide), show (10 : Int) / 10 = 1 by decide]
    rw [wrR, if_pos (by decide), show (1 : Int) / 10 = 0 by decide]
    rw [wrR, if_neg (by decide)]
    unfold dl
    rw [if_neg h0a, if_neg h1a, if_neg h2a, if_neg h3a, if_neg h4a, if_pos h5a]
    rfl
  by_cases h6a : v < 10000000
  · have e : tenR v 8 1 = 1000000 := by
      rw [tenR, if_pos (show 9 < v / 1 by omega), show (1 : Int) * 10 = 10 by decide]
      rw [tenR, if_pos (show 9 < v / 10 by omega), show (10 : Int) * 10 = 100 by decide]
      rw [tenR, if_pos (show 9 < v / 100 by omega), show (100 : Int) * 10 = 1000 by decide]
      rw [tenR, if_pos (show 9 < v / 1000 by omega), show (1000 : Int) * 10 = 10000 by decide]
      rw [tenR, if_pos (show 9 < v / 10000 by omega), show (10000 : Int) * 10 = 100000 by decide]
      rw [tenR, if_pos (show 9 < v / 100000 by omega), show (100000 : Int) * 10 = 1000000 by decide]
      rw [tenR, if_neg (show ¬ 9 < v / 1000000 by omega)]
    rw [e]
    rw [wrR, if_pos (by decide), show (1000000 : Int) / 10 = 100000 by decide]
    rw [wrR, if_pos (by decide), show (100000 : Int) / 10 = 10000 by decide]
    rw [wrR, if_pos (by decide), show (10000 : Int) / 10 = 1000 by decide]
    rw [wrR, if_pos (by decide), show (1000 : Int) / 10 = 100 by decide]
    rw [wrR, if_pos (by decide), show (100 : Int) / 10 = 10 by decide]
    rw [wrR, if_pos (by decide), show (10 : Int) / 10 = 1 by decide]
    rw [wrR, if_pos (by decide), show (1 : Int) / 10 = 0 by decide]
    rw [wrR, if_neg (by decide)]
    unfold dl
    rw [if_neg h0a, if_neg h1a, if_neg h2a, if_neg h3a, if_neg h4a, if_neg h5a, if_pos h6a]
    rfl
  by_cases h7a : v < 100000000
  · have e : tenR v 8 1 = 10000000 := by
      rw [tenR, if_pos (show 9 < v / 1 by omega), show (1 : Int) * 10 = 10 by decide]
      rw [tenR, if_pos (show 9 < v / 10 by omega), show (10 : Int) * 10 = 100 by decide]
      rw [tenR, if_pos (show 9 < v / 100 by omega), show (100 : Int) * 10 = 1000 by decide]
      rw [tenR, if_pos (show 9 < v / 1000 by omega), show (1000 : Int) * 10 = 10000 by decide]
      rw [tenR, if_pos (show 9 < v / 10000 by omega), show (10000 : Int) * 10 = 100000 by decide]
      rw [tenR, if_pos (show 9 < v / 100000 by omega), show (100000 : Int) * 10 = 1000000 by decide]
      rw [tenR, if_pos (show 9 < v / 1000000 by omega), show (1000000 : Int) * 10 = 10000000 by decide]
      rw [tenR, if_neg (show ¬ 9 < v / 10000000 by omega)]
    rw [e]
    rw [wrR, if_pos (by decide), show (10000000 : Int) / 10 = 1000000 by decide]
    rw [wrR, if_pos (by decide), show (1000000 : Int) / 10 = 100000 by decide]
    rw [wrR, if_pos (by decide), show (100000 : Int) / 10 = 10000 by decide]
    rw [wrR, if_pos (by decide), show (10000 : Int) / 10 = 1000 by decide]
    rw [wrR, if_pos (by decide), show (1000 : Int) / 10 = 100 by decide]
    rw [wrR, if_pos (by decide), show (100 : Int) / 10 = 10 by decide]
    rw [wrR, if_pos (by decide), show (10 : Int) / 10 = 1 by decide]
    rw [wrR, if_pos (by decide), show (1 : Int) / 10 = 0 by decide]
    rw [wrR, if_neg (by decide)]
    unfold dl
    rw [if_neg h0a, if_neg h1a, if_neg h2a, if_neg h3a, if_neg h4a, if_neg h5a, if_neg h6a, if_pos h7a]
    rfl
  have e : tenR v 8 1 = 100000000 := by
    rw [tenR, if_pos (show 9 < v / 1 by omega), show (1 : Int) * 10 = 10 by decide]
    rw [tenR, if_pos (show 9 < v / 10 by omega), show (10 : Int) * 10 = 100 by decide]
    rw [tenR, if_pos (show 9 < v / 100 by omega), show (100 : Int) * 10 = 1000 by decide]
    rw [tenR, if_pos (show 9 < v / 1000 by omega), show (1000 : Int) * 10 = 10000 by decide]
    rw [tenR, if_pos (show 9 < v / 10000 by omega), show (10000 : Int) * 10 = 100000 by decide]
    rw [tenR, if_pos (show 9 < v / 100000 by omega), show (100000 : Int) * 10 = 1000000 by decide]
    rw [tenR, if_pos (show 9 < v / 1000000 by omega), show (1000000 : Int) * 10 = 10000000 by decide]
    rw [tenR, if_pos (show 9 < v / 10000000 by omega), show (10000000 : Int) * 10 = 100000000 by decide]
    rw [tenR]
  rw [e]
  rw [wrR, if_pos (by decide), show (100000000 : Int) / 10 = 10000000 by decide]
  rw [wrR, if_pos (by decide), show (10000000 : Int) / 10 = 1000000 by decide]
  rw [wrR, if_pos (by decide), show (1000000 : Int) / 10 = 100000 by decide]
  rw [wrR, if_pos (by decide), show (100000 : Int) / 10 = 10000 by decide]
  rw [wrR, if_pos (by decide), show (10000 : Int) / 10 = 1000 by decide]
  rw [wrR, if_pos (by decide), show (1000 : Int) / 10 = 100 by decide]
  rw [wrR, if_pos (by decide), show (100 : Int) / 10 = 10 by decide]
  rw [wrR, if_pos (by decide), show (10 : Int) / 10 = 1 by decide]
  rw [wrR, if_pos (by decide), show (1 : Int) / 10 = 0 by decide]
  rw [wrR, if_neg (by decide)]
  unfold dl
  rw [if_neg h0a, if_neg h1a, if_neg h2a, if_neg h3a, if_neg h4a, if_neg h5a, if_neg h6a, if_neg h7a]
  rfl
theorem signM_17 {σ : Mem} {c : Int} : signM σ c 0 40 17 = σ 0 40 17 + 1 := by
  unfold signM
  rw [st3_self, st3_j (by decide)]
theorem signM_R {σ : Mem} {c : Int} (h : Rng σ) (hc : inR c) (hl : 0 ≤ σ 0 40 17 ∧ σ 0 40 17 < 1000) : Rng (signM σ c) := (h.st hc).st (by rw [st3_j (by decide)]; exact ⟨by omega, by omega⟩)
theorem signM_o {σ : Mem} {c g : Int} {j : Nat} {k : Int} (h : ¬ (j = 40 ∧ k = 17)) (h2 : ¬ j = 47) : signM σ c g j k = σ g j k := by
  unfold signM
  rw [st3, if_neg (fun q => h ⟨q.2.1, q.2.2⟩), st3_j h2]
theorem putL_17 : ∀ (L : List Int) (σ : Mem), putL σ L 0 40 17 = σ 0 40 17 + L.length
  | [], σ => by simp [putL]
  | c :: L, σ => by
    rw [putL, putL_17 L, signM_17, List.length_cons]
    omega
theorem putL_o {g : Int} {j : Nat} {k : Int} (h : ¬ (j = 40 ∧ k = 17)) (h2 : ¬ j = 47) : ∀ (L : List Int) (σ : Mem), putL σ L g j k = σ g j k
  | [], _ => rfl
  | c :: L, σ => by rw [putL, putL_o h h2 L, signM_o h h2]
theorem putL_R : ∀ (L : List Int) (σ : Mem), Rng σ → (∀ c ∈ L, inR c) → 0 ≤ σ 0 40 17 → σ 0 40 17 + L.length ≤ 1000 → Rng (putL σ L)
  | [], _, h, _, _, _ => h
  | c :: L, σ, h, hL, h0, h1 => by
    rw [List.length_cons] at h1
    exact putL_R L _ (signM_R h (hL c List.mem_cons_self) ⟨h0, by omega⟩) (fun x hx => hL x (List.mem_cons_of_mem c hx)) (by rw [signM_17]; omega) (by rw [signM_17]; omega)
theorem putL_app : ∀ (L M : List Int) (σ : Mem), putL σ (L ++ M) = putL (putL σ L) M
  | [], _, _ => rfl
  | c :: L, M, σ => by rw [List.cons_append, putL, putL, putL_app L M]
theorem dl_len {v : Int} : (dl v).length ≤ 9 ∧ (v < 10 → (dl v).length = 1) ∧ (v < 100 → (dl v).length ≤ 2) := by
  unfold dl
  repeat' split
  all_goals (refine ⟨by simp, fun h => ?_, fun h => ?_⟩ <;> first | rfl | (simp; done) | omega)
theorem dl_R {v : Int} (h0 : 0 ≤ v) : ∀ c ∈ dl v, inR c := by
  have hd : ∀ t : Int, inR (48 + v / t % 10) := fun t => ⟨by omega, by omega⟩
  unfold dl
  repeat' split
  all_goals
    repeat refine List.forall_mem_cons.mpr ⟨hd _, ?_⟩
    exact fun _ h => absurd h List.not_mem_nil
theorem mul10 {v t : Int} (ht : 0 < t) (h : 9 < v / t) (hv : 0 ≤ v ∧ v ≤ 100000000) : 0 < t * 10 ∧ t * 10 ≤ 100000000 ∧ t * 10 ≤ v := by
  have h1 : 10 * t ≤ v := (Int.le_ediv_iff_mul_le ht).mp (by omega)
  omega
theorem tenR_r {v : Int} (hv : 0 ≤ v ∧ v ≤ 100000000) : 0 ≤ tenR v 8 1 ∧ tenR v 8 1 ≤ 100000000 := by
  have h : ∀ (f : Nat) (t : Int), 0 < t → t ≤ 100000000 → 0 ≤ tenR v f t ∧ tenR v f t ≤ 100000000 := by
    intro f
    induction f with
    | zero => intro t h0 h1; exact ⟨by show 0 ≤ t; omega, h1⟩
    | succ f ih =>
      intro t h0 h1
      unfold tenR
      split
      · rename_i h9
        have hq := mul10 h0 h9 hv
        exact ih (t * 10) hq.1 hq.2.1
      · exact ⟨by omega, h1⟩
  exact h 8 1 (by decide) (by decide)
set_option maxHeartbeats 4000000 in
set_option maxRecDepth 100000 in
theorem g_app {l : Launch} {D : va_G} {K : Nat → ClassId} {ad : Adr} (hl0 : l.stackTraces = false) (σ : Mem) (hR : Rng σ) (c : Int) (hc : 0 ≤ c ∧ c < 65536) (hl : 0 ≤ σ 0 40 10 ∧ σ 0 40 10 ≤ 60) (hk : 32 ≤ c ∧ c ≤ 126) (h6 : σ 0 40 10 < 60) : Cb l D K ad yX9_appendInput (.code yX9_appendInput cX9_appendInput 2 (some .int)) 6 0 0 σ [.ref (ad 0 40), .int (iN c)] (.inl (some (.int (iN (mappM σ c 0 40 10))))) (mappM σ c) := by
  refine Cb.of (own := RX9) (ls0 := [some (.ref (ad 0 40)), some (.int (iN c))]) hl0 (by decide) rfl (Nat.le_of_ble_eq_true rfl) rfl ?_
  intro X hX1 hX2 hX3 hf he hh
  subst hX1 hX2 hX3
  have e41 : st3 σ 0 40 8 0 0 41 = σ 0 41 := by
    funext k
    exact st3_j (by decide)
  have hR1 : Rng (st3 σ 0 40 8 0) := hR.st ⟨by decide, by decide⟩
  have z10 : st3 σ 0 40 8 0 0 40 10 = σ 0 40 10 := st3_k (by decide)
  refine V_aload_n hf dX9_appendInput_0 rfl rfl ?_
  refine V_iconst hf dX9_appendInput_1 ?_
  refine B_putI (kI := 8) hf rfl l01 rfl fp_X9_38_12 rfl rfl (Nat.le_of_ble_eq_true rfl) (by decide) (cs_40_8 _ _ _ _ _) dX9_appendInput_2 ?_
  refine V_iload_n hf dX9_appendInput_5 rfl rfl ?_
  refine V_i2l hf ⟨by omega, by omega⟩ dX9_appendInput_6 ?_
  refine V_ldc2 (a := 32) hf (by decide +kernel) wcl_X9_233 dX9_appendInput_7 ?_
  refine V_ldc2 (a := 126) hf (by decide +kernel) wcl_X9_235 dX9_appendInput_10 ?_
  refine B_callSi hf (As := [_, _, _]) (d_in hl0 (st3 σ 0 40 8 0) c 32 126 ⟨by omega, by omega⟩ ⟨by decide, by decide⟩ ⟨by decide, by decide⟩) cvs_X9_63 rfl (Nat.le_of_ble_eq_true rfl) ⟨by decide, by decide, by decide, by decide⟩ dX9_appendInput_13 ?_
  refine V_if_ne (tgt := 25) hf (by split <;> exact ⟨by decide, by decide⟩) dX9_appendInput_16 (by decide) (fun h16 => ?_) (fun h16 => ?_)
  · refine V_aload_n hf dX9_appendInput_25 rfl rfl ?_
    refine B_get hf l01 rfl fl_X9_237_12 rfl dX9_appendInput_26 ?_
    refine V_bipush hf dX9_appendInput_29 (by decide +kernel) ?_
    refine V_icmp_ne (tgt := 40) hf (hR1 _ _ _ (by decide)) (by first | exact hR _ _ _ (by decide) | exact ⟨by omega, by omega⟩ | exact Rng.st (Rng.st hR ⟨by decide, by decide⟩) ⟨by decide, by decide⟩ _ _ _ (by decide) | exact Rng.st hR ⟨by decide, by decide⟩ _ _ _ (by decide)) dX9_appendInput_31 (by decide) (fun h31 => ?_) (fun h31 => ?_)
    · refine V_aload_n hf dX9_appendInput_40 rfl rfl ?_
      refine B_get hf l01 rfl fl_X9_29_12 rfl dX9_appendInput_41 ?_
      refine V_aload_n hf dX9_appendInput_44 rfl rfl ?_
      refine B_get hf l01 rfl fl_X9_237_12 rfl dX9_appendInput_45 ?_
      refine V_iload_n hf dX9_appendInput_48 rfl rfl ?_
      refine B_iast hf l01 (by decide) (fun _ => rfl) (by rw [z10]; exact ⟨by omega, by omega⟩) (by rw [z10]; omega) (by rw [z10]; omega) dX9_appendInput_49 ?_
      refine V_aload_n hf dX9_appendInput_50 rfl rfl ?_
      refine V_dup hf dX9_appendInput_51 rfl ?_
      refine B_get hf l01 rfl fl_X9_237_12 rfl dX9_appendInput_52 ?_
      refine V_iconst hf dX9_appendInput_55 ?_
      refine V_iadd hf dX9_appendInput_56 ?_
      refine B_putI (kI := 10) hf rfl l01 rfl fp_X9_237_12 rfl rfl (Nat.le_of_ble_eq_true rfl) (by decide) (cs_40_10 _ _ _ _ _) dX9_appendInput_57 ?_
      refine V_aload_n hf dX9_appendInput_60 rfl rfl ?_
      refine B_get hf l01 rfl fl_X9_237_12 rfl dX9_appendInput_61 ?_
      exact B_iret hf he rfl dX9_appendInput_64 (by decide) (by decide) rfl rfl
    · exact absurd h31 (by first | omega | (split at h31 <;> omega))
  · exact absurd h16 (by first | omega | (split at h16 <;> omega))

set_option maxHeartbeats 4000000 in
set_option maxRecDepth 100000 in
theorem gx_app1 {l : Launch} {D : va_G} {K : Nat → ClassId} {ad : Adr} (hl0 : l.stackTraces = false) (σ : Mem) (hR : Rng σ) (c : Int) (hc : 0 ≤ c ∧ c < 65536) (hl : 0 ≤ σ 0 40 10 ∧ σ 0 40 10 ≤ 60) (hk : ¬ (32 ≤ c ∧ c ≤ 126)) : Cb l D K ad yX9_appendInput (.code yX9_appendInput cX9_appendInput 2 (some .int)) 6 0 0 σ [.ref (ad 0 40), .int (iN c)] (.inl (some (.int (iN (-1))))) (thrM (st3 σ 0 40 8 0) 1) := by
  refine Cb.of (own := RX9) (ls0 := [some (.ref (ad 0 40)), some (.int (iN c))]) hl0 (by decide) rfl (Nat.le_of_ble_eq_true rfl) rfl ?_
  intro X hX1 hX2 hX3 hf he hh
  subst hX1 hX2 hX3
  have e41 : st3 σ 0 40 8 0 0 41 = σ 0 41 := by
    funext k
    exact st3_j (by decide)
  have hR1 : Rng (st3 σ 0 40 8 0) := hR.st ⟨by decide, by decide⟩
  have z10 : st3 σ 0 40 8 0 0 40 10 = σ 0 40 10 := st3_k (by decide)
  refine V_aload_n hf dX9_appendInput_0 rfl rfl ?_
  refine V_iconst hf dX9_appendInput_1 ?_
  refine B_putI (kI := 8) hf rfl l01 rfl fp_X9_38_12 rfl rfl (Nat.le_of_ble_eq_true rfl) (by decide) (cs_40_8 _ _ _ _ _) dX9_appendInput_2 ?_
  refine V_iload_n hf dX9_appendInput_5 rfl rfl ?_
  refine V_i2l hf ⟨by omega, by omega⟩ dX9_appendInput_6 ?_
  refine V_ldc2 (a := 32) hf (by decide +kernel) wcl_X9_233 dX9_appendInput_7 ?_
  refine V_ldc2 (a := 126) hf (by decide +kernel) wcl_X9_235 dX9_appendInput_10 ?_
  refine B_callSi hf (As := [_, _, _]) (d_in hl0 (st3 σ 0 40 8 0) c 32 126 ⟨by omega, by omega⟩ ⟨by decide, by decide⟩ ⟨by decide, by decide⟩) cvs_X9_63 rfl (Nat.le_of_ble_eq_true rfl) ⟨by decide, by decide, by decide, by decide⟩ dX9_appendInput_13 ?_
  refine V_if_ne (tgt := 25) hf (by split <;> exact ⟨by decide, by decide⟩) dX9_appendInput_16 (by decide) (fun h16 => ?_) (fun h16 => ?_)
  · exact absurd h16 (by first | omega | (split at h16 <;> omega))
  · refine V_aload_n hf dX9_appendInput_19 rfl rfl ?_
    refine V_iconst hf dX9_appendInput_20 ?_
    refine B_callVi hf (As := [_]) (d_throwing hl0 (st3 σ 0 40 8 0) hR1 1) cv_X9_47 l01 rfl rfl rfl (Nat.le_of_ble_eq_true rfl) ⟨by decide, by decide, by decide, by decide⟩ dX9_appendInput_21 ?_
    exact B_iret hf he rfl dX9_appendInput_24 (by decide) (by decide) rfl rfl

set_option maxHeartbeats 4000000 in
set_option maxRecDepth 100000 in
theorem gx_app2 {l : Launch} {D : va_G} {K : Nat → ClassId} {ad : Adr} (hl0 : l.stackTraces = false) (σ : Mem) (hR : Rng σ) (c : Int) (hc : 0 ≤ c ∧ c < 65536) (hl : 0 ≤ σ 0 40 10 ∧ σ 0 40 10 ≤ 60) (hk : 32 ≤ c ∧ c ≤ 126) (h6 : σ 0 40 10 = 60) : Cb l D K ad yX9_appendInput (.code yX9_appendInput cX9_appendInput 2 (some .int)) 6 0 0 σ [.ref (ad 0 40), .int (iN c)] (.inl (some (.int (iN (-1))))) (thrM (st3 σ 0 40 8 0) 2) := by
  refine Cb.of (own := RX9) (ls0 := [some (.ref (ad 0 40)), some (.int (iN c))]) hl0 (by decide) rfl (Nat.le_of_ble_eq_true rfl) rfl ?_
  intro X hX1 hX2 hX3 hf he hh
  subst hX1 hX2 hX3
  have e41 : st3 σ 0 40 8 0 0 41 = σ 0 41 := by
    funext k
    exact st3_j (by decide)
  have hR1 : Rng (st3 σ 0 40 8 0) := hR.st ⟨by decide, by decide⟩
  have z10 : st3 σ 0 40 8 0 0 40 10 = σ 0 40 10 := st3_k (by decide)
  refine V_aload_n hf dX9_appendInput_0 rfl rfl ?_
  refine V_iconst hf dX9_appendInput_1 ?_
  refine B_putI (kI := 8) hf rfl l01 rfl fp_X9_38_12 rfl rfl (Nat.le_of_ble_eq_true rfl) (by decide) (cs_40_8 _ _ _ _ _) dX9_appendInput_2 ?_
  refine V_iload_n hf dX9_appendInput_5 rfl rfl ?_
  refine V_i2l hf ⟨by omega, by omega⟩ dX9_appendInput_6 ?_
  refine V_ldc2 (a := 32) hf (by decide +kernel) wcl_X9_233 dX9_appendInput_7 ?_
  refine V_ldc2 (a := 126) hf (by decide +kernel) wcl_X9_235 dX9_appendInput_10 ?_
  refine B_callSi hf (As := [_, _, _]) (d_in hl0 (st3 σ 0 40 8 0) c 32 126 ⟨by omega, by omega⟩ ⟨by decide, by decide⟩ ⟨by decide, by decide⟩) cvs_X9_63 rfl (Nat.le_of_ble_eq_true rfl) ⟨by decide, by decide, by decide, by decide⟩ dX9_appendInput_13 ?_
  refine V_if_ne (tgt := 25) hf (by split <;> exact ⟨by decide, by decide⟩) dX9_appendInput_16 (by decide) (fun h16 => ?_) (fun h16 => ?_)
  · refine V_aload_n hf dX9_appendInput_25 rfl rfl ?_
    refine B_get hf l01 rfl fl_X9_237_12 rfl dX9_appendInput_26 ?_
    refine V_bipush hf dX9_appendInput_29 (by decide +kernel) ?_
    refine V_icmp_ne (tgt := 40) hf (hR1 _ _ _ (by decide)) (by first | exact hR _ _ _ (by decide) | exact ⟨by omega, by omega⟩ | exact Rng.st (Rng.st hR ⟨by decide, by decide⟩) ⟨by decide, by decide⟩ _ _ _ (by decide) | exact Rng.st hR ⟨by decide, by decide⟩ _ _ _ (by decide)) dX9_appendInput_31 (by decide) (fun h31 => ?_) (fun h31 => ?_)
    · exact absurd h31 (by first | omega | (split at h31 <;> omega))
    · refine V_aload_n hf dX9_appendInput_34 rfl rfl ?_
      refine V_iconst hf dX9_appendInput_35 ?_
      refine B_callVi hf (As := [_]) (d_throwing hl0 (st3 σ 0 40 8 0) hR1 2) cv_X9_47 l01 rfl rfl rfl (Nat.le_of_ble_eq_true rfl) ⟨by decide, by decide, by decide, by decide⟩ dX9_appendInput_36 ?_
      exact B_iret hf he rfl dX9_appendInput_39 (by decide) (by decide) rfl rfl
  · exact absurd h16 (by first | omega | (split at h16 <;> omega))

set_option maxHeartbeats 4000000 in
set_option maxRecDepth 100000 in
theorem g_wn {l : Launch} {D : va_G} {K : Nat → ClassId} {ad : Adr} (hl0 : l.stackTraces = false) (σ : Mem) (hR : Rng σ) (v : Int) (hv : 0 ≤ v ∧ v ≤ 100000000) (hl : 0 ≤ σ 0 40 17 ∧ σ 0 40 17 ≤ 150) : Cb l D K ad yX9_writesNumber (.code yX9_writesNumber cX9_writesNumber 3 none) 3 0 0 σ [.ref (ad 0 40), .int (iN v)] (.inl none) (putL σ (dl v)) := by
  refine Cb.of (own := RX9) (ls0 := [some (.ref (ad 0 40)), some (.int (iN v)), none]) hl0 (by decide) rfl (Nat.le_of_ble_eq_true rfl) rfl ?_
  intro X hX1 hX2 hX3 hf he hh
  subst hX1 hX2 hX3
  have loop2 : ∀ (f : Nat) (τ : Mem) (t : Int), Rng τ → (0 ≤ t ∧ t ≤ 100000000) → t < 10 ^ f → 0 ≤ τ 0 40 17 → τ 0 40 17 + f ≤ 160 → Be X none ad (.inl none) (wrR v f τ t) 0 0 → B X ad τ 18 [some (.ref (ad 0 40)), some (.int (iN (v))), some (.int (iN (t)))] [] 0 0 := by
    intro f
    induction f with
    | zero =>
      intro τ t hτ ht htf h0 h1 he
      refine V_iload_n hf dX9_writesNumber_18 rfl rfl ?_
      refine V_if_le (tgt := 43) hf ⟨by omega, by omega⟩ dX9_writesNumber_19 (by decide) (fun h19 => ?_) (fun h19 => ?_)
      · exact B_vret hf he dX9_writesNumber_43 (by decide) (by decide) rfl
      · exact absurd h19 (by omega)
    | succ f ih =>
      intro τ t hτ ht htf h0 h1 he
      have hp : (10 : Int) ^ (f + 1) = 10 ^ f * 10 := Int.pow_succ 10 f
      rw [hp] at htf
      refine V_iload_n hf dX9_writesNumber_18 rfl rfl ?_
      refine V_if_le (tgt := 43) hf ⟨by omega, by omega⟩ dX9_writesNumber_19 (by decide) (fun h19 => ?_) (fun h19 => ?_)
      · rw [show wrR v (f + 1) τ t = τ from if_neg (by omega)] at he
        exact B_vret hf he dX9_writesNumber_43 (by decide) (by decide) rfl
      · rw [show wrR v (f + 1) τ t = wrR v f (signM τ (48 + v / t % 10)) (t / 10) from if_pos h19] at he
        have hvt : 0 ≤ v / t ∧ v / t ≤ v := ⟨Int.ediv_nonneg hv.1 (by omega), Int.ediv_le_self _ hv.1⟩
        refine V_aload_n hf dX9_writesNumber_22 rfl rfl ?_
        refine V_bipush hf dX9_writesNumber_23 (by decide +kernel) ?_
        refine V_iload_n hf dX9_writesNumber_25 rfl rfl ?_
        refine V_iload_n hf dX9_writesNumber_26 rfl rfl ?_
        refine V_idiv hf ⟨by omega, by omega⟩ (by omega) (by omega) ⟨by omega, by omega⟩ dX9_writesNumber_27 ?_
        refine V_bipush hf dX9_writesNumber_28 (by decide +kernel) ?_
        refine V_irem hf ⟨by omega, by omega⟩ (by omega) (by decide) ⟨by decide, by decide⟩ dX9_writesNumber_30 ?_
        refine V_iadd hf dX9_writesNumber_31 ?_
        refine B_callVv hf (As := [_]) (f_sign hl0 τ hτ (48 + v / t % 10) ⟨by omega, by omega⟩) cv_X9_227 l01 rfl rfl rfl (Nat.le_of_ble_eq_true rfl) ⟨by decide, by decide, by decide, by decide⟩ dX9_writesNumber_32 ?_
        refine V_iload_n hf dX9_writesNumber_35 rfl rfl ?_
        refine V_bipush hf dX9_writesNumber_36 (by decide +kernel) ?_
        refine V_idiv hf ⟨by omega, by omega⟩ (by omega) (by decide) ⟨by decide, by decide⟩ dX9_writesNumber_38 ?_
        refine V_istore_n (ls2 := [_, _, _]) hf dX9_writesNumber_39 rfl (by decide) rfl rfl ?_
        refine V_goto (tgt := 18) hf dX9_writesNumber_40 (by decide) ?_
        exact ih _ (t / 10) (signM_R hτ ⟨by omega, by omega⟩ ⟨by omega, by omega⟩) ⟨by omega, by omega⟩ (by omega) (by rw [signM_17]; omega) (by rw [signM_17]; omega) he
  have loop1 : ∀ (f : Nat) (t : Int), 0 < t → t ≤ 100000000 → v < t * 10 ^ (f + 1) → B X ad σ 18 [some (.ref (ad 0 40)), some (.int (iN (v))), some (.int (iN (tenR v f t)))] [] 0 0 → B X ad σ 2 [some (.ref (ad 0 40)), some (.int (iN (v))), some (.int (iN (t)))] [] 0 0 := by
    intro f
    induction f with
    | zero =>
      intro t ht ht2 htf kont
      have hvt : 0 ≤ v / t ∧ v / t ≤ v := ⟨Int.ediv_nonneg hv.1 (by omega), Int.ediv_le_self _ hv.1⟩
      refine V_iload_n hf dX9_writesNumber_2 rfl rfl ?_
      refine V_iload_n hf dX9_writesNumber_3 rfl rfl ?_
      refine V_idiv hf ⟨by omega, by omega⟩ (by omega) (by omega) ⟨by omega, by omega⟩ dX9_writesNumber_4 ?_
      refine V_bipush hf dX9_writesNumber_5 (by decide +kernel) ?_
      refine V_icmp_le (tgt := 18) hf ⟨by omega, by omega⟩ ⟨by decide, by decide⟩ dX9_writesNumber_7 (by decide) (fun h7 => ?_) (fun h7 => ?_)
      · exact kont
      · have hq := mul10 ht h7 hv
        have e : t * 10 ^ (0 + 1) = t * 10 := rfl
        omega
    | succ f ih =>
      intro t ht ht2 htf kont
      have hvt : 0 ≤ v / t ∧ v / t ≤ v := ⟨Int.ediv_nonneg hv.1 (by omega), Int.ediv_le_self _ hv.1⟩
      refine V_iload_n hf dX9_writesNumber_2 rfl rfl ?_
      refine V_iload_n hf dX9_writesNumber_3 rfl rfl ?_
      refine V_idiv hf ⟨by omega, by omega⟩ (by omega) (by omega) ⟨by omega, by omega⟩ dX9_writesNumber_4 ?_
      refine V_bipush hf dX9_writesNumber_5 (by decide +kernel) ?_
      refine V_icmp_le (tgt := 18) hf ⟨by omega, by omega⟩ ⟨by decide, by decide⟩ dX9_writesNumber_7 (by decide) (fun h7 => ?_) (fun h7 => ?_)
      · rw [show tenR v (f + 1) t = t from if_neg (by omega)] at kont
        exact kont
      · rw [show tenR v (f + 1) t = tenR v f (t * 10) from if_pos h7] at kont
        have hq := mul10 ht h7 hv
        refine V_iload_n hf dX9_writesNumber_10 rfl rfl ?_
        refine V_bipush hf dX9_writesNumber_11 (by decide +kernel) ?_
        refine V_imul hf dX9_writesNumber_13 ?_
        refine V_istore_n (ls2 := [_, _, _]) hf dX9_writesNumber_14 rfl (by decide) rfl rfl ?_
        refine V_goto (tgt := 2) hf dX9_writesNumber_15 (by decide) ?_
        have hp : (10 : Int) ^ (f + 1 + 1) = 10 ^ (f + 1) * 10 := Int.pow_succ 10 (f + 1)
        rw [hp] at htf
        exact ih (t * 10) hq.1 hq.2.1 (by rw [show t * 10 * 10 ^ (f + 1) = t * (10 ^ (f + 1) * 10) by rw [Int.mul_assoc, Int.mul_comm 10]]; exact htf) kont
  refine V_iconst hf dX9_writesNumber_0 ?_
  refine V_istore_n (ls2 := [_, _, _]) hf dX9_writesNumber_1 rfl (by decide) rfl rfl ?_
  refine loop1 8 1 (by decide) (by decide) (by have : (1 : Int) * 10 ^ (8 + 1) = 1000000000 := (by decide); omega) ?_
  have tr := tenR_r hv
  refine loop2 10 σ (tenR v 8 1) hR tr (by have : (10 : Int) ^ 10 = 10000000000 := (by decide); omega) hl.1 (by omega) ?_
  rw [wr_dl hv.1 (by omega)]
  exact he
