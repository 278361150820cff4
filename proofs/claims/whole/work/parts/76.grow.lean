/-! the builder: growth -/
theorem wt_max : Cond.static Lib.Math.max.name ∈ lw_good := lg_t 1156 (by decide +kernel) (by decide +kernel)
theorem wc_max : Cond.code Lib.Math.max.name Lib.Math.max.code 2 (some .int) ∈ lw_good := lg_t 1157 (by decide +kernel) (by decide +kernel)
theorem fits_byte : ∀ k : Nat, k < 128 → fits .byte (.int (iN (k : Int))) = true := by decide +kernel
theorem fits_byteI {a : Int} (h0 : 0 ≤ a) (h1 : a < 128) : fits .byte (.int (iN a)) = true := by
  obtain ⟨q, rfl⟩ := Int.eq_ofNat_of_zero_le h0
  exact fits_byte q (by omega)
section VX2
variable {X : Cx} {own : String} {cc : ByteArray} {nL : Nat} {rm : Room} {ad : Adr} {E : Dic} {pc : Nat} {ls : Ls} {st : List Value} {cs ss : Nat}
theorem V_max (hf : Cf X own cc nL rm) {index : Nat} {a b : Int} (ha : inR a) (hb : inR b) (hlink : Cond.methodLink own index Lib.Math.max.name ∈ lw_good) (hrm : 1 ≤ rm.frames ∧ (st.map fun v => v.category).sum + 13 ≤ rm.locals ∧ cs ≤ rm.cells ∧ ss ≤ rm.slots) (hdg : decode cc pc = .ok (.invokestatic index, 3)) (kk : V X ad E (pc + 3) ls (.int (iN (if a < b then b else a)) :: st) cs ss) : V X ad E pc ls (.int (iN b) :: .int (iN a) :: st) cs ss := by
  obtain ⟨p, l, e, R, s, m, args, below, meth, c, Q, D, K, ad0, E0⟩ := X
  obtain ⟨hx, hbc, hml, hown, hts, hK, hl0, hlk, hR0, hEv⟩ := hf
  subst hR0
  intro H locs la hR hI hN hS hl
  refine va_mmax hx hbc hl.1.symm hown (hts _ hlink) (hts _ wt_max) (hts _ wn_Math) (hts _ wc_max) hrm.1 hrm.2.1 hrm.2.2.1 hrm.2.2.2 hdg ?_
  have e : (if iN a < iN b then iN b else iN a) = iN (if a < b then b else a) := by
    by_cases h : a < b
    · rw [if_pos h, if_pos ((iN_lt ha hb).mpr h)]
    · rw [if_neg h, if_neg (fun q => h ((iN_lt ha hb).mp q))]
  rw [e]
  exact kk H locs la hR hI hN hS hl
end VX2
/-- the builder, as it is between calls -/
def Bl (σ : Mem) : Prop := σ 0 31 1 = 0 ∧ (16 ≤ σ 0 33 0 ∧ σ 0 33 0 ≤ 1000) ∧ (0 ≤ σ 0 31 3 ∧ σ 0 31 3 ≤ σ 0 33 0) ∧ ∀ k : Int, 0 ≤ k → 0 ≤ σ 0 32 k ∧ σ 0 32 k < 128
set_option maxHeartbeats 4000000 in
set_option maxRecDepth 100000 in
theorem b_nlen {l : Launch} {D : va_G} {K : Nat → ClassId} {ad : Adr} (hl0 : l.stackTraces = false) (σ : Mem) (c m p : Int) (hc : 0 ≤ c ∧ c ≤ 3000) (hm : 0 < m ∧ m ≤ 3000) (hp : 0 < p ∧ p ≤ 3000) : Cb l D K ad yJ8_newLength_cabcc (.code yJ8_newLength_cabcc cJ8_newLength_cabcc 4 (some .int)) 1 0 0 σ [.int (iN c), .int (iN m), .int (iN p)] (.inl (some (.int (iN (c + (if m < p then p else m)))))) σ := by
  refine Cb.of (own := RJ8) (ls0 := [some (.int (iN c)), some (.int (iN m)), some (.int (iN p)), none]) hl0 (by decide) rfl (Nat.le_of_ble_eq_true rfl) rfl ?_
  intro X hX1 hX2 hX3 hf he hh
  subst hX1 hX2 hX3
  refine V_iload_n hf dJ8_newLength_cabcc_0 rfl rfl ?_
  refine V_iload_n hf dJ8_newLength_cabcc_1 rfl rfl ?_
  refine V_iload_n hf dJ8_newLength_cabcc_2 rfl rfl ?_
  refine V_max hf ⟨by omega, by omega⟩ ⟨by omega, by omega⟩ wl_J8_194 ⟨by decide, Nat.le_of_ble_eq_true rfl, by decide, by decide⟩ dJ8_newLength_cabcc_3 ?_
  refine V_iadd hf dJ8_newLength_cabcc_6 ?_
  refine V_istore_n (ls2 := [_, _, _, _]) hf dJ8_newLength_cabcc_7 rfl (by decide) rfl rfl ?_
  refine V_iconst hf dJ8_newLength_cabcc_8 ?_
  refine V_iload_n hf dJ8_newLength_cabcc_9 rfl rfl ?_
  refine V_icmp_ge (tgt := 21) hf ⟨by decide, by decide⟩ (by split <;> exact ⟨by omega, by omega⟩) dJ8_newLength_cabcc_10 (by decide) (fun h10 => ?_) (fun h10 => ?_)
  · exact absurd h10 (by split <;> omega)
  · refine V_iload_n hf dJ8_newLength_cabcc_13 rfl rfl ?_
    refine V_ldcI (a := 2147483639) hf (by decide +kernel) wci_J8_200 dJ8_newLength_cabcc_14 ?_
    refine V_icmp_gt (tgt := 21) hf (by split <;> exact ⟨by omega, by omega⟩) ⟨by decide, by decide⟩ dJ8_newLength_cabcc_16 (by decide) (fun h16 => ?_) (fun h16 => ?_)
    · exact absurd h16 (by split <;> omega)
    · refine V_iload_n hf dJ8_newLength_cabcc_19 rfl rfl ?_
      exact B_iret hf he rfl dJ8_newLength_cabcc_20 (by decide) (by decide) rfl rfl

set_option maxHeartbeats 4000000 in
set_option maxRecDepth 100000 in
theorem b_ncap {l : Launch} {D : va_G} {K : Nat → ClassId} {ad : Adr} (hl0 : l.stackTraces = false) (σ : Mem) (hcap : 16 ≤ σ 0 33 0 ∧ σ 0 33 0 ≤ 1000) (h1 : σ 0 31 1 = 0) (mn : Int) (hmn : σ 0 33 0 < mn ∧ mn ≤ 2 * σ 0 33 0 + 2) : Cb l D K ad yJ5_newCapacity_0f7a4 (.code yJ5_newCapacity_0f7a4 cJ5_newCapacity_0f7a4 6 (some .int)) 2 0 0 σ [.ref (ad 0 31), .int (iN mn)] (.inl (some (.int (iN (2 * σ 0 33 0 + 2))))) σ := by
  refine Cb.of (own := RJ5) (ls0 := [some (.ref (ad 0 31)), some (.int (iN mn)), none, none, none, none]) hl0 (by decide) rfl (Nat.le_of_ble_eq_true rfl) rfl ?_
  intro X hX1 hX2 hX3 hf he hh
  subst hX1 hX2 hX3
  refine V_aload_n hf dJ5_newCapacity_0f7a4_0 rfl rfl ?_
  refine B_get hf l01 rfl fl_J5_15_1 rfl dJ5_newCapacity_0f7a4_1 ?_
  refine B_alen32 hf (by omega) dJ5_newCapacity_0f7a4_4 ?_
  refine V_istore_n (ls2 := [_, _, _, _, _, _]) hf dJ5_newCapacity_0f7a4_5 rfl (by decide) rfl rfl ?_
  refine V_iload_n hf dJ5_newCapacity_0f7a4_6 rfl rfl ?_
  refine V_aload_n hf dJ5_newCapacity_0f7a4_7 rfl rfl ?_
  refine B_get hf l01 rfl fl_J5_22_1 rfl dJ5_newCapacity_0f7a4_8 ?_
  rw [h1]
  refine V_ishl0 hf dJ5_newCapacity_0f7a4_11 ?_
  refine V_istore_n (ls2 := [_, _, _, _, _, _]) hf dJ5_newCapacity_0f7a4_12 rfl (by decide) rfl rfl ?_
  refine V_iload_n hf dJ5_newCapacity_0f7a4_13 rfl rfl ?_
  refine V_iload_n hf dJ5_newCapacity_0f7a4_14 rfl rfl ?_
  refine V_isub hf dJ5_newCapacity_0f7a4_15 ?_
  refine V_istore (ls2 := [_, _, _, _, _, _]) hf dJ5_newCapacity_0f7a4_16 (by decide) rfl rfl ?_
  refine V_iload_n hf dJ5_newCapacity_0f7a4_18 rfl rfl ?_
  refine V_iload hf dJ5_newCapacity_0f7a4_19 rfl ?_
  refine V_iload_n hf dJ5_newCapacity_0f7a4_21 rfl rfl ?_
  refine V_iconst hf dJ5_newCapacity_0f7a4_22 ?_
  refine V_aload_n hf dJ5_newCapacity_0f7a4_23 rfl rfl ?_
  refine B_get hf l01 rfl fl_J5_22_1 rfl dJ5_newCapacity_0f7a4_24 ?_
  rw [h1]
  refine V_ishl0 hf dJ5_newCapacity_0f7a4_27 ?_
  refine V_iadd hf dJ5_newCapacity_0f7a4_28 ?_
  refine B_callSi hf (As := [_, _, _]) (b_nlen hl0 σ (σ 0 33 0) (mn - σ 0 33 0) (σ 0 33 0 + 2) ⟨by omega, by omega⟩ ⟨by omega, by omega⟩ ⟨by omega, by omega⟩) cvs_J5_114 rfl (Nat.le_of_ble_eq_true rfl) ⟨by decide, by decide, by decide, by decide⟩ dJ5_newCapacity_0f7a4_29 ?_
  rw [show σ 0 33 0 + (if mn - σ 0 33 0 < σ 0 33 0 + 2 then σ 0 33 0 + 2 else mn - σ 0 33 0) = 2 * σ 0 33 0 + 2 by split <;> omega]
  refine V_istore (ls2 := [_, _, _, _, _, _]) hf dJ5_newCapacity_0f7a4_32 (by decide) rfl rfl ?_
  refine V_iload hf dJ5_newCapacity_0f7a4_34 rfl ?_
  refine V_ldcI (a := 2147483647) hf (by decide +kernel) wci_J5_39 dJ5_newCapacity_0f7a4_36 ?_
  refine V_icmp_ne (tgt := 51) hf ⟨by omega, by omega⟩ ⟨by decide, by decide⟩ dJ5_newCapacity_0f7a4_38 (by decide) (fun h38 => ?_) (fun h38 => ?_)
  · refine V_iload hf dJ5_newCapacity_0f7a4_51 rfl ?_
    refine V_aload_n hf dJ5_newCapacity_0f7a4_53 rfl rfl ?_
    refine B_get hf l01 rfl fl_J5_22_1 rfl dJ5_newCapacity_0f7a4_54 ?_
    rw [h1]
    refine V_ishr0 hf dJ5_newCapacity_0f7a4_57 ?_
    exact B_iret hf he rfl dJ5_newCapacity_0f7a4_58 (by decide) (by decide) rfl rfl
  · exact absurd h38 (by omega)

set_option maxHeartbeats 4000000 in
set_option maxRecDepth 100000 in
theorem b_lat {l : Launch} {D : va_G} {K : Nat → ClassId} {ad : Adr} (hl0 : l.stackTraces = false) (σ : Mem) (h1 : σ 0 31 1 = 0) : Cb l D K ad yJ5_isLatin1_aae02 (.code yJ5_isLatin1_aae02 cJ5_isLatin1_aae02 1 (some .boolean)) 0 0 0 σ [.ref (ad 0 31)] (.inl (some (.int (iN (1))))) σ := by
  refine Cb.of (own := RJ5) (ls0 := [some (.ref (ad 0 31))]) hl0 (by decide) rfl (Nat.le_of_ble_eq_true rfl) rfl ?_
  intro X hX1 hX2 hX3 hf he hh
  subst hX1 hX2 hX3
  refine V_gcs hf wf_J5_18 dJ5_isLatin1_aae02_0 ?_
  refine V_if_eq (tgt := 17) hf ⟨by decide, by decide⟩ dJ5_isLatin1_aae02_3 (by decide) (fun h3 => ?_) (fun h3 => ?_)
  · exact absurd h3 (by decide)
  · refine V_aload_n hf dJ5_isLatin1_aae02_6 rfl rfl ?_
    refine B_get hf l01 rfl fl_J5_22_1 rfl dJ5_isLatin1_aae02_7 ?_
    rw [h1]
    refine V_if_ne (tgt := 17) hf ⟨by decide, by decide⟩ dJ5_isLatin1_aae02_10 (by decide) (fun h10 => ?_) (fun h10 => ?_)
    · exact absurd rfl h10
    · refine V_iconst hf dJ5_isLatin1_aae02_13 ?_
      refine V_goto (tgt := 18) hf dJ5_isLatin1_aae02_14 (by decide) ?_
      exact B_iret hf he (by decide +kernel) dJ5_isLatin1_aae02_18 (by decide) (by decide) rfl rfl

set_option maxHeartbeats 4000000 in
set_option maxRecDepth 100000 in
theorem b_can {l : Launch} {D : va_G} {K : Nat → ClassId} {ad : Adr} (hl0 : l.stackTraces = false) (σ : Mem) (c : Int) (hc : 0 ≤ c ∧ c < 256) : Cb l D K ad yJ1_canEncode_fc78d (.code yJ1_canEncode_fc78d cJ1_canEncode_fc78d 1 (some .boolean)) 0 0 0 σ [.int (iN c)] (.inl (some (.int (iN (1))))) σ := by
  refine Cb.of (own := RJ1) (ls0 := [some (.int (iN c))]) hl0 (by decide) rfl (Nat.le_of_ble_eq_true rfl) rfl ?_
  intro X hX1 hX2 hX3 hf he hh
  subst hX1 hX2 hX3
  refine V_iload_n hf dJ1_canEncode_fc78d_0 rfl rfl ?_
  refine V_sipush hf dJ1_canEncode_fc78d_1 (by decide +kernel) ?_
  refine V_icmp_gt (tgt := 11) hf ⟨by omega, by omega⟩ ⟨by decide, by decide⟩ dJ1_canEncode_fc78d_4 (by decide) (fun h4 => ?_) (fun h4 => ?_)
  · exact absurd h4 (by omega)
  · refine V_iconst hf dJ1_canEncode_fc78d_7 ?_
    refine V_goto (tgt := 12) hf dJ1_canEncode_fc78d_8 (by decide) ?_
    exact B_iret hf he (by decide +kernel) dJ1_canEncode_fc78d_12 (by decide) (by decide) rfl rfl

/-- what the array is behind room for m -/
def gC (c m : Int) : Nat := if m ≤ c then 0 else 1
def gS (c m : Int) : Nat := if m ≤ c then 0 else (2 * c + 2).toNat
def growM (σ : Mem) (m : Int) : Mem := if m ≤ σ 0 33 0 then σ else fun g j k => if g = 0 ∧ j = 33 ∧ k = 0 then 2 * σ 0 33 0 + 2 else if g = 0 ∧ j = 32 then (if k < σ 0 33 0 then σ 0 32 k else 0) else σ g j k
theorem growM_n {σ : Mem} {m : Int} (h : m ≤ σ 0 33 0) : growM σ m = σ := if_pos h
theorem growM_o {σ : Mem} {m : Int} {g : Int} {j : Nat} (h : ¬ (g = 0 ∧ (j = 32 ∨ j = 33))) : growM σ m g j = σ g j := by
  unfold growM
  split
  · rfl
  · funext k
    dsimp only
    rw [if_neg (by omega), if_neg (by omega)]
theorem growM_33 {σ : Mem} {m : Int} : growM σ m 0 33 0 = if m ≤ σ 0 33 0 then σ 0 33 0 else 2 * σ 0 33 0 + 2 := by
  unfold growM
  split
  · rfl
  · exact if_pos ⟨rfl, rfl, rfl⟩
theorem growM_32 {σ : Mem} {m k : Int} (h : k < σ 0 33 0) : growM σ m 0 32 k = σ 0 32 k := by
  unfold growM
  split
  · rfl
  · dsimp only
    rw [if_neg (by omega), if_pos ⟨rfl, rfl⟩, if_pos h]
theorem growM_R {σ : Mem} {m : Int} (hR : Rng σ) (hc : 0 ≤ σ 0 33 0 ∧ σ 0 33 0 ≤ 100000) : Rng (growM σ m) := by
  unfold growM
  split
  · exact hR
  · intro g j k hj
    dsimp only
    split
    · exact ⟨by omega, by omega⟩
    · split
      · split
        · exact hR _ _ _ (by decide)
        · exact ⟨by decide, by decide⟩
      · exact hR _ _ _ hj
theorem eset_twice {E : Dic} {g : Int} {j : Nat} {e e' : va_E} : eset (eset E g j e) g j e' = eset E g j e' := by
  funext a b
  by_cases q : a = g ∧ b = j
  · obtain ⟨rfl, rfl⟩ := q
    rw [eset_self, eset_self]
  · rw [eset_ne q, eset_ne q, eset_ne q]
theorem cE_ast {ad : Adr} {K : Nat → ClassId} {σ : Mem} {g : Int} {j v : Nat} (h : ¬ j = 31) : cE (ast ad 0 32 v) K σ g j = cE ad K σ g j := by
  have a : ∀ (g' : Int) (j' : Nat), ¬ j' = 32 → ast ad 0 32 v g' j' = ad g' j' := fun g' j' q => ast_j q
  unfold cE
  split
  all_goals first | rfl | (simp only [a _ 0 (by decide), a _ 1 (by decide), a _ 2 (by decide), a _ 3 (by decide), a _ 4 (by decide), a _ 5 (by decide), a _ 6 (by decide), a _ 7 (by decide), a _ 8 (by decide), a _ 9 (by decide), a _ 10 (by decide), a _ 11 (by decide), a _ 12 (by decide), a _ 13 (by decide), a _ 14 (by decide), a _ 15 (by decide), a _ 16 (by decide), a _ 17 (by decide), a _ 18 (by decide), a _ 19 (by decide), a _ 20 (by decide), a _ 21 (by decide), a _ 22 (by decide), a _ 24 (by decide), a _ 25 (by decide), a _ 26 (by decide), a _ 27 (by decide), a _ 28 (by decide), a _ 29 (by decide), a _ 30 (by decide), a _ 31 (by decide), a _ 41 (by decide), a _ 42 (by decide), a _ 43 (by decide), a _ 44 (by decide), a _ 45 (by decide), a _ 46 (by decide), a _ 47 (by decide), a _ 48 (by decide)]; done) | exact absurd rfl h
section BG
variable {l : Launch} {D : va_G} {K : Nat → ClassId} {ad : Adr}
set_option maxHeartbeats 4000000 in
set_option maxRecDepth 100000 in
theorem b_copy (hl0 : l.stackTraces = false) (σ : Mem) (hcap : 16 ≤ σ 0 33 0 ∧ σ 0 33 0 ≤ 1000) (hby : ∀ k : Int, 0 ≤ k → 0 ≤ σ 0 32 k ∧ σ 0 32 k < 128) (n : Int) (hn : σ 0 33 0 < n ∧ n ≤ 3000) : Ctr l yJ7_copyOf_9075b (.code yJ7_copyOf_9075b cJ7_copyOf_9075b 3 (some (.array .byte))) (rmd 1 1 n.toNat) 1 n.toNat D K ad (Es ad K σ) [.ref (ad 0 32), .int (iN n)] (fun o ad' E' => ∃ v : Nat, o = .inl (some (.ref v)) ∧ ad' = ast ad 0 34 v ∧ E' = eset (Es ad K σ) 0 34 (.inl (K 4, n.toNat, .inl (fun q : Nat => iN (if (q : Int) < σ 0 33 0 then σ 0 32 (q : Int) else 0))))) := by
  refine Ctr.ofE (own := RJ7) (ls0 := [some (.ref (ad 0 32)), some (.int (iN n)), none]) (by decide) rfl hl0 (Nat.le_of_ble_eq_true rfl) rfl ?_
  intro X hX1 hX2 hX3 hX4 hf he hh
  subst hX1 hX2 hX3
  have e0 : Es ad (xK X) σ 0 34 = none := if_neg (by decide)
  have e32 : Es ad (xK X) σ 0 32 = some (.inl (xK X 4, (σ 0 33 0).toNat, .inl (fun i : Nat => iN (σ 0 32 (i : Int))))) := Es_at l01
  change B X ad σ 0 _ _ _ _
  refine V_iload_n hf dJ7_copyOf_9075b_0 rfl rfl ?_
  refine V_aload_n hf dJ7_copyOf_9075b_1 rfl rfl ?_
  refine B_alen32 hf (by omega) dJ7_copyOf_9075b_2 ?_
  refine V_icmp_ne (tgt := 14) hf ⟨by omega, by omega⟩ ⟨by omega, by omega⟩ dJ7_copyOf_9075b_3 (by decide) (fun h3 => ?_) (fun h3 => absurd h3 (by omega))
  refine V_iload_n hf dJ7_copyOf_9075b_14 rfl rfl ?_
  refine V_newa hf (ty := .byte) (t := 4) (n := n.toNat) (g := 0) (j := 34) (a0 := (n.toNat, .inl (fun _ => 0))) rfl rfl wac_byte rfl e0 ⟨by omega, by omega⟩ (by omega) rfl (by show n.toNat * 1 ≤ _; omega) (fun _ => rfl) ⟨by simp only [rmd]; omega, by simp only [rmd]; omega⟩ dJ7_copyOf_9075b_15 (fun v => ?_)
  have a32 : ad 0 32 = ast ad 0 34 v 0 32 := (ast_j (by decide)).symm
  refine V_astore_n (ls2 := [_, _, _]) hf dJ7_copyOf_9075b_17 rfl (by decide) rfl rfl ?_
  refine V_aload_n hf dJ7_copyOf_9075b_18 rfl rfl ?_
  refine V_iconst hf dJ7_copyOf_9075b_19 ?_
  refine V_aload_n hf dJ7_copyOf_9075b_20 rfl rfl ?_
  refine V_iconst hf dJ7_copyOf_9075b_21 ?_
  refine V_aload_n hf dJ7_copyOf_9075b_22 rfl rfl ?_
  have f32 : eset (Es ad (xK X) σ) 0 34 (.inl (xK X 4, n.toNat, .inl (fun _ => 0))) 0 32 = some (.inl (xK X 4, (σ 0 33 0).toNat, .inl (fun i : Nat => iN (σ 0 32 (i : Int))))) := by
    rw [eset_ne (by decide)]
    exact e32
  rw [a32]
  refine V_alen hf (t := 4) (v := σ 0 33 0) f32 rfl (by rw [iN_nI (by omega)]; rfl) dJ7_copyOf_9075b_23 ?_
  refine V_iload_n hf dJ7_copyOf_9075b_24 rfl rfl ?_
  refine V_min hf ⟨by omega, by omega⟩ ⟨by omega, by omega⟩ wl_J7_304 ⟨Nat.le_of_ble_eq_true rfl, Nat.le_of_ble_eq_true rfl, by simp only [rmd]; omega, by simp only [rmd]; omega⟩ dJ7_copyOf_9075b_25 ?_
  rw [if_neg (by omega)]
  have cp : ∀ kk : V X (ast ad 0 34 v) (eset (eset (Es ad (xK X) σ) 0 34 (.inl (xK X 4, n.toNat, .inl (fun _ => 0)))) 0 34 (.inl (xK X 4, n.toNat, .inl (va_cpy (fun i : Nat => iN (σ 0 32 (i : Int))) (fun _ => 0) (0 : Int).toNat (0 : Int).toNat (σ 0 33 0).toNat)))) 31 [some (.ref (ast ad 0 34 v 0 32)), some (.int (iN n)), some (.ref v)] [] (0 + 1) (0 + n.toNat), V X (ast ad 0 34 v) (eset (Es ad (xK X) σ) 0 34 (.inl (xK X 4, n.toNat, .inl (fun _ => 0)))) 28 [some (.ref (ast ad 0 34 v 0 32)), some (.int (iN n)), some (.ref v)] [.int (iN (σ 0 33 0)), .int (iN 0), .ref (ast ad 0 34 v 0 34), .int (iN 0), .ref (ast ad 0 34 v 0 32)] (0 + 1) (0 + n.toNat) := fun kk =>
    V_copyi hf (t := 4) (ty := .byte) f32 eset_self rfl rfl (fun x hx => by obtain ⟨i, rfl⟩ := hx; exact fits_byteI (hby i (by omega)).1 (hby i (by omega)).2) ⟨⟨by decide, by decide⟩, by decide⟩ ⟨⟨by decide, by decide⟩, by decide⟩ ⟨⟨by omega, by omega⟩, by omega⟩ (by omega) (by omega) wl_J7_150 ⟨Nat.le_of_ble_eq_true rfl, Nat.le_of_ble_eq_true rfl⟩ dJ7_copyOf_9075b_28 kk
  have a34 : ast ad 0 34 v 0 34 = v := ast_self
  rw [a34] at cp
  refine cp ?_
  refine V_aload_n hf dJ7_copyOf_9075b_31 rfl rfl ?_
  refine V_aret hf he (Or.inr ⟨_, rfl⟩) dJ7_copyOf_9075b_32 (by omega) (by omega) ⟨v, rfl, rfl, ?_⟩
  rw [eset_twice]
  congr 5
  funext q
  unfold va_cpy
  by_cases hq : (q : Int) < σ 0 33 0
  · rw [if_pos (by omega), if_pos hq]
    show iN (σ 0 32 ((0 + (q - 0) : Nat) : Int)) = _
    rw [show 0 + (q - 0) = q by omega]
  · rw [if_neg (by omega), if_neg hq]
    rfl
set_option maxHeartbeats 4000000 in
set_option maxRecDepth 100000 in
theorem b_ens (hl0 : l.stackTraces = false) (σ : Mem) (hR : Rng σ) (hcap : 16 ≤ σ 0 33 0 ∧ σ 0 33 0 ≤ 1000) (h1 : σ 0 31 1 = 0) (hby : ∀ k : Int, 0 ≤ k → 0 ≤ σ 0 32 k ∧ σ 0 32 k < 128) (mn : Int) (hmn : 0 ≤ mn ∧ mn ≤ 2 * σ 0 33 0 + 2) : Cg l D K ad yJ5_ensureCapacityInternal_d00df (.code yJ5_ensureCapacityInternal_d00df cJ5_ensureCapacityInternal_d00df 3 none) 3 (gC (σ 0 33 0) mn) (gS (σ 0 33 0) mn) σ [.ref (ad 0 31), .int (iN mn)] none (fun σ' => σ' = growM σ mn) := by
  refine Cg.of (own := RJ5) (ls0 := [some (.ref (ad 0 31)), some (.int (iN mn)), none]) hl0 (by decide) rfl (Nat.le_of_ble_eq_true rfl) rfl ?_
  intro X hX1 hX2 hX3 hX4 hf he hh
  subst hX1 hX2 hX3
  have head : (mn ≤ σ 0 33 0 → B X ad σ 38 [some (.ref (ad 0 31)), some (.int (iN mn)), some (.int (iN (σ 0 33 0)))] [] 0 0) → (¬ mn ≤ σ 0 33 0 → B X ad σ 17 [some (.ref (ad 0 31)), some (.int (iN mn)), some (.int (iN (σ 0 33 0)))] [] 0 0) → B X ad σ 0 [some (.ref (ad 0 31)), some (.int (iN mn)), none] [] 0 0 := by
    intro k1 k2
    refine V_aload_n hf dJ5_ensureCapacityInternal_d00df_0 rfl rfl ?_
    refine B_get hf l01 rfl fl_J5_15_1 rfl dJ5_ensureCapacityInternal_d00df_1 ?_
    refine B_alen32 hf (by omega) dJ5_ensureCapacityInternal_d00df_4 ?_
    refine V_aload_n hf dJ5_ensureCapacityInternal_d00df_5 rfl rfl ?_
    refine B_get hf l01 rfl fl_J5_22_1 rfl dJ5_ensureCapacityInternal_d00df_6 ?_
    rw [h1]
    refine V_ishr0 hf dJ5_ensureCapacityInternal_d00df_9 ?_
    refine V_istore_n (ls2 := [_, _, _]) hf dJ5_ensureCapacityInternal_d00df_10 rfl (by decide) rfl rfl ?_
    refine V_iload_n hf dJ5_ensureCapacityInternal_d00df_11 rfl rfl ?_
    refine V_iload_n hf dJ5_ensureCapacityInternal_d00df_12 rfl rfl ?_
    refine V_isub hf dJ5_ensureCapacityInternal_d00df_13 ?_
    refine V_if_le (tgt := 38) hf ⟨by omega, by omega⟩ dJ5_ensureCapacityInternal_d00df_14 (by decide) (fun h14 => k1 (by omega)) (fun h14 => k2 (by omega))
  by_cases hg : mn ≤ σ 0 33 0
  · refine head (fun _ => ?_) (fun q => absurd hg q)
    exact G_vret hf he (v := ad 0 32) dJ5_ensureCapacityInternal_d00df_38 (Nat.zero_le _) (Nat.zero_le _) ast_same.symm (growM_n hg).symm
  · refine head (fun q => absurd q hg) (fun _ => ?_)
    have c1 : gC (σ 0 33 0) mn = 1 := if_neg hg
    have c2 : gS (σ 0 33 0) mn = (2 * σ 0 33 0 + 2).toNat := if_neg hg
    rw [c1, c2] at hf he
    refine V_aload_n hf dJ5_ensureCapacityInternal_d00df_17 rfl rfl ?_
    refine V_aload_n hf dJ5_ensureCapacityInternal_d00df_18 rfl rfl ?_
    refine B_get hf l01 rfl fl_J5_15_1 rfl dJ5_ensureCapacityInternal_d00df_19 ?_
    refine V_aload_n hf dJ5_ensureCapacityInternal_d00df_22 rfl rfl ?_
    refine V_iload_n hf dJ5_ensureCapacityInternal_d00df_23 rfl rfl ?_
    refine B_callUi hf (As := [_]) (b_ncap hl0 σ hcap h1 mn ⟨by omega, by omega⟩) cu_J5_104_1 l01 rfl rfl rfl (Nat.le_of_ble_eq_true rfl) ⟨Nat.le_of_ble_eq_true rfl, Nat.le_of_ble_eq_true rfl, by simp only [rmd]; omega, by simp only [rmd]; omega⟩ dJ5_ensureCapacityInternal_d00df_24 ?_
    refine V_aload_n hf dJ5_ensureCapacityInternal_d00df_27 rfl rfl ?_
    refine B_get hf l01 rfl fl_J5_22_1 rfl dJ5_ensureCapacityInternal_d00df_28 ?_
    rw [h1]
    refine V_ishl0 hf dJ5_ensureCapacityInternal_d00df_31 ?_
    obtain ⟨w1, w2, w4, w5, w6⟩ := cvs_J5_108
    refine V_callS hf (As := [_, _]) (b_copy hl0 σ hcap hby (2 * σ 0 33 0 + 2) ⟨by omega, by omega⟩) w1 w2 w4 w5 w6 ⟨rfl, rfl, Nat.le_of_ble_eq_true rfl, Nat.le_of_ble_eq_true rfl, by simp only [rmd]; omega, by simp only [rmd]; omega⟩ rfl (Nat.le_of_ble_eq_true rfl) dJ5_ensureCapacityInternal_d00df_32 ?_ ?_
    · rintro r' ad' E' ⟨v, q1, rfl, rfl⟩
      cases q1
      change V X (ast ad 0 34 v) _ 35 [some (.ref (ad 0 31)), some (.int (iN mn)), some (.int (iN (σ 0 33 0)))] [.ref v, .ref (ad 0 31)] _ _
      have a31 : ad 0 31 = ast ad 0 34 v 0 31 := (ast_j (by decide)).symm
      rw [a31]
      refine V_put hf (g := 0) (j := 31) (ci := 1) (fs := [.ref (ad 0 32), .int (iN (σ 0 31 1)), .int (iN (σ 0 31 2)), .int (iN (σ 0 31 3))]) ?_ fp_J5_15_1 rfl rfl (Nat.le_of_ble_eq_true rfl) dJ5_ensureCapacityInternal_d00df_35 ?_
      · rw [eset_ne (by decide)]
        exact Es_at l01
      · rw [← a31]
        refine V_re2 (ad' := ast ad 0 32 v) (E' := Es (ast ad 0 32 v) (xK X) (growM σ mn)) (fun g j => if g = 0 ∧ j = 32 then (0, 34) else (g, j)) ?_ ?_ ?_ ?_
        · intro g j e hE
          have lv := Es_lv hE
          rw [Es_at lv] at hE
          cases hE
          have n34 : ¬ (g = 0 ∧ j = 34) := fun q => by
            rw [q.1, q.2] at lv
            exact absurd lv (by decide)
          by_cases q : g = 0 ∧ j = 32
          · obtain ⟨rfl, rfl⟩ := q
            rw [if_pos ⟨rfl, rfl⟩]
            refine ⟨?_, by rw [ast_self, ast_self]⟩
            dsimp only
            rw [eset_ne (by decide), eset_self]
            have e33 : growM σ mn 0 33 0 = 2 * σ 0 33 0 + 2 := by rw [growM_33, if_neg hg]
            show _ = some (Sum.inl (xK X 4, (growM σ mn 0 33 0).toNat, Sum.inl (fun i : Nat => iN (growM σ mn 0 32 (i : Int)))) : va_E)
            have e32 : ∀ i : Int, growM σ mn 0 32 i = if i < σ 0 33 0 then σ 0 32 i else 0 := fun i => by
              unfold growM
              rw [if_neg hg]
              exact (if_neg (fun z => absurd z.2.1 (by decide))).trans (if_pos ⟨rfl, rfl⟩)
            simp only [e33, e32]
          · rw [if_neg q]
            refine ⟨?_, by rw [ast_ne q, ast_ne n34]⟩
            dsimp only
            by_cases q2 : g = 0 ∧ j = 31
            · obtain ⟨rfl, rfl⟩ := q2
              rw [eset_self]
              have e31 : growM σ mn 0 31 = σ 0 31 := growM_o (by decide)
              show _ = some (Sum.inr (1, [.ref (ast ad 0 32 v 0 32), .int (iN (growM σ mn 0 31 1)), .int (iN (growM σ mn 0 31 2)), .int (iN (growM σ mn 0 31 3))]) : va_E)
              rw [e31, ast_self]
              rfl
            · rw [eset_ne q2, eset_ne n34, Es_at lv]
              have n31 : ¬ j = 31 := fun z => q2 ⟨by rw [z] at lv; exact Int.le_antisymm (by have := lv.2; have : g < 1 := this; omega) lv.1, z⟩
              have n32 : ¬ j = 32 := fun z => q ⟨by rw [z] at lv; exact Int.le_antisymm (by have := lv.2; have : g < 1 := this; omega) lv.1, z⟩
              rw [cE_ast n31, cE_congr (σ := growM σ mn) (τ := σ) ?_ (fun z => absurd z n32)]
              by_cases z : g = 0 ∧ j = 33
              · exact absurd lv (by rw [z.1, z.2]; decide)
              · exact growM_o (by omega)
        · intro g j g' j' e e' h1' h2' hq
          have lv := Es_lv h1'
          have lv' := Es_lv h2'
          have n34 : ¬ (g = 0 ∧ j = 34) := fun q => by
            rw [q.1, q.2] at lv
            exact absurd lv (by decide)
          have n34' : ¬ (g' = 0 ∧ j' = 34) := fun q => by
            rw [q.1, q.2] at lv'
            exact absurd lv' (by decide)
          by_cases q : g = 0 ∧ j = 32
          · by_cases q' : g' = 0 ∧ j' = 32
            · exact ⟨q.1.trans q'.1.symm, q.2.trans q'.2.symm⟩
            · rw [if_pos q, if_neg q'] at hq
              exact absurd ⟨(congrArg Prod.fst hq).symm, (congrArg Prod.snd hq).symm⟩ n34'
          · by_cases q' : g' = 0 ∧ j' = 32
            · rw [if_neg q, if_pos q'] at hq
              exact absurd ⟨congrArg Prod.fst hq, congrArg Prod.snd hq⟩ n34
            · rw [if_neg q, if_neg q'] at hq
              exact ⟨congrArg Prod.fst hq, congrArg Prod.snd hq⟩
        · intro g j e hE
          by_cases q : g = 0 ∧ j = 32
          · refine Or.inr ?_
            rw [if_pos q, hX4]
            exact if_neg (by decide)
          · exact Or.inl (if_neg q)
        · exact G_vret hf he (v := v) dJ5_ensureCapacityInternal_d00df_38 (by omega) (by omega) rfl rfl
    · rintro En ad' E' ⟨v, q1, -⟩
      cases q1
end BG
