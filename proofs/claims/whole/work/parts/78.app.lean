/-! the builder: what it appends -/
set_option maxHeartbeats 4000000 in
set_option maxRecDepth 100000 in
theorem b_get {l : Launch} {D : va_G} {K : Nat → ClassId} {ad : Adr} (hl0 : l.stackTraces = false) (σ : Mem) (v : Int) (h0 : 0 ≤ v) (h9 : v < 1000000000) (p : Int) (hp : (dl v).length ≤ p ∧ p ≤ σ 0 33 0) (hc : σ 0 33 0 ≤ 1000) : Cb l D K ad yJ6_getChars_ba4f3 (.code yJ6_getChars_ba4f3 cJ6_getChars_ba4f3 7 (some .int)) 1 0 0 σ [.int (iN v), .int (iN p), .ref (ad 0 32)] (.inl (some (.int (iN (p - ((dl v).length : Int)))))) (wrM σ (p - ((dl v).length : Int)) (dl v)) := by
  refine Cb.of (own := RJ6) (ls0 := [some (.int (iN v)), some (.int (iN p)), some (.ref (ad 0 32)), none, none, none, none]) hl0 (by decide) rfl (Nat.le_of_ble_eq_true rfl) rfl ?_
  intro X hX1 hX2 hX3 hf he hh
  subst hX1 hX2 hX3
  have loop : ∀ (f : Nat) (u q : Int) (S : List Int), 0 ≤ u → u < 1000000000 → u.toNat < f → dl u ++ S = dl v → q + S.length = p → (dl u).length ≤ q → q ≤ σ 0 33 0 → B X ad (wrM σ q S) 22 [some (.int (iN (-u))), some (.int (iN p)), some (.ref (ad 0 32)), none, none, some (.int (iN q)), some (.int (iN 0))] [] 0 0 := by
    intro f
    induction f with
    | zero => intros; omega
    | succ f ih =>
      intro u q S u0 u9 uf hS hqp hlq hqc
      have hlv : ((dl v).length : Int) = (dl u).length + S.length := by
        rw [← hS, List.length_append]
        exact Int.natCast_add _ _
      have e100 : 100 ≤ u → dl u = dl (u / 100) ++ [48 + u / 10 % 10, 48 + u / 1 % 10] := fun h => dl_100 h u9
      have hl1 := dl_pos (v := u)
      have hq2 : 10 ≤ u → 2 ≤ q := fun h => by
        by_cases c : u < 100
        · have := dl_2 (v := u) (by omega) c
          rw [this] at hlq
          simp only [List.length_cons, List.length_nil] at hlq
          omega
        · have := e100 (by omega)
          rw [this, List.length_append] at hlq
          simp only [List.length_cons, List.length_nil] at hlq
          omega
      refine V_iload_n hf dJ6_getChars_ba4f3_22 rfl rfl ?_
      refine V_bipush hf dJ6_getChars_ba4f3_23 (by decide +kernel) ?_
      refine V_icmp_gt (tgt := 72) hf ⟨by omega, by omega⟩ ⟨by omega, by omega⟩ dJ6_getChars_ba4f3_25 (by decide) (fun h25 => ?_) (fun h25 => ?_)
      · refine V_aload_n hf dJ6_getChars_ba4f3_72 rfl rfl ?_
        refine V_iinc (ls2 := [_, _, _, _, _, _, _]) hf dJ6_getChars_ba4f3_73 (by decide) rfl rfl rfl ?_
        refine V_iload hf dJ6_getChars_ba4f3_76 rfl ?_
        refine V_gones hf wf_J6_83 dJ6_getChars_ba4f3_78 ?_
        refine V_iload_n hf dJ6_getChars_ba4f3_81 rfl rfl ?_
        refine V_ineg hf dJ6_getChars_ba4f3_82 ?_
        rw [Int.neg_neg]
        refine V_ones hf (by omega) (by omega) dJ6_getChars_ba4f3_83 ?_
        refine B_bast32 hf ⟨by omega, by omega⟩ (by omega) (by rw [wrM_o (by decide)]; omega) (by omega) (by omega) dJ6_getChars_ba4f3_84 ?_
        rw [wr_c, show 48 + u % 10 = 48 + u / 1 % 10 by omega]
        refine V_iload_n hf dJ6_getChars_ba4f3_85 rfl rfl ?_
        refine V_bipush hf dJ6_getChars_ba4f3_86 (by decide +kernel) ?_
        refine V_icmp_ge (tgt := 104) hf ⟨by omega, by omega⟩ ⟨by omega, by omega⟩ dJ6_getChars_ba4f3_88 (by decide) (fun h88 => ?_) (fun h88 => ?_)
        · have z := dl_lo (v := u) (by omega)
          rw [z] at hS hlv
          have hm : wrM σ (q + -1) ((48 + u / 1 % 10) :: S) = wrM σ (p - ((dl v).length : Int)) (dl v) := by
            rw [show p - ((dl v).length : Int) = q + -1 by simp only [List.length_cons, List.length_nil] at hlv; omega, ← hS]
            rfl
          have hp1 : q + -1 = p - ((dl v).length : Int) := by simp only [List.length_cons, List.length_nil] at hlv; omega
          try rw [wr_c, show 48 + u / 10 = 48 + u / 10 % 10 by omega]
          refine V_iload hf dJ6_getChars_ba4f3_104 rfl ?_
          refine V_if_eq (tgt := 118) hf ⟨by decide, by decide⟩ dJ6_getChars_ba4f3_106 (by decide) (fun h106 => ?_) (fun h106 => ?_)
          · refine V_iload hf dJ6_getChars_ba4f3_118 rfl ?_
            exact B_iret hf he rfl dJ6_getChars_ba4f3_120 (by decide) (by decide) hp1 hm
          · exact absurd rfl h106
        · have z := dl_2 (v := u) (by omega) (by omega)
          rw [z] at hS hlv
          have hm : wrM σ (q + -1 + -1) ((48 + u / 10 % 10) :: (48 + u / 1 % 10) :: S) = wrM σ (p - ((dl v).length : Int)) (dl v) := by
            rw [show p - ((dl v).length : Int) = q + -1 + -1 by simp only [List.length_cons, List.length_nil] at hlv; omega, ← hS]
            rfl
          have hp1 : q + -1 + -1 = p - ((dl v).length : Int) := by simp only [List.length_cons, List.length_nil] at hlv; omega
          refine V_aload_n hf dJ6_getChars_ba4f3_91 rfl rfl ?_
          refine V_iinc (ls2 := [_, _, _, _, _, _, _]) hf dJ6_getChars_ba4f3_92 (by decide) rfl rfl rfl ?_
          refine V_iload hf dJ6_getChars_ba4f3_95 rfl ?_
          refine V_gtens hf wf_J6_87 dJ6_getChars_ba4f3_97 ?_
          refine V_iload_n hf dJ6_getChars_ba4f3_100 rfl rfl ?_
          refine V_ineg hf dJ6_getChars_ba4f3_101 ?_
          rw [Int.neg_neg]
          refine V_tens hf (by omega) (by omega) dJ6_getChars_ba4f3_102 ?_
          refine B_bast32 hf ⟨by omega, by omega⟩ (by have := hq2 (by omega); omega) (by rw [wrM_o (by decide)]; omega) (by omega) (by omega) dJ6_getChars_ba4f3_103 ?_
          try rw [wr_c, show 48 + u / 10 = 48 + u / 10 % 10 by omega]
          refine V_iload hf dJ6_getChars_ba4f3_104 rfl ?_
          refine V_if_eq (tgt := 118) hf ⟨by decide, by decide⟩ dJ6_getChars_ba4f3_106 (by decide) (fun h106 => ?_) (fun h106 => ?_)
          · refine V_iload hf dJ6_getChars_ba4f3_118 rfl ?_
            exact B_iret hf he rfl dJ6_getChars_ba4f3_120 (by decide) (by decide) hp1 hm
          · exact absurd rfl h106
      · refine V_iload_n hf dJ6_getChars_ba4f3_28 rfl rfl ?_
        refine V_bipush hf dJ6_getChars_ba4f3_29 (by decide +kernel) ?_
        have e100 := e100 (by omega)
        have hl3 : (dl u).length = (dl (u / 100)).length + 2 := by
          rw [e100, List.length_append]
          rfl
        have hq3 := hq2 (by omega)
        refine V_idivn hf (by omega) (by omega) dJ6_getChars_ba4f3_31 ?_
        refine V_istore_n (ls2 := [_, _, _, _, _, _, _]) hf dJ6_getChars_ba4f3_32 rfl (by decide) rfl rfl ?_
        refine V_iload_n hf dJ6_getChars_ba4f3_33 rfl rfl ?_
        refine V_bipush hf dJ6_getChars_ba4f3_34 (by decide +kernel) ?_
        refine V_imul hf dJ6_getChars_ba4f3_36 ?_
        refine V_iload_n hf dJ6_getChars_ba4f3_37 rfl rfl ?_
        refine V_isub hf dJ6_getChars_ba4f3_38 ?_
        rw [show -(u / 100) * 100 - -u = u % 100 by omega]
        refine V_istore (ls2 := [_, _, _, _, _, _, _]) hf dJ6_getChars_ba4f3_39 (by decide) rfl rfl ?_
        refine V_iload_n hf dJ6_getChars_ba4f3_41 rfl rfl ?_
        refine V_istore_n (ls2 := [_, _, _, _, _, _, _]) hf dJ6_getChars_ba4f3_42 rfl (by decide) rfl rfl ?_
        refine V_aload_n hf dJ6_getChars_ba4f3_43 rfl rfl ?_
        refine V_iinc (ls2 := [_, _, _, _, _, _, _]) hf dJ6_getChars_ba4f3_44 (by decide) rfl rfl rfl ?_
        refine V_iload hf dJ6_getChars_ba4f3_47 rfl ?_
        refine V_gones hf wf_J6_83 dJ6_getChars_ba4f3_49 ?_
        refine V_iload hf dJ6_getChars_ba4f3_52 rfl ?_
        refine V_ones hf (by omega) (by omega) dJ6_getChars_ba4f3_54 ?_
        refine B_bast32 hf ⟨by omega, by omega⟩ (by omega) (by rw [wrM_o (by decide)]; omega) (by omega) (by omega) dJ6_getChars_ba4f3_55 ?_
        rw [wr_c, show 48 + u % 100 % 10 = 48 + u / 1 % 10 by omega]
        refine V_aload_n hf dJ6_getChars_ba4f3_56 rfl rfl ?_
        refine V_iinc (ls2 := [_, _, _, _, _, _, _]) hf dJ6_getChars_ba4f3_57 (by decide) rfl rfl rfl ?_
        refine V_iload hf dJ6_getChars_ba4f3_60 rfl ?_
        refine V_gtens hf wf_J6_87 dJ6_getChars_ba4f3_62 ?_
        refine V_iload hf dJ6_getChars_ba4f3_65 rfl ?_
        refine V_tens hf (by omega) (by omega) dJ6_getChars_ba4f3_67 ?_
        refine B_bast32 hf ⟨by omega, by omega⟩ (by omega) (by rw [wrM_o (by decide)]; omega) (by omega) (by omega) dJ6_getChars_ba4f3_68 ?_
        rw [wr_c, show 48 + u % 100 / 10 = 48 + u / 10 % 10 by omega]
        refine V_goto (tgt := 22) hf dJ6_getChars_ba4f3_69 (by decide) ?_
        refine V_fg (ls2 := [some _, some _, some _, none, none, some _, some _]) ⟨rfl, rfl, rfl, rfl, rfl, trivial⟩ ?_
        exact ih (u / 100) (q + -1 + -1) _ (by omega) (by omega) (by omega) (by rw [e100, List.append_assoc] at hS; exact hS) (by simp only [List.length_cons]; omega) (by omega) (by omega)
  refine V_iload_n hf dJ6_getChars_ba4f3_0 rfl rfl ?_
  refine V_istore (ls2 := [_, _, _, _, _, _, _]) hf dJ6_getChars_ba4f3_1 (by decide) rfl rfl ?_
  refine V_iload_n hf dJ6_getChars_ba4f3_3 rfl rfl ?_
  refine V_if_ge (tgt := 11) hf ⟨by omega, by omega⟩ dJ6_getChars_ba4f3_4 (by decide) (fun h4 => ?_) (fun h4 => absurd h4 (by omega))
  refine V_iconst hf dJ6_getChars_ba4f3_11 ?_
  refine V_istore (ls2 := [_, _, _, _, _, _, _]) hf dJ6_getChars_ba4f3_12 (by decide) rfl rfl ?_
  refine V_iload hf dJ6_getChars_ba4f3_14 rfl ?_
  refine V_if_ne (tgt := 22) hf ⟨by decide, by decide⟩ dJ6_getChars_ba4f3_16 (by decide) (fun h16 => absurd rfl h16) (fun h16 => ?_)
  refine V_iload_n hf dJ6_getChars_ba4f3_19 rfl rfl ?_
  refine V_ineg hf dJ6_getChars_ba4f3_20 ?_
  refine V_istore_n (ls2 := [_, _, _, _, _, _, _]) hf dJ6_getChars_ba4f3_21 rfl (by decide) rfl rfl ?_
  have bk := loop (v.toNat + 1) v p [] h0 h9 (by omega) (List.append_nil _) (by simp only [List.length_nil]; omega) hp.1 (by omega)
  rw [wrM_nil] at bk
  exact bk

/-- the builder with more characters -/
def appL (σ : Mem) (L : List Int) : Mem := st3 (wrM (growM σ (σ 0 31 3 + L.length)) (σ 0 31 3) L) 0 31 3 (σ 0 31 3 + L.length)
theorem app_c {τ : Mem} {n c : Int} : st3 (st3 τ 0 31 3 (n + 1)) 0 32 n c = st3 (wrM τ n [c]) 0 31 3 (n + 1) := by
  funext g j k
  by_cases h1 : g = 0 ∧ j = 32
  · obtain ⟨rfl, rfl⟩ := h1
    have r : st3 (wrM τ n [c]) 0 31 3 (n + 1) 0 32 k = wrM τ n [c] 0 32 k := st3_j (by decide)
    have l0 : st3 τ 0 31 3 (n + 1) 0 32 k = τ 0 32 k := st3_j (by decide)
    rw [r]
    by_cases h2 : k = n
    · subst h2
      rw [st3_self, wrM_in ⟨by omega, by simp only [List.length_cons, List.length_nil]; omega⟩, show (k - k).toNat = 0 by omega]
      rfl
    · rw [st3_k h2, l0, wrM_out (by simp only [List.length_cons, List.length_nil]; omega)]
  · rw [st3_oj h1]
    by_cases h3 : g = 0 ∧ j = 31
    · obtain ⟨rfl, rfl⟩ := h3
      by_cases h4 : k = 3
      · subst h4
        rw [st3_self, st3_self]
      · rw [st3_k h4, st3_k h4, wrM_o (by decide)]
    · rw [st3_oj h3, st3_oj h3, wrM_o h1]
set_option maxHeartbeats 4000000 in
set_option maxRecDepth 100000 in
theorem b_appC {l : Launch} {D : va_G} {K : Nat → ClassId} {ad : Adr} (hl0 : l.stackTraces = false) (σ : Mem) (hR : Rng σ) (hB : Bl σ) (c : Int) (hc : 0 ≤ c ∧ c < 128) : Cg l D K ad yJ5_append_3fe6f (.code yJ5_append_3fe6f cJ5_append_3fe6f 2 (some (.object "java/lang/AbstractStringBuilder"))) 4 (gC (σ 0 33 0) (σ 0 31 3 + 1)) (gS (σ 0 33 0) (σ 0 31 3 + 1)) σ [.ref (ad 0 31), .int (iN c)] (some (.ref (ad 0 31))) (fun σ' => σ' = appL σ [c]) := by
  refine Cg.of (own := RJ5) (ls0 := [some (.ref (ad 0 31)), some (.int (iN c))]) hl0 (by decide) rfl (Nat.le_of_ble_eq_true rfl) rfl ?_
  intro X hX1 hX2 hX3 hX4 hf he hh
  subst hX1 hX2 hX3
  obtain ⟨hB1, hB2, hB3, hB4⟩ := id hB
  have i3 := hR 0 31 3 (by decide)
  refine V_aload_n hf dJ5_append_3fe6f_0 rfl rfl ?_
  refine V_aload_n hf dJ5_append_3fe6f_1 rfl rfl ?_
  refine B_get hf l01 rfl fl_J5_79_1 rfl dJ5_append_3fe6f_2 ?_
  refine V_iconst hf dJ5_append_3fe6f_5 ?_
  refine V_iadd hf dJ5_append_3fe6f_6 ?_
  refine B_gU hf (As := [_]) (b_ens hl0 σ hR hB2 hB1 hB4 (σ 0 31 3 + 1) ⟨by omega, by omega⟩) cu_J5_100_1 l01 rfl rfl rfl (Nat.le_of_ble_eq_true rfl) ⟨Nat.le_of_ble_eq_true rfl, Nat.le_of_ble_eq_true rfl, by simp only [rmd]; omega, by simp only [rmd]; omega⟩ dJ5_append_3fe6f_7 (fun v τ hτ => ?_)
  change B X (ast ad 0 32 v) τ 10 [some (.ref (ast ad 0 32 v 0 31)), some (.int (iN c))] [] _ _
  generalize hA : ast ad 0 32 v = ad1
  have t1 : τ 0 31 1 = 0 := by rw [hτ, growM_o (by decide)]; exact hB.1
  have t3 : τ 0 31 3 = σ 0 31 3 := by rw [hτ, growM_o (by decide)]
  have t33 : σ 0 31 3 + 1 ≤ τ 0 33 0 ∧ τ 0 33 0 ≤ 10000 := by
    rw [hτ, growM_33]
    split
    · omega
    · omega
  have hRτ : Rng τ := by
    rw [hτ]
    exact growM_R hR ⟨by omega, by omega⟩
  refine V_aload_n hf dJ5_append_3fe6f_10 rfl rfl ?_
  refine B_callUi hf (As := []) (b_lat hl0 τ t1) cu_J5_83_1 l01 rfl rfl rfl (Nat.le_of_ble_eq_true rfl) ⟨Nat.le_of_ble_eq_true rfl, Nat.le_of_ble_eq_true rfl, by simp only [rmd]; omega, by simp only [rmd]; omega⟩ dJ5_append_3fe6f_11 ?_
  refine V_if_eq (tgt := 45) hf ⟨by decide, by decide⟩ dJ5_append_3fe6f_14 (by decide) (fun h14 => ?_) (fun h14 => ?_)
  · exact absurd h14 (by decide)
  · refine V_iload_n hf dJ5_append_3fe6f_17 rfl rfl ?_
    refine B_callSi hf (As := [_]) (b_can hl0 τ c ⟨by omega, by omega⟩) cvs_J5_191 rfl (Nat.le_of_ble_eq_true rfl) ⟨Nat.le_of_ble_eq_true rfl, Nat.le_of_ble_eq_true rfl, by simp only [rmd]; omega, by simp only [rmd]; omega⟩ dJ5_append_3fe6f_18 ?_
    refine V_if_eq (tgt := 45) hf ⟨by decide, by decide⟩ dJ5_append_3fe6f_21 (by decide) (fun h21 => ?_) (fun h21 => ?_)
    · exact absurd h21 (by decide)
    · refine V_aload_n hf dJ5_append_3fe6f_24 rfl rfl ?_
      refine B_get hf l01 rfl fl_J5_15_1 rfl dJ5_append_3fe6f_25 ?_
      refine V_aload_n hf dJ5_append_3fe6f_28 rfl rfl ?_
      refine V_dup hf dJ5_append_3fe6f_29 rfl ?_
      refine B_get hf l01 rfl fl_J5_79_1 rfl dJ5_append_3fe6f_30 ?_
      refine V_dup_x1 hf dJ5_append_3fe6f_33 rfl rfl ?_
      refine V_iconst hf dJ5_append_3fe6f_34 ?_
      refine V_iadd hf dJ5_append_3fe6f_35 ?_
      refine B_putI (kI := 3) hf rfl l01 rfl fp_J5_79_1 rfl rfl (Nat.le_of_ble_eq_true rfl) (by decide) (cs_31_3 _ _ _ _ _) dJ5_append_3fe6f_36 ?_
      refine V_iload_n hf dJ5_append_3fe6f_39 rfl rfl ?_
      refine V_i2b hf (nar_byteI hc.1 hc.2) dJ5_append_3fe6f_40 ?_
      refine B_bast32 hf (hRτ _ _ _ (by decide)) (by omega) (by rw [st3_j (by decide)]; omega) (by omega) (by omega) dJ5_append_3fe6f_41 ?_
      refine V_goto (tgt := 75) hf dJ5_append_3fe6f_42 (by decide) ?_
      refine V_aload_n hf dJ5_append_3fe6f_75 rfl rfl ?_
      exact G_aret hf he (v := v) (Or.inl ⟨_, rfl⟩) dJ5_append_3fe6f_76 (by omega) (by omega) (by rw [← hA]; exact ast_j (by decide)) hA.symm (by rw [app_c, t3, hτ]; rfl)

set_option maxHeartbeats 4000000 in
set_option maxRecDepth 100000 in
theorem b_appI {l : Launch} {D : va_G} {K : Nat → ClassId} {ad : Adr} (hl0 : l.stackTraces = false) (σ : Mem) (hR : Rng σ) (hB : Bl σ) (v : Int) (h0 : 0 ≤ v) (h9 : v < 1000000000) (hcap : σ 0 33 0 ≤ 499) : Cg l D K ad yJ5_append_c97b9 (.code yJ5_append_c97b9 cJ5_append_c97b9 4 (some (.object "java/lang/AbstractStringBuilder"))) 4 (gC (σ 0 33 0) (σ 0 31 3 + ((dl v).length : Int))) (gS (σ 0 33 0) (σ 0 31 3 + ((dl v).length : Int))) σ [.ref (ad 0 31), .int (iN v)] (some (.ref (ad 0 31))) (fun σ' => σ' = appL σ (dl v)) := by
  refine Cg.of (own := RJ5) (ls0 := [some (.ref (ad 0 31)), some (.int (iN v)), none, none]) hl0 (by decide) rfl (Nat.le_of_ble_eq_true rfl) rfl ?_
  intro X hX1 hX2 hX3 hX4 hf he hh
  subst hX1 hX2 hX3
  obtain ⟨hB1, hB2, hB3, hB4⟩ := id hB
  have i3 := hR 0 31 3 (by decide)
  have hlv := (dl_len (v := v)).1
  have hlp := dl_pos (v := v)
  refine V_aload_n hf dJ5_append_c97b9_0 rfl rfl ?_
  refine B_get hf l01 rfl fl_J5_79_1 rfl dJ5_append_c97b9_1 ?_
  refine V_istore_n (ls2 := [_, _, _, _]) hf dJ5_append_c97b9_4 rfl (by decide) rfl rfl ?_
  refine V_iload_n hf dJ5_append_c97b9_5 rfl rfl ?_
  refine V_iload_n hf dJ5_append_c97b9_6 rfl rfl ?_
  refine B_callSi hf (As := [_]) (b_size hl0 σ v h0 h9) cvs_J5_245 rfl (Nat.le_of_ble_eq_true rfl) ⟨Nat.le_of_ble_eq_true rfl, Nat.le_of_ble_eq_true rfl, by simp only [rmd]; omega, by simp only [rmd]; omega⟩ dJ5_append_c97b9_7 ?_
  refine V_iadd hf dJ5_append_c97b9_10 ?_
  refine V_istore_n (ls2 := [_, _, _, _]) hf dJ5_append_c97b9_11 rfl (by decide) rfl rfl ?_
  refine V_aload_n hf dJ5_append_c97b9_12 rfl rfl ?_
  refine V_iload_n hf dJ5_append_c97b9_13 rfl rfl ?_
  refine B_gU hf (As := [_]) (b_ens hl0 σ hR hB2 hB1 hB4 (σ 0 31 3 + ((dl v).length : Int)) ⟨by omega, by omega⟩) cu_J5_100_1 l01 rfl rfl rfl (Nat.le_of_ble_eq_true rfl) ⟨Nat.le_of_ble_eq_true rfl, Nat.le_of_ble_eq_true rfl, by simp only [rmd]; omega, by simp only [rmd]; omega⟩ dJ5_append_c97b9_14 (fun w τ hτ => ?_)
  change B X (ast ad 0 32 w) τ 17 [some (.ref (ast ad 0 32 w 0 31)), some (.int (iN v)), some (.int (iN (σ 0 31 3))), some (.int (iN (σ 0 31 3 + ((dl v).length : Int))))] [] _ _
  generalize hA : ast ad 0 32 w = ad1
  have t1 : τ 0 31 1 = 0 := by rw [hτ, growM_o (by decide)]; exact hB.1
  have t3 : τ 0 31 3 = σ 0 31 3 := by rw [hτ, growM_o (by decide)]
  have t33 : (σ 0 31 3 + ((dl v).length : Int)) ≤ τ 0 33 0 ∧ τ 0 33 0 ≤ 10000 := by
    rw [hτ, growM_33]
    split
    · omega
    · omega
  have hRτ : Rng τ := by
    rw [hτ]
    exact growM_R hR ⟨by omega, by omega⟩
  refine V_aload_n hf dJ5_append_c97b9_17 rfl rfl ?_
  refine B_callUi hf (As := []) (b_lat hl0 τ t1) cu_J5_83_1 l01 rfl rfl rfl (Nat.le_of_ble_eq_true rfl) ⟨Nat.le_of_ble_eq_true rfl, Nat.le_of_ble_eq_true rfl, by simp only [rmd]; omega, by simp only [rmd]; omega⟩ dJ5_append_c97b9_18 ?_
  refine V_if_eq (tgt := 37) hf ⟨by decide, by decide⟩ dJ5_append_c97b9_21 (by decide) (fun h21 => ?_) (fun h21 => ?_)
  · exact absurd h21 (by decide)
  · refine V_iload_n hf dJ5_append_c97b9_24 rfl rfl ?_
    refine V_iload_n hf dJ5_append_c97b9_25 rfl rfl ?_
    refine V_aload_n hf dJ5_append_c97b9_26 rfl rfl ?_
    refine B_get hf l01 rfl fl_J5_15_1 rfl dJ5_append_c97b9_27 ?_
    refine B_callSi hf (As := [_, _, _]) (b_get hl0 τ v h0 h9 (σ 0 31 3 + ((dl v).length : Int)) ⟨by omega, by omega⟩ (by rw [hτ, growM_33]; split <;> omega)) cvs_J5_248 rfl (Nat.le_of_ble_eq_true rfl) ⟨Nat.le_of_ble_eq_true rfl, Nat.le_of_ble_eq_true rfl, by simp only [rmd]; omega, by simp only [rmd]; omega⟩ dJ5_append_c97b9_30 ?_
    refine V_pop hf dJ5_append_c97b9_33 rfl ?_
    refine V_goto (tgt := 48) hf dJ5_append_c97b9_34 (by decide) ?_
    refine V_aload_n hf dJ5_append_c97b9_48 rfl rfl ?_
    refine V_iload_n hf dJ5_append_c97b9_49 rfl rfl ?_
    refine B_putI (kI := 3) hf rfl l01 rfl fp_J5_79_1 rfl rfl (Nat.le_of_ble_eq_true rfl) (by decide) (cs_31_3 _ _ _ _ _) dJ5_append_c97b9_50 ?_
    refine V_aload_n hf dJ5_append_c97b9_53 rfl rfl ?_
    exact G_aret hf he (v := w) (Or.inl ⟨_, rfl⟩) dJ5_append_c97b9_54 (by omega) (by omega) (by rw [← hA]; exact ast_j (by decide)) hA.symm (by rw [show (σ 0 31 3 + ((dl v).length : Int)) - ((dl v).length : Int) = σ 0 31 3 by omega, hτ]; rfl)

set_option maxHeartbeats 4000000 in
set_option maxRecDepth 100000 in
theorem b4_appC {l : Launch} {D : va_G} {K : Nat → ClassId} {ad : Adr} (hl0 : l.stackTraces = false) (σ : Mem) (hR : Rng σ) (hB : Bl σ) (c : Int) (hc : 0 ≤ c ∧ c < 128) : Cg l D K ad yJ4_append_cf468 (.code yJ4_append_cf468 cJ4_append_cf468 2 (some (.object "java/lang/StringBuilder"))) 5 (gC (σ 0 33 0) (σ 0 31 3 + 1)) (gS (σ 0 33 0) (σ 0 31 3 + 1)) σ [.ref (ad 0 31), .int (iN c)] (some (.ref (ad 0 31))) (fun σ' => σ' = appL σ [c]) := by
  refine Cg.of (own := RJ4) (ls0 := [some (.ref (ad 0 31)), some (.int (iN c))]) hl0 (by decide) rfl (Nat.le_of_ble_eq_true rfl) rfl ?_
  intro X hX1 hX2 hX3 hX4 hf he hh
  subst hX1 hX2 hX3
  refine V_aload_n hf dJ4_append_cf468_0 rfl rfl ?_
  refine V_iload_n hf dJ4_append_cf468_1 rfl rfl ?_
  refine B_gP hf (As := [_]) (b_appC hl0 σ hR hB c hc) cp_J4_50 l01 rfl rfl rfl (Nat.le_of_ble_eq_true rfl) ⟨Nat.le_of_ble_eq_true rfl, Nat.le_of_ble_eq_true rfl, by simp only [rmd]; omega, by simp only [rmd]; omega⟩ dJ4_append_cf468_2 (fun w τ hτ => ?_)
  change B X (ast ad 0 32 w) τ 5 [some (.ref (ad 0 31)), some (.int (iN c))] [.ref (ad 0 31)] _ _
  refine V_pop hf dJ4_append_cf468_5 rfl ?_
  refine V_aload_n hf dJ4_append_cf468_6 rfl rfl ?_
  exact G_aret hf he (v := w) (Or.inl ⟨_, rfl⟩) dJ4_append_cf468_7 (by omega) (by omega) rfl rfl hτ

set_option maxHeartbeats 4000000 in
set_option maxRecDepth 100000 in
theorem b4_appI {l : Launch} {D : va_G} {K : Nat → ClassId} {ad : Adr} (hl0 : l.stackTraces = false) (σ : Mem) (hR : Rng σ) (hB : Bl σ) (v : Int) (h0 : 0 ≤ v) (h9 : v < 1000000000) (hcap : σ 0 33 0 ≤ 499) : Cg l D K ad yJ4_append_bf812 (.code yJ4_append_bf812 cJ4_append_bf812 2 (some (.object "java/lang/StringBuilder"))) 5 (gC (σ 0 33 0) (σ 0 31 3 + ((dl v).length : Int))) (gS (σ 0 33 0) (σ 0 31 3 + ((dl v).length : Int))) σ [.ref (ad 0 31), .int (iN v)] (some (.ref (ad 0 31))) (fun σ' => σ' = appL σ (dl v)) := by
  refine Cg.of (own := RJ4) (ls0 := [some (.ref (ad 0 31)), some (.int (iN v))]) hl0 (by decide) rfl (Nat.le_of_ble_eq_true rfl) rfl ?_
  intro X hX1 hX2 hX3 hX4 hf he hh
  subst hX1 hX2 hX3
  refine V_aload_n hf dJ4_append_bf812_0 rfl rfl ?_
  refine V_iload_n hf dJ4_append_bf812_1 rfl rfl ?_
  refine B_gP hf (As := [_]) (b_appI hl0 σ hR hB v h0 h9 hcap) cp_J4_53 l01 rfl rfl rfl (Nat.le_of_ble_eq_true rfl) ⟨Nat.le_of_ble_eq_true rfl, Nat.le_of_ble_eq_true rfl, by simp only [rmd]; omega, by simp only [rmd]; omega⟩ dJ4_append_bf812_2 (fun w τ hτ => ?_)
  change B X (ast ad 0 32 w) τ 5 [some (.ref (ad 0 31)), some (.int (iN v))] [.ref (ad 0 31)] _ _
  refine V_pop hf dJ4_append_bf812_5 rfl ?_
  refine V_aload_n hf dJ4_append_bf812_6 rfl rfl ?_
  exact G_aret hf he (v := w) (Or.inl ⟨_, rfl⟩) dJ4_append_bf812_7 (by omega) (by omega) rfl rfl hτ

def setM (σ : Mem) : Mem := st3 (if σ 0 31 3 ≤ 0 then σ else st3 σ 0 31 2 1) 0 31 3 0
set_option maxHeartbeats 4000000 in
set_option maxRecDepth 100000 in
theorem b_setL {l : Launch} {D : va_G} {K : Nat → ClassId} {ad : Adr} (hl0 : l.stackTraces = false) (σ : Mem) (hR : Rng σ) (hB : Bl σ) : Cg l D K ad yJ5_setLength_d00df (.code yJ5_setLength_d00df cJ5_setLength_d00df 2 none) 4 0 0 σ [.ref (ad 0 31), .int (iN 0)] none (fun σ' => σ' = setM σ) := by
  refine Cg.of (own := RJ5) (ls0 := [some (.ref (ad 0 31)), some (.int (iN 0))]) hl0 (by decide) rfl (Nat.le_of_ble_eq_true rfl) rfl ?_
  intro X hX1 hX2 hX3 hX4 hf he hh
  subst hX1 hX2 hX3
  obtain ⟨hB1, hB2, hB3, hB4⟩ := id hB
  have i3 := hR 0 31 3 (by decide)
  have z1 : gC (σ 0 33 0) 0 = 0 := if_pos (by omega)
  have z2 : gS (σ 0 33 0) 0 = 0 := if_pos (by omega)
  have rest : ∀ (ad1 : Adr) (w : Nat), ast ad 0 32 w = ad1 → B X ad1 σ 18 [some (.ref (ad1 0 31)), some (.int (iN 0))] [] 0 0 := by
    intro ad1 w hA
    refine V_aload_n hf dJ5_setLength_d00df_18 rfl rfl ?_
    refine B_get hf l01 rfl fl_J5_79_1 rfl dJ5_setLength_d00df_19 ?_
    refine V_iload_n hf dJ5_setLength_d00df_22 rfl rfl ?_
    refine V_icmp_ge (tgt := 63) hf i3 ⟨by decide, by decide⟩ dJ5_setLength_d00df_23 (by decide) (fun h23 => ?_) (fun h23 => ?_)
    · refine V_aload_n hf dJ5_setLength_d00df_63 rfl rfl ?_
      refine B_get hf l01 rfl fl_J5_79_1 rfl dJ5_setLength_d00df_64 ?_
      refine V_iload_n hf dJ5_setLength_d00df_67 rfl rfl ?_
      refine V_icmp_le (tgt := 76) hf i3 ⟨by decide, by decide⟩ dJ5_setLength_d00df_68 (by decide) (fun h68 => ?_) (fun h68 => ?_)
      · have e : setM σ = st3 σ 0 31 3 0 := by unfold setM; rw [if_pos (by omega)]
        refine V_aload_n hf dJ5_setLength_d00df_76 rfl rfl ?_
        refine V_iload_n hf dJ5_setLength_d00df_77 rfl rfl ?_
        refine B_putI (kI := 3) hf rfl l01 rfl fp_J5_79_1 rfl rfl (Nat.le_of_ble_eq_true rfl) (by decide) (cs_31_3 _ _ _ _ _) dJ5_setLength_d00df_78 ?_
        exact G_vret hf he (v := w) dJ5_setLength_d00df_81 (by decide) (by decide) hA.symm e.symm
      · have e : setM σ = st3 (st3 σ 0 31 2 1) 0 31 3 0 := by unfold setM; rw [if_neg (by omega)]
        refine V_aload_n hf dJ5_setLength_d00df_71 rfl rfl ?_
        refine V_iconst hf dJ5_setLength_d00df_72 ?_
        refine B_putI (kI := 2) hf rfl l01 rfl fp_J5_73_1 (by decide +kernel) (by decide +kernel) (Nat.le_of_ble_eq_true rfl) (by decide) (cs_31_2 _ _ _ _ _) dJ5_setLength_d00df_73 ?_
        refine V_aload_n hf dJ5_setLength_d00df_76 rfl rfl ?_
        refine V_iload_n hf dJ5_setLength_d00df_77 rfl rfl ?_
        refine B_putI (kI := 3) hf rfl l01 rfl fp_J5_79_1 rfl rfl (Nat.le_of_ble_eq_true rfl) (by decide) (cs_31_3 _ _ _ _ _) dJ5_setLength_d00df_78 ?_
        exact G_vret hf he (v := w) dJ5_setLength_d00df_81 (by decide) (by decide) hA.symm e.symm
    · exact absurd h23 (by omega)
  refine V_iload_n hf dJ5_setLength_d00df_0 rfl rfl ?_
  refine V_if_ge (tgt := 13) hf ⟨by decide, by decide⟩ dJ5_setLength_d00df_1 (by decide) (fun h1 => ?_) (fun h1 => ?_)
  · refine V_aload_n hf dJ5_setLength_d00df_13 rfl rfl ?_
    refine V_iload_n hf dJ5_setLength_d00df_14 rfl rfl ?_
    refine B_gU hf (As := [_]) (b_ens hl0 σ hR hB2 hB1 hB4 0 ⟨by omega, by omega⟩) cu_J5_100_1 l01 rfl rfl rfl (Nat.le_of_ble_eq_true rfl) ⟨Nat.le_of_ble_eq_true rfl, Nat.le_of_ble_eq_true rfl, by rw [z1]; decide, by rw [z2]; decide⟩ dJ5_setLength_d00df_15 (fun w τ hτ => ?_)
    rw [growM_n (by omega)] at hτ
    subst hτ
    rw [z1, z2]
    change B X (ast ad 0 32 w) τ 18 [some (.ref (ast ad 0 32 w 0 31)), some (.int (iN 0))] [] 0 0
    generalize hA : ast ad 0 32 w = ad1
    exact rest ad1 w hA
  · exact absurd h1 (by decide)

set_option maxHeartbeats 4000000 in
set_option maxRecDepth 100000 in
theorem b4_setL {l : Launch} {D : va_G} {K : Nat → ClassId} {ad : Adr} (hl0 : l.stackTraces = false) (σ : Mem) (hR : Rng σ) (hB : Bl σ) : Cg l D K ad yJ4_setLength_d00df (.code yJ4_setLength_d00df cJ4_setLength_d00df 2 none) 5 0 0 σ [.ref (ad 0 31), .int (iN 0)] none (fun σ' => σ' = setM σ) := by
  refine Cg.of (own := RJ4) (ls0 := [some (.ref (ad 0 31)), some (.int (iN 0))]) hl0 (by decide) rfl (Nat.le_of_ble_eq_true rfl) rfl ?_
  intro X hX1 hX2 hX3 hX4 hf he hh
  subst hX1 hX2 hX3
  refine V_aload_n hf dJ4_setLength_d00df_0 rfl rfl ?_
  refine V_iload_n hf dJ4_setLength_d00df_1 rfl rfl ?_
  refine B_gP hf (As := [_]) (b_setL hl0 σ hR hB) cp_J4_333 l01 rfl rfl rfl (Nat.le_of_ble_eq_true rfl) ⟨by decide, by decide, by decide, by decide⟩ dJ4_setLength_d00df_2 (fun w τ hτ => ?_)
  exact G_vret hf he (v := w) dJ4_setLength_d00df_5 (by decide) (by decide) rfl hτ

set_option maxHeartbeats 4000000 in
set_option maxRecDepth 100000 in
theorem b_len {l : Launch} {D : va_G} {K : Nat → ClassId} {ad : Adr} (hl0 : l.stackTraces = false) (σ : Mem) : Cb l D K ad yJ5_length_8abf5 (.code yJ5_length_8abf5 cJ5_length_8abf5 1 (some .int)) 0 0 0 σ [.ref (ad 0 31)] (.inl (some (.int (iN (σ 0 31 3))))) σ := by
  refine Cb.of (own := RJ5) (ls0 := [some (.ref (ad 0 31))]) hl0 (by decide) rfl (Nat.le_of_ble_eq_true rfl) rfl ?_
  intro X hX1 hX2 hX3 hf he hh
  subst hX1 hX2 hX3
  refine V_aload_n hf dJ5_length_8abf5_0 rfl rfl ?_
  refine B_get hf l01 rfl fl_J5_79_1 rfl dJ5_length_8abf5_1 ?_
  exact B_iret hf he rfl dJ5_length_8abf5_4 (by decide) (by decide) rfl rfl

set_option maxHeartbeats 4000000 in
set_option maxRecDepth 100000 in
theorem b4_len {l : Launch} {D : va_G} {K : Nat → ClassId} {ad : Adr} (hl0 : l.stackTraces = false) (σ : Mem) : Cb l D K ad yJ4_length_8abf5 (.code yJ4_length_8abf5 cJ4_length_8abf5 1 (some .int)) 1 0 0 σ [.ref (ad 0 31)] (.inl (some (.int (iN (σ 0 31 3))))) σ := by
  refine Cb.of (own := RJ4) (ls0 := [some (.ref (ad 0 31))]) hl0 (by decide) rfl (Nat.le_of_ble_eq_true rfl) rfl ?_
  intro X hX1 hX2 hX3 hf he hh
  subst hX1 hX2 hX3
  refine V_aload_n hf dJ4_length_8abf5_0 rfl rfl ?_
  refine B_bP hf (As := []) (b_len hl0 σ) cp_J4_343 l01 rfl rfl rfl (Nat.le_of_ble_eq_true rfl) ⟨by decide, by decide, by decide, by decide⟩ dJ4_length_8abf5_1 ?_
  exact B_iret hf he rfl dJ4_length_8abf5_4 (by decide) (by decide) rfl rfl

set_option maxHeartbeats 4000000 in
set_option maxRecDepth 100000 in
theorem b_char {l : Launch} {D : va_G} {K : Nat → ClassId} {ad : Adr} (hl0 : l.stackTraces = false) (σ : Mem) (hR : Rng σ) (hB : Bl σ) (i : Int) (hi : 0 ≤ i ∧ i < σ 0 31 3) : Cb l D K ad yJ5_charAt_5068e (.code yJ5_charAt_5068e cJ5_charAt_5068e 5 (some .char)) 3 0 0 σ [.ref (ad 0 31), .int (iN i)] (.inl (some (.int (iN (σ 0 32 i))))) σ := by
  refine Cb.of (own := RJ5) (ls0 := [some (.ref (ad 0 31)), some (.int (iN i)), none, none, none]) hl0 (by decide) rfl (Nat.le_of_ble_eq_true rfl) rfl ?_
  intro X hX1 hX2 hX3 hf he hh
  subst hX1 hX2 hX3
  obtain ⟨hB1, hB2, hB3, hB4⟩ := hB
  have hv := hB4 i hi.1
  refine V_aload_n hf dJ5_charAt_5068e_0 rfl rfl ?_
  refine B_get hf l01 rfl fl_J5_22_1 rfl dJ5_charAt_5068e_1 ?_
  rw [hB1]
  refine V_istore_n (ls2 := [_, _, _, _, _]) hf dJ5_charAt_5068e_4 rfl (by decide) rfl rfl ?_
  refine V_aload_n hf dJ5_charAt_5068e_5 rfl rfl ?_
  refine B_get hf l01 rfl fl_J5_15_1 rfl dJ5_charAt_5068e_6 ?_
  refine V_astore_n (ls2 := [_, _, _, _, _]) hf dJ5_charAt_5068e_9 rfl (by decide) rfl rfl ?_
  refine V_aload_n hf dJ5_charAt_5068e_10 rfl rfl ?_
  refine B_get hf l01 rfl fl_J5_79_1 rfl dJ5_charAt_5068e_11 ?_
  refine V_aload_n hf dJ5_charAt_5068e_14 rfl rfl ?_
  refine B_alen32 hf (by omega) dJ5_charAt_5068e_15 ?_
  refine V_iload_n hf dJ5_charAt_5068e_16 rfl rfl ?_
  refine V_ishr0 hf dJ5_charAt_5068e_17 ?_
  refine V_min hf (hR _ _ _ (by decide)) ⟨by omega, by omega⟩ wl_J5_138 ⟨by decide, (Nat.le_of_ble_eq_true rfl), by decide, by decide⟩ dJ5_charAt_5068e_18 ?_
  rw [if_neg (by omega)]
  refine V_istore (ls2 := [_, _, _, _, _]) hf dJ5_charAt_5068e_21 (by decide) rfl rfl ?_
  refine V_iload_n hf dJ5_charAt_5068e_23 rfl rfl ?_
  refine V_iload hf dJ5_charAt_5068e_24 rfl ?_
  refine B_callSv hf (As := [_, _]) (z_check hl0 i (σ 0 31 3) hi.1 hi.2 (by omega) σ) cvs_J5_144 rfl (Nat.le_of_ble_eq_true rfl) ⟨by decide, by decide, by decide, by decide⟩ dJ5_charAt_5068e_26 ?_
  refine V_iload_n hf dJ5_charAt_5068e_29 rfl rfl ?_
  refine V_if_ne (tgt := 42) hf ⟨by decide, by decide⟩ dJ5_charAt_5068e_30 (by decide) (fun h30 => ?_) (fun h30 => ?_)
  · exact absurd rfl h30
  · refine V_aload_n hf dJ5_charAt_5068e_33 rfl rfl ?_
    refine V_iload_n hf dJ5_charAt_5068e_34 rfl rfl ?_
    refine B_bald32 hf ⟨by omega, by omega⟩ (by omega) (by omega) dJ5_charAt_5068e_35 ?_
    refine V_sipush hf dJ5_charAt_5068e_36 (by decide +kernel) ?_
    refine V_iand (c1 := σ 0 32 i) hf (and255I (by omega) (by omega)) dJ5_charAt_5068e_39 ?_
    refine V_i2c (b := σ 0 32 i) hf (i2c_s (by omega) (by omega)) dJ5_charAt_5068e_40 ?_
    exact B_iret hf he (pk_charI (by omega) (by omega)) dJ5_charAt_5068e_41 (by decide) (by decide) rfl rfl

set_option maxHeartbeats 4000000 in
set_option maxRecDepth 100000 in
theorem b4_char {l : Launch} {D : va_G} {K : Nat → ClassId} {ad : Adr} (hl0 : l.stackTraces = false) (σ : Mem) (hR : Rng σ) (hB : Bl σ) (i : Int) (hi : 0 ≤ i ∧ i < σ 0 31 3) : Cb l D K ad yJ4_charAt_5068e (.code yJ4_charAt_5068e cJ4_charAt_5068e 2 (some .char)) 4 0 0 σ [.ref (ad 0 31), .int (iN i)] (.inl (some (.int (iN (σ 0 32 i))))) σ := by
  refine Cb.of (own := RJ4) (ls0 := [some (.ref (ad 0 31)), some (.int (iN i))]) hl0 (by decide) rfl (Nat.le_of_ble_eq_true rfl) rfl ?_
  intro X hX1 hX2 hX3 hf he hh
  subst hX1 hX2 hX3
  have hv := hB.2.2.2 i hi.1
  refine V_aload_n hf dJ4_charAt_5068e_0 rfl rfl ?_
  refine V_iload_n hf dJ4_charAt_5068e_1 rfl rfl ?_
  refine B_bP hf (As := [_]) (b_char hl0 σ hR hB i hi) cp_J4_329 l01 rfl rfl rfl (Nat.le_of_ble_eq_true rfl) ⟨by decide, by decide, by decide, by decide⟩ dJ4_charAt_5068e_2 ?_
  exact B_iret hf he (pk_charI (by omega) (by omega)) dJ4_charAt_5068e_5 (by decide) (by decide) rfl rfl

