/-! the builder: its methods -/
theorem iN_divn {v : Int} (h0 : 0 ≤ v) (h1 : v ≤ 1000000000) : iN (-v) / iN 100 = iN (-(v / 100)) := by
  have e : (iN (-v) / iN 100).toInt = ((iN (-v)).toInt.tdiv (iN 100).toInt).bmod (2 ^ 32) := Int32.toInt_div _ _
  rw [iN_toInt ⟨by omega, by omega⟩, iN_toInt ⟨by decide, by decide⟩, Int.neg_tdiv, Int.tdiv_eq_ediv_of_nonneg h0] at e
  rw [← Int32.toInt_inj, e, iN_toInt ⟨by omega, by omega⟩]
  exact Int.bmod_eq_of_le (by omega) (by omega)
section VD
variable {X : Cx} {own : String} {cc : ByteArray} {nL : Nat} {rm : Room} {ad : Adr} {E : Dic} {pc : Nat} {ls : Ls} {st : List Value} {cs ss : Nat}
theorem V_idivn (hf : Cf X own cc nL rm) {v : Int} (h0 : 0 ≤ v) (h1 : v ≤ 1000000000) (hdg : decode cc pc = .ok (.idiv, 1)) (kk : V X ad E (pc + 1) ls (.int (iN (-(v / 100))) :: st) cs ss) : V X ad E pc ls (.int (iN 100) :: .int (iN (-v)) :: st) cs ss := by
  obtain ⟨p, l, e, R, s, m, args, below, meth, c, Q, D, K, ad0, E0⟩ := X
  obtain ⟨hx, hb, hml, hown, hts, hK, hl0, hlk, hR0, hEv⟩ := hf
  intro H locs la hR hI hN hS hl
  refine lv_idiv hx hb hdg (fun q => by rw [← iN_0, iN_eq ⟨by decide, by decide⟩ ⟨by decide, by decide⟩] at q; exact absurd q (by decide)) ?_
  rw [iN_divn h0 h1]
  exact kk H locs la hR hI hN hS hl
end VD
theorem dl_lo {v : Int} (h : v < 10) : dl v = [48 + v / 1 % 10] := if_pos h
theorem dl_2 {v : Int} (h : ¬ v < 10) (h2 : v < 100) : dl v = [48 + v / 10 % 10, 48 + v / 1 % 10] := (if_neg h).trans (if_pos h2)
theorem dl_100 {v : Int} (h : 100 ≤ v) (h9 : v < 1000000000) : dl v = dl (v / 100) ++ [48 + v / 10 % 10, 48 + v / 1 % 10] := by
  unfold dl
  rw [if_neg (show ¬ v < 10 by omega), if_neg (show ¬ v < 100 by omega)]
  by_cases c3 : v < 1000
  · rw [if_pos c3, if_pos (show v / 100 < 10 by omega)]
    simp only [List.cons_append, List.nil_append]
    rw [show v / 100 / 1 % 10 = v / 100 % 10 by omega]
  · rw [if_neg c3]
    by_cases c4 : v < 10000
    · rw [if_pos c4, if_neg (show ¬ v / 100 < 10 by omega), if_pos (show v / 100 < 100 by omega)]
      simp only [List.cons_append, List.nil_append]
      rw [show v / 100 / 10 % 10 = v / 1000 % 10 by omega, show v / 100 / 1 % 10 = v / 100 % 10 by omega]
    · rw [if_neg c4]
      by_cases c5 : v < 100000
      · rw [if_pos c5, if_neg (show ¬ v / 100 < 10 by omega), if_neg (show ¬ v / 100 < 100 by omega), if_pos (show v / 100 < 1000 by omega)]
        simp only [List.cons_append, List.nil_append]
        rw [show v / 100 / 100 % 10 = v / 10000 % 10 by omega, show v / 100 / 10 % 10 = v / 1000 % 10 by omega, show v / 100 / 1 % 10 = v / 100 % 10 by omega]
      · rw [if_neg c5]
        by_cases c6 : v < 1000000
        · rw [if_pos c6, if_neg (show ¬ v / 100 < 10 by omega), if_neg (show ¬ v / 100 < 100 by omega), if_neg (show ¬ v / 100 < 1000 by omega), if_pos (show v / 100 < 10000 by omega)]
          simp only [List.cons_append, List.nil_append]
          rw [show v / 100 / 1000 % 10 = v / 100000 % 10 by omega, show v / 100 / 100 % 10 = v / 10000 % 10 by omega, show v / 100 / 10 % 10 = v / 1000 % 10 by omega, show v / 100 / 1 % 10 = v / 100 % 10 by omega]
        · rw [if_neg c6]
          by_cases c7 : v < 10000000
          · rw [if_pos c7, if_neg (show ¬ v / 100 < 10 by omega), if_neg (show ¬ v / 100 < 100 by omega), if_neg (show ¬ v / 100 < 1000 by omega), if_neg (show ¬ v / 100 < 10000 by omega), if_pos (show v / 100 < 100000 by omega)]
            simp only [List.cons_append, List.nil_append]
            rw [show v / 100 / 10000 % 10 = v / 1000000 % 10 by omega, show v / 100 / 1000 % 10 = v / 100000 % 10 by omega, show v / 100 / 100 % 10 = v / 10000 % 10 by omega, show v / 100 / 10 % 10 = v / 1000 % 10 by omega, show v / 100 / 1 % 10 = v / 100 % 10 by omega]
          · rw [if_neg c7]
            by_cases c8 : v < 100000000
            · rw [if_pos c8, if_neg (show ¬ v / 100 < 10 by omega), if_neg (show ¬ v / 100 < 100 by omega), if_neg (show ¬ v / 100 < 1000 by omega), if_neg (show ¬ v / 100 < 10000 by omega), if_neg (show ¬ v / 100 < 100000 by omega), if_pos (show v / 100 < 1000000 by omega)]
              simp only [List.cons_append, List.nil_append]
              rw [show v / 100 / 100000 % 10 = v / 10000000 % 10 by omega, show v / 100 / 10000 % 10 = v / 1000000 % 10 by omega, show v / 100 / 1000 % 10 = v / 100000 % 10 by omega, show v / 100 / 100 % 10 = v / 10000 % 10 by omega, show v / 100 / 10 % 10 = v / 1000 % 10 by omega, show v / 100 / 1 % 10 = v / 100 % 10 by omega]
            · rw [if_neg c8]
              rw [if_neg (show ¬ v / 100 < 10 by omega), if_neg (show ¬ v / 100 < 100 by omega), if_neg (show ¬ v / 100 < 1000 by omega), if_neg (show ¬ v / 100 < 10000 by omega), if_neg (show ¬ v / 100 < 100000 by omega), if_neg (show ¬ v / 100 < 1000000 by omega), if_pos (show v / 100 < 10000000 by omega)]
              simp only [List.cons_append, List.nil_append]
              rw [show v / 100 / 1000000 % 10 = v / 100000000 % 10 by omega, show v / 100 / 100000 % 10 = v / 10000000 % 10 by omega, show v / 100 / 10000 % 10 = v / 1000000 % 10 by omega, show v / 100 / 1000 % 10 = v / 100000 % 10 by omega, show v / 100 / 100 % 10 = v / 10000 % 10 by omega, show v / 100 / 10 % 10 = v / 1000 % 10 by omega, show v / 100 / 1 % 10 = v / 100 % 10 by omega]
theorem dl_b {v : Int} (h0 : 0 ≤ v) : ∀ c ∈ dl v, 0 ≤ c ∧ c < 128 := by
  have hd : ∀ t : Int, 0 ≤ 48 + v / t % 10 ∧ 48 + v / t % 10 < 128 := fun t => ⟨by omega, by omega⟩
  unfold dl
  repeat' split
  all_goals (intro c hc; simp only [List.mem_cons, List.not_mem_nil, or_false] at hc; omega)
theorem dl_pos {v : Int} : 1 ≤ (dl v).length := by
  unfold dl
  repeat' split
  all_goals simp
/-- characters laid at p -/
def wrM (σ : Mem) (p : Int) (L : List Int) : Mem := fun g j k => if g = 0 ∧ j = 32 ∧ p ≤ k ∧ k < p + L.length then L.getD (k - p).toNat 0 else σ g j k
theorem wrM_o {σ : Mem} {p : Int} {L : List Int} {g : Int} {j : Nat} (h : ¬ (g = 0 ∧ j = 32)) : wrM σ p L g j = σ g j := by
  funext k
  exact if_neg fun q => h ⟨q.1, q.2.1⟩
theorem wrM_nil {σ : Mem} {p : Int} : wrM σ p [] = σ := by
  funext g j k
  exact if_neg fun q => by
    have := q.2.2
    simp only [List.length_nil] at this
    omega
theorem wrM_in {σ : Mem} {p k : Int} {L : List Int} (h : p ≤ k ∧ k < p + L.length) : wrM σ p L 0 32 k = L.getD (k - p).toNat 0 := if_pos ⟨rfl, rfl, h.1, h.2⟩
theorem wrM_out {σ : Mem} {p k : Int} {L : List Int} (h : ¬ (p ≤ k ∧ k < p + L.length)) : wrM σ p L 0 32 k = σ 0 32 k := if_neg fun q => h q.2.2
theorem wr_c {σ : Mem} {q c : Int} {S : List Int} : st3 (wrM σ q S) 0 32 (q + -1) c = wrM σ (q + -1) (c :: S) := by
  funext g j k
  by_cases hg : g = 0 ∧ j = 32
  · obtain ⟨rfl, rfl⟩ := hg
    by_cases h1 : k = q + -1
    · subst h1
      rw [st3_self, wrM_in ⟨by omega, by simp only [List.length_cons]; omega⟩, show (q + -1 - (q + -1)).toNat = 0 by omega]
      rfl
    · rw [st3_k h1]
      by_cases h2 : q ≤ k ∧ k < q + S.length
      · rw [wrM_in h2, wrM_in ⟨by omega, by simp only [List.length_cons]; omega⟩, show (k - (q + -1)).toNat = (k - q).toNat + 1 by omega]
        rfl
      · rw [wrM_out h2, wrM_out (by simp only [List.length_cons]; omega)]
  · rw [st3_oj hg, wrM_o hg, wrM_o hg]
set_option maxHeartbeats 4000000 in
set_option maxRecDepth 100000 in
theorem b_size {l : Launch} {D : va_G} {K : Nat → ClassId} {ad : Adr} (hl0 : l.stackTraces = false) (σ : Mem) (v : Int) (h0 : 0 ≤ v) (h9 : v < 1000000000) : Cb l D K ad yJ6_stringSize_0f7a4 (.code yJ6_stringSize_0f7a4 cJ6_stringSize_0f7a4 4 (some .int)) 0 0 0 σ [.int (iN v)] (.inl (some (.int (iN ((dl v).length : Int))))) σ := by
  refine Cb.of (own := RJ6) (ls0 := [some (.int (iN v)), none, none, none]) hl0 (by decide) rfl (Nat.le_of_ble_eq_true rfl) rfl ?_
  intro X hX1 hX2 hX3 hf he hh
  subst hX1 hX2 hX3
  refine V_iconst hf dJ6_stringSize_0f7a4_0 ?_
  refine V_istore_n (ls2 := [_, _, _, _]) hf dJ6_stringSize_0f7a4_1 rfl (by decide) rfl rfl ?_
  refine V_iload_n hf dJ6_stringSize_0f7a4_2 rfl rfl ?_
  refine V_if_lt (tgt := 11) hf ⟨by omega, by omega⟩ dJ6_stringSize_0f7a4_3 (by decide) (fun h3 => absurd h3 (by omega)) (fun h3 => ?_)
  refine V_iconst hf dJ6_stringSize_0f7a4_6 ?_
  refine V_istore_n (ls2 := [_, _, _, _]) hf dJ6_stringSize_0f7a4_7 rfl (by decide) rfl rfl ?_
  refine V_iload_n hf dJ6_stringSize_0f7a4_8 rfl rfl ?_
  refine V_ineg hf dJ6_stringSize_0f7a4_9 ?_
  refine V_istore_n (ls2 := [_, _, _, _]) hf dJ6_stringSize_0f7a4_10 rfl (by decide) rfl rfl ?_
  refine V_bipush hf dJ6_stringSize_0f7a4_11 (by decide +kernel) ?_
  refine V_istore_n (ls2 := [_, _, _, _]) hf dJ6_stringSize_0f7a4_13 rfl (by decide) rfl rfl ?_
  refine V_iconst hf dJ6_stringSize_0f7a4_14 ?_
  refine V_istore_n (ls2 := [_, _, _, _]) hf dJ6_stringSize_0f7a4_15 rfl (by decide) rfl rfl ?_
  refine V_iload_n hf dJ6_stringSize_0f7a4_16 rfl rfl ?_
  refine V_bipush hf dJ6_stringSize_0f7a4_17 (by decide +kernel) ?_
  refine V_icmp_ge (tgt := 42) hf ⟨by decide, by decide⟩ ⟨by decide, by decide⟩ dJ6_stringSize_0f7a4_19 (by decide) (fun h19 => absurd h19 (by decide)) (fun h19 => ?_)
  refine V_iload_n hf dJ6_stringSize_0f7a4_22 rfl rfl ?_
  refine V_iload_n hf dJ6_stringSize_0f7a4_23 rfl rfl ?_
  refine V_icmp_le (tgt := 31) hf ⟨by omega, by omega⟩ ⟨by decide, by decide⟩ dJ6_stringSize_0f7a4_24 (by decide) (fun g1 => ?_) (fun g1 => ?_)
  rotate_left
  · refine V_iload_n hf dJ6_stringSize_0f7a4_27 rfl rfl ?_
    refine V_iload_n hf dJ6_stringSize_0f7a4_28 rfl rfl ?_
    refine V_iadd hf dJ6_stringSize_0f7a4_29 ?_
    exact B_iret hf he rfl dJ6_stringSize_0f7a4_30 (by decide) (by decide) (by rw [show dl v = [48 + v / 1 % 10] by unfold dl; rw [if_pos (by omega)]]; rfl) rfl
  refine V_bipush hf dJ6_stringSize_0f7a4_31 (by decide +kernel) ?_
  refine V_iload_n hf dJ6_stringSize_0f7a4_33 rfl rfl ?_
  refine V_imul hf dJ6_stringSize_0f7a4_34 ?_
  refine V_istore_n (ls2 := [_, _, _, _]) hf dJ6_stringSize_0f7a4_35 rfl (by decide) rfl rfl ?_
  refine V_iinc (ls2 := [_, _, _, _]) hf dJ6_stringSize_0f7a4_36 (by decide) rfl rfl rfl ?_
  refine V_goto (tgt := 16) hf dJ6_stringSize_0f7a4_39 (by decide) ?_
  refine V_iload_n hf dJ6_stringSize_0f7a4_16 rfl rfl ?_
  refine V_bipush hf dJ6_stringSize_0f7a4_17 (by decide +kernel) ?_
  refine V_icmp_ge (tgt := 42) hf ⟨by decide, by decide⟩ ⟨by decide, by decide⟩ dJ6_stringSize_0f7a4_19 (by decide) (fun h19 => absurd h19 (by decide)) (fun h19 => ?_)
  refine V_iload_n hf dJ6_stringSize_0f7a4_22 rfl rfl ?_
  refine V_iload_n hf dJ6_stringSize_0f7a4_23 rfl rfl ?_
  refine V_icmp_le (tgt := 31) hf ⟨by omega, by omega⟩ ⟨by decide, by decide⟩ dJ6_stringSize_0f7a4_24 (by decide) (fun g2 => ?_) (fun g2 => ?_)
  rotate_left
  · refine V_iload_n hf dJ6_stringSize_0f7a4_27 rfl rfl ?_
    refine V_iload_n hf dJ6_stringSize_0f7a4_28 rfl rfl ?_
    refine V_iadd hf dJ6_stringSize_0f7a4_29 ?_
    exact B_iret hf he rfl dJ6_stringSize_0f7a4_30 (by decide) (by decide) (by rw [show dl v = [48 + v / 10 % 10, 48 + v / 1 % 10] by unfold dl; rw [if_neg (by omega), if_pos (by omega)]]; rfl) rfl
  refine V_bipush hf dJ6_stringSize_0f7a4_31 (by decide +kernel) ?_
  refine V_iload_n hf dJ6_stringSize_0f7a4_33 rfl rfl ?_
  refine V_imul hf dJ6_stringSize_0f7a4_34 ?_
  refine V_istore_n (ls2 := [_, _, _, _]) hf dJ6_stringSize_0f7a4_35 rfl (by decide) rfl rfl ?_
  refine V_iinc (ls2 := [_, _, _, _]) hf dJ6_stringSize_0f7a4_36 (by decide) rfl rfl rfl ?_
  refine V_goto (tgt := 16) hf dJ6_stringSize_0f7a4_39 (by decide) ?_
  refine V_iload_n hf dJ6_stringSize_0f7a4_16 rfl rfl ?_
  refine V_bipush hf dJ6_stringSize_0f7a4_17 (by decide +kernel) ?_
  refine V_icmp_ge (tgt := 42) hf ⟨by decide, by decide⟩ ⟨by decide, by decide⟩ dJ6_stringSize_0f7a4_19 (by decide) (fun h19 => absurd h19 (by decide)) (fun h19 => ?_)
  refine V_iload_n hf dJ6_stringSize_0f7a4_22 rfl rfl ?_
  refine V_iload_n hf dJ6_stringSize_0f7a4_23 rfl rfl ?_
  refine V_icmp_le (tgt := 31) hf ⟨by omega, by omega⟩ ⟨by decide, by decide⟩ dJ6_stringSize_0f7a4_24 (by decide) (fun g3 => ?_) (fun g3 => ?_)
  rotate_left
  · refine V_iload_n hf dJ6_stringSize_0f7a4_27 rfl rfl ?_
    refine V_iload_n hf dJ6_stringSize_0f7a4_28 rfl rfl ?_
    refine V_iadd hf dJ6_stringSize_0f7a4_29 ?_
    exact B_iret hf he rfl dJ6_stringSize_0f7a4_30 (by decide) (by decide) (by rw [show dl v = [48 + v / 100 % 10, 48 + v / 10 % 10, 48 + v / 1 % 10] by unfold dl; rw [if_neg (by omega), if_neg (by omega), if_pos (by omega)]]; rfl) rfl
  refine V_bipush hf dJ6_stringSize_0f7a4_31 (by decide +kernel) ?_
  refine V_iload_n hf dJ6_stringSize_0f7a4_33 rfl rfl ?_
  refine V_imul hf dJ6_stringSize_0f7a4_34 ?_
  refine V_istore_n (ls2 := [_, _, _, _]) hf dJ6_stringSize_0f7a4_35 rfl (by decide) rfl rfl ?_
  refine V_iinc (ls2 := [_, _, _, _]) hf dJ6_stringSize_0f7a4_36 (by decide) rfl rfl rfl ?_
  refine V_goto (tgt := 16) hf dJ6_stringSize_0f7a4_39 (by decide) ?_
  refine V_iload_n hf dJ6_stringSize_0f7a4_16 rfl rfl ?_
  refine V_bipush hf dJ6_stringSize_0f7a4_17 (by decide +kernel) ?_
  refine V_icmp_ge (tgt := 42) hf ⟨by decide, by decide⟩ ⟨by decide, by decide⟩ dJ6_stringSize_0f7a4_19 (by decide) (fun h19 => absurd h19 (by decide)) (fun h19 => ?_)
  refine V_iload_n hf dJ6_stringSize_0f7a4_22 rfl rfl ?_
  refine V_iload_n hf dJ6_stringSize_0f7a4_23 rfl rfl ?_
  refine V_icmp_le (tgt := 31) hf ⟨by omega, by omega⟩ ⟨by decide, by decide⟩ dJ6_stringSize_0f7a4_24 (by decide) (fun g4 => ?_) (fun g4 => ?_)
  rotate_left
  · refine V_iload_n hf dJ6_stringSize_0f7a4_27 rfl rfl ?_
    refine V_iload_n hf dJ6_stringSize_0f7a4_28 rfl rfl ?_
    refine V_iadd hf dJ6_stringSize_0f7a4_29 ?_
    exact B_iret hf he rfl dJ6_stringSize_0f7a4_30 (by decide) (by decide) (by rw [show dl v = [48 + v / 1000 % 10, 48 + v / 100 % 10, 48 + v / 10 % 10, 48 + v / 1 % 10] by unfold dl; rw [if_neg (by omega), if_neg (by omega), if_neg (by omega), if_pos (by omega)]]; rfl) rfl
  refine V_bipush hf dJ6_stringSize_0f7a4_31 (by decide +kernel) ?_
  refine V_iload_n hf dJ6_stringSize_0f7a4_33 rfl rfl ?_
  refine V_imul hf dJ6_stringSize_0f7a4_34 ?_
  refine V_istore_n (ls2 := [_, _, _, _]) hf dJ6_stringSize_0f7a4_35 rfl (by decide) rfl rfl ?_
  refine V_iinc (ls2 := [_, _, _, _]) hf dJ6_stringSize_0f7a4_36 (by decide) rfl rfl rfl ?_
  refine V_goto (tgt := 16) hf dJ6_stringSize_0f7a4_39 (by decide) ?_
  refine V_iload_n hf dJ6_stringSize_0f7a4_16 rfl rfl ?_
  refine V_bipush hf dJ6_stringSize_0f7a4_17 (by decide +kernel) ?_
  refine V_icmp_ge (tgt := 42) hf ⟨by decide, by decide⟩ ⟨by decide, by decide⟩ dJ6_stringSize_0f7a4_19 (by decide) (fun h19 => absurd h19 (by decide)) (fun h19 => ?_)
  refine V_iload_n hf dJ6_stringSize_0f7a4_22 rfl rfl ?_
  refine V_iload_n hf dJ6_stringSize_0f7a4_23 rfl rfl ?_
  refine V_icmp_le (tgt := 31) hf ⟨by omega, by omega⟩ ⟨by decide, by decide⟩ dJ6_stringSize_0f7a4_24 (by decide) (fun g5 => ?_) (fun g5 => ?_)
  rotate_left
  · refine V_iload_n hf dJ6_stringSize_0f7a4_27 rfl rfl ?_
    refine V_iload_n hf dJ6_stringSize_0f7a4_28 rfl rfl ?_
    refine V_iadd hf dJ6_stringSize_0f7a4_29 ?_
    exact B_iret hf he rfl dJ6_stringSize_0f7a4_30 (by decide) (by decide) (by rw [show dl v = [48 + v / 10000 % 10, 48 + v / 1000 % 10, 48 + v / 100 % 10, 48 + v / 10 % 10, 48 + v / 1 % 10] by unfold dl; rw [if_neg (by omega), if_neg (by omega), if_neg (by omega), if_neg (by omega), if_pos (by omega)]]; rfl) rfl
  refine V_bipush hf dJ6_stringSize_0f7a4_31 (by decide +kernel) ?_
  refine V_iload_n hf dJ6_stringSize_0f7a4_33 rfl rfl ?_
  refine V_imul hf dJ6_stringSize_0f7a4_34 ?_
  refine V_istore_n (ls2 := [_, _, _, _]) hf dJ6_stringSize_0f7a4_35 rfl (by decide) rfl rfl ?_
  refine V_iinc (ls2 := [_, _, _, _]) hf dJ6_stringSize_0f7a4_36 (by decide) rfl rfl rfl ?_
  refine V_goto (tgt := 16) hf dJ6_stringSize_0f7a4_39 (by decide) ?_
  refine V_iload_n hf dJ6_stringSize_0f7a4_16 rfl rfl ?_
  refine V_bipush hf dJ6_stringSize_0f7a4_17 (by decide +kernel) ?_
  refine V_icmp_ge (tgt := 42) hf ⟨by decide, by decide⟩ ⟨by decide, by decide⟩ dJ6_stringSize_0f7a4_19 (by decide) (fun h19 => absurd h19 (by decide)) (fun h19 => ?_)
  refine V_iload_n hf dJ6_stringSize_0f7a4_22 rfl rfl ?_
  refine V_iload_n hf dJ6_stringSize_0f7a4_23 rfl rfl ?_
  refine V_icmp_le (tgt := 31) hf ⟨by omega, by omega⟩ ⟨by decide, by decide⟩ dJ6_stringSize_0f7a4_24 (by decide) (fun g6 => ?_) (fun g6 => ?_)
  rotate_left
  · refine V_iload_n hf dJ6_stringSize_0f7a4_27 rfl rfl ?_
    refine V_iload_n hf dJ6_stringSize_0f7a4_28 rfl rfl ?_
    refine V_iadd hf dJ6_stringSize_0f7a4_29 ?_
    exact B_iret hf he rfl dJ6_stringSize_0f7a4_30 (by decide) (by decide) (by rw [show dl v = [48 + v / 100000 % 10, 48 + v / 10000 % 10, 48 + v / 1000 % 10, 48 + v / 100 % 10, 48 + v / 10 % 10, 48 + v / 1 % 10] by unfold dl; rw [if_neg (by omega), if_neg (by omega), if_neg (by omega), if_neg (by omega), if_neg (by omega), if_pos (by omega)]]; rfl) rfl
  refine V_bipush hf dJ6_stringSize_0f7a4_31 (by decide +kernel) ?_
  refine V_iload_n hf dJ6_stringSize_0f7a4_33 rfl rfl ?_
  refine V_imul hf dJ6_stringSize_0f7a4_34 ?_
  refine V_istore_n (ls2 := [_, _, _, _]) hf dJ6_stringSize_0f7a4_35 rfl (by decide) rfl rfl ?_
  refine V_iinc (ls2 := [_, _, _, _]) hf dJ6_stringSize_0f7a4_36 (by decide) rfl rfl rfl ?_
  refine V_goto (tgt := 16) hf dJ6_stringSize_0f7a4_39 (by decide) ?_
  refine V_iload_n hf dJ6_stringSize_0f7a4_16 rfl rfl ?_
  refine V_bipush hf dJ6_stringSize_0f7a4_17 (by decide +kernel) ?_
  refine V_icmp_ge (tgt := 42) hf ⟨by decide, by decide⟩ ⟨by decide, by decide⟩ dJ6_stringSize_0f7a4_19 (by decide) (fun h19 => absurd h19 (by decide)) (fun h19 => ?_)
  refine V_iload_n hf dJ6_stringSize_0f7a4_22 rfl rfl ?_
  refine V_iload_n hf dJ6_stringSize_0f7a4_23 rfl rfl ?_
  refine V_icmp_le (tgt := 31) hf ⟨by omega, by omega⟩ ⟨by decide, by decide⟩ dJ6_stringSize_0f7a4_24 (by decide) (fun g7 => ?_) (fun g7 => ?_)
  rotate_left
  · refine V_iload_n hf dJ6_stringSize_0f7a4_27 rfl rfl ?_
    refine V_iload_n hf dJ6_stringSize_0f7a4_28 rfl rfl ?_
    refine V_iadd hf dJ6_stringSize_0f7a4_29 ?_
    exact B_iret hf he rfl dJ6_stringSize_0f7a4_30 (by decide) (by decide) (by rw [show dl v = [48 + v / 1000000 % 10, 48 + v / 100000 % 10, 48 + v / 10000 % 10, 48 + v / 1000 % 10, 48 + v / 100 % 10, 48 + v / 10 % 10, 48 + v / 1 % 10] by unfold dl; rw [if_neg (by omega), if_neg (by omega), if_neg (by omega), if_neg (by omega), if_neg (by omega), if_neg (by omega), if_pos (by omega)]]; rfl) rfl
  refine V_bipush hf dJ6_stringSize_0f7a4_31 (by decide +kernel) ?_
  refine V_iload_n hf dJ6_stringSize_0f7a4_33 rfl rfl ?_
  refine V_imul hf dJ6_stringSize_0f7a4_34 ?_
  refine V_istore_n (ls2 := [_, _, _, _]) hf dJ6_stringSize_0f7a4_35 rfl (by decide) rfl rfl ?_
  refine V_iinc (ls2 := [_, _, _, _]) hf dJ6_stringSize_0f7a4_36 (by decide) rfl rfl rfl ?_
  refine V_goto (tgt := 16) hf dJ6_stringSize_0f7a4_39 (by decide) ?_
  refine V_iload_n hf dJ6_stringSize_0f7a4_16 rfl rfl ?_
  refine V_bipush hf dJ6_stringSize_0f7a4_17 (by decide +kernel) ?_
  refine V_icmp_ge (tgt := 42) hf ⟨by decide, by decide⟩ ⟨by decide, by decide⟩ dJ6_stringSize_0f7a4_19 (by decide) (fun h19 => absurd h19 (by decide)) (fun h19 => ?_)
  refine V_iload_n hf dJ6_stringSize_0f7a4_22 rfl rfl ?_
  refine V_iload_n hf dJ6_stringSize_0f7a4_23 rfl rfl ?_
  refine V_icmp_le (tgt := 31) hf ⟨by omega, by omega⟩ ⟨by decide, by decide⟩ dJ6_stringSize_0f7a4_24 (by decide) (fun g8 => ?_) (fun g8 => ?_)
  rotate_left
  · refine V_iload_n hf dJ6_stringSize_0f7a4_27 rfl rfl ?_
    refine V_iload_n hf dJ6_stringSize_0f7a4_28 rfl rfl ?_
    refine V_iadd hf dJ6_stringSize_0f7a4_29 ?_
    exact B_iret hf he rfl dJ6_stringSize_0f7a4_30 (by decide) (by decide) (by rw [show dl v = [48 + v / 10000000 % 10, 48 + v / 1000000 % 10, 48 + v / 100000 % 10, 48 + v / 10000 % 10, 48 + v / 1000 % 10, 48 + v / 100 % 10, 48 + v / 10 % 10, 48 + v / 1 % 10] by unfold dl; rw [if_neg (by omega), if_neg (by omega), if_neg (by omega), if_neg (by omega), if_neg (by omega), if_neg (by omega), if_neg (by omega), if_pos (by omega)]]; rfl) rfl
  refine V_bipush hf dJ6_stringSize_0f7a4_31 (by decide +kernel) ?_
  refine V_iload_n hf dJ6_stringSize_0f7a4_33 rfl rfl ?_
  refine V_imul hf dJ6_stringSize_0f7a4_34 ?_
  refine V_istore_n (ls2 := [_, _, _, _]) hf dJ6_stringSize_0f7a4_35 rfl (by decide) rfl rfl ?_
  refine V_iinc (ls2 := [_, _, _, _]) hf dJ6_stringSize_0f7a4_36 (by decide) rfl rfl rfl ?_
  refine V_goto (tgt := 16) hf dJ6_stringSize_0f7a4_39 (by decide) ?_
  refine V_iload_n hf dJ6_stringSize_0f7a4_16 rfl rfl ?_
  refine V_bipush hf dJ6_stringSize_0f7a4_17 (by decide +kernel) ?_
  refine V_icmp_ge (tgt := 42) hf ⟨by decide, by decide⟩ ⟨by decide, by decide⟩ dJ6_stringSize_0f7a4_19 (by decide) (fun h19 => absurd h19 (by decide)) (fun h19 => ?_)
  refine V_iload_n hf dJ6_stringSize_0f7a4_22 rfl rfl ?_
  refine V_iload_n hf dJ6_stringSize_0f7a4_23 rfl rfl ?_
  refine V_icmp_le (tgt := 31) hf ⟨by omega, by omega⟩ ⟨by decide, by decide⟩ dJ6_stringSize_0f7a4_24 (by decide) (fun g9 => ?_) (fun g9 => ?_)
  · exact absurd g9 (by omega)
  · refine V_iload_n hf dJ6_stringSize_0f7a4_27 rfl rfl ?_
    refine V_iload_n hf dJ6_stringSize_0f7a4_28 rfl rfl ?_
    refine V_iadd hf dJ6_stringSize_0f7a4_29 ?_
    exact B_iret hf he rfl dJ6_stringSize_0f7a4_30 (by decide) (by decide) (by rw [show dl v = [48 + v / 100000000 % 10, 48 + v / 10000000 % 10, 48 + v / 1000000 % 10, 48 + v / 100000 % 10, 48 + v / 10000 % 10, 48 + v / 1000 % 10, 48 + v / 100 % 10, 48 + v / 10 % 10, 48 + v / 1 % 10] by unfold dl; rw [if_neg (by omega), if_neg (by omega), if_neg (by omega), if_neg (by omega), if_neg (by omega), if_neg (by omega), if_neg (by omega), if_neg (by omega)]]; rfl) rfl

