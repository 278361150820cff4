/-! the reference: nested loops -/

set_option maxHeartbeats 4000000 in
set_option maxRecDepth 100000 in
theorem d_barn {l : Launch} {D : va_G} {K : Nat → ClassId} {ad : Adr} (hl0 : l.stackTraces = false) (σ : Mem) (hR : Rng σ) (hN : NI (σ 0 41)) (s : Int) (hs : inR s) (p : Int) (hp : inR p) : Cb l D K ad yX9_barnacleRanked (.code yX9_barnacleRanked cX9_barnacleRanked 7 (some .int)) 3 0 0 σ [.ref (ad 0 40), .int (iN s), .int (iN p)] (.inl (some (.int (iN (mbarn (σ 0 41) s p))))) σ := by
  refine Cb.of (own := RX9) (ls0 := [some (.ref (ad 0 40)), some (.int (iN s)), some (.int (iN p)), none, none, none, none]) hl0 (by decide) rfl (Nat.le_of_ble_eq_true rfl) rfl ?_
  intro X hX1 hX2 hX3 hf he hh
  subst hX1 hX2 hX3
  have n0 := hN.n0
  have n1 := hN.n1
  have n2 := hN.n2
  have n3 := hN.n3
  have inner : ∀ k : Int, 0 ≤ k → k < σ 0 41 1 → B X ad σ 89 [some (.ref (ad 0 40)), some (.int (iN (s))), some (.int (iN (p))), some (.int (iN (k))), some (.int (iN (sumI (mbaF (σ 0 41) s k) (σ 0 41 1)))), none, none] [] 0 0 → ∀ (n : Nat) (j : Int), 0 ≤ j → j ≤ σ 0 41 1 → (σ 0 41 1 - j).toNat < n → B X ad σ 18 [some (.ref (ad 0 40)), some (.int (iN (s))), some (.int (iN (p))), some (.int (iN (k))), some (.int (iN (sumI (mbaF (σ 0 41) s k) j))), some (.int (iN (j))), none] [] 0 0 := by
    intro k hk0 hk1 kont n
    induction n with
    | zero => intros; omega
    | succ n ih2 =>
      intro j hj0 hj1 hn
      refine V_iload hf dX9_barnacleRanked_18 rfl ?_
      refine V_aload_n hf dX9_barnacleRanked_20 rfl rfl ?_
      refine B_get hf l01 rfl fl_X9_9_12 rfl dX9_barnacleRanked_21 ?_
      refine V_iconst hf dX9_barnacleRanked_24 ?_
      refine B_iald hf l01 (fun _ => rfl) (by first | exact hR _ _ _ (by decide) | exact ⟨by omega, by omega⟩) (by omega) (by omega) dX9_barnacleRanked_25 ?_
      refine V_icmp_ge (tgt := 89) hf (by first | exact hR _ _ _ (by decide) | exact ⟨by omega, by omega⟩) (by first | exact hR _ _ _ (by decide) | exact ⟨by omega, by omega⟩) dX9_barnacleRanked_26 (by decide) (fun h26 => ?_) (fun h26 => ?_)
      · refine V_fg (ls2 := [some _, some _, some _, some _, some _, none, none]) ⟨rfl, rfl, rfl, rfl, rfl, trivial⟩ ?_
        rw [show j = σ 0 41 1 by omega]
        exact kont
      · have g1 : 1 ≤ mgr (σ 0 41) j ∧ mgr (σ 0 41) j ≤ 9 := (hN.ba j hj0 (by omega)).2
        have g2 : 1 ≤ mgr (σ 0 41) k ∧ mgr (σ 0 41) k ≤ 9 := (hN.ba k hk0 (by omega)).2
        refine V_aload_n hf dX9_barnacleRanked_29 rfl rfl ?_
        refine V_iload hf dX9_barnacleRanked_30 rfl ?_
        refine B_callVi hf (As := [_]) (d_gr hl0 σ hR (j) ⟨by omega, by omega⟩) cv_X9_85 l01 rfl rfl rfl (Nat.le_of_ble_eq_true rfl) ⟨by decide, by decide, by decide, by decide⟩ dX9_barnacleRanked_32 ?_
        refine V_aload_n hf dX9_barnacleRanked_35 rfl rfl ?_
        refine V_iload_n hf dX9_barnacleRanked_36 rfl rfl ?_
        refine B_callVi hf (As := [_]) (d_gr hl0 σ hR (k) ⟨by omega, by omega⟩) cv_X9_85 l01 rfl rfl rfl (Nat.le_of_ble_eq_true rfl) ⟨by decide, by decide, by decide, by decide⟩ dX9_barnacleRanked_37 ?_
        refine V_isub hf dX9_barnacleRanked_40 ?_
        refine V_istore (ls2 := [_, _, _, _, _, _, _]) hf dX9_barnacleRanked_41 (by decide) rfl rfl ?_
        refine V_iload hf dX9_barnacleRanked_43 rfl ?_
        refine V_aload_n hf dX9_barnacleRanked_45 rfl rfl ?_
        refine B_get hf l01 rfl fl_X9_9_12 rfl dX9_barnacleRanked_46 ?_
        refine V_iload hf dX9_barnacleRanked_49 rfl ?_
        refine B_callSi hf (As := [_]) (d_barnacleAtPlace hl0 σ (j)) cvs_X9_70 rfl (Nat.le_of_ble_eq_true rfl) ⟨by decide, by decide, by decide, by decide⟩ dX9_barnacleRanked_51 ?_
        refine B_iald hf l01 (fun _ => rfl) ⟨by omega, by omega⟩ (by omega) (by omega) dX9_barnacleRanked_54 ?_
        refine V_iload_n hf dX9_barnacleRanked_55 rfl rfl ?_
        refine V_icmp_ne (tgt := 79) hf (by first | exact hR _ _ _ (by decide) | exact ⟨by omega, by omega⟩) (by first | exact hR _ _ _ (by decide) | exact ⟨by omega, by omega⟩) dX9_barnacleRanked_56 (by decide) (fun h56 => ?_) (fun h56 => ?_)
        · refine V_iconst hf dX9_barnacleRanked_79 ?_
          refine V_iadd hf dX9_barnacleRanked_80 ?_
          refine V_istore (ls2 := [_, _, _, _, _, _, _]) hf dX9_barnacleRanked_81 (by decide) rfl rfl ?_
          refine V_iinc (ls2 := [_, _, _, _, _, _, _]) hf dX9_barnacleRanked_83 (by decide) rfl rfl rfl ?_
          refine V_goto (tgt := 18) hf dX9_barnacleRanked_86 (by decide) ?_
          refine V_fg (ls2 := [some _, some _, some _, some _, some _, some _, none]) ⟨rfl, rfl, rfl, rfl, rfl, rfl, trivial⟩ ?_
          have bk := ih2 (j + 1) (by omega) (by omega) (by omega)
          rw [sumI_s (mbaF (σ 0 41) s k) hj0] at bk
          first | (rw [show (mbaF (σ 0 41) s k) j = 1 from if_pos ⟨by omega, by omega⟩] at bk; exact bk) | (rw [show (mbaF (σ 0 41) s k) j = 0 from if_neg (fun q => by obtain ⟨q1, q2⟩ := q; omega)] at bk; exact bk)
        · refine V_iload hf dX9_barnacleRanked_59 rfl ?_
          refine V_if_gt (tgt := 75) hf ⟨by omega, by omega⟩ dX9_barnacleRanked_61 (by decide) (fun h61 => ?_) (fun h61 => ?_)
          · refine V_iconst hf dX9_barnacleRanked_75 ?_
            refine V_goto (tgt := 80) hf dX9_barnacleRanked_76 (by decide) ?_
            refine V_iadd hf dX9_barnacleRanked_80 ?_
            refine V_istore (ls2 := [_, _, _, _, _, _, _]) hf dX9_barnacleRanked_81 (by decide) rfl rfl ?_
            refine V_iinc (ls2 := [_, _, _, _, _, _, _]) hf dX9_barnacleRanked_83 (by decide) rfl rfl rfl ?_
            refine V_goto (tgt := 18) hf dX9_barnacleRanked_86 (by decide) ?_
            refine V_fg (ls2 := [some _, some _, some _, some _, some _, some _, none]) ⟨rfl, rfl, rfl, rfl, rfl, rfl, trivial⟩ ?_
            have bk := ih2 (j + 1) (by omega) (by omega) (by omega)
            rw [sumI_s (mbaF (σ 0 41) s k) hj0] at bk
            first | (rw [show (mbaF (σ 0 41) s k) j = 1 from if_pos ⟨by omega, by omega⟩] at bk; exact bk) | (rw [show (mbaF (σ 0 41) s k) j = 0 from if_neg (fun q => by obtain ⟨q1, q2⟩ := q; omega)] at bk; exact bk)
          · refine V_iload hf dX9_barnacleRanked_64 rfl ?_
            refine V_if_ne (tgt := 79) hf ⟨by omega, by omega⟩ dX9_barnacleRanked_66 (by decide) (fun h66 => ?_) (fun h66 => ?_)
            · refine V_iconst hf dX9_barnacleRanked_79 ?_
              refine V_iadd hf dX9_barnacleRanked_80 ?_
              refine V_istore (ls2 := [_, _, _, _, _, _, _]) hf dX9_barnacleRanked_81 (by decide) rfl rfl ?_
              refine V_iinc (ls2 := [_, _, _, _, _, _, _]) hf dX9_barnacleRanked_83 (by decide) rfl rfl rfl ?_
              refine V_goto (tgt := 18) hf dX9_barnacleRanked_86 (by decide) ?_
              refine V_fg (ls2 := [some _, some _, some _, some _, some _, some _, none]) ⟨rfl, rfl, rfl, rfl, rfl, rfl, trivial⟩ ?_
              have bk := ih2 (j + 1) (by omega) (by omega) (by omega)
              rw [sumI_s (mbaF (σ 0 41) s k) hj0] at bk
              first | (rw [show (mbaF (σ 0 41) s k) j = 1 from if_pos ⟨by omega, by omega⟩] at bk; exact bk) | (rw [show (mbaF (σ 0 41) s k) j = 0 from if_neg (fun q => by obtain ⟨q1, q2⟩ := q; omega)] at bk; exact bk)
            · refine V_iload hf dX9_barnacleRanked_69 rfl ?_
              refine V_iload_n hf dX9_barnacleRanked_71 rfl rfl ?_
              refine V_icmp_ge (tgt := 79) hf (by first | exact hR _ _ _ (by decide) | exact ⟨by omega, by omega⟩) (by first | exact hR _ _ _ (by decide) | exact ⟨by omega, by omega⟩) dX9_barnacleRanked_72 (by decide) (fun h72 => ?_) (fun h72 => ?_)
              · refine V_iconst hf dX9_barnacleRanked_79 ?_
                refine V_iadd hf dX9_barnacleRanked_80 ?_
                refine V_istore (ls2 := [_, _, _, _, _, _, _]) hf dX9_barnacleRanked_81 (by decide) rfl rfl ?_
                refine V_iinc (ls2 := [_, _, _, _, _, _, _]) hf dX9_barnacleRanked_83 (by decide) rfl rfl rfl ?_
                refine V_goto (tgt := 18) hf dX9_barnacleRanked_86 (by decide) ?_
                refine V_fg (ls2 := [some _, some _, some _, some _, some _, some _, none]) ⟨rfl, rfl, rfl, rfl, rfl, rfl, trivial⟩ ?_
                have bk := ih2 (j + 1) (by omega) (by omega) (by omega)
                rw [sumI_s (mbaF (σ 0 41) s k) hj0] at bk
                first | (rw [show (mbaF (σ 0 41) s k) j = 1 from if_pos ⟨by omega, by omega⟩] at bk; exact bk) | (rw [show (mbaF (σ 0 41) s k) j = 0 from if_neg (fun q => by obtain ⟨q1, q2⟩ := q; omega)] at bk; exact bk)
              · refine V_iconst hf dX9_barnacleRanked_75 ?_
                refine V_goto (tgt := 80) hf dX9_barnacleRanked_76 (by decide) ?_
                refine V_iadd hf dX9_barnacleRanked_80 ?_
                refine V_istore (ls2 := [_, _, _, _, _, _, _]) hf dX9_barnacleRanked_81 (by decide) rfl rfl ?_
                refine V_iinc (ls2 := [_, _, _, _, _, _, _]) hf dX9_barnacleRanked_83 (by decide) rfl rfl rfl ?_
                refine V_goto (tgt := 18) hf dX9_barnacleRanked_86 (by decide) ?_
                refine V_fg (ls2 := [some _, some _, some _, some _, some _, some _, none]) ⟨rfl, rfl, rfl, rfl, rfl, rfl, trivial⟩ ?_
                have bk := ih2 (j + 1) (by omega) (by omega) (by omega)
                rw [sumI_s (mbaF (σ 0 41) s k) hj0] at bk
                first | (rw [show (mbaF (σ 0 41) s k) j = 1 from if_pos ⟨by omega, by omega⟩] at bk; exact bk) | (rw [show (mbaF (σ 0 41) s k) j = 0 from if_neg (fun q => by obtain ⟨q1, q2⟩ := q; omega)] at bk; exact bk)
  have loop : ∀ (n : Nat) (k : Int), 0 ≤ k → k ≤ σ 0 41 1 → (∀ j : Int, 0 ≤ j → j < k → ¬ (fun b => σ 0 41 (26 + 2 * b) = s ∧ sumI (mbaF (σ 0 41) s b) (σ 0 41 1) = p) j) → (σ 0 41 1 - k).toNat < n → B X ad σ 2 [some (.ref (ad 0 40)), some (.int (iN (s))), some (.int (iN (p))), some (.int (iN (k))), none, none, none] [] 0 0 := by
    intro n
    induction n with
    | zero => intros; omega
    | succ n ih =>
      intro k hk0 hk1 hno hn
      refine V_iload_n hf dX9_barnacleRanked_2 rfl rfl ?_
      refine V_aload_n hf dX9_barnacleRanked_3 rfl rfl ?_
      refine B_get hf l01 rfl fl_X9_9_12 rfl dX9_barnacleRanked_4 ?_
      refine V_iconst hf dX9_barnacleRanked_7 ?_
      refine B_iald hf l01 (fun _ => rfl) (by first | exact hR _ _ _ (by decide) | exact ⟨by omega, by omega⟩) (by omega) (by omega) dX9_barnacleRanked_8 ?_
      refine V_icmp_ge (tgt := 116) hf (by first | exact hR _ _ _ (by decide) | exact ⟨by omega, by omega⟩) (by first | exact hR _ _ _ (by decide) | exact ⟨by omega, by omega⟩) dX9_barnacleRanked_9 (by decide) (fun h9 => ?_) (fun h9 => ?_)
      · refine V_iconst hf dX9_barnacleRanked_116 ?_
        exact B_iret hf he rfl dX9_barnacleRanked_117 (by decide) (by decide) (fst_no (fun j h0 h1 => hno j h0 (by omega))).symm rfl
      · refine V_iconst hf dX9_barnacleRanked_12 ?_
        refine V_istore (ls2 := [_, _, _, _, _, _, _]) hf dX9_barnacleRanked_13 (by decide) rfl rfl ?_
        refine V_iconst hf dX9_barnacleRanked_15 ?_
        refine V_istore (ls2 := [_, _, _, _, _, _, _]) hf dX9_barnacleRanked_16 (by decide) rfl rfl ?_
        refine inner k hk0 (by omega) ?_ ((σ 0 41 1).toNat + 1) 0 (by omega) (by omega) (by omega)
        refine V_aload_n hf dX9_barnacleRanked_89 rfl rfl ?_
        refine B_get hf l01 rfl fl_X9_9_12 rfl dX9_barnacleRanked_90 ?_
        refine V_iload_n hf dX9_barnacleRanked_93 rfl rfl ?_
        refine B_callSi hf (As := [_]) (d_barnacleAtPlace hl0 σ (k)) cvs_X9_70 rfl (Nat.le_of_ble_eq_true rfl) ⟨by decide, by decide, by decide, by decide⟩ dX9_barnacleRanked_94 ?_
        refine B_iald hf l01 (fun _ => rfl) ⟨by omega, by omega⟩ (by omega) (by omega) dX9_barnacleRanked_97 ?_
        refine V_iload_n hf dX9_barnacleRanked_98 rfl rfl ?_
        refine V_icmp_ne (tgt := 110) hf (by first | exact hR _ _ _ (by decide) | exact ⟨by omega, by omega⟩) (by first | exact hR _ _ _ (by decide) | exact ⟨by omega, by omega⟩) dX9_barnacleRanked_99 (by decide) (fun h99 => ?_) (fun h99 => ?_)
        · refine V_iinc (ls2 := [_, _, _, _, _, _, _]) hf dX9_barnacleRanked_110 (by decide) rfl rfl rfl ?_
          refine V_goto (tgt := 2) hf dX9_barnacleRanked_113 (by decide) ?_
          refine V_fg (ls2 := [some _, some _, some _, some _, none, none, none]) ⟨rfl, rfl, rfl, rfl, trivial⟩ ?_
          refine ih (k + 1) (by omega) (by omega) (fun j h0 h1 => ?_) (by omega)
          by_cases hj : j = k
          · subst hj
            first | exact hz | (intro hp; first | exact absurd hp (by omega) | exact absurd hp.1 (by omega) | exact absurd hp.2 (by omega))
          · exact hno j h0 (by omega)
        · refine V_iload hf dX9_barnacleRanked_102 rfl ?_
          refine V_iload_n hf dX9_barnacleRanked_104 rfl rfl ?_
          refine V_icmp_ne (tgt := 110) hf (by have := mrk_r (f := mbaF (σ 0 41) s k) (n := σ 0 41 1) (by omega) (by omega) (fun _ => mbaF_r); exact ⟨by omega, by omega⟩) (by first | exact hR _ _ _ (by decide) | exact ⟨by omega, by omega⟩) dX9_barnacleRanked_105 (by decide) (fun h105 => ?_) (fun h105 => ?_)
          · refine V_iinc (ls2 := [_, _, _, _, _, _, _]) hf dX9_barnacleRanked_110 (by decide) rfl rfl rfl ?_
            refine V_goto (tgt := 2) hf dX9_barnacleRanked_113 (by decide) ?_
            refine V_fg (ls2 := [some _, some _, some _, some _, none, none, none]) ⟨rfl, rfl, rfl, rfl, trivial⟩ ?_
            refine ih (k + 1) (by omega) (by omega) (fun j h0 h1 => ?_) (by omega)
            by_cases hj : j = k
            · subst hj
              first | exact hz | (intro hp; first | exact absurd hp (by omega) | exact absurd hp.1 (by omega) | exact absurd hp.2 (by omega))
            · exact hno j h0 (by omega)
          · refine V_iload_n hf dX9_barnacleRanked_108 rfl rfl ?_
            exact B_iret hf he rfl dX9_barnacleRanked_109 (by decide) (by decide) (fst_yes hk0 (by omega) ⟨by omega, by omega⟩ hno).symm rfl
  refine V_iconst hf dX9_barnacleRanked_0 ?_
  refine V_istore_n (ls2 := [_, _, _, _, _, _, _]) hf dX9_barnacleRanked_1 rfl (by decide) rfl rfl ?_
  exact loop ((σ 0 41 1).toNat + 1) 0 (by omega) (by omega) (fun j h0 h1 => by omega) (by omega)
