/-! the law's steps of their own kind: a truth, fractions, the line -/
theorem n64_no {r : UInt64} (h : vf_n64 r) : Jvm.FP.Core.val64 r ≠ .nan := by
  unfold vf_n64 at h
  rw [UInt64.le_iff_toNat_le, UInt64.toNat_and] at h
  have h : r.toNat &&& 9223372036854775807 ≤ 9218868437227405312 := h
  rw [show (9223372036854775807 : Nat) = 2 ^ 63 - 1 by decide, Nat.and_two_pow_sub_one_eq_mod] at h
  have hr := r.toNat_lt
  unfold Jvm.FP.Core.val64 Jvm.FP.Core.decode
  by_cases hE : Jvm.FP.Core.fieldE Jvm.FP.Core.b64 r.toNat = Jvm.FP.Core.b64.exps - 1
  · have hE' : r.toNat / 4503599627370496 % 2048 = 2047 := hE
    have hT : Jvm.FP.Core.fieldT Jvm.FP.Core.b64 r.toNat = 0 := by
      show r.toNat % 4503599627370496 = 0
      omega
    rw [if_pos hE, if_pos hT]
    intro q
    cases q
  · rw [if_neg hE]
    split <;> (intro q; cases q)
theorem dcmp_n64 {r : UInt64} (h : vf_n64 r) : Op.cmpValue (FP.dcmp r r) .l = iN 0 := by
  rw [show FP.dcmp r r = some .eq from Jvm.FP.Core.dcmp_self (n64_no h)]
  rfl
/-- a value's bits in the law's cell -/
def dnD (w : Value) : Int := match w with
  | .double d => (d.toNat : Int)
  | _ => 0
def dnF (w : Value) : Int := match w with
  | .float d => ((FP.f2d d).toNat : Int)
  | _ => 0
set_option maxHeartbeats 4000000 in
set_option maxRecDepth 100000 in
theorem la_isOffered {X : Cx} {ad : Adr} {σ : Mem} {b L : Nat} {xs : Nat → Int32} {i Bd : Int} {cs ss : Nat} (hf : Cf X RL cL_law 9 room_1) (hl0 : (xl X).stackTraces = false) (hsc : Sc X b L xs) (hL : L ≤ 2048) (hi : 0 ≤ i ∧ i + 4 ≤ L) (hB : Bd ≤ 40000000) (h : INV σ Bd) (hcs : cs + 500 ≤ 603072 ∧ ss + 1500 ≤ 7182441) (kk : Kx X b i Bd cs ss) : B X ad σ 998 (lsB ad b i) [] cs ss := by
  obtain ⟨oc, k, v, σ1, hC, hO, hv, hk, r, σ3, hr, hM, h8, hrv, hI⟩ := st_isOff2 (D := xD X) (K := xK X) (ad := ad) hl0 h _ (iN_self_r (xs (i + 1).toNat))
  have hU := u_isOffered hl0 _ hC hO hv
  refine V_aload_n hf dL_law_998 rfl rfl ?_
  refine V_aload_n hf dL_law_999 rfl rfl ?_
  refine V_iload hf dL_law_1000 rfl ?_
  refine V_iconst hf dL_law_1002 ?_
  refine V_iadd hf dL_law_1003 ?_
  refine V_sld hf hsc ⟨by omega, by omega⟩ (by omega) (by omega) dL_law_1004 ?_
  refine V_aload_n hf dL_law_1005 rfl rfl ?_
  refine B_callH hf (As := [_, _, _]) (st := []) hU ch_L_220 rfl (Nat.le_of_ble_eq_true rfl) ⟨(Nat.le_of_ble_eq_true rfl), (Nat.le_of_ble_eq_true rfl), by show _ ≤ 603072; omega, by show _ ≤ 7182441; omega⟩ dL_law_1006 ?_
  refine V_istore (ls2 := [_, _, _, _, _, _, _, _, _]) hf dL_law_1009 (by decide) rfl rfl ?_
  refine V_aload_n hf dL_law_1011 rfl rfl ?_
  refine V_aload_n hf dL_law_1012 rfl rfl ?_
  refine V_iload hf dL_law_1013 rfl ?_
  refine V_iconst hf dL_law_1015 ?_
  refine V_iadd hf dL_law_1016 ?_
  refine V_sld hf hsc ⟨by omega, by omega⟩ (by omega) (by omega) dL_law_1017 ?_
  refine B_callVi hf (As := [_]) hM cv_L_222 l01 rfl rfl rfl (Nat.le_of_ble_eq_true rfl) ⟨(Nat.le_of_ble_eq_true rfl), (Nat.le_of_ble_eq_true rfl), by show _ ≤ 603072; omega, by show _ ≤ 7182441; omega⟩ dL_law_1018 ?_
  refine V_istore (ls2 := [_, _, _, _, _, _, _, _, _]) hf dL_law_1021 (by decide) rfl rfl ?_
  refine V_aload_n hf dL_law_1023 rfl rfl ?_
  refine B_callVi hf (As := []) (d_thrown hl0 σ3 hI.r) cv_L_178 l01 rfl rfl rfl (Nat.le_of_ble_eq_true rfl) ⟨Nat.le_of_ble_eq_true rfl, Nat.le_of_ble_eq_true rfl, by show _ ≤ 603072; omega, by show _ ≤ 7182441; omega⟩ dL_law_1024 ?_
  rw [h8]
  refine V_iload hf dL_law_1027 rfl ?_
  refine V_icmp_eq (tgt := 1034) hf hk hk dL_law_1029 (by decide) (fun _ => ?_) (fun q => absurd rfl q)
  refine V_iload hf dL_law_1034 rfl ?_
  have K2 : B X ad σ3 3108 (lsB ad b i) [] (cs + 1 + 0 + 0) (ss + 6 + 0 + 0) := V_wide (by omega) (by omega) (kk ad σ3 hI)
  refine V_if_ne (tgt := 1058) hf hk dL_law_1036 (by decide) (fun hz => ?_) (fun hz => ?_)
  · refine V_goto (tgt := 3108) hf dL_law_1058 (by decide) ?_
    exact V_fg (ls2 := lsB ad b i) ⟨rfl, rfl, rfl, rfl, rfl, rfl, trivial⟩ K2
  · obtain ⟨e1, e2⟩ := hrv hz
    refine V_aload_n hf dL_law_1039 rfl rfl ?_
    refine V_iconst hf dL_law_1040 ?_
    refine B_lald hf dL_law_1041 ?_
    rw [e2]
    refine V_iload hf dL_law_1042 rfl ?_
    rw [e1]
    rcases hv with rfl | rfl
    · refine V_if_eq (tgt := 1051) hf ⟨by decide, by decide⟩ dL_law_1044 (by decide) (fun _ => ?_) (fun q => absurd rfl q)
      refine V_lconst (a := 0) hf (by decide +kernel) dL_law_1051 ?_
      refine V_lcmp hf ⟨by decide, by decide⟩ ⟨by decide, by decide⟩ dL_law_1052 ?_
      refine V_if_eq (tgt := 1058) hf ⟨by decide, by decide⟩ dL_law_1053 (by decide) (fun _ => ?_) (fun q => absurd rfl q)
      refine V_goto (tgt := 3108) hf dL_law_1058 (by decide) ?_
      exact V_fg (ls2 := lsB ad b i) ⟨rfl, rfl, rfl, rfl, rfl, rfl, trivial⟩ K2
    · refine V_if_eq (tgt := 1051) hf ⟨by decide, by decide⟩ dL_law_1044 (by decide) (fun q => absurd q (by decide)) (fun _ => ?_)
      refine V_lconst (a := 1) hf (by decide +kernel) dL_law_1047 ?_
      refine V_goto (tgt := 1052) hf dL_law_1048 (by decide) ?_
      refine V_lcmp hf ⟨by decide, by decide⟩ ⟨by decide, by decide⟩ dL_law_1052 ?_
      refine V_if_eq (tgt := 1058) hf ⟨by decide, by decide⟩ dL_law_1053 (by decide) (fun _ => ?_) (fun q => absurd rfl q)
      refine V_goto (tgt := 3108) hf dL_law_1058 (by decide) ?_
      exact V_fg (ls2 := lsB ad b i) ⟨rfl, rfl, rfl, rfl, rfl, rfl, trivial⟩ K2
set_option maxHeartbeats 4000000 in
set_option maxRecDepth 100000 in
theorem la_meanPrice {X : Cx} {ad : Adr} {σ : Mem} {b L : Nat} {xs : Nat → Int32} {i Bd : Int} {cs ss : Nat} (hf : Cf X RL cL_law 9 room_1) (hl0 : (xl X).stackTraces = false) (hsc : Sc X b L xs) (hL : L ≤ 2048) (hi : 0 ≤ i ∧ i + 4 ≤ L) (hB : Bd ≤ 40000000) (h : INV σ Bd) (hcs : cs + 500 ≤ 603072 ∧ ss + 1500 ≤ 7182441) (kk : Kx X b i Bd cs ss) : B X ad σ 2473 (lsB ad b i) [] cs ss := by
  obtain ⟨oc, k, w, σ1, hC, hO, ⟨d, rfl⟩, w2, σ3, ⟨d2, rfl⟩, hM, h8, hrv, hI⟩ := StV.nd dnD (st_meanPrice (D := xD X) (K := xK X) (ad := ad) hl0 h)
  have hk : inR k := by
    rcases hO with ⟨rfl, -⟩ | ⟨rfl, -⟩ <;> exact ⟨by decide, by decide⟩
  have hU := u_meanPrice hl0 hC hO
  refine V_aload_n hf dL_law_2473 rfl rfl ?_
  refine V_aload hf dL_law_2474 rfl ?_
  refine B_callH hf (As := [_, _]) (st := []) hU ch_L_339 rfl (Nat.le_of_ble_eq_true rfl) ⟨(Nat.le_of_ble_eq_true rfl), (Nat.le_of_ble_eq_true rfl), by show _ ≤ 603072; omega, by show _ ≤ 7182441; omega⟩ dL_law_2476 ?_
  refine V_istore (ls2 := [_, _, _, _, _, _, _, _, _]) hf dL_law_2479 (by decide) rfl rfl ?_
  refine V_aload_n hf dL_law_2481 rfl rfl ?_
  refine B_callVi hf (As := []) hM cv_L_342 l01 rfl rfl rfl (Nat.le_of_ble_eq_true rfl) ⟨(Nat.le_of_ble_eq_true rfl), (Nat.le_of_ble_eq_true rfl), by show _ ≤ 603072; omega, by show _ ≤ 7182441; omega⟩ dL_law_2482 ?_
  refine V_dstore7 hf rfl dL_law_2485 ?_
  refine V_aload_n hf dL_law_2487 rfl rfl ?_
  refine B_callVi hf (As := []) (d_thrown hl0 σ3 hI.r) cv_L_178 l01 rfl rfl rfl (Nat.le_of_ble_eq_true rfl) ⟨Nat.le_of_ble_eq_true rfl, Nat.le_of_ble_eq_true rfl, by show _ ≤ 603072; omega, by show _ ≤ 7182441; omega⟩ dL_law_2488 ?_
  rw [h8]
  refine V_iload hf dL_law_2491 rfl ?_
  refine V_icmp_eq (tgt := 2498) hf hk hk dL_law_2493 (by decide) (fun _ => ?_) (fun q => absurd rfl q)
  refine V_iload hf dL_law_2498 rfl ?_
  have K2 : B X ad σ3 3108 (lsB ad b i) [] (cs + 1 + 0 + 0) (ss + 6 + 0 + 0) := V_wide (by omega) (by omega) (kk ad σ3 hI)
  refine V_if_ne (tgt := 2535) hf hk dL_law_2500 (by decide) (fun hz => ?_) (fun hz => ?_)
  · refine V_goto (tgt := 3108) hf dL_law_2535 (by decide) ?_
    exact V_fg (ls2 := lsB ad b i) ⟨rfl, rfl, rfl, rfl, rfl, rfl, trivial⟩ K2
  · obtain ⟨e1, e2⟩ := hrv hz
    cases e1
    obtain ⟨c, cR, ec⟩ : ∃ c : Int, inR c ∧ Op.cmpValue (FP.dcmp d d) .l = iN c := ⟨_, inR_of _, (iN_of _).symm⟩
    refine V_aload hf dL_law_2503 rfl ?_
    refine V_iconst hf dL_law_2505 ?_
    refine B_dald (v := d) hf e2 dL_law_2506 ?_
    refine V_dload hf dL_law_2507 rfl ?_
    refine V_dcmp hf dL_law_2509 ?_
    rw [ec]
    refine V_if_eq (tgt := 2535) hf cR dL_law_2510 (by decide) (fun _ => ?_) (fun q => ?_)
    · refine V_goto (tgt := 3108) hf dL_law_2535 (by decide) ?_
      exact V_fg (ls2 := lsB ad b i) ⟨rfl, rfl, rfl, rfl, rfl, rfl, trivial⟩ K2
    · refine V_aload hf dL_law_2513 rfl ?_
      refine V_iconst hf dL_law_2515 ?_
      refine B_dald (v := d) hf e2 dL_law_2516 ?_
      refine V_aload hf dL_law_2517 rfl ?_
      refine V_iconst hf dL_law_2519 ?_
      refine B_dald (v := d) hf e2 dL_law_2520 ?_
      refine V_dcmp hf dL_law_2521 ?_
      rw [ec]
      refine V_if_eq (tgt := 2533) hf cR dL_law_2522 (by decide) (fun q2 => absurd q2 q) (fun _ => ?_)
      refine V_dload hf dL_law_2525 rfl ?_
      refine V_dload hf dL_law_2527 rfl ?_
      refine V_dcmp hf dL_law_2529 ?_
      rw [ec]
      refine V_if_ne (tgt := 2535) hf cR dL_law_2530 (by decide) (fun _ => ?_) (fun q2 => absurd q2 q)
      refine V_goto (tgt := 3108) hf dL_law_2535 (by decide) ?_
      exact V_fg (ls2 := lsB ad b i) ⟨rfl, rfl, rfl, rfl, rfl, rfl, trivial⟩ K2
set_option maxHeartbeats 4000000 in
set_option maxRecDepth 100000 in
theorem la_offeredShare {X : Cx} {ad : Adr} {σ : Mem} {b L : Nat} {xs : Nat → Int32} {i Bd : Int} {cs ss : Nat} (hf : Cf X RL cL_law 9 room_1) (hl0 : (xl X).stackTraces = false) (hsc : Sc X b L xs) (hL : L ≤ 2048) (hi : 0 ≤ i ∧ i + 4 ≤ L) (hB : Bd ≤ 40000000) (h : INV σ Bd) (hcs : cs + 500 ≤ 603072 ∧ ss + 1500 ≤ 7182441) (kk : Kx X b i Bd cs ss) : B X ad σ 2538 (lsB ad b i) [] cs ss := by
  obtain ⟨oc, k, w, σ1, hC, hO, ⟨d, rfl, hd⟩, w2, σ3, ⟨d2, rfl, hd2⟩, hM, h8, hrv, hI⟩ := StV.nd dnF (st_share2 (D := xD X) (K := xK X) (ad := ad) hl0 h)
  have hk : inR k := by
    rcases hO with ⟨rfl, -⟩ | ⟨rfl, -⟩ <;> exact ⟨by decide, by decide⟩
  have hO2 : (k = 0 ∧ oc = .inl (some (.float d)) ∧ vf_n64 (FP.f2d d)) ∨ (k = 1 ∧ oc = .inr "java/lang/ArithmeticException") := by
    rcases hO with ⟨a1, a2⟩ | a2
    · exact Or.inl ⟨a1, a2, hd⟩
    · exact Or.inr a2
  have hU := u_offeredShare hl0 hC hO2
  refine V_aload_n hf dL_law_2538 rfl rfl ?_
  refine V_aload hf dL_law_2539 rfl ?_
  refine B_callH hf (As := [_, _]) (st := []) hU ch_L_343 rfl (Nat.le_of_ble_eq_true rfl) ⟨(Nat.le_of_ble_eq_true rfl), (Nat.le_of_ble_eq_true rfl), by show _ ≤ 603072; omega, by show _ ≤ 7182441; omega⟩ dL_law_2541 ?_
  refine V_istore (ls2 := [_, _, _, _, _, _, _, _, _]) hf dL_law_2544 (by decide) rfl rfl ?_
  refine V_aload_n hf dL_law_2546 rfl rfl ?_
  refine B_callVi hf (As := []) hM cv_L_345 l01 rfl rfl rfl (Nat.le_of_ble_eq_true rfl) ⟨(Nat.le_of_ble_eq_true rfl), (Nat.le_of_ble_eq_true rfl), by show _ ≤ 603072; omega, by show _ ≤ 7182441; omega⟩ dL_law_2547 ?_
  refine V_fstore (ls2 := [_, _, _, _, _, _, _, _, _]) hf dL_law_2550 (by decide) rfl rfl ?_
  refine V_aload_n hf dL_law_2552 rfl rfl ?_
  refine B_callVi hf (As := []) (d_thrown hl0 σ3 hI.r) cv_L_178 l01 rfl rfl rfl (Nat.le_of_ble_eq_true rfl) ⟨Nat.le_of_ble_eq_true rfl, Nat.le_of_ble_eq_true rfl, by show _ ≤ 603072; omega, by show _ ≤ 7182441; omega⟩ dL_law_2553 ?_
  rw [h8]
  refine V_iload hf dL_law_2556 rfl ?_
  refine V_icmp_eq (tgt := 2563) hf hk hk dL_law_2558 (by decide) (fun _ => ?_) (fun q => absurd rfl q)
  refine V_iload hf dL_law_2563 rfl ?_
  have K2 : B X ad σ3 3108 (lsB ad b i) [] (cs + 1 + 0 + 0) (ss + 6 + 0 + 0) := V_wide (by omega) (by omega) (kk ad σ3 hI)
  refine V_if_ne (tgt := 2601) hf hk dL_law_2565 (by decide) (fun hz => ?_) (fun hz => ?_)
  · refine V_goto (tgt := 3108) hf dL_law_2601 (by decide) ?_
    exact V_fg (ls2 := lsB ad b i) ⟨rfl, rfl, rfl, rfl, rfl, rfl, trivial⟩ K2
  · obtain ⟨e1, e2⟩ := hrv hz
    cases e1
    refine V_aload hf dL_law_2568 rfl ?_
    refine V_iconst hf dL_law_2570 ?_
    refine B_dald (v := FP.f2d d) hf e2 dL_law_2571 ?_
    refine V_fload hf dL_law_2572 rfl ?_
    refine V_f2d hf hd dL_law_2574 ?_
    refine V_dcmp hf dL_law_2575 ?_
    rw [dcmp_n64 hd]
    refine V_if_eq (tgt := 2601) hf ⟨by decide, by decide⟩ dL_law_2576 (by decide) (fun _ => ?_) (fun q => absurd rfl q)
    refine V_goto (tgt := 3108) hf dL_law_2601 (by decide) ?_
    exact V_fg (ls2 := lsB ad b i) ⟨rfl, rfl, rfl, rfl, rfl, rfl, trivial⟩ K2
set_option maxHeartbeats 4000000 in
set_option maxRecDepth 100000 in
theorem la_writeShip {X : Cx} {ad : Adr} {σ : Mem} {b L : Nat} {xs : Nat → Int32} {i Bd : Int} {cs ss : Nat} (hf : Cf X RL cL_law 9 room_1) (hl0 : (xl X).stackTraces = false) (hsc : Sc X b L xs) (hL : L ≤ 2048) (hi : 0 ≤ i ∧ i + 4 ≤ L) (hB : Bd ≤ 40000000) (h : INV σ Bd) (hcs : cs + 500 ≤ 603072 ∧ ss + 1500 ≤ 7182441) (kk : Kx X b i Bd cs ss) : B X ad σ 2617 (lsB ad b i) [] cs ss := by
  have ha := iN_self_r (xs (i + 1).toNat)
  by_cases hk : 0 ≤ (xs (i + 1).toNat).toInt ∧ (xs (i + 1).toNat).toInt < σ 0 41 0
  · obtain ⟨v0, Φ, hC0, hΦ⟩ := st_ws_o (D := xD X) (K := xK X) (ad := ad) hl0 h _ ha hk
    obtain ⟨v, hv, ev⟩ : ∃ v : Int, inR v ∧ iN v0 = iN v := ⟨_, inR_of _, (iN_of _).symm⟩
    rw [ev] at hC0
    have hU := u_writeShip_o hl0 _ hC0 hv
    refine V_aload_n hf dL_law_2617 rfl rfl ?_
    refine V_aload_n hf dL_law_2618 rfl rfl ?_
    refine V_iload hf dL_law_2619 rfl ?_
    refine V_iconst hf dL_law_2621 ?_
    refine V_iadd hf dL_law_2622 ?_
    refine V_sld hf hsc ⟨by omega, by omega⟩ (by omega) (by omega) dL_law_2623 ?_
    refine V_aload_n hf dL_law_2624 rfl rfl ?_
    refine V_callSW hf (As := [_, _, _]) (st := []) hU ch_L_351 ⟨rfl, rfl, Nat.le_of_ble_eq_true rfl, Nat.le_of_ble_eq_true rfl, by show _ ≤ 603072; omega, by show _ ≤ 7182441; omega⟩ rfl (Nat.le_of_ble_eq_true rfl) dL_law_2625 ?_ ?_
    · rintro r' ad' E' ⟨w, σ', h1, rfl, rfl, σ1, hΦ1, rfl⟩
      cases h1
      obtain ⟨hR1, hn⟩ := hΦ (ast ad 0 32 w) σ1 hΦ1
      obtain ⟨σ3, hM, h8, hj, hI⟩ := hn (st3 σ1 0 50 0 v) (hR1.st hv) (Wr.st (Or.inl rfl))
      rw [ev] at hM
      have e50 : σ3 0 50 0 = v := by rw [hj 50 (Or.inl rfl), st3_self]
      change B X (ast ad 0 32 w) (st3 σ1 0 50 0 v) 2628 (lsB (ast ad 0 32 w) b i) [.int (iN 0)] _ _
      refine V_istore (ls2 := [_, _, _, _, _, _, _, _, _]) hf dL_law_2628 (by decide) rfl rfl ?_
      refine V_aload_n hf dL_law_2630 rfl rfl ?_
      refine V_aload_n hf dL_law_2631 rfl rfl ?_
      refine V_iload hf dL_law_2632 rfl ?_
      refine V_iconst hf dL_law_2634 ?_
      refine V_iadd hf dL_law_2635 ?_
      refine V_sld hf hsc ⟨by omega, by omega⟩ (by omega) (by omega) dL_law_2636 ?_
      refine B_callVi hf (As := [_]) hM cv_L_353 l01 rfl rfl rfl (Nat.le_of_ble_eq_true rfl) ⟨(Nat.le_of_ble_eq_true rfl), (Nat.le_of_ble_eq_true rfl), by show _ ≤ 603072; omega, by show _ ≤ 7182441; omega⟩ dL_law_2637 ?_
      exact la_tail hf hl0 (off := 438) ⟨dL_law_2640, dL_law_2642, dL_law_2643, dL_law_2646, dL_law_2648, dL_law_2653, dL_law_2655, dL_law_2658, dL_law_2659, dL_law_2660, dL_law_2661, dL_law_2663, dL_law_2664, dL_law_2665, dL_law_2670, by decide⟩ ⟨by decide, by decide⟩ hv h8 (fun _ => e50.symm) hI.r ⟨by omega, by omega⟩ (V_wide (by omega) (by omega) (kk (ast ad 0 32 w) σ3 hI))
    · rintro En ad' E' ⟨w, σ', h1, -⟩
      cases h1
  · have s0 := h.m.sc.1
    have hU := u_writeShip_x hl0 _ (cx_ws (D := xD X) (K := xK X) (ad := ad) hl0 σ h.r _ ha (by rw [s0]; exact hk))
    have hM := gx_ws (D := xD X) (K := xK X) (ad := ad) hl0 σ h.r h.m.ni _ ha hk
    have hI : INV (thrM (st3 σ 0 40 8 0) 1) (Bd + 60000) := INV_o (INV_o h (Int.le_refl Bd) ⟨by decide, by decide⟩) (by omega) ⟨by decide, by decide⟩
    refine V_aload_n hf dL_law_2617 rfl rfl ?_
    refine V_aload_n hf dL_law_2618 rfl rfl ?_
    refine V_iload hf dL_law_2619 rfl ?_
    refine V_iconst hf dL_law_2621 ?_
    refine V_iadd hf dL_law_2622 ?_
    refine V_sld hf hsc ⟨by omega, by omega⟩ (by omega) (by omega) dL_law_2623 ?_
    refine V_aload_n hf dL_law_2624 rfl rfl ?_
    refine B_callH hf (As := [_, _, _]) (st := []) hU ch_L_351 rfl (Nat.le_of_ble_eq_true rfl) ⟨(Nat.le_of_ble_eq_true rfl), (Nat.le_of_ble_eq_true rfl), by show _ ≤ 603072; omega, by show _ ≤ 7182441; omega⟩ dL_law_2625 ?_
    refine V_istore (ls2 := [_, _, _, _, _, _, _, _, _]) hf dL_law_2628 (by decide) rfl rfl ?_
    refine V_aload_n hf dL_law_2630 rfl rfl ?_
    refine V_aload_n hf dL_law_2631 rfl rfl ?_
    refine V_iload hf dL_law_2632 rfl ?_
    refine V_iconst hf dL_law_2634 ?_
    refine V_iadd hf dL_law_2635 ?_
    refine V_sld hf hsc ⟨by omega, by omega⟩ (by omega) (by omega) dL_law_2636 ?_
    refine B_callVi hf (As := [_]) hM cv_L_353 l01 rfl rfl rfl (Nat.le_of_ble_eq_true rfl) ⟨(Nat.le_of_ble_eq_true rfl), (Nat.le_of_ble_eq_true rfl), by show _ ≤ 603072; omega, by show _ ≤ 7182441; omega⟩ dL_law_2637 ?_
    exact la_tail hf hl0 (off := 438) ⟨dL_law_2640, dL_law_2642, dL_law_2643, dL_law_2646, dL_law_2648, dL_law_2653, dL_law_2655, dL_law_2658, dL_law_2659, dL_law_2660, dL_law_2661, dL_law_2663, dL_law_2664, dL_law_2665, dL_law_2670, by decide⟩ ⟨by decide, by decide⟩ ⟨by decide, by decide⟩ st3_self (fun q => absurd q (by decide)) hI.r ⟨by omega, by omega⟩ (V_wide (by omega) (by omega) (kk ad _ hI))
