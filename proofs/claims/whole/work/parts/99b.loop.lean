/-! the law's loop -/
set_option maxHeartbeats 8000000 in
set_option maxRecDepth 100000 in
/-- one step: the case of the switch -/
theorem la_step {X : Cx} {ad : Adr} {σ : Mem} {b L : Nat} {xs : Nat → Int32} {i Bd k : Int} {cs ss : Nat} (hf : Cf X RL cL_law 9 room_1) (hl0 : (xl X).stackTraces = false) (hsc : Sc X b L xs) (hL : L ≤ 2048) (hi : 0 ≤ i ∧ i + 4 ≤ L) (hB : Bd ≤ 40000000) (h : INV σ Bd) (hcs : cs + 500 ≤ 603072 ∧ ss + 1500 ≤ 7182441) (kk : Kx X b i Bd cs ss) (hk : 0 ≤ k ∧ k < 64) : B X ad σ 44 (lsB ad b i) [.int (iN k)] cs ss := by
  by_cases hk2 : 61 < k
  · refine V_tswOut (tgt := 3108) hf ⟨by omega, by omega⟩ dL_law_44 (Or.inr hk2) (by decide) ?_
    have hI : INV σ (Bd + 60000) := INV_w h (by omega) h.r Wr.rf
    exact V_wide (by omega) (by omega) (kk ad σ hI)
  have hk3 : k < 62 := by omega
  rcases (show k = 61 ∨ k < 61 by omega) with rfl | hk3
  · exact V_tswIn (off := 3020) (tgt := 3064) hf ⟨by decide, by decide⟩ dL_law_44 (by decide) (by decide) rfl (by decide) (la_restoreSnapshot hf hl0 hsc hL hi hB h hcs kk)
  rcases (show k = 60 ∨ k < 60 by omega) with rfl | hk3
  · exact V_tswIn (off := 3007) (tgt := 3051) hf ⟨by decide, by decide⟩ dL_law_44 (by decide) (by decide) rfl (by decide) (la_saveSnapshot hf hl0 hsc hL hi hB h hcs kk)
  rcases (show k = 59 ∨ k < 59 by omega) with rfl | hk3
  · exact V_tswIn (off := 2963) (tgt := 3007) hf ⟨by decide, by decide⟩ dL_law_44 (by decide) (by decide) rfl (by decide) (la_undo hf hl0 hsc hL hi hB h hcs kk)
  rcases (show k = 58 ∨ k < 58 by omega) with rfl | hk3
  · exact V_tswIn (off := 2919) (tgt := 2963) hf ⟨by decide, by decide⟩ dL_law_44 (by decide) (by decide) rfl (by decide) (la_causeReason hf hl0 hsc hL hi hB h hcs kk)
  rcases (show k = 57 ∨ k < 57 by omega) with rfl | hk3
  · exact V_tswIn (off := 2875) (tgt := 2919) hf ⟨by decide, by decide⟩ dL_law_44 (by decide) (by decide) rfl (by decide) (la_rejectionDetail hf hl0 hsc hL hi hB h hcs kk)
  rcases (show k = 56 ∨ k < 56 by omega) with rfl | hk3
  · exact V_tswIn (off := 2831) (tgt := 2875) hf ⟨by decide, by decide⟩ dL_law_44 (by decide) (by decide) rfl (by decide) (la_rejectionReason hf hl0 hsc hL hi hB h hcs kk)
  rcases (show k = 55 ∨ k < 55 by omega) with rfl | hk3
  · exact V_tswIn (off := 2787) (tgt := 2831) hf ⟨by decide, by decide⟩ dL_law_44 (by decide) (by decide) rfl (by decide) (la_syntaxErrorOffset hf hl0 hsc hL hi hB h hcs kk)
  rcases (show k = 54 ∨ k < 54 by omega) with rfl | hk3
  · exact V_tswIn (off := 2743) (tgt := 2787) hf ⟨by decide, by decide⟩ dL_law_44 (by decide) (by decide) rfl (by decide) (la_execute hf hl0 hsc hL hi hB h hcs kk)
  rcases (show k = 53 ∨ k < 53 by omega) with rfl | hk3
  · exact V_tswIn (off := 2685) (tgt := 2729) hf ⟨by decide, by decide⟩ dL_law_44 (by decide) (by decide) rfl (by decide) (la_appendInput hf hl0 hsc hL hi hB h hcs kk)
  rcases (show k = 52 ∨ k < 52 by omega) with rfl | hk3
  · exact V_tswIn (off := 2629) (tgt := 2673) hf ⟨by decide, by decide⟩ dL_law_44 (by decide) (by decide) rfl (by decide) (la_outputAt hf hl0 hsc hL hi hB h hcs kk)
  rcases (show k = 51 ∨ k < 51 by omega) with rfl | hk3
  · exact V_tswIn (off := 2573) (tgt := 2617) hf ⟨by decide, by decide⟩ dL_law_44 (by decide) (by decide) rfl (by decide) (la_writeShip hf hl0 hsc hL hi hB h hcs kk)
  rcases (show k = 50 ∨ k < 50 by omega) with rfl | hk3
  · exact V_tswIn (off := 2560) (tgt := 2604) hf ⟨by decide, by decide⟩ dL_law_44 (by decide) (by decide) rfl (by decide) (la_isConsistent hf hl0 hsc hL hi hB h hcs kk)
  rcases (show k = 49 ∨ k < 49 by omega) with rfl | hk3
  · exact V_tswIn (off := 2494) (tgt := 2538) hf ⟨by decide, by decide⟩ dL_law_44 (by decide) (by decide) rfl (by decide) (la_offeredShare hf hl0 hsc hL hi hB h hcs kk)
  rcases (show k = 48 ∨ k < 48 by omega) with rfl | hk3
  · exact V_tswIn (off := 2429) (tgt := 2473) hf ⟨by decide, by decide⟩ dL_law_44 (by decide) (by decide) rfl (by decide) (la_meanPrice hf hl0 hsc hL hi hB h hcs kk)
  rcases (show k = 47 ∨ k < 47 by omega) with rfl | hk3
  · exact V_tswIn (off := 2373) (tgt := 2417) hf ⟨by decide, by decide⟩ dL_law_44 (by decide) (by decide) rfl (by decide) (la_shipByWealth hf hl0 hsc hL hi hB h hcs kk)
  rcases (show k = 46 ∨ k < 46 by omega) with rfl | hk3
  · exact V_tswIn (off := 2360) (tgt := 2404) hf ⟨by decide, by decide⟩ dL_law_44 (by decide) (by decide) rfl (by decide) (la_allCoinsGiven hf hl0 hsc hL hi hB h hcs kk)
  rcases (show k = 45 ∨ k < 45 by omega) with rfl | hk3
  · exact V_tswIn (off := 2347) (tgt := 2391) hf ⟨by decide, by decide⟩ dL_law_44 (by decide) (by decide) rfl (by decide) (la_allCoins hf hl0 hsc hL hi hB h hcs kk)
  rcases (show k = 44 ∨ k < 44 by omega) with rfl | hk3
  · exact V_tswIn (off := 2334) (tgt := 2378) hf ⟨by decide, by decide⟩ dL_law_44 (by decide) (by decide) rfl (by decide) (la_expiredCount hf hl0 hsc hL hi hB h hcs kk)
  rcases (show k = 43 ∨ k < 43 by omega) with rfl | hk3
  · exact V_tswIn (off := 2321) (tgt := 2365) hf ⟨by decide, by decide⟩ dL_law_44 (by decide) (by decide) rfl (by decide) (la_exchangeCoins hf hl0 hsc hL hi hB h hcs kk)
  rcases (show k = 42 ∨ k < 42 by omega) with rfl | hk3
  · exact V_tswIn (off := 2308) (tgt := 2352) hf ⟨by decide, by decide⟩ dL_law_44 (by decide) (by decide) rfl (by decide) (la_turnover hf hl0 hsc hL hi hB h hcs kk)
  rcases (show k = 41 ∨ k < 41 by omega) with rfl | hk3
  · exact V_tswIn (off := 2295) (tgt := 2339) hf ⟨by decide, by decide⟩ dL_law_44 (by decide) (by decide) rfl (by decide) (la_tradeCount hf hl0 hsc hL hi hB h hcs kk)
  rcases (show k = 40 ∨ k < 40 by omega) with rfl | hk3
  · exact V_tswIn (off := 2239) (tgt := 2283) hf ⟨by decide, by decide⟩ dL_law_44 (by decide) (by decide) rfl (by decide) (la_priceOf hf hl0 hsc hL hi hB h hcs kk)
  rcases (show k = 39 ∨ k < 39 by omega) with rfl | hk3
  · exact V_tswIn (off := 2183) (tgt := 2227) hf ⟨by decide, by decide⟩ dL_law_44 (by decide) (by decide) rfl (by decide) (la_barnacleOf hf hl0 hsc hL hi hB h hcs kk)
  rcases (show k = 38 ∨ k < 38 by omega) with rfl | hk3
  · exact V_tswIn (off := 2127) (tgt := 2171) hf ⟨by decide, by decide⟩ dL_law_44 (by decide) (by decide) rfl (by decide) (la_sellerOf hf hl0 hsc hL hi hB h hcs kk)
  rcases (show k = 37 ∨ k < 37 by omega) with rfl | hk3
  · exact V_tswIn (off := 2071) (tgt := 2115) hf ⟨by decide, by decide⟩ dL_law_44 (by decide) (by decide) rfl (by decide) (la_buyerOf hf hl0 hsc hL hi hB h hcs kk)
  rcases (show k = 36 ∨ k < 36 by omega) with rfl | hk3
  · exact V_tswIn (off := 2058) (tgt := 2102) hf ⟨by decide, by decide⟩ dL_law_44 (by decide) (by decide) rfl (by decide) (la_tideCount hf hl0 hsc hL hi hB h hcs kk)
  rcases (show k = 35 ∨ k < 35 by omega) with rfl | hk3
  · exact V_tswIn (off := 2045) (tgt := 2089) hf ⟨by decide, by decide⟩ dL_law_44 (by decide) (by decide) rfl (by decide) (la_fee hf hl0 hsc hL hi hB h hcs kk)
  rcases (show k = 34 ∨ k < 34 by omega) with rfl | hk3
  · exact V_tswIn (off := 1989) (tgt := 2033) hf ⟨by decide, by decide⟩ dL_law_44 (by decide) (by decide) rfl (by decide) (la_setFee hf hl0 hsc hL hi hB h hcs kk)
  rcases (show k = 33 ∨ k < 33 by omega) with rfl | hk3
  · exact V_tswIn (off := 1976) (tgt := 2020) hf ⟨by decide, by decide⟩ dL_law_44 (by decide) (by decide) rfl (by decide) (la_wouldTrade hf hl0 hsc hL hi hB h hcs kk)
  rcases (show k = 32 ∨ k < 32 by omega) with rfl | hk3
  · exact V_tswIn (off := 1963) (tgt := 2007) hf ⟨by decide, by decide⟩ dL_law_44 (by decide) (by decide) rfl (by decide) (la_passTide hf hl0 hsc hL hi hB h hcs kk)
  rcases (show k = 31 ∨ k < 31 by omega) with rfl | hk3
  · exact V_tswIn (off := 1919) (tgt := 1963) hf ⟨by decide, by decide⟩ dL_law_44 (by decide) (by decide) rfl (by decide) (la_spread hf hl0 hsc hL hi hB h hcs kk)
  rcases (show k = 30 ∨ k < 30 by omega) with rfl | hk3
  · exact V_tswIn (off := 1863) (tgt := 1907) hf ⟨by decide, by decide⟩ dL_law_44 (by decide) (by decide) rfl (by decide) (la_matchByBarnacles hf hl0 hsc hL hi hB h hcs kk)
  rcases (show k = 29 ∨ k < 29 by omega) with rfl | hk3
  · exact V_tswIn (off := 1807) (tgt := 1851) hf ⟨by decide, by decide⟩ dL_law_44 (by decide) (by decide) rfl (by decide) (la_matchFor hf hl0 hsc hL hi hB h hcs kk)
  rcases (show k = 28 ∨ k < 28 by omega) with rfl | hk3
  · exact V_tswIn (off := 1751) (tgt := 1795) hf ⟨by decide, by decide⟩ dL_law_44 (by decide) (by decide) rfl (by decide) (la_ageOfOffer hf hl0 hsc hL hi hB h hcs kk)
  rcases (show k = 27 ∨ k < 27 by omega) with rfl | hk3
  · exact V_tswIn (off := 1695) (tgt := 1739) hf ⟨by decide, by decide⟩ dL_law_44 (by decide) (by decide) rfl (by decide) (la_priceOfOffer hf hl0 hsc hL hi hB h hcs kk)
  rcases (show k = 26 ∨ k < 26 by omega) with rfl | hk3
  · exact V_tswIn (off := 1639) (tgt := 1683) hf ⟨by decide, by decide⟩ dL_law_44 (by decide) (by decide) rfl (by decide) (la_barnacleOfOffer hf hl0 hsc hL hi hB h hcs kk)
  rcases (show k = 25 ∨ k < 25 by omega) with rfl | hk3
  · exact V_tswIn (off := 1583) (tgt := 1627) hf ⟨by decide, by decide⟩ dL_law_44 (by decide) (by decide) rfl (by decide) (la_ageOfBid hf hl0 hsc hL hi hB h hcs kk)
  rcases (show k = 24 ∨ k < 24 by omega) with rfl | hk3
  · exact V_tswIn (off := 1527) (tgt := 1571) hf ⟨by decide, by decide⟩ dL_law_44 (by decide) (by decide) rfl (by decide) (la_priceOfBid hf hl0 hsc hL hi hB h hcs kk)
  rcases (show k = 23 ∨ k < 23 by omega) with rfl | hk3
  · exact V_tswIn (off := 1471) (tgt := 1515) hf ⟨by decide, by decide⟩ dL_law_44 (by decide) (by decide) rfl (by decide) (la_gradeOfBid hf hl0 hsc hL hi hB h hcs kk)
  rcases (show k = 22 ∨ k < 22 by omega) with rfl | hk3
  · exact V_tswIn (off := 1415) (tgt := 1459) hf ⟨by decide, by decide⟩ dL_law_44 (by decide) (by decide) rfl (by decide) (la_shipOfBid hf hl0 hsc hL hi hB h hcs kk)
  rcases (show k = 21 ∨ k < 21 by omega) with rfl | hk3
  · exact V_tswIn (off := 1359) (tgt := 1403) hf ⟨by decide, by decide⟩ dL_law_44 (by decide) (by decide) rfl (by decide) (la_offerAt hf hl0 hsc hL hi hB h hcs kk)
  rcases (show k = 20 ∨ k < 20 by omega) with rfl | hk3
  · exact V_tswIn (off := 1303) (tgt := 1347) hf ⟨by decide, by decide⟩ dL_law_44 (by decide) (by decide) rfl (by decide) (la_bidAt hf hl0 hsc hL hi hB h hcs kk)
  rcases (show k = 19 ∨ k < 19 by omega) with rfl | hk3
  · exact V_tswIn (off := 1290) (tgt := 1334) hf ⟨by decide, by decide⟩ dL_law_44 (by decide) (by decide) rfl (by decide) (la_offerCount hf hl0 hsc hL hi hB h hcs kk)
  rcases (show k = 18 ∨ k < 18 by omega) with rfl | hk3
  · exact V_tswIn (off := 1277) (tgt := 1321) hf ⟨by decide, by decide⟩ dL_law_44 (by decide) (by decide) rfl (by decide) (la_bidCount hf hl0 hsc hL hi hB h hcs kk)
  rcases (show k = 17 ∨ k < 17 by omega) with rfl | hk3
  · exact V_tswIn (off := 1221) (tgt := 1265) hf ⟨by decide, by decide⟩ dL_law_44 (by decide) (by decide) rfl (by decide) (la_cancelOffer hf hl0 hsc hL hi hB h hcs kk)
  rcases (show k = 16 ∨ k < 16 by omega) with rfl | hk3
  · exact V_tswIn (off := 1165) (tgt := 1209) hf ⟨by decide, by decide⟩ dL_law_44 (by decide) (by decide) rfl (by decide) (la_cancelBid hf hl0 hsc hL hi hB h hcs kk)
  rcases (show k = 15 ∨ k < 15 by omega) with rfl | hk3
  · exact V_tswIn (off := 1097) (tgt := 1141) hf ⟨by decide, by decide⟩ dL_law_44 (by decide) (by decide) rfl (by decide) (la_placeOffer hf hl0 hsc hL hi hB h hcs kk)
  rcases (show k = 14 ∨ k < 14 by omega) with rfl | hk3
  · exact V_tswIn (off := 1017) (tgt := 1061) hf ⟨by decide, by decide⟩ dL_law_44 (by decide) (by decide) rfl (by decide) (la_placeBid hf hl0 hsc hL hi hB h hcs kk)
  rcases (show k = 13 ∨ k < 13 by omega) with rfl | hk3
  · exact V_tswIn (off := 954) (tgt := 998) hf ⟨by decide, by decide⟩ dL_law_44 (by decide) (by decide) rfl (by decide) (la_isOffered hf hl0 hsc hL hi hB h hcs kk)
  rcases (show k = 12 ∨ k < 12 by omega) with rfl | hk3
  · exact V_tswIn (off := 898) (tgt := 942) hf ⟨by decide, by decide⟩ dL_law_44 (by decide) (by decide) rfl (by decide) (la_gradeOf hf hl0 hsc hL hi hB h hcs kk)
  rcases (show k = 11 ∨ k < 11 by omega) with rfl | hk3
  · exact V_tswIn (off := 842) (tgt := 886) hf ⟨by decide, by decide⟩ dL_law_44 (by decide) (by decide) rfl (by decide) (la_shipOf hf hl0 hsc hL hi hB h hcs kk)
  rcases (show k = 10 ∨ k < 10 by omega) with rfl | hk3
  · exact V_tswIn (off := 829) (tgt := 873) hf ⟨by decide, by decide⟩ dL_law_44 (by decide) (by decide) rfl (by decide) (la_barnacleCount hf hl0 hsc hL hi hB h hcs kk)
  rcases (show k = 9 ∨ k < 9 by omega) with rfl | hk3
  · exact V_tswIn (off := 761) (tgt := 805) hf ⟨by decide, by decide⟩ dL_law_44 (by decide) (by decide) rfl (by decide) (la_barnacleAt hf hl0 hsc hL hi hB h hcs kk)
  rcases (show k = 8 ∨ k < 8 by omega) with rfl | hk3
  · exact V_tswIn (off := 705) (tgt := 749) hf ⟨by decide, by decide⟩ dL_law_44 (by decide) (by decide) rfl (by decide) (la_freePlaces hf hl0 hsc hL hi hB h hcs kk)
  rcases (show k = 7 ∨ k < 7 by omega) with rfl | hk3
  · exact V_tswIn (off := 649) (tgt := 693) hf ⟨by decide, by decide⟩ dL_law_44 (by decide) (by decide) rfl (by decide) (la_loadOf hf hl0 hsc hL hi hB h hcs kk)
  rcases (show k = 6 ∨ k < 6 by omega) with rfl | hk3
  · exact V_tswIn (off := 593) (tgt := 637) hf ⟨by decide, by decide⟩ dL_law_44 (by decide) (by decide) rfl (by decide) (la_capacityOf hf hl0 hsc hL hi hB h hcs kk)
  rcases (show k = 5 ∨ k < 5 by omega) with rfl | hk3
  · exact V_tswIn (off := 537) (tgt := 581) hf ⟨by decide, by decide⟩ dL_law_44 (by decide) (by decide) rfl (by decide) (la_reservedCoins hf hl0 hsc hL hi hB h hcs kk)
  rcases (show k = 4 ∨ k < 4 by omega) with rfl | hk3
  · exact V_tswIn (off := 481) (tgt := 525) hf ⟨by decide, by decide⟩ dL_law_44 (by decide) (by decide) rfl (by decide) (la_coinsOf hf hl0 hsc hL hi hB h hcs kk)
  rcases (show k = 3 ∨ k < 3 by omega) with rfl | hk3
  · exact V_tswIn (off := 468) (tgt := 512) hf ⟨by decide, by decide⟩ dL_law_44 (by decide) (by decide) rfl (by decide) (la_shipCount hf hl0 hsc hL hi hB h hcs kk)
  rcases (show k = 2 ∨ k < 2 by omega) with rfl | hk3
  · exact V_tswIn (off := 400) (tgt := 444) hf ⟨by decide, by decide⟩ dL_law_44 (by decide) (by decide) rfl (by decide) (la_giveCoins hf hl0 hsc hL hi hB h hcs kk)
  rcases (show k = 1 ∨ k < 1 by omega) with rfl | hk3
  · exact V_tswIn (off := 332) (tgt := 376) hf ⟨by decide, by decide⟩ dL_law_44 (by decide) (by decide) rfl (by decide) (la_addBarnacle hf hl0 hsc hL hi hB h hcs kk)
  obtain rfl : k = 0 := by omega
  exact V_tswIn (off := 264) (tgt := 308) hf ⟨by decide, by decide⟩ dL_law_44 (by decide) (by decide) rfl (by decide) (la_addShip hf hl0 hsc hL hi hB h hcs kk)
set_option maxHeartbeats 8000000 in
set_option maxRecDepth 100000 in
/-- the loop: from a state that the invariant holds, at i, to the law's end -/
theorem law_loop {X : Cx} {b L : Nat} {xs : Nat → Int32} (hf : Cf X RL cL_law 9 room_1) (hl0 : (xl X).stackTraces = false) (hsc : Sc X b L xs) (hL : L ≤ 2048)
    (hend : ∀ (ad : Adr) (E : Dic) (ls : Ls) (cs ss : Nat), cs ≤ 603072 → ss ≤ 7182441 → V X ad E 3115 ls [.int (iN 1)] cs ss) :
    ∀ (n : Nat) (i : Int) (ad : Adr) (σ : Mem) (cs ss : Nat), (L : Int) - i < n → 0 ≤ i → i ≤ L + 3 → INV σ (1 + 15000 * i) → (cs : Int) ≤ 400 + 125 * i → (ss : Int) ≤ 8000 + 375 * i → B X ad σ 28 (lsB ad b i) [] cs ss := by
  intro n
  induction n with
  | zero =>
    intro i ad σ cs ss h1 h2 h2b h3 h4 h5
    refine V_iload hf dL_law_28 rfl ?_
    refine V_aload_n hf dL_law_30 rfl rfl ?_
    refine V_slen hf hsc dL_law_31 ?_
    refine V_iconst hf dL_law_32 ?_
    refine V_isub hf dL_law_33 ?_
    refine V_icmp_gt (tgt := 3114) hf ⟨by omega, by omega⟩ ⟨by omega, by omega⟩ dL_law_34 (by decide) (fun _ => ?_) (fun q => absurd q (by omega))
    refine V_iconst hf dL_law_3114 ?_
    exact hend ad _ _ cs ss (by omega) (by omega)
  | succ n ih =>
    intro i ad σ cs ss h1 h2 h2b h3 h4 h5
    refine V_iload hf dL_law_28 rfl ?_
    refine V_aload_n hf dL_law_30 rfl rfl ?_
    refine V_slen hf hsc dL_law_31 ?_
    refine V_iconst hf dL_law_32 ?_
    refine V_isub hf dL_law_33 ?_
    refine V_icmp_gt (tgt := 3114) hf ⟨by omega, by omega⟩ ⟨by omega, by omega⟩ dL_law_34 (by decide) (fun _ => ?_) (fun q => ?_)
    · refine V_iconst hf dL_law_3114 ?_
      exact hend ad _ _ cs ss (by omega) (by omega)
    · obtain ⟨k, hk, ek⟩ := and63 (xs i.toNat)
      refine V_aload_n hf dL_law_37 rfl rfl ?_
      refine V_iload hf dL_law_38 rfl ?_
      refine V_sld hf hsc ⟨by omega, by omega⟩ (by omega) (by omega) dL_law_40 ?_
      refine V_bipush hf dL_law_41 (by decide +kernel) ?_
      refine V_iand (c1 := k) hf (by rw [iN_self]; exact ek) dL_law_43 ?_
      refine la_step hf hl0 hsc hL ⟨h2, by omega⟩ (Bd := 1 + 15000 * i) (by omega) h3 ⟨by omega, by omega⟩ ?_ hk
      intro ad' σ' hI
      refine V_iinc (ls2 := lsB ad' b (i + 4)) hf dL_law_3108 (by decide) rfl rfl rfl ?_
      refine V_goto (tgt := 28) hf dL_law_3111 (by decide) ?_
      exact ih (i + 4) ad' σ' (cs + 500) (ss + 1500) (by omega) (by omega) (by omega) (by rw [show 1 + 15000 * (i + 4) = 1 + 15000 * i + 60000 by omega]; exact hI) (by omega) (by omega)
