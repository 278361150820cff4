/-! reading calls, both sides -/
/-- what a call of the class came to: k = 0 and the value v, or the k-th of its exceptions -/
def Oc (exs : List String) (oc : Out) (k v : Int) : Prop := (k = 0 ∧ oc = .inl (some (.int (iN v)))) ∨ ∃ (i : Nat) (En : String), exs[i]? = some En ∧ oc = .inr En ∧ k = (i : Int) + 1
/-- the law's own cells may be written in between -/
def Wr (σ σ2 : Mem) : Prop := ∀ (i : Int) (j : Nat), ¬ (i = 0 ∧ (j = 50 ∨ j = 51)) → σ2 i j = σ i j
/-- a call of both, from a state that the invariant holds -/
def St (l : Launch) (D : va_G) (K : Nat → ClassId) (ad : Adr) (σ : Mem) (B : Int) (yc : MethodName) (cdc : Cond) (dc mc ms : Nat) (yr : MethodName) (cdr : Cond) (dr : Nat) (as : List Value) (exs : List String) : Prop :=
  ∃ (oc : Out) (k v : Int) (σ1 : Mem), Cb l D K ad yc cdc dc mc ms σ (.ref (ad 0 23) :: as) oc σ1 ∧ Oc exs oc k v ∧ Rng σ1 ∧
    ∀ σ2 : Mem, Rng σ2 → Wr σ1 σ2 → ∃ (r : Int) (σ3 : Mem), Cb l D K ad yr cdr dr 0 0 σ2 (.ref (ad 0 40) :: as) (.inl (some (.int (iN r)))) σ3 ∧ σ3 0 40 8 = k ∧ (k = 0 → r = v) ∧ (∀ j : Nat, j = 50 ∨ j = 51 → σ3 0 j = σ2 0 j) ∧ INV σ3 (B + 60000)
theorem Wr.e {σ σ2 : Mem} (h : Wr σ σ2) {j : Nat} (hj : j ≤ 49) : σ2 0 j = σ 0 j := h 0 j (by omega)
theorem INV_w {σ σ2 : Mem} {B B' : Int} (h : INV σ B) (hB : B ≤ B') (hR : Rng σ2) (hW : Wr σ σ2) : INV σ2 B' := by
  refine h.view hB hR (fun g _ _ _ j hj => hW g j (by omega)) ?_ ?_ (fun j hj => hW 0 j (by omega)) (by rw [hW 0 26 (by decide)]) (fun k _ => by rw [hW 0 40 (by decide)])
  · rw [hW 1 6 (by decide), hW 1 12 (by decide)]
    exact h.s 1 (by decide) (by decide)
  · intro k a b c
    rw [hW 1 0 (by decide)]
    exact h.z 1 (by decide) (by decide) k a b c
theorem INV_o {σ : Mem} {B B' p : Int} (h : INV σ B) (hB : B ≤ B') (hp : inR p) : INV (st3 σ 0 40 8 p) B' := by
  have e : ∀ (g : Int) (j : Nat), ¬ (g = 0 ∧ j = 40) → st3 σ 0 40 8 p g j = σ g j := fun g j hj => st3_oj hj
  refine h.view hB (h.r.st hp) (fun g _ _ _ j hj => e g j (by omega)) ?_ ?_ (fun j hj => e 0 j (by omega)) (by rw [e 0 26 (by decide)]) (fun k hk => st3_k (by omega))
  · rw [e 1 6 (by decide), e 1 12 (by decide)]
    exact h.s 1 (by decide) (by decide)
  · intro k a b c
    rw [e 1 0 (by decide)]
    exact h.z 1 (by decide) (by decide) k a b c
theorem st3_50 {σ : Mem} {p : Int} : ∀ j : Nat, j = 50 ∨ j = 51 → st3 σ 0 40 8 p 0 j = σ 0 j := fun j hj => st3_oj (by omega)
section ST
variable {l : Launch} {D : va_G} {K : Nat → ClassId} {ad : Adr} {σ : Mem} {B : Int}
theorem st_shipCount (hl0 : l.stackTraces = false) (h : INV σ B) : St l D K ad σ B yX8_shipCount (.code yX8_shipCount cX8_shipCount 1 (some .int)) 9 1 6 yX9_shipCount (.code yX9_shipCount cX9_shipCount 1 (some .int)) 5 [] [] := by
  have m := h.m
  obtain ⟨s0, s1, s2, s3, s4, s5, s6, s7, s8, s9, s10, s11, s12⟩ := h.m.sc
  have n0 := m.ni.n0
  have n1 := m.ni.n1
  have n2 := m.ni.n2
  have n3 := m.ni.n3
  refine ⟨_, 0, _, σ, c_shipCount hl0 σ h.r, Or.inl ⟨rfl, rfl⟩, h.r, fun σ2 hR2 hW => ?_⟩
  have hI := INV_w h (Int.le_refl B) hR2 hW
  have e := hW.e (j := 41) (by decide)
  refine ⟨_, _, d_shipCount hl0 σ2 hR2, st3_self, fun _ => ?_, st3_50, INV_o hI (by omega) ⟨by decide, by decide⟩⟩
  rw [e, s0]
theorem st_barnacleCount (hl0 : l.stackTraces = false) (h : INV σ B) : St l D K ad σ B yX8_barnacleCount (.code yX8_barnacleCount cX8_barnacleCount 1 (some .int)) 9 1 6 yX9_barnacleCount (.code yX9_barnacleCount cX9_barnacleCount 1 (some .int)) 5 [] [] := by
  have m := h.m
  obtain ⟨s0, s1, s2, s3, s4, s5, s6, s7, s8, s9, s10, s11, s12⟩ := h.m.sc
  have n0 := m.ni.n0
  have n1 := m.ni.n1
  have n2 := m.ni.n2
  have n3 := m.ni.n3
  refine ⟨_, 0, _, σ, c_barnacleCount hl0 σ h.r, Or.inl ⟨rfl, rfl⟩, h.r, fun σ2 hR2 hW => ?_⟩
  have hI := INV_w h (Int.le_refl B) hR2 hW
  have e := hW.e (j := 41) (by decide)
  refine ⟨_, _, d_barnacleCount hl0 σ2 hR2, st3_self, fun _ => ?_, st3_50, INV_o hI (by omega) ⟨by decide, by decide⟩⟩
  rw [e, s1]
theorem st_bidCount (hl0 : l.stackTraces = false) (h : INV σ B) : St l D K ad σ B yX8_bidCount (.code yX8_bidCount cX8_bidCount 1 (some .int)) 9 1 6 yX9_bidCount (.code yX9_bidCount cX9_bidCount 1 (some .int)) 5 [] [] := by
  have m := h.m
  obtain ⟨s0, s1, s2, s3, s4, s5, s6, s7, s8, s9, s10, s11, s12⟩ := h.m.sc
  have n0 := m.ni.n0
  have n1 := m.ni.n1
  have n2 := m.ni.n2
  have n3 := m.ni.n3
  refine ⟨_, 0, _, σ, c_bidCount hl0 σ h.r, Or.inl ⟨rfl, rfl⟩, h.r, fun σ2 hR2 hW => ?_⟩
  have hI := INV_w h (Int.le_refl B) hR2 hW
  have e := hW.e (j := 41) (by decide)
  refine ⟨_, _, d_bidCount hl0 σ2 hR2, st3_self, fun _ => ?_, st3_50, INV_o hI (by omega) ⟨by decide, by decide⟩⟩
  rw [e, s2]
theorem st_offerCount (hl0 : l.stackTraces = false) (h : INV σ B) : St l D K ad σ B yX8_offerCount (.code yX8_offerCount cX8_offerCount 1 (some .int)) 9 1 6 yX9_offerCount (.code yX9_offerCount cX9_offerCount 1 (some .int)) 5 [] [] := by
  have m := h.m
  obtain ⟨s0, s1, s2, s3, s4, s5, s6, s7, s8, s9, s10, s11, s12⟩ := h.m.sc
  have n0 := m.ni.n0
  have n1 := m.ni.n1
  have n2 := m.ni.n2
  have n3 := m.ni.n3
  refine ⟨_, 0, _, σ, c_offerCount hl0 σ h.r, Or.inl ⟨rfl, rfl⟩, h.r, fun σ2 hR2 hW => ?_⟩
  have hI := INV_w h (Int.le_refl B) hR2 hW
  have e := hW.e (j := 41) (by decide)
  refine ⟨_, _, d_offerCount hl0 σ2 hR2, st3_self, fun _ => ?_, st3_50, INV_o hI (by omega) ⟨by decide, by decide⟩⟩
  rw [e, s3]
theorem st_fee (hl0 : l.stackTraces = false) (h : INV σ B) : St l D K ad σ B yX8_fee (.code yX8_fee cX8_fee 1 (some .int)) 9 1 6 yX9_fee (.code yX9_fee cX9_fee 1 (some .int)) 5 [] [] := by
  have m := h.m
  obtain ⟨s0, s1, s2, s3, s4, s5, s6, s7, s8, s9, s10, s11, s12⟩ := h.m.sc
  have n0 := m.ni.n0
  have n1 := m.ni.n1
  have n2 := m.ni.n2
  have n3 := m.ni.n3
  refine ⟨_, 0, _, σ, c_fee hl0 σ h.r, Or.inl ⟨rfl, rfl⟩, h.r, fun σ2 hR2 hW => ?_⟩
  have hI := INV_w h (Int.le_refl B) hR2 hW
  have e := hW.e (j := 41) (by decide)
  refine ⟨_, _, d_fee hl0 σ2 hR2, st3_self, fun _ => ?_, st3_50, INV_o hI (by omega) ⟨by decide, by decide⟩⟩
  rw [e, s6]
theorem st_tideCount (hl0 : l.stackTraces = false) (h : INV σ B) : St l D K ad σ B yX8_tideCount (.code yX8_tideCount cX8_tideCount 1 (some .int)) 9 1 6 yX9_tideCount (.code yX9_tideCount cX9_tideCount 1 (some .int)) 5 [] [] := by
  have m := h.m
  obtain ⟨s0, s1, s2, s3, s4, s5, s6, s7, s8, s9, s10, s11, s12⟩ := h.m.sc
  have n0 := m.ni.n0
  have n1 := m.ni.n1
  have n2 := m.ni.n2
  have n3 := m.ni.n3
  refine ⟨_, 0, _, σ, c_tideCount hl0 σ h.r, Or.inl ⟨rfl, rfl⟩, h.r, fun σ2 hR2 hW => ?_⟩
  have hI := INV_w h (Int.le_refl B) hR2 hW
  have e := hW.e (j := 41) (by decide)
  refine ⟨_, _, d_tideCount hl0 σ2 hR2, st3_self, fun _ => ?_, st3_50, INV_o hI (by omega) ⟨by decide, by decide⟩⟩
  rw [e, s7]
theorem st_tradeCount (hl0 : l.stackTraces = false) (h : INV σ B) : St l D K ad σ B yX8_tradeCount (.code yX8_tradeCount cX8_tradeCount 1 (some .int)) 9 1 6 yX9_tradeCount (.code yX9_tradeCount cX9_tradeCount 1 (some .int)) 5 [] [] := by
  have m := h.m
  obtain ⟨s0, s1, s2, s3, s4, s5, s6, s7, s8, s9, s10, s11, s12⟩ := h.m.sc
  have n0 := m.ni.n0
  have n1 := m.ni.n1
  have n2 := m.ni.n2
  have n3 := m.ni.n3
  refine ⟨_, 0, _, σ, c_tradeCount hl0 σ h.r, Or.inl ⟨rfl, rfl⟩, h.r, fun σ2 hR2 hW => ?_⟩
  have hI := INV_w h (Int.le_refl B) hR2 hW
  have e := hW.e (j := 41) (by decide)
  refine ⟨_, _, d_tradeCount hl0 σ2 hR2, st3_self, fun _ => ?_, st3_50, INV_o hI (by omega) ⟨by decide, by decide⟩⟩
  rw [e, s8]
theorem st_turnover (hl0 : l.stackTraces = false) (h : INV σ B) : St l D K ad σ B yX8_turnover (.code yX8_turnover cX8_turnover 1 (some .int)) 9 1 6 yX9_turnover (.code yX9_turnover cX9_turnover 1 (some .int)) 5 [] [] := by
  have m := h.m
  obtain ⟨s0, s1, s2, s3, s4, s5, s6, s7, s8, s9, s10, s11, s12⟩ := h.m.sc
  have n0 := m.ni.n0
  have n1 := m.ni.n1
  have n2 := m.ni.n2
  have n3 := m.ni.n3
  refine ⟨_, 0, _, σ, c_turnover hl0 σ h.r, Or.inl ⟨rfl, rfl⟩, h.r, fun σ2 hR2 hW => ?_⟩
  have hI := INV_w h (Int.le_refl B) hR2 hW
  have e := hW.e (j := 41) (by decide)
  refine ⟨_, _, d_turnover hl0 σ2 hR2, st3_self, fun _ => ?_, st3_50, INV_o hI (by omega) ⟨by decide, by decide⟩⟩
  rw [e, s9]
theorem st_exchangeCoins (hl0 : l.stackTraces = false) (h : INV σ B) : St l D K ad σ B yX8_exchangeCoins (.code yX8_exchangeCoins cX8_exchangeCoins 1 (some .int)) 9 1 6 yX9_exchangeCoins (.code yX9_exchangeCoins cX9_exchangeCoins 1 (some .int)) 5 [] [] := by
  have m := h.m
  obtain ⟨s0, s1, s2, s3, s4, s5, s6, s7, s8, s9, s10, s11, s12⟩ := h.m.sc
  have n0 := m.ni.n0
  have n1 := m.ni.n1
  have n2 := m.ni.n2
  have n3 := m.ni.n3
  refine ⟨_, 0, _, σ, c_exchangeCoins hl0 σ h.r, Or.inl ⟨rfl, rfl⟩, h.r, fun σ2 hR2 hW => ?_⟩
  have hI := INV_w h (Int.le_refl B) hR2 hW
  have e := hW.e (j := 41) (by decide)
  refine ⟨_, _, d_exchangeCoins hl0 σ2 hR2, st3_self, fun _ => ?_, st3_50, INV_o hI (by omega) ⟨by decide, by decide⟩⟩
  rw [e, s10]
theorem st_expiredCount (hl0 : l.stackTraces = false) (h : INV σ B) : St l D K ad σ B yX8_expiredCount (.code yX8_expiredCount cX8_expiredCount 1 (some .int)) 9 1 6 yX9_expiredCount (.code yX9_expiredCount cX9_expiredCount 1 (some .int)) 5 [] [] := by
  have m := h.m
  obtain ⟨s0, s1, s2, s3, s4, s5, s6, s7, s8, s9, s10, s11, s12⟩ := h.m.sc
  have n0 := m.ni.n0
  have n1 := m.ni.n1
  have n2 := m.ni.n2
  have n3 := m.ni.n3
  refine ⟨_, 0, _, σ, c_expiredCount hl0 σ h.r, Or.inl ⟨rfl, rfl⟩, h.r, fun σ2 hR2 hW => ?_⟩
  have hI := INV_w h (Int.le_refl B) hR2 hW
  have e := hW.e (j := 41) (by decide)
  refine ⟨_, _, d_expiredCount hl0 σ2 hR2, st3_self, fun _ => ?_, st3_50, INV_o hI (by omega) ⟨by decide, by decide⟩⟩
  rw [e, s11]
theorem st_allCoinsGiven (hl0 : l.stackTraces = false) (h : INV σ B) : St l D K ad σ B yX8_allCoinsGiven (.code yX8_allCoinsGiven cX8_allCoinsGiven 1 (some .int)) 9 1 6 yX9_allCoinsGiven (.code yX9_allCoinsGiven cX9_allCoinsGiven 1 (some .int)) 5 [] [] := by
  have m := h.m
  obtain ⟨s0, s1, s2, s3, s4, s5, s6, s7, s8, s9, s10, s11, s12⟩ := h.m.sc
  have n0 := m.ni.n0
  have n1 := m.ni.n1
  have n2 := m.ni.n2
  have n3 := m.ni.n3
  refine ⟨_, 0, _, σ, c_allCoinsGiven hl0 σ h.r, Or.inl ⟨rfl, rfl⟩, h.r, fun σ2 hR2 hW => ?_⟩
  have hI := INV_w h (Int.le_refl B) hR2 hW
  have e := hW.e (j := 41) (by decide)
  refine ⟨_, _, d_allCoinsGiven hl0 σ2 hR2, st3_self, fun _ => ?_, st3_50, INV_o hI (by omega) ⟨by decide, by decide⟩⟩
  rw [e, s12]
theorem st_allCoins (hl0 : l.stackTraces = false) (h : INV σ B) : St l D K ad σ B yX8_allCoins (.code yX8_allCoins cX8_allCoins 1 (some .int)) 9 1 6 yX9_allCoins (.code yX9_allCoins cX9_allCoins 3 (some .int)) 5 [] [] := by
  have m := h.m
  obtain ⟨s0, s1, s2, s3, s4, s5, s6, s7, s8, s9, s10, s11, s12⟩ := h.m.sc
  have n0 := m.ni.n0
  have n1 := m.ni.n1
  have n2 := m.ni.n2
  have n3 := m.ni.n3
  refine ⟨_, 0, _, σ, c_allCoins hl0 σ h.r m.mi, Or.inl ⟨rfl, rfl⟩, h.r, fun σ2 hR2 hW => ?_⟩
  have hI := INV_w h (Int.le_refl B) hR2 hW
  have e := hW.e (j := 41) (by decide)
  refine ⟨_, _, d_allCoins hl0 σ2 hR2 hI.m.ni, st3_self, fun _ => ?_, st3_50, INV_o hI (by omega) ⟨by decide, by decide⟩⟩
  rw [e, m.shipCoins, s10]
  omega
theorem st_coinsOf (hl0 : l.stackTraces = false) (h : INV σ B) (a : Int) (ha : inR a) : St l D K ad σ B yX8_coinsOf (.code yX8_coinsOf cX8_coinsOf 2 (some .int)) 9 1 6 yX9_coinsOf (.code yX9_coinsOf cX9_coinsOf 2 (some .int)) 5 [.int (iN a)] ["java/lang/IndexOutOfBoundsException"] := by
  have m := h.m
  obtain ⟨s0, s1, s2, s3, s4, s5, s6, s7, s8, s9, s10, s11, s12⟩ := h.m.sc
  have n0 := m.ni.n0
  have n1 := m.ni.n1
  have n2 := m.ni.n2
  have n3 := m.ni.n3
  by_cases hk : 0 ≤ a ∧ a < σ 0 1 0
  · refine ⟨_, 0, _, σ, c_coinsOf hl0 σ h.r m.mi a ha hk, Or.inl ⟨rfl, rfl⟩, h.r, fun σ2 hR2 hW => ?_⟩
    have hI := INV_w h (Int.le_refl B) hR2 hW
    have e := hW.e (j := 41) (by decide)
    refine ⟨_, _, d_coinsOf hl0 σ2 hR2 hI.m.ni a ha (by rw [e]; omega), st3_self, fun _ => ?_, st3_50, INV_o hI (by omega) ⟨by decide, by decide⟩⟩
    rw [e]
    exact (m.sh a hk.1 (by omega)).1.symm
  · refine ⟨_, 1, 0, σ, cx_coinsOf hl0 σ h.r a ha hk, Or.inr ⟨0, _, rfl, rfl, rfl⟩, h.r, fun σ2 hR2 hW => ?_⟩
    have hI := INV_w h (Int.le_refl B) hR2 hW
    have e := hW.e (j := 41) (by decide)
    refine ⟨_, _, dx_coinsOf hl0 σ2 hR2 hI.m.ni a ha (by rw [e]; omega), st3_self, fun q => absurd q (by decide), fun j hj => (st3_50 j hj).trans (st3_50 j hj), INV_o (INV_o hI (Int.le_refl B) ⟨by decide, by decide⟩) (by omega) ⟨by decide, by decide⟩⟩
theorem st_reservedCoins (hl0 : l.stackTraces = false) (h : INV σ B) (a : Int) (ha : inR a) : St l D K ad σ B yX8_reservedCoins (.code yX8_reservedCoins cX8_reservedCoins 2 (some .int)) 9 1 6 yX9_reservedCoins (.code yX9_reservedCoins cX9_reservedCoins 2 (some .int)) 5 [.int (iN a)] ["java/lang/IndexOutOfBoundsException"] := by
  have m := h.m
  obtain ⟨s0, s1, s2, s3, s4, s5, s6, s7, s8, s9, s10, s11, s12⟩ := h.m.sc
  have n0 := m.ni.n0
  have n1 := m.ni.n1
  have n2 := m.ni.n2
  have n3 := m.ni.n3
  by_cases hk : 0 ≤ a ∧ a < σ 0 1 0
  · refine ⟨_, 0, _, σ, c_reservedCoins hl0 σ h.r m.mi a ha hk, Or.inl ⟨rfl, rfl⟩, h.r, fun σ2 hR2 hW => ?_⟩
    have hI := INV_w h (Int.le_refl B) hR2 hW
    have e := hW.e (j := 41) (by decide)
    refine ⟨_, _, d_reservedCoins hl0 σ2 hR2 hI.m.ni a ha (by rw [e]; omega), st3_self, fun _ => ?_, st3_50, INV_o hI (by omega) ⟨by decide, by decide⟩⟩
    rw [e]
    exact (m.res a).symm
  · refine ⟨_, 1, 0, σ, cx_reservedCoins hl0 σ h.r a ha hk, Or.inr ⟨0, _, rfl, rfl, rfl⟩, h.r, fun σ2 hR2 hW => ?_⟩
    have hI := INV_w h (Int.le_refl B) hR2 hW
    have e := hW.e (j := 41) (by decide)
    refine ⟨_, _, dx_reservedCoins hl0 σ2 hR2 hI.m.ni a ha (by rw [e]; omega), st3_self, fun q => absurd q (by decide), fun j hj => (st3_50 j hj).trans (st3_50 j hj), INV_o (INV_o hI (Int.le_refl B) ⟨by decide, by decide⟩) (by omega) ⟨by decide, by decide⟩⟩
theorem st_capacityOf (hl0 : l.stackTraces = false) (h : INV σ B) (a : Int) (ha : inR a) : St l D K ad σ B yX8_capacityOf (.code yX8_capacityOf cX8_capacityOf 2 (some .int)) 9 1 6 yX9_capacityOf (.code yX9_capacityOf cX9_capacityOf 2 (some .int)) 5 [.int (iN a)] ["java/lang/IndexOutOfBoundsException"] := by
  have m := h.m
  obtain ⟨s0, s1, s2, s3, s4, s5, s6, s7, s8, s9, s10, s11, s12⟩ := h.m.sc
  have n0 := m.ni.n0
  have n1 := m.ni.n1
  have n2 := m.ni.n2
  have n3 := m.ni.n3
  by_cases hk : 0 ≤ a ∧ a < σ 0 1 0
  · refine ⟨_, 0, _, σ, c_capacityOf hl0 σ h.r m.mi a ha hk, Or.inl ⟨rfl, rfl⟩, h.r, fun σ2 hR2 hW => ?_⟩
    have hI := INV_w h (Int.le_refl B) hR2 hW
    have e := hW.e (j := 41) (by decide)
    refine ⟨_, _, d_capacityOf hl0 σ2 hR2 hI.m.ni a ha (by rw [e]; omega), st3_self, fun _ => ?_, st3_50, INV_o hI (by omega) ⟨by decide, by decide⟩⟩
    rw [e]
    exact (m.sh a hk.1 (by omega)).2.symm
  · refine ⟨_, 1, 0, σ, cx_capacityOf hl0 σ h.r a ha hk, Or.inr ⟨0, _, rfl, rfl, rfl⟩, h.r, fun σ2 hR2 hW => ?_⟩
    have hI := INV_w h (Int.le_refl B) hR2 hW
    have e := hW.e (j := 41) (by decide)
    refine ⟨_, _, dx_capacityOf hl0 σ2 hR2 hI.m.ni a ha (by rw [e]; omega), st3_self, fun q => absurd q (by decide), fun j hj => (st3_50 j hj).trans (st3_50 j hj), INV_o (INV_o hI (Int.le_refl B) ⟨by decide, by decide⟩) (by omega) ⟨by decide, by decide⟩⟩
theorem st_loadOf (hl0 : l.stackTraces = false) (h : INV σ B) (a : Int) (ha : inR a) : St l D K ad σ B yX8_loadOf (.code yX8_loadOf cX8_loadOf 2 (some .int)) 9 1 6 yX9_loadOf (.code yX9_loadOf cX9_loadOf 2 (some .int)) 5 [.int (iN a)] ["java/lang/IndexOutOfBoundsException"] := by
  have m := h.m
  obtain ⟨s0, s1, s2, s3, s4, s5, s6, s7, s8, s9, s10, s11, s12⟩ := h.m.sc
  have n0 := m.ni.n0
  have n1 := m.ni.n1
  have n2 := m.ni.n2
  have n3 := m.ni.n3
  by_cases hk : 0 ≤ a ∧ a < σ 0 1 0
  · refine ⟨_, 0, _, σ, c_loadOf hl0 σ h.r m.mi a ha hk, Or.inl ⟨rfl, rfl⟩, h.r, fun σ2 hR2 hW => ?_⟩
    have hI := INV_w h (Int.le_refl B) hR2 hW
    have e := hW.e (j := 41) (by decide)
    refine ⟨_, _, d_loadOf hl0 σ2 hR2 hI.m.ni a ha (by rw [e]; omega), st3_self, fun _ => ?_, st3_50, INV_o hI (by omega) ⟨by decide, by decide⟩⟩
    rw [e]
    exact (m.load a).symm
  · refine ⟨_, 1, 0, σ, cx_loadOf hl0 σ h.r a ha hk, Or.inr ⟨0, _, rfl, rfl, rfl⟩, h.r, fun σ2 hR2 hW => ?_⟩
    have hI := INV_w h (Int.le_refl B) hR2 hW
    have e := hW.e (j := 41) (by decide)
    refine ⟨_, _, dx_loadOf hl0 σ2 hR2 hI.m.ni a ha (by rw [e]; omega), st3_self, fun q => absurd q (by decide), fun j hj => (st3_50 j hj).trans (st3_50 j hj), INV_o (INV_o hI (Int.le_refl B) ⟨by decide, by decide⟩) (by omega) ⟨by decide, by decide⟩⟩
theorem st_freePlaces (hl0 : l.stackTraces = false) (h : INV σ B) (a : Int) (ha : inR a) : St l D K ad σ B yX8_freePlaces (.code yX8_freePlaces cX8_freePlaces 2 (some .int)) 9 1 6 yX9_freePlaces (.code yX9_freePlaces cX9_freePlaces 2 (some .int)) 5 [.int (iN a)] ["java/lang/IndexOutOfBoundsException"] := by
  have m := h.m
  obtain ⟨s0, s1, s2, s3, s4, s5, s6, s7, s8, s9, s10, s11, s12⟩ := h.m.sc
  have n0 := m.ni.n0
  have n1 := m.ni.n1
  have n2 := m.ni.n2
  have n3 := m.ni.n3
  by_cases hk : 0 ≤ a ∧ a < σ 0 1 0
  · refine ⟨_, 0, _, σ, c_freePlaces hl0 σ h.r m.mi a ha hk, Or.inl ⟨rfl, rfl⟩, h.r, fun σ2 hR2 hW => ?_⟩
    have hI := INV_w h (Int.le_refl B) hR2 hW
    have e := hW.e (j := 41) (by decide)
    refine ⟨_, _, d_freePlaces hl0 σ2 hR2 hI.m.ni a ha (by rw [e]; omega), st3_self, fun _ => ?_, st3_50, INV_o hI (by omega) ⟨by decide, by decide⟩⟩
    rw [e]
    exact (m.places hk.1 (by omega)).symm
  · refine ⟨_, 1, 0, σ, cx_freePlaces hl0 σ h.r a ha hk, Or.inr ⟨0, _, rfl, rfl, rfl⟩, h.r, fun σ2 hR2 hW => ?_⟩
    have hI := INV_w h (Int.le_refl B) hR2 hW
    have e := hW.e (j := 41) (by decide)
    refine ⟨_, _, dx_freePlaces hl0 σ2 hR2 hI.m.ni a ha (by rw [e]; omega), st3_self, fun q => absurd q (by decide), fun j hj => (st3_50 j hj).trans (st3_50 j hj), INV_o (INV_o hI (Int.le_refl B) ⟨by decide, by decide⟩) (by omega) ⟨by decide, by decide⟩⟩
theorem st_shipOf (hl0 : l.stackTraces = false) (h : INV σ B) (a : Int) (ha : inR a) : St l D K ad σ B yX8_shipOf (.code yX8_shipOf cX8_shipOf 2 (some .int)) 9 1 6 yX9_shipOf (.code yX9_shipOf cX9_shipOf 2 (some .int)) 5 [.int (iN a)] ["java/lang/IndexOutOfBoundsException"] := by
  have m := h.m
  obtain ⟨s0, s1, s2, s3, s4, s5, s6, s7, s8, s9, s10, s11, s12⟩ := h.m.sc
  have n0 := m.ni.n0
  have n1 := m.ni.n1
  have n2 := m.ni.n2
  have n3 := m.ni.n3
  by_cases hk : 0 ≤ a ∧ a < σ 0 1 3
  · refine ⟨_, 0, _, σ, c_shipOf hl0 σ h.r m.mi a ha hk, Or.inl ⟨rfl, rfl⟩, h.r, fun σ2 hR2 hW => ?_⟩
    have hI := INV_w h (Int.le_refl B) hR2 hW
    have e := hW.e (j := 41) (by decide)
    refine ⟨_, _, d_shipOf hl0 σ2 hR2 hI.m.ni a ha (by rw [e]; omega), st3_self, fun _ => ?_, st3_50, INV_o hI (by omega) ⟨by decide, by decide⟩⟩
    rw [e]
    exact (m.ba a hk.1 (by omega)).1.symm
  · refine ⟨_, 1, 0, σ, cx_shipOf hl0 σ h.r a ha hk, Or.inr ⟨0, _, rfl, rfl, rfl⟩, h.r, fun σ2 hR2 hW => ?_⟩
    have hI := INV_w h (Int.le_refl B) hR2 hW
    have e := hW.e (j := 41) (by decide)
    refine ⟨_, _, dx_shipOf hl0 σ2 hR2 hI.m.ni a ha (by rw [e]; omega), st3_self, fun q => absurd q (by decide), fun j hj => (st3_50 j hj).trans (st3_50 j hj), INV_o (INV_o hI (Int.le_refl B) ⟨by decide, by decide⟩) (by omega) ⟨by decide, by decide⟩⟩
theorem st_gradeOf (hl0 : l.stackTraces = false) (h : INV σ B) (a : Int) (ha : inR a) : St l D K ad σ B yX8_gradeOf (.code yX8_gradeOf cX8_gradeOf 2 (some .int)) 9 1 6 yX9_gradeOf (.code yX9_gradeOf cX9_gradeOf 2 (some .int)) 5 [.int (iN a)] ["java/lang/IndexOutOfBoundsException"] := by
  have m := h.m
  obtain ⟨s0, s1, s2, s3, s4, s5, s6, s7, s8, s9, s10, s11, s12⟩ := h.m.sc
  have n0 := m.ni.n0
  have n1 := m.ni.n1
  have n2 := m.ni.n2
  have n3 := m.ni.n3
  by_cases hk : 0 ≤ a ∧ a < σ 0 1 3
  · refine ⟨_, 0, _, σ, c_gradeOf hl0 σ h.r m.mi a ha hk, Or.inl ⟨rfl, rfl⟩, h.r, fun σ2 hR2 hW => ?_⟩
    have hI := INV_w h (Int.le_refl B) hR2 hW
    have e := hW.e (j := 41) (by decide)
    refine ⟨_, _, d_gradeOf hl0 σ2 hR2 hI.m.ni a ha (by rw [e]; omega), st3_self, fun _ => ?_, st3_50, INV_o hI (by omega) ⟨by decide, by decide⟩⟩
    rw [e]
    exact (m.ba a hk.1 (by omega)).2.symm
  · refine ⟨_, 1, 0, σ, cx_gradeOf hl0 σ h.r a ha hk, Or.inr ⟨0, _, rfl, rfl, rfl⟩, h.r, fun σ2 hR2 hW => ?_⟩
    have hI := INV_w h (Int.le_refl B) hR2 hW
    have e := hW.e (j := 41) (by decide)
    refine ⟨_, _, dx_gradeOf hl0 σ2 hR2 hI.m.ni a ha (by rw [e]; omega), st3_self, fun q => absurd q (by decide), fun j hj => (st3_50 j hj).trans (st3_50 j hj), INV_o (INV_o hI (Int.le_refl B) ⟨by decide, by decide⟩) (by omega) ⟨by decide, by decide⟩⟩
theorem st_isOffered (hl0 : l.stackTraces = false) (h : INV σ B) (a : Int) (ha : inR a) : St l D K ad σ B yX8_isOffered (.code yX8_isOffered cX8_isOffered 2 (some .boolean)) 9 1 6 yX9_isOffered (.code yX9_isOffered cX9_isOffered 2 (some .boolean)) 5 [.int (iN a)] ["java/lang/IndexOutOfBoundsException"] := by
  have m := h.m
  obtain ⟨s0, s1, s2, s3, s4, s5, s6, s7, s8, s9, s10, s11, s12⟩ := h.m.sc
  have n0 := m.ni.n0
  have n1 := m.ni.n1
  have n2 := m.ni.n2
  have n3 := m.ni.n3
  by_cases hk : 0 ≤ a ∧ a < σ 0 1 3
  · refine ⟨_, 0, _, σ, c_isOffered hl0 σ h.r m.mi a ha hk, Or.inl ⟨rfl, rfl⟩, h.r, fun σ2 hR2 hW => ?_⟩
    have hI := INV_w h (Int.le_refl B) hR2 hW
    have e := hW.e (j := 41) (by decide)
    refine ⟨_, _, d_isOffered hl0 σ2 hR2 hI.m.ni a ha (by rw [e]; omega), st3_self, fun _ => ?_, st3_50, INV_o hI (by omega) ⟨by decide, by decide⟩⟩
    rw [e]
    have q := (m.ownO a).1
    by_cases z : rowOwn (σ 0) 12 a = -1
    · rw [if_pos z, if_pos (q.mp z)]
    · rw [if_neg z, if_neg (fun w => z (q.mpr w))]
  · refine ⟨_, 1, 0, σ, cx_isOffered hl0 σ h.r a ha hk, Or.inr ⟨0, _, rfl, rfl, rfl⟩, h.r, fun σ2 hR2 hW => ?_⟩
    have hI := INV_w h (Int.le_refl B) hR2 hW
    have e := hW.e (j := 41) (by decide)
    refine ⟨_, _, dx_isOffered hl0 σ2 hR2 hI.m.ni a ha (by rw [e]; omega), st3_self, fun q => absurd q (by decide), fun j hj => (st3_50 j hj).trans (st3_50 j hj), INV_o (INV_o hI (Int.le_refl B) ⟨by decide, by decide⟩) (by omega) ⟨by decide, by decide⟩⟩
theorem st_barnacleAt (hl0 : l.stackTraces = false) (h : INV σ B) (a : Int) (ha : inR a) (c : Int) (hc : inR c) : St l D K ad σ B yX8_barnacleAt (.code yX8_barnacleAt cX8_barnacleAt 4 (some .int)) 9 1 6 yX9_barnacleAt (.code yX9_barnacleAt cX9_barnacleAt 4 (some .int)) 5 [.int (iN a), .int (iN c)] ["java/lang/IndexOutOfBoundsException", "java/util/NoSuchElementException"] := by
  have m := h.m
  obtain ⟨s0, s1, s2, s3, s4, s5, s6, s7, s8, s9, s10, s11, s12⟩ := h.m.sc
  have n0 := m.ni.n0
  have n1 := m.ni.n1
  have n2 := m.ni.n2
  have n3 := m.ni.n3
  by_cases hk : 0 ≤ a ∧ a < σ 0 1 0
  · by_cases hq : inOrder (σ 0) a c = -1
    · refine ⟨_, 2, 0, σ, cx_barnacleAt hl0 σ h.r m.mi a ha c hc hk hq, Or.inr ⟨1, _, rfl, rfl, rfl⟩, h.r, fun σ2 hR2 hW => ?_⟩
      have hI := INV_w h (Int.le_refl B) hR2 hW
      have e := hW.e (j := 41) (by decide)
      refine ⟨_, _, dx_barnacleAt hl0 σ2 hR2 hI.m.ni a ha c hc (by rw [e]; omega) (by rw [e, ← m.order]; exact hq), st3_self, fun q => absurd q (by decide), fun j hj => (st3_50 j hj).trans (st3_50 j hj), INV_o (INV_o hI (Int.le_refl B) ⟨by decide, by decide⟩) (by omega) ⟨by decide, by decide⟩⟩
    · refine ⟨_, 0, _, σ, c_barnacleAt hl0 σ h.r m.mi a ha c hc hk hq, Or.inl ⟨rfl, rfl⟩, h.r, fun σ2 hR2 hW => ?_⟩
      have hI := INV_w h (Int.le_refl B) hR2 hW
      have e := hW.e (j := 41) (by decide)
      refine ⟨_, _, d_barnacleAt hl0 σ2 hR2 hI.m.ni a ha c hc (by rw [e]; omega) (by rw [e, ← m.order]; exact hq), st3_self, fun _ => ?_, st3_50, INV_o hI (by omega) ⟨by decide, by decide⟩⟩
      rw [e]
      exact (m.order a c).symm
  · refine ⟨_, 1, 0, σ, cy_barnacleAt hl0 σ h.r a ha c hc hk, Or.inr ⟨0, _, rfl, rfl, rfl⟩, h.r, fun σ2 hR2 hW => ?_⟩
    have hI := INV_w h (Int.le_refl B) hR2 hW
    have e := hW.e (j := 41) (by decide)
    refine ⟨_, _, dy_barnacleAt hl0 σ2 hR2 hI.m.ni a ha c hc (by rw [e]; omega), st3_self, fun q => absurd q (by decide), fun j hj => (st3_50 j hj).trans (st3_50 j hj), INV_o (INV_o hI (Int.le_refl B) ⟨by decide, by decide⟩) (by omega) ⟨by decide, by decide⟩⟩
theorem st_bidAt (hl0 : l.stackTraces = false) (h : INV σ B) (a : Int) (ha : inR a) : St l D K ad σ B yX8_bidAt (.code yX8_bidAt cX8_bidAt 2 (some .int)) 9 1 6 yX9_bidAt (.code yX9_bidAt cX9_bidAt 3 (some .int)) 5 [.int (iN a)] ["java/util/NoSuchElementException"] := by
  have m := h.m
  obtain ⟨s0, s1, s2, s3, s4, s5, s6, s7, s8, s9, s10, s11, s12⟩ := h.m.sc
  have n0 := m.ni.n0
  have n1 := m.ni.n1
  have n2 := m.ni.n2
  have n3 := m.ni.n3
  by_cases hk : 0 ≤ a ∧ a < σ 0 6 0
  · refine ⟨_, 0, _, σ, c_bidAt hl0 σ h.r m.mi a ha hk, Or.inl ⟨rfl, rfl⟩, h.r, fun σ2 hR2 hW => ?_⟩
    have hI := INV_w h (Int.le_refl B) hR2 hW
    have e := hW.e (j := 41) (by decide)
    obtain ⟨q1, q2⟩ := m.rankB (r := a) hk.1 (by omega)
    refine ⟨_, _, d_bidAt hl0 σ2 hR2 hI.m.ni a ha (by rw [e]; exact q1), st3_self, fun _ => ?_, st3_50, INV_o hI (by omega) ⟨by decide, by decide⟩⟩
    rw [e]
    exact row_1 q2
  · refine ⟨_, 1, 0, σ, cx_bidAt hl0 σ h.r m.mi a ha hk, Or.inr ⟨0, _, rfl, rfl, rfl⟩, h.r, fun σ2 hR2 hW => ?_⟩
    have hI := INV_w h (Int.le_refl B) hR2 hW
    have e := hW.e (j := 41) (by decide)
    refine ⟨_, _, dx_bidAt hl0 σ2 hR2 hI.m.ni a ha (by rw [e]; exact m.rankB_no (by omega)), st3_self, fun q => absurd q (by decide), fun j hj => (st3_50 j hj).trans (st3_50 j hj), INV_o (INV_o hI (Int.le_refl B) ⟨by decide, by decide⟩) (by omega) ⟨by decide, by decide⟩⟩
theorem st_offerAt (hl0 : l.stackTraces = false) (h : INV σ B) (a : Int) (ha : inR a) : St l D K ad σ B yX8_offerAt (.code yX8_offerAt cX8_offerAt 2 (some .int)) 9 1 6 yX9_offerAt (.code yX9_offerAt cX9_offerAt 3 (some .int)) 5 [.int (iN a)] ["java/util/NoSuchElementException"] := by
  have m := h.m
  obtain ⟨s0, s1, s2, s3, s4, s5, s6, s7, s8, s9, s10, s11, s12⟩ := h.m.sc
  have n0 := m.ni.n0
  have n1 := m.ni.n1
  have n2 := m.ni.n2
  have n3 := m.ni.n3
  by_cases hk : 0 ≤ a ∧ a < σ 0 12 0
  · refine ⟨_, 0, _, σ, c_offerAt hl0 σ h.r m.mi a ha hk, Or.inl ⟨rfl, rfl⟩, h.r, fun σ2 hR2 hW => ?_⟩
    have hI := INV_w h (Int.le_refl B) hR2 hW
    have e := hW.e (j := 41) (by decide)
    obtain ⟨q1, q2⟩ := m.rankO (r := a) hk.1 (by omega)
    refine ⟨_, _, d_offerAt hl0 σ2 hR2 hI.m.ni a ha (by rw [e]; exact q1), st3_self, fun _ => ?_, st3_50, INV_o hI (by omega) ⟨by decide, by decide⟩⟩
    rw [e]
    exact row_1 q2
  · refine ⟨_, 1, 0, σ, cx_offerAt hl0 σ h.r m.mi a ha hk, Or.inr ⟨0, _, rfl, rfl, rfl⟩, h.r, fun σ2 hR2 hW => ?_⟩
    have hI := INV_w h (Int.le_refl B) hR2 hW
    have e := hW.e (j := 41) (by decide)
    refine ⟨_, _, dx_offerAt hl0 σ2 hR2 hI.m.ni a ha (by rw [e]; exact m.rankO_no (by omega)), st3_self, fun q => absurd q (by decide), fun j hj => (st3_50 j hj).trans (st3_50 j hj), INV_o (INV_o hI (Int.le_refl B) ⟨by decide, by decide⟩) (by omega) ⟨by decide, by decide⟩⟩
theorem st_shipOfBid (hl0 : l.stackTraces = false) (h : INV σ B) (a : Int) (ha : inR a) : St l D K ad σ B yX8_shipOfBid (.code yX8_shipOfBid cX8_shipOfBid 2 (some .int)) 9 1 6 yX9_shipOfBid (.code yX9_shipOfBid cX9_shipOfBid 2 (some .int)) 5 [.int (iN a)] ["java/util/NoSuchElementException"] := by
  have m := h.m
  obtain ⟨s0, s1, s2, s3, s4, s5, s6, s7, s8, s9, s10, s11, s12⟩ := h.m.sc
  have n0 := m.ni.n0
  have n1 := m.ni.n1
  have n2 := m.ni.n2
  have n3 := m.ni.n3
  obtain ⟨q1, q2⟩ := m.rowB a
  by_cases hk : rowId (σ 0) 6 a = -1
  · refine ⟨_, 1, 0, σ, cx_shipOfBid hl0 σ h.r m.mi a ha hk, Or.inr ⟨0, _, rfl, rfl, rfl⟩, h.r, fun σ2 hR2 hW => ?_⟩
    have hI := INV_w h (Int.le_refl B) hR2 hW
    have e := hW.e (j := 41) (by decide)
    refine ⟨_, _, dx_shipOfBid hl0 σ2 hR2 hI.m.ni a ha (by rw [e]; exact q1.mp hk), st3_self, fun q => absurd q (by decide), fun j hj => (st3_50 j hj).trans (st3_50 j hj), INV_o (INV_o hI (Int.le_refl B) ⟨by decide, by decide⟩) (by omega) ⟨by decide, by decide⟩⟩
  · refine ⟨_, 0, _, σ, c_shipOfBid hl0 σ h.r m.mi a ha hk, Or.inl ⟨rfl, rfl⟩, h.r, fun σ2 hR2 hW => ?_⟩
    have hI := INV_w h (Int.le_refl B) hR2 hW
    have e := hW.e (j := 41) (by decide)
    refine ⟨_, _, d_shipOfBid hl0 σ2 hR2 hI.m.ni a ha (by rw [e]; exact fun w => hk (q1.mpr w)), st3_self, fun _ => ?_, st3_50, INV_o hI (by omega) ⟨by decide, by decide⟩⟩
    rw [e]
    exact (row_2 (q2 fun w => hk (q1.mpr w))).symm
theorem st_gradeOfBid (hl0 : l.stackTraces = false) (h : INV σ B) (a : Int) (ha : inR a) : St l D K ad σ B yX8_gradeOfBid (.code yX8_gradeOfBid cX8_gradeOfBid 2 (some .int)) 9 1 6 yX9_gradeOfBid (.code yX9_gradeOfBid cX9_gradeOfBid 2 (some .int)) 5 [.int (iN a)] ["java/util/NoSuchElementException"] := by
  have m := h.m
  obtain ⟨s0, s1, s2, s3, s4, s5, s6, s7, s8, s9, s10, s11, s12⟩ := h.m.sc
  have n0 := m.ni.n0
  have n1 := m.ni.n1
  have n2 := m.ni.n2
  have n3 := m.ni.n3
  obtain ⟨q1, q2⟩ := m.rowB a
  by_cases hk : rowId (σ 0) 6 a = -1
  · refine ⟨_, 1, 0, σ, cx_gradeOfBid hl0 σ h.r m.mi a ha hk, Or.inr ⟨0, _, rfl, rfl, rfl⟩, h.r, fun σ2 hR2 hW => ?_⟩
    have hI := INV_w h (Int.le_refl B) hR2 hW
    have e := hW.e (j := 41) (by decide)
    refine ⟨_, _, dx_gradeOfBid hl0 σ2 hR2 hI.m.ni a ha (by rw [e]; exact q1.mp hk), st3_self, fun q => absurd q (by decide), fun j hj => (st3_50 j hj).trans (st3_50 j hj), INV_o (INV_o hI (Int.le_refl B) ⟨by decide, by decide⟩) (by omega) ⟨by decide, by decide⟩⟩
  · refine ⟨_, 0, _, σ, c_gradeOfBid hl0 σ h.r m.mi a ha hk, Or.inl ⟨rfl, rfl⟩, h.r, fun σ2 hR2 hW => ?_⟩
    have hI := INV_w h (Int.le_refl B) hR2 hW
    have e := hW.e (j := 41) (by decide)
    refine ⟨_, _, d_gradeOfBid hl0 σ2 hR2 hI.m.ni a ha (by rw [e]; exact fun w => hk (q1.mpr w)), st3_self, fun _ => ?_, st3_50, INV_o hI (by omega) ⟨by decide, by decide⟩⟩
    rw [e]
    exact (row_3 (q2 fun w => hk (q1.mpr w))).symm
theorem st_priceOfBid (hl0 : l.stackTraces = false) (h : INV σ B) (a : Int) (ha : inR a) : St l D K ad σ B yX8_priceOfBid (.code yX8_priceOfBid cX8_priceOfBid 2 (some .int)) 9 1 6 yX9_priceOfBid (.code yX9_priceOfBid cX9_priceOfBid 2 (some .int)) 5 [.int (iN a)] ["java/util/NoSuchElementException"] := by
  have m := h.m
  obtain ⟨s0, s1, s2, s3, s4, s5, s6, s7, s8, s9, s10, s11, s12⟩ := h.m.sc
  have n0 := m.ni.n0
  have n1 := m.ni.n1
  have n2 := m.ni.n2
  have n3 := m.ni.n3
  obtain ⟨q1, q2⟩ := m.rowB a
  by_cases hk : rowId (σ 0) 6 a = -1
  · refine ⟨_, 1, 0, σ, cx_priceOfBid hl0 σ h.r m.mi a ha hk, Or.inr ⟨0, _, rfl, rfl, rfl⟩, h.r, fun σ2 hR2 hW => ?_⟩
    have hI := INV_w h (Int.le_refl B) hR2 hW
    have e := hW.e (j := 41) (by decide)
    refine ⟨_, _, dx_priceOfBid hl0 σ2 hR2 hI.m.ni a ha (by rw [e]; exact q1.mp hk), st3_self, fun q => absurd q (by decide), fun j hj => (st3_50 j hj).trans (st3_50 j hj), INV_o (INV_o hI (Int.le_refl B) ⟨by decide, by decide⟩) (by omega) ⟨by decide, by decide⟩⟩
  · refine ⟨_, 0, _, σ, c_priceOfBid hl0 σ h.r m.mi a ha hk, Or.inl ⟨rfl, rfl⟩, h.r, fun σ2 hR2 hW => ?_⟩
    have hI := INV_w h (Int.le_refl B) hR2 hW
    have e := hW.e (j := 41) (by decide)
    refine ⟨_, _, d_priceOfBid hl0 σ2 hR2 hI.m.ni a ha (by rw [e]; exact fun w => hk (q1.mpr w)), st3_self, fun _ => ?_, st3_50, INV_o hI (by omega) ⟨by decide, by decide⟩⟩
    rw [e]
    exact (row_4 (q2 fun w => hk (q1.mpr w))).symm
theorem st_ageOfBid (hl0 : l.stackTraces = false) (h : INV σ B) (a : Int) (ha : inR a) : St l D K ad σ B yX8_ageOfBid (.code yX8_ageOfBid cX8_ageOfBid 2 (some .int)) 9 1 6 yX9_ageOfBid (.code yX9_ageOfBid cX9_ageOfBid 2 (some .int)) 5 [.int (iN a)] ["java/util/NoSuchElementException"] := by
  have m := h.m
  obtain ⟨s0, s1, s2, s3, s4, s5, s6, s7, s8, s9, s10, s11, s12⟩ := h.m.sc
  have n0 := m.ni.n0
  have n1 := m.ni.n1
  have n2 := m.ni.n2
  have n3 := m.ni.n3
  obtain ⟨q1, q2⟩ := m.rowB a
  by_cases hk : rowId (σ 0) 6 a = -1
  · refine ⟨_, 1, 0, σ, cx_ageOfBid hl0 σ h.r m.mi a ha hk, Or.inr ⟨0, _, rfl, rfl, rfl⟩, h.r, fun σ2 hR2 hW => ?_⟩
    have hI := INV_w h (Int.le_refl B) hR2 hW
    have e := hW.e (j := 41) (by decide)
    refine ⟨_, _, dx_ageOfBid hl0 σ2 hR2 hI.m.ni a ha (by rw [e]; exact q1.mp hk), st3_self, fun q => absurd q (by decide), fun j hj => (st3_50 j hj).trans (st3_50 j hj), INV_o (INV_o hI (Int.le_refl B) ⟨by decide, by decide⟩) (by omega) ⟨by decide, by decide⟩⟩
  · refine ⟨_, 0, _, σ, c_ageOfBid hl0 σ h.r m.mi a ha hk, Or.inl ⟨rfl, rfl⟩, h.r, fun σ2 hR2 hW => ?_⟩
    have hI := INV_w h (Int.le_refl B) hR2 hW
    have e := hW.e (j := 41) (by decide)
    refine ⟨_, _, d_ageOfBid hl0 σ2 hR2 hI.m.ni a ha (by rw [e]; exact fun w => hk (q1.mpr w)), st3_self, fun _ => ?_, st3_50, INV_o hI (by omega) ⟨by decide, by decide⟩⟩
    rw [e]
    exact (row_5 (q2 fun w => hk (q1.mpr w))).symm
theorem st_barnacleOfOffer (hl0 : l.stackTraces = false) (h : INV σ B) (a : Int) (ha : inR a) : St l D K ad σ B yX8_barnacleOfOffer (.code yX8_barnacleOfOffer cX8_barnacleOfOffer 2 (some .int)) 9 1 6 yX9_barnacleOfOffer (.code yX9_barnacleOfOffer cX9_barnacleOfOffer 2 (some .int)) 5 [.int (iN a)] ["java/util/NoSuchElementException"] := by
  have m := h.m
  obtain ⟨s0, s1, s2, s3, s4, s5, s6, s7, s8, s9, s10, s11, s12⟩ := h.m.sc
  have n0 := m.ni.n0
  have n1 := m.ni.n1
  have n2 := m.ni.n2
  have n3 := m.ni.n3
  obtain ⟨q1, q2⟩ := m.rowO a
  by_cases hk : rowId (σ 0) 12 a = -1
  · refine ⟨_, 1, 0, σ, cx_barnacleOfOffer hl0 σ h.r m.mi a ha hk, Or.inr ⟨0, _, rfl, rfl, rfl⟩, h.r, fun σ2 hR2 hW => ?_⟩
    have hI := INV_w h (Int.le_refl B) hR2 hW
    have e := hW.e (j := 41) (by decide)
    refine ⟨_, _, dx_barnacleOfOffer hl0 σ2 hR2 hI.m.ni a ha (by rw [e]; exact q1.mp hk), st3_self, fun q => absurd q (by decide), fun j hj => (st3_50 j hj).trans (st3_50 j hj), INV_o (INV_o hI (Int.le_refl B) ⟨by decide, by decide⟩) (by omega) ⟨by decide, by decide⟩⟩
  · refine ⟨_, 0, _, σ, c_barnacleOfOffer hl0 σ h.r m.mi a ha hk, Or.inl ⟨rfl, rfl⟩, h.r, fun σ2 hR2 hW => ?_⟩
    have hI := INV_w h (Int.le_refl B) hR2 hW
    have e := hW.e (j := 41) (by decide)
    refine ⟨_, _, d_barnacleOfOffer hl0 σ2 hR2 hI.m.ni a ha (by rw [e]; exact fun w => hk (q1.mpr w)), st3_self, fun _ => ?_, st3_50, INV_o hI (by omega) ⟨by decide, by decide⟩⟩
    rw [e]
    exact (row_2 (q2 fun w => hk (q1.mpr w))).symm
theorem st_priceOfOffer (hl0 : l.stackTraces = false) (h : INV σ B) (a : Int) (ha : inR a) : St l D K ad σ B yX8_priceOfOffer (.code yX8_priceOfOffer cX8_priceOfOffer 2 (some .int)) 9 1 6 yX9_priceOfOffer (.code yX9_priceOfOffer cX9_priceOfOffer 2 (some .int)) 5 [.int (iN a)] ["java/util/NoSuchElementException"] := by
  have m := h.m
  obtain ⟨s0, s1, s2, s3, s4, s5, s6, s7, s8, s9, s10, s11, s12⟩ := h.m.sc
  have n0 := m.ni.n0
  have n1 := m.ni.n1
  have n2 := m.ni.n2
  have n3 := m.ni.n3
  obtain ⟨q1, q2⟩ := m.rowO a
  by_cases hk : rowId (σ 0) 12 a = -1
  · refine ⟨_, 1, 0, σ, cx_priceOfOffer hl0 σ h.r m.mi a ha hk, Or.inr ⟨0, _, rfl, rfl, rfl⟩, h.r, fun σ2 hR2 hW => ?_⟩
    have hI := INV_w h (Int.le_refl B) hR2 hW
    have e := hW.e (j := 41) (by decide)
    refine ⟨_, _, dx_priceOfOffer hl0 σ2 hR2 hI.m.ni a ha (by rw [e]; exact q1.mp hk), st3_self, fun q => absurd q (by decide), fun j hj => (st3_50 j hj).trans (st3_50 j hj), INV_o (INV_o hI (Int.le_refl B) ⟨by decide, by decide⟩) (by omega) ⟨by decide, by decide⟩⟩
  · refine ⟨_, 0, _, σ, c_priceOfOffer hl0 σ h.r m.mi a ha hk, Or.inl ⟨rfl, rfl⟩, h.r, fun σ2 hR2 hW => ?_⟩
    have hI := INV_w h (Int.le_refl B) hR2 hW
    have e := hW.e (j := 41) (by decide)
    refine ⟨_, _, d_priceOfOffer hl0 σ2 hR2 hI.m.ni a ha (by rw [e]; exact fun w => hk (q1.mpr w)), st3_self, fun _ => ?_, st3_50, INV_o hI (by omega) ⟨by decide, by decide⟩⟩
    rw [e]
    exact (row_4 (q2 fun w => hk (q1.mpr w))).symm
theorem st_ageOfOffer (hl0 : l.stackTraces = false) (h : INV σ B) (a : Int) (ha : inR a) : St l D K ad σ B yX8_ageOfOffer (.code yX8_ageOfOffer cX8_ageOfOffer 2 (some .int)) 9 1 6 yX9_ageOfOffer (.code yX9_ageOfOffer cX9_ageOfOffer 2 (some .int)) 5 [.int (iN a)] ["java/util/NoSuchElementException"] := by
  have m := h.m
  obtain ⟨s0, s1, s2, s3, s4, s5, s6, s7, s8, s9, s10, s11, s12⟩ := h.m.sc
  have n0 := m.ni.n0
  have n1 := m.ni.n1
  have n2 := m.ni.n2
  have n3 := m.ni.n3
  obtain ⟨q1, q2⟩ := m.rowO a
  by_cases hk : rowId (σ 0) 12 a = -1
  · refine ⟨_, 1, 0, σ, cx_ageOfOffer hl0 σ h.r m.mi a ha hk, Or.inr ⟨0, _, rfl, rfl, rfl⟩, h.r, fun σ2 hR2 hW => ?_⟩
    have hI := INV_w h (Int.le_refl B) hR2 hW
    have e := hW.e (j := 41) (by decide)
    refine ⟨_, _, dx_ageOfOffer hl0 σ2 hR2 hI.m.ni a ha (by rw [e]; exact q1.mp hk), st3_self, fun q => absurd q (by decide), fun j hj => (st3_50 j hj).trans (st3_50 j hj), INV_o (INV_o hI (Int.le_refl B) ⟨by decide, by decide⟩) (by omega) ⟨by decide, by decide⟩⟩
  · refine ⟨_, 0, _, σ, c_ageOfOffer hl0 σ h.r m.mi a ha hk, Or.inl ⟨rfl, rfl⟩, h.r, fun σ2 hR2 hW => ?_⟩
    have hI := INV_w h (Int.le_refl B) hR2 hW
    have e := hW.e (j := 41) (by decide)
    refine ⟨_, _, d_ageOfOffer hl0 σ2 hR2 hI.m.ni a ha (by rw [e]; exact fun w => hk (q1.mpr w)), st3_self, fun _ => ?_, st3_50, INV_o hI (by omega) ⟨by decide, by decide⟩⟩
    rw [e]
    exact (row_5 (q2 fun w => hk (q1.mpr w))).symm
theorem st_matchFor (hl0 : l.stackTraces = false) (h : INV σ B) (a : Int) (ha : inR a) : St l D K ad σ B yX8_matchFor (.code yX8_matchFor cX8_matchFor 2 (some .int)) 9 1 6 yX9_matchFor (.code yX9_matchFor cX9_matchFor 4 (some .int)) 5 [.int (iN a)] ["java/util/NoSuchElementException"] := by
  have m := h.m
  obtain ⟨s0, s1, s2, s3, s4, s5, s6, s7, s8, s9, s10, s11, s12⟩ := h.m.sc
  have n0 := m.ni.n0
  have n1 := m.ni.n1
  have n2 := m.ni.n2
  have n3 := m.ni.n3
  obtain ⟨q1, q2⟩ := m.rowB a
  by_cases hk : rowId (σ 0) 6 a = -1
  · refine ⟨_, 1, 0, σ, cy_matchFor hl0 σ h.r m.mi a ha hk, Or.inr ⟨0, _, rfl, rfl, rfl⟩, h.r, fun σ2 hR2 hW => ?_⟩
    have hI := INV_w h (Int.le_refl B) hR2 hW
    have e := hW.e (j := 41) (by decide)
    refine ⟨_, _, dx_matchFor hl0 σ2 hR2 hI.m.ni a ha (by rw [e]; exact Or.inl (q1.mp hk)), st3_self, fun q => absurd q (by decide), fun j hj => (st3_50 j hj).trans (st3_50 j hj), INV_o (INV_o hI (Int.le_refl B) ⟨by decide, by decide⟩) (by omega) ⟨by decide, by decide⟩⟩
  · have hk2 : mplB (σ 0 41) a ≠ -1 := fun w => hk (q1.mpr w)
    obtain ⟨w1, w2, w3⟩ := m.mat (q2 hk2)
    by_cases hq : matchO (σ 0) (rowId (σ 0) 6 a) = -1
    · refine ⟨_, 1, 0, σ, cx_matchFor hl0 σ h.r m.mi a ha hk hq, Or.inr ⟨0, _, rfl, rfl, rfl⟩, h.r, fun σ2 hR2 hW => ?_⟩
      have hI := INV_w h (Int.le_refl B) hR2 hW
      have e := hW.e (j := 41) (by decide)
      have hq2 := hq
      refine ⟨_, _, dx_matchFor hl0 σ2 hR2 hI.m.ni a ha (by rw [e]; exact Or.inr (w1.mp hq2)), st3_self, fun q => absurd q (by decide), fun j hj => (st3_50 j hj).trans (st3_50 j hj), INV_o (INV_o hI (Int.le_refl B) ⟨by decide, by decide⟩) (by omega) ⟨by decide, by decide⟩⟩
    · refine ⟨_, 0, _, σ, c_matchFor hl0 σ h.r m.mi a ha hk hq, Or.inl ⟨rfl, rfl⟩, h.r, fun σ2 hR2 hW => ?_⟩
      have hI := INV_w h (Int.le_refl B) hR2 hW
      have e := hW.e (j := 41) (by decide)
      have hq2 := hq
      refine ⟨_, _, d_matchFor hl0 σ2 hR2 hI.m.ni a ha (by rw [e]; exact hk2) (by rw [e]; exact fun w => hq2 (w1.mpr w)), st3_self, fun _ => ?_, st3_50, INV_o hI (by omega) ⟨by decide, by decide⟩⟩
      rw [e]
      exact (row_1 (w2 fun w => hq2 (w1.mpr w))).symm
theorem st_matchByBarnacles (hl0 : l.stackTraces = false) (h : INV σ B) (a : Int) (ha : inR a) : St l D K ad σ B yX8_matchByBarnacles (.code yX8_matchByBarnacles cX8_matchByBarnacles 2 (some .int)) 9 1 6 yX9_matchByBarnacles (.code yX9_matchByBarnacles cX9_matchByBarnacles 2 (some .int)) 6 [.int (iN a)] ["java/util/NoSuchElementException"] := by
  have m := h.m
  obtain ⟨s0, s1, s2, s3, s4, s5, s6, s7, s8, s9, s10, s11, s12⟩ := h.m.sc
  have n0 := m.ni.n0
  have n1 := m.ni.n1
  have n2 := m.ni.n2
  have n3 := m.ni.n3
  obtain ⟨q1, q2⟩ := m.rowB a
  by_cases hk : rowId (σ 0) 6 a = -1
  · refine ⟨_, 1, 0, σ, cy_matchByBarnacles hl0 σ h.r m.mi a ha hk, Or.inr ⟨0, _, rfl, rfl, rfl⟩, h.r, fun σ2 hR2 hW => ?_⟩
    have hI := INV_w h (Int.le_refl B) hR2 hW
    have e := hW.e (j := 41) (by decide)
    refine ⟨_, _, dx_matchByBarnacles hl0 σ2 hR2 hI.m.ni a ha (by rw [e]; exact Or.inl (q1.mp hk)), st3_self, fun q => absurd q (by decide), fun j hj => (st3_50 j hj).trans (st3_50 j hj), INV_o (INV_o hI (Int.le_refl B) ⟨by decide, by decide⟩) (by omega) ⟨by decide, by decide⟩⟩
  · have hk2 : mplB (σ 0 41) a ≠ -1 := fun w => hk (q1.mpr w)
    obtain ⟨w1, w2, w3⟩ := m.mat (q2 hk2)
    by_cases hq : bestAB (σ 0) (rowId (σ 0) 6 a) = -1
    · refine ⟨_, 1, 0, σ, cx_matchByBarnacles hl0 σ h.r m.mi a ha hk hq, Or.inr ⟨0, _, rfl, rfl, rfl⟩, h.r, fun σ2 hR2 hW => ?_⟩
      have hI := INV_w h (Int.le_refl B) hR2 hW
      have e := hW.e (j := 41) (by decide)
      have hq2 := hq
      rw [m.best] at hq2
      refine ⟨_, _, dx_matchByBarnacles hl0 σ2 hR2 hI.m.ni a ha (by rw [e]; exact Or.inr (w1.mp hq2)), st3_self, fun q => absurd q (by decide), fun j hj => (st3_50 j hj).trans (st3_50 j hj), INV_o (INV_o hI (Int.le_refl B) ⟨by decide, by decide⟩) (by omega) ⟨by decide, by decide⟩⟩
    · refine ⟨_, 0, _, σ, c_matchByBarnacles hl0 σ h.r m.mi a ha hk hq, Or.inl ⟨rfl, rfl⟩, h.r, fun σ2 hR2 hW => ?_⟩
      have hI := INV_w h (Int.le_refl B) hR2 hW
      have e := hW.e (j := 41) (by decide)
      have hq2 := hq
      rw [m.best] at hq2
      refine ⟨_, _, d_matchByBarnacles hl0 σ2 hR2 hI.m.ni a ha (by rw [e]; exact hk2) (by rw [e]; exact fun w => hq2 (w1.mpr w)), st3_self, fun _ => ?_, st3_50, INV_o hI (by omega) ⟨by decide, by decide⟩⟩
      rw [m.best]
      rw [e]
      exact (row_1 (w2 fun w => hq2 (w1.mpr w))).symm
theorem st_spread (hl0 : l.stackTraces = false) (h : INV σ B) : St l D K ad σ B yX8_spread (.code yX8_spread cX8_spread 1 (some .int)) 9 1 6 yX9_spread (.code yX9_spread cX9_spread 1 (some .int)) 5 [] ["java/util/NoSuchElementException"] := by
  have m := h.m
  obtain ⟨s0, s1, s2, s3, s4, s5, s6, s7, s8, s9, s10, s11, s12⟩ := h.m.sc
  have n0 := m.ni.n0
  have n1 := m.ni.n1
  have n2 := m.ni.n2
  have n3 := m.ni.n3
  by_cases hk : σ 0 6 0 = 0 ∨ σ 0 12 0 = 0
  · refine ⟨_, 1, 0, σ, cx_spread hl0 σ h.r hk, Or.inr ⟨0, _, rfl, rfl, rfl⟩, h.r, fun σ2 hR2 hW => ?_⟩
    have hI := INV_w h (Int.le_refl B) hR2 hW
    have e := hW.e (j := 41) (by decide)
    refine ⟨_, _, dx_spread hl0 σ2 hR2 hI.m.ni (by rw [e]; omega), st3_self, fun q => absurd q (by decide), fun j hj => (st3_50 j hj).trans (st3_50 j hj), INV_o (INV_o hI (Int.le_refl B) ⟨by decide, by decide⟩) (by omega) ⟨by decide, by decide⟩⟩
  · refine ⟨_, 0, _, σ, c_spread hl0 σ h.r hk, Or.inl ⟨rfl, rfl⟩, h.r, fun σ2 hR2 hW => ?_⟩
    have hI := INV_w h (Int.le_refl B) hR2 hW
    have e := hW.e (j := 41) (by decide)
    obtain ⟨q1, q2⟩ := m.rankB (r := 0) (by decide) (by omega)
    obtain ⟨q3, q4⟩ := m.rankO (r := 0) (by decide) (by omega)
    refine ⟨_, _, d_spread hl0 σ2 hR2 hI.m.ni (by rw [e]; omega) (by rw [e]; exact q1) (by rw [e]; exact q3), st3_self, fun _ => ?_, st3_50, INV_o hI (by omega) ⟨by decide, by decide⟩⟩
    rw [e]
    have w1 : σ 0 41 (58 + 5 * mbRank (σ 0 41) 0 + 3) = σ 0 10 0 := row_4 q2
    have w2 : σ 0 41 (108 + 4 * moRank (σ 0 41) 0 + 2) = σ 0 16 0 := row_4 q4
    omega
theorem st_buyerOf (hl0 : l.stackTraces = false) (h : INV σ B) (a : Int) (ha : inR a) : St l D K ad σ B yX8_buyerOf (.code yX8_buyerOf cX8_buyerOf 2 (some .int)) 9 1 6 yX9_buyerOf (.code yX9_buyerOf cX9_buyerOf 2 (some .int)) 5 [.int (iN a)] ["java/util/NoSuchElementException"] := by
  have m := h.m
  obtain ⟨s0, s1, s2, s3, s4, s5, s6, s7, s8, s9, s10, s11, s12⟩ := h.m.sc
  have n0 := m.ni.n0
  have n1 := m.ni.n1
  have n2 := m.ni.n2
  have n3 := m.ni.n3
  have ht := m.tr.1
  by_cases hk : 0 ≤ a ∧ a < 10 ∧ a < σ 0 18 0
  · refine ⟨_, 0, _, σ, c_buyerOf hl0 σ h.r a ha hk, Or.inl ⟨rfl, rfl⟩, h.r, fun σ2 hR2 hW => ?_⟩
    have hI := INV_w h (Int.le_refl B) hR2 hW
    have e := hW.e (j := 41) (by decide)
    refine ⟨_, _, d_buyerOf hl0 σ2 hR2 hI.m.ni a ha (by rw [e, ht]; split <;> omega) (by omega), st3_self, fun _ => ?_, st3_50, INV_o hI (by omega) ⟨by decide, by decide⟩⟩
    rw [e]
    rw [Int.add_zero]
    exact (m.tr.2 a hk.1 hk.2.1).1.symm
  · refine ⟨_, 1, 0, σ, cx_buyerOf hl0 σ h.r a ha hk, Or.inr ⟨0, _, rfl, rfl, rfl⟩, h.r, fun σ2 hR2 hW => ?_⟩
    have hI := INV_w h (Int.le_refl B) hR2 hW
    have e := hW.e (j := 41) (by decide)
    refine ⟨_, _, dx_buyerOf hl0 σ2 hR2 hI.m.ni a ha (by rw [e, ht]; split <;> omega), st3_self, fun q => absurd q (by decide), fun j hj => (st3_50 j hj).trans (st3_50 j hj), INV_o (INV_o hI (Int.le_refl B) ⟨by decide, by decide⟩) (by omega) ⟨by decide, by decide⟩⟩
theorem st_sellerOf (hl0 : l.stackTraces = false) (h : INV σ B) (a : Int) (ha : inR a) : St l D K ad σ B yX8_sellerOf (.code yX8_sellerOf cX8_sellerOf 2 (some .int)) 9 1 6 yX9_sellerOf (.code yX9_sellerOf cX9_sellerOf 2 (some .int)) 5 [.int (iN a)] ["java/util/NoSuchElementException"] := by
  have m := h.m
  obtain ⟨s0, s1, s2, s3, s4, s5, s6, s7, s8, s9, s10, s11, s12⟩ := h.m.sc
  have n0 := m.ni.n0
  have n1 := m.ni.n1
  have n2 := m.ni.n2
  have n3 := m.ni.n3
  have ht := m.tr.1
  by_cases hk : 0 ≤ a ∧ a < 10 ∧ a < σ 0 18 0
  · refine ⟨_, 0, _, σ, c_sellerOf hl0 σ h.r a ha hk, Or.inl ⟨rfl, rfl⟩, h.r, fun σ2 hR2 hW => ?_⟩
    have hI := INV_w h (Int.le_refl B) hR2 hW
    have e := hW.e (j := 41) (by decide)
    refine ⟨_, _, d_sellerOf hl0 σ2 hR2 hI.m.ni a ha (by rw [e, ht]; split <;> omega) (by omega), st3_self, fun _ => ?_, st3_50, INV_o hI (by omega) ⟨by decide, by decide⟩⟩
    rw [e]
    exact (m.tr.2 a hk.1 hk.2.1).2.1.symm
  · refine ⟨_, 1, 0, σ, cx_sellerOf hl0 σ h.r a ha hk, Or.inr ⟨0, _, rfl, rfl, rfl⟩, h.r, fun σ2 hR2 hW => ?_⟩
    have hI := INV_w h (Int.le_refl B) hR2 hW
    have e := hW.e (j := 41) (by decide)
    refine ⟨_, _, dx_sellerOf hl0 σ2 hR2 hI.m.ni a ha (by rw [e, ht]; split <;> omega), st3_self, fun q => absurd q (by decide), fun j hj => (st3_50 j hj).trans (st3_50 j hj), INV_o (INV_o hI (Int.le_refl B) ⟨by decide, by decide⟩) (by omega) ⟨by decide, by decide⟩⟩
theorem st_barnacleOf (hl0 : l.stackTraces = false) (h : INV σ B) (a : Int) (ha : inR a) : St l D K ad σ B yX8_barnacleOf (.code yX8_barnacleOf cX8_barnacleOf 2 (some .int)) 9 1 6 yX9_barnacleOf (.code yX9_barnacleOf cX9_barnacleOf 2 (some .int)) 5 [.int (iN a)] ["java/util/NoSuchElementException"] := by
  have m := h.m
  obtain ⟨s0, s1, s2, s3, s4, s5, s6, s7, s8, s9, s10, s11, s12⟩ := h.m.sc
  have n0 := m.ni.n0
  have n1 := m.ni.n1
  have n2 := m.ni.n2
  have n3 := m.ni.n3
  have ht := m.tr.1
  by_cases hk : 0 ≤ a ∧ a < 10 ∧ a < σ 0 18 0
  · refine ⟨_, 0, _, σ, c_barnacleOf hl0 σ h.r a ha hk, Or.inl ⟨rfl, rfl⟩, h.r, fun σ2 hR2 hW => ?_⟩
    have hI := INV_w h (Int.le_refl B) hR2 hW
    have e := hW.e (j := 41) (by decide)
    refine ⟨_, _, d_barnacleOf hl0 σ2 hR2 hI.m.ni a ha (by rw [e, ht]; split <;> omega) (by omega), st3_self, fun _ => ?_, st3_50, INV_o hI (by omega) ⟨by decide, by decide⟩⟩
    rw [e]
    exact (m.tr.2 a hk.1 hk.2.1).2.2.1.symm
  · refine ⟨_, 1, 0, σ, cx_barnacleOf hl0 σ h.r a ha hk, Or.inr ⟨0, _, rfl, rfl, rfl⟩, h.r, fun σ2 hR2 hW => ?_⟩
    have hI := INV_w h (Int.le_refl B) hR2 hW
    have e := hW.e (j := 41) (by decide)
    refine ⟨_, _, dx_barnacleOf hl0 σ2 hR2 hI.m.ni a ha (by rw [e, ht]; split <;> omega), st3_self, fun q => absurd q (by decide), fun j hj => (st3_50 j hj).trans (st3_50 j hj), INV_o (INV_o hI (Int.le_refl B) ⟨by decide, by decide⟩) (by omega) ⟨by decide, by decide⟩⟩
theorem st_priceOf (hl0 : l.stackTraces = false) (h : INV σ B) (a : Int) (ha : inR a) : St l D K ad σ B yX8_priceOf (.code yX8_priceOf cX8_priceOf 2 (some .int)) 9 1 6 yX9_priceOf (.code yX9_priceOf cX9_priceOf 2 (some .int)) 5 [.int (iN a)] ["java/util/NoSuchElementException"] := by
  have m := h.m
  obtain ⟨s0, s1, s2, s3, s4, s5, s6, s7, s8, s9, s10, s11, s12⟩ := h.m.sc
  have n0 := m.ni.n0
  have n1 := m.ni.n1
  have n2 := m.ni.n2
  have n3 := m.ni.n3
  have ht := m.tr.1
  by_cases hk : 0 ≤ a ∧ a < 10 ∧ a < σ 0 18 0
  · refine ⟨_, 0, _, σ, c_priceOf hl0 σ h.r a ha hk, Or.inl ⟨rfl, rfl⟩, h.r, fun σ2 hR2 hW => ?_⟩
    have hI := INV_w h (Int.le_refl B) hR2 hW
    have e := hW.e (j := 41) (by decide)
    refine ⟨_, _, d_priceOf hl0 σ2 hR2 hI.m.ni a ha (by rw [e, ht]; split <;> omega) (by omega), st3_self, fun _ => ?_, st3_50, INV_o hI (by omega) ⟨by decide, by decide⟩⟩
    rw [e]
    exact (m.tr.2 a hk.1 hk.2.1).2.2.2.symm
  · refine ⟨_, 1, 0, σ, cx_priceOf hl0 σ h.r a ha hk, Or.inr ⟨0, _, rfl, rfl, rfl⟩, h.r, fun σ2 hR2 hW => ?_⟩
    have hI := INV_w h (Int.le_refl B) hR2 hW
    have e := hW.e (j := 41) (by decide)
    refine ⟨_, _, dx_priceOf hl0 σ2 hR2 hI.m.ni a ha (by rw [e, ht]; split <;> omega), st3_self, fun q => absurd q (by decide), fun j hj => (st3_50 j hj).trans (st3_50 j hj), INV_o (INV_o hI (Int.le_refl B) ⟨by decide, by decide⟩) (by omega) ⟨by decide, by decide⟩⟩
theorem st_shipByWealth (hl0 : l.stackTraces = false) (h : INV σ B) (a : Int) (ha : inR a) : St l D K ad σ B yX8_shipByWealth (.code yX8_shipByWealth cX8_shipByWealth 3 (some .int)) 9 1 6 yX9_shipByWealth (.code yX9_shipByWealth cX9_shipByWealth 6 (some .int)) 5 [.int (iN a)] ["java/util/NoSuchElementException"] := by
  have m := h.m
  obtain ⟨s0, s1, s2, s3, s4, s5, s6, s7, s8, s9, s10, s11, s12⟩ := h.m.sc
  have n0 := m.ni.n0
  have n1 := m.ni.n1
  have n2 := m.ni.n2
  have n3 := m.ni.n3
  have hw := m.byWealth a
  by_cases hk : shipInOrder (σ 0) a = -1
  · refine ⟨_, 1, 0, σ, cx_shipByWealth hl0 σ h.r m.mi a ha hk, Or.inr ⟨0, _, rfl, rfl, rfl⟩, h.r, fun σ2 hR2 hW => ?_⟩
    have hI := INV_w h (Int.le_refl B) hR2 hW
    have e := hW.e (j := 41) (by decide)
    refine ⟨_, _, dx_shipByWealth hl0 σ2 hR2 hI.m.ni a ha (by rw [e, ← hw]; exact hk), st3_self, fun q => absurd q (by decide), fun j hj => (st3_50 j hj).trans (st3_50 j hj), INV_o (INV_o hI (Int.le_refl B) ⟨by decide, by decide⟩) (by omega) ⟨by decide, by decide⟩⟩
  · refine ⟨_, 0, _, σ, c_shipByWealth hl0 σ h.r m.mi a ha hk, Or.inl ⟨rfl, rfl⟩, h.r, fun σ2 hR2 hW => ?_⟩
    have hI := INV_w h (Int.le_refl B) hR2 hW
    have e := hW.e (j := 41) (by decide)
    refine ⟨_, _, d_shipByWealth hl0 σ2 hR2 hI.m.ni a ha (by rw [e, ← hw]; exact hk), st3_self, fun _ => ?_, st3_50, INV_o hI (by omega) ⟨by decide, by decide⟩⟩
    rw [e]
    exact hw.symm
theorem st_consistent (hl0 : l.stackTraces = false) (h : INV σ B) : St l D K ad σ B yX8_isConsistent (.code yX8_isConsistent cX8_isConsistent 1 (some .boolean)) 9 1 6 yX9_isConsistent (.code yX9_isConsistent cX9_isConsistent 1 (some .boolean)) 5 [] [] := by
  have m := h.m
  obtain ⟨s0, s1, s2, s3, s4, s5, s6, s7, s8, s9, s10, s11, s12⟩ := h.m.sc
  have n0 := m.ni.n0
  have n1 := m.ni.n1
  have n2 := m.ni.n2
  have n3 := m.ni.n3
  have hs := m.shipCoins
  have hre := m.re
  have h2 : allI (fun b => matchO (σ 0) b = bestAB (σ 0) b) (σ 0 6 0) = 1 := (allI_yes fun j _ _ => (m.best j).symm).symm
  have h3 : allI (fun s => 0 ≤ coinsL (σ 0) s ∧ 0 ≤ placesL (σ 0) s) (σ 0 1 0) = 1 := (allI_yes fun j j0 j1 => by
    rw [m.coins j0 (by omega), m.places j0 (by omega)]
    have := hre.1 j j0 (by omega)
    omega).symm
  refine ⟨_, 0, _, σ, c_consistent hl0 σ h.r m.mi (by rw [hs, s10, s12]; exact hre.2) h2 h3, Or.inl ⟨rfl, rfl⟩, h.r, fun σ2 hR2 hW => ?_⟩
  have hI := INV_w h (Int.le_refl B) hR2 hW
  have e := hW.e (j := 41) (by decide)
  refine ⟨_, _, d_consistent hl0 σ2 hR2, st3_self, fun _ => ?_, st3_50, INV_o hI (by omega) ⟨by decide, by decide⟩⟩
  rfl
theorem st_synErr (hl0 : l.stackTraces = false) (h : INV σ B) : St l D K ad σ B yX8_syntaxErrorOffset (.code yX8_syntaxErrorOffset cX8_syntaxErrorOffset 1 (some .int)) 9 1 6 yX9_syntaxErrorOffset (.code yX9_syntaxErrorOffset cX9_syntaxErrorOffset 1 (some .int)) 5 [] ["java/util/NoSuchElementException"] := by
  have m := h.m
  obtain ⟨s0, s1, s2, s3, s4, s5, s6, s7, s8, s9, s10, s11, s12⟩ := h.m.sc
  have n0 := m.ni.n0
  have n1 := m.ni.n1
  have n2 := m.ni.n2
  have n3 := m.ni.n3
  have hrj := h.rj
  have hse := h.se
  by_cases hk : σ 0 23 10 = -1
  · refine ⟨_, 1, 0, σ, cx_synErr hl0 σ h.r hk, Or.inr ⟨0, _, rfl, rfl, rfl⟩, h.r, fun σ2 hR2 hW => ?_⟩
    have hI := INV_w h (Int.le_refl B) hR2 hW
    have e := hW.e (j := 41) (by decide)
    have e40 := hW.e (j := 40) (by decide)
    refine ⟨_, _, dx_syntaxErrorOffset hl0 σ2 hR2 (by rw [e40]; omega), st3_self, fun q => absurd q (by decide), fun j hj => (st3_50 j hj).trans (st3_50 j hj), INV_o (INV_o hI (Int.le_refl B) ⟨by decide, by decide⟩) (by omega) ⟨by decide, by decide⟩⟩
  · refine ⟨_, 0, _, σ, c_synErr hl0 σ h.r hk, Or.inl ⟨rfl, rfl⟩, h.r, fun σ2 hR2 hW => ?_⟩
    have hI := INV_w h (Int.le_refl B) hR2 hW
    have e := hW.e (j := 41) (by decide)
    have e40 := hW.e (j := 40) (by decide)
    refine ⟨_, _, d_syntaxErrorOffset hl0 σ2 hR2 (by rw [e40]; omega), st3_self, fun _ => ?_, st3_50, INV_o hI (by omega) ⟨by decide, by decide⟩⟩
    rw [e40]
    exact hse
theorem st_rejectionReason (hl0 : l.stackTraces = false) (h : INV σ B) : St l D K ad σ B yX8_rejectionReason (.code yX8_rejectionReason cX8_rejectionReason 1 (some .int)) 9 1 6 yX9_rejectionReason (.code yX9_rejectionReason cX9_rejectionReason 1 (some .int)) 5 [] ["java/util/NoSuchElementException"] := by
  have m := h.m
  obtain ⟨s0, s1, s2, s3, s4, s5, s6, s7, s8, s9, s10, s11, s12⟩ := h.m.sc
  have n0 := m.ni.n0
  have n1 := m.ni.n1
  have n2 := m.ni.n2
  have n3 := m.ni.n3
  have hrj := h.rj
  have hse := h.se
  by_cases hk : σ 0 23 7 = -1
  · refine ⟨_, 1, 0, σ, cx_rejectionReason hl0 σ h.r hk, Or.inr ⟨0, _, rfl, rfl, rfl⟩, h.r, fun σ2 hR2 hW => ?_⟩
    have hI := INV_w h (Int.le_refl B) hR2 hW
    have e := hW.e (j := 41) (by decide)
    have e40 := hW.e (j := 40) (by decide)
    refine ⟨_, _, dx_rejectionReason hl0 σ2 hR2 (by unfold RJ at hrj; rw [e40]; omega), st3_self, fun q => absurd q (by decide), fun j hj => (st3_50 j hj).trans (st3_50 j hj), INV_o (INV_o hI (Int.le_refl B) ⟨by decide, by decide⟩) (by omega) ⟨by decide, by decide⟩⟩
  · refine ⟨_, 0, _, σ, c_rejectionReason hl0 σ h.r hk, Or.inl ⟨rfl, rfl⟩, h.r, fun σ2 hR2 hW => ?_⟩
    have hI := INV_w h (Int.le_refl B) hR2 hW
    have e := hW.e (j := 41) (by decide)
    have e40 := hW.e (j := 40) (by decide)
    refine ⟨_, _, d_rejectionReason hl0 σ2 hR2 (by unfold RJ at hrj; rw [e40]; omega), st3_self, fun _ => ?_, st3_50, INV_o hI (by omega) ⟨by decide, by decide⟩⟩
    unfold RJ at hrj
    rw [e40]
    omega
theorem st_rejectionDetail (hl0 : l.stackTraces = false) (h : INV σ B) : St l D K ad σ B yX8_rejectionDetail (.code yX8_rejectionDetail cX8_rejectionDetail 1 (some .int)) 9 1 6 yX9_rejectionDetail (.code yX9_rejectionDetail cX9_rejectionDetail 1 (some .int)) 5 [] ["java/util/NoSuchElementException"] := by
  have m := h.m
  obtain ⟨s0, s1, s2, s3, s4, s5, s6, s7, s8, s9, s10, s11, s12⟩ := h.m.sc
  have n0 := m.ni.n0
  have n1 := m.ni.n1
  have n2 := m.ni.n2
  have n3 := m.ni.n3
  have hrj := h.rj
  have hse := h.se
  by_cases hk : σ 0 23 7 = -1
  · refine ⟨_, 1, 0, σ, cx_rejectionDetail hl0 σ h.r hk, Or.inr ⟨0, _, rfl, rfl, rfl⟩, h.r, fun σ2 hR2 hW => ?_⟩
    have hI := INV_w h (Int.le_refl B) hR2 hW
    have e := hW.e (j := 41) (by decide)
    have e40 := hW.e (j := 40) (by decide)
    refine ⟨_, _, dx_rejectionDetail hl0 σ2 hR2 (by unfold RJ at hrj; rw [e40]; omega), st3_self, fun q => absurd q (by decide), fun j hj => (st3_50 j hj).trans (st3_50 j hj), INV_o (INV_o hI (Int.le_refl B) ⟨by decide, by decide⟩) (by omega) ⟨by decide, by decide⟩⟩
  · refine ⟨_, 0, _, σ, c_rejectionDetail hl0 σ h.r hk, Or.inl ⟨rfl, rfl⟩, h.r, fun σ2 hR2 hW => ?_⟩
    have hI := INV_w h (Int.le_refl B) hR2 hW
    have e := hW.e (j := 41) (by decide)
    have e40 := hW.e (j := 40) (by decide)
    refine ⟨_, _, d_rejectionDetail hl0 σ2 hR2 (by unfold RJ at hrj; rw [e40]; omega), st3_self, fun _ => ?_, st3_50, INV_o hI (by omega) ⟨by decide, by decide⟩⟩
    unfold RJ at hrj
    rw [e40]
    omega
theorem st_causeReason (hl0 : l.stackTraces = false) (h : INV σ B) : St l D K ad σ B yX8_causeReason (.code yX8_causeReason cX8_causeReason 1 (some .int)) 9 1 6 yX9_causeReason (.code yX9_causeReason cX9_causeReason 1 (some .int)) 5 [] ["java/util/NoSuchElementException"] := by
  have m := h.m
  obtain ⟨s0, s1, s2, s3, s4, s5, s6, s7, s8, s9, s10, s11, s12⟩ := h.m.sc
  have n0 := m.ni.n0
  have n1 := m.ni.n1
  have n2 := m.ni.n2
  have n3 := m.ni.n3
  have hrj := h.rj
  have hse := h.se
  by_cases hk : ¬ σ 0 23 7 = 7
  · refine ⟨_, 1, 0, σ, cx_causeReason hl0 σ h.r hk, Or.inr ⟨0, _, rfl, rfl, rfl⟩, h.r, fun σ2 hR2 hW => ?_⟩
    have hI := INV_w h (Int.le_refl B) hR2 hW
    have e := hW.e (j := 41) (by decide)
    have e40 := hW.e (j := 40) (by decide)
    refine ⟨_, _, dx_causeReason hl0 σ2 hR2 (by unfold RJ at hrj; rw [e40]; omega), st3_self, fun q => absurd q (by decide), fun j hj => (st3_50 j hj).trans (st3_50 j hj), INV_o (INV_o hI (Int.le_refl B) ⟨by decide, by decide⟩) (by omega) ⟨by decide, by decide⟩⟩
  · refine ⟨_, 0, _, σ, c_causeReason hl0 σ h.r (Classical.not_not.mp hk), Or.inl ⟨rfl, rfl⟩, h.r, fun σ2 hR2 hW => ?_⟩
    have hI := INV_w h (Int.le_refl B) hR2 hW
    have e := hW.e (j := 41) (by decide)
    have e40 := hW.e (j := 40) (by decide)
    refine ⟨_, _, d_causeReason hl0 σ2 hR2 (by unfold RJ at hrj; rw [e40]; omega), st3_self, fun _ => ?_, st3_50, INV_o hI (by omega) ⟨by decide, by decide⟩⟩
    unfold RJ at hrj
    rw [e40]
    omega
end ST
