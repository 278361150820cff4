/-! the line of a ship, in the builder -/
section MB
variable {ν : Int → Int} {s : Int}
theorem mbaF_1 {b x : Int} (h : ν (26 + 2 * x) = s ∧ (mgr ν b < mgr ν x ∨ (mgr ν x = mgr ν b ∧ x < b))) : mbaF ν s b x = 1 := if_pos h
theorem mbaF_0 {b x : Int} (h : ¬ (ν (26 + 2 * x) = s ∧ (mgr ν b < mgr ν x ∨ (mgr ν x = mgr ν b ∧ x < b)))) : mbaF ν s b x = 0 := if_neg h
theorem mba_ex : ∀ (n : Nat) (r : Int), 0 ≤ r → r < sumI (mloadF ν s) (n : Int) → ∃ b : Int, 0 ≤ b ∧ b < n ∧ ν (26 + 2 * b) = s ∧ sumI (mbaF ν s b) (n : Int) = r
  | 0, r, h0, h1 => by
    rw [show sumI (mloadF ν s) ((0 : Nat) : Int) = 0 from sumI_0 _] at h1
    omega
  | n + 1, r, h0, h1 => by
    rw [show ((n + 1 : Nat) : Int) = (n : Int) + 1 from rfl] at h1 ⊢
    rw [sumI_s _ (by omega)] at h1
    by_cases c : ν (26 + 2 * (n : Int)) = s
    · have hl : mloadF ν s (n : Int) = 1 := if_pos c
      rw [hl] at h1
      have hm : sumI (mbaF ν s (n : Int)) (n : Int) ≤ sumI (mloadF ν s) (n : Int) := sumI_mono fun k k0 k1 => by
        unfold mbaF mloadF
        split
        · rw [if_pos (by rename_i z; exact z.1)]
          exact Int.le_refl _
        · split <;> decide
      have hm0 : 0 ≤ sumI (mbaF ν s (n : Int)) (n : Int) := sumI_ge0 (fun k => by unfold mbaF; split <;> decide) _
      by_cases a : r < sumI (mbaF ν s (n : Int)) (n : Int)
      · obtain ⟨b, b0, b1, b2, b3⟩ := mba_ex n r h0 (by omega)
        refine ⟨b, b0, by omega, b2, ?_⟩
        rw [sumI_s _ (by omega), b3, mbaF_0, Int.add_zero]
        rintro ⟨-, z⟩
        have : sumI (mbaF ν s (n : Int)) (n : Int) ≤ sumI (mbaF ν s b) (n : Int) := sumI_mono fun k k0 k1 => by
          unfold mbaF
          split
          · rename_i y
            rw [if_pos ⟨y.1, by omega⟩]
            exact Int.le_refl _
          · split <;> decide
        omega
      · by_cases e : r = sumI (mbaF ν s (n : Int)) (n : Int)
        · refine ⟨n, by omega, by omega, c, ?_⟩
          rw [sumI_s _ (by omega), e, mbaF_0 (by omega), Int.add_zero]
        · obtain ⟨b, b0, b1, b2, b3⟩ := mba_ex n (r - 1) (by omega) (by omega)
          refine ⟨b, b0, by omega, b2, ?_⟩
          have hA : mgr ν b < mgr ν (n : Int) ∨ (mgr ν (n : Int) = mgr ν b ∧ (n : Int) < b) := by
            by_cases z : mgr ν b < mgr ν (n : Int)
            · exact Or.inl z
            · exfalso
              have hone : sumI (fun x => if x = b then mbaF ν s b x + 1 else mbaF ν s b x) (n : Int) = sumI (mbaF ν s b) (n : Int) + 1 := sumI_one (i := b) b0 b1 (fun k _ _ hk => if_neg hk) (if_pos rfl)
              have hle : sumI (fun x => if x = b then mbaF ν s b x + 1 else mbaF ν s b x) (n : Int) ≤ sumI (mbaF ν s (n : Int)) (n : Int) := sumI_mono fun k k0 k1 => by
                by_cases q : k = b
                · subst q
                  rw [if_pos rfl, mbaF_0 (by omega), mbaF_1 ⟨b2, by omega⟩]
                  decide
                · rw [if_neg q]
                  unfold mbaF
                  split
                  · rename_i y
                    rw [if_pos ⟨y.1, by omega⟩]
                    exact Int.le_refl _
                  · split <;> decide
              omega
          rw [sumI_s _ (by omega), b3, mbaF_1 ⟨c, hA⟩]
          omega
    · have hl : mloadF ν s (n : Int) = 0 := if_neg c
      rw [hl, Int.add_zero] at h1
      obtain ⟨b, b0, b1, b2, b3⟩ := mba_ex n r h0 h1
      refine ⟨b, b0, by omega, b2, ?_⟩
      rw [sumI_s _ (by omega), b3, mbaF_0 (fun q => c q.1), Int.add_zero]
theorem mbarn_ne (hN : NI ν) {p : Int} (h0 : 0 ≤ p) (h1 : p < mload ν s) : mbarn ν s p ≠ -1 := by
  intro q
  have n1 := hN.n1
  obtain ⟨b, b0, b1, b2, b3⟩ := mba_ex (ν := ν) (s := s) (ν 1).toNat p h0 (by rw [Int.toNat_of_nonneg n1.1]; exact h1)
  rw [Int.toNat_of_nonneg n1.1] at b1 b3
  exact fst_nn q b b0 b1 ⟨b2, b3⟩
end MB
/-- a text in the builder, all else as in σ0 -/
def Tx (σ0 σ : Mem) (L : List Int) : Prop := Rng σ ∧ Bl σ ∧ σ 0 33 0 ≤ 499 ∧ σ 0 31 3 = L.length ∧ (∀ k : Nat, k < L.length → σ 0 32 (k : Int) = L.getD k 0) ∧ ∀ (i : Int) (j : Nat), ¬ (i = 0 ∧ (j = 31 ∨ j = 32 ∨ j = 33)) → σ i j = σ0 i j
def gcap (c m : Int) : Int := if m ≤ c then c else 2 * c + 2
theorem gcap_add {c a b : Int} (ab : a ≤ b) (h : b ≤ 2 * c + 2) : gcap (gcap c a) b = gcap c b := by
  unfold gcap
  by_cases h1 : a ≤ c
  · rw [if_pos h1]
  · rw [if_neg h1, if_pos h, if_neg (by omega)]
theorem gcap_le {c a b : Int} (h0 : 0 ≤ c) (ab : a ≤ b) : gcap c a ≤ gcap c b := by
  unfold gcap
  split <;> split <;> omega
theorem gcap_ge {c a : Int} (h0 : 0 ≤ c) : c ≤ gcap c a := by
  unfold gcap
  split <;> omega
def Kc (c0 : Int) (cs ss : Nat) (c : Int) : Prop := (cs : Int) + c0 ≤ c ∧ (ss : Int) + 3 * c0 ≤ 3 * c
theorem Kc.app {c0 c m : Int} {cs ss : Nat} (h : Kc c0 cs ss c) (hc : 0 ≤ c) : Kc c0 (cs + gC c m) (ss + gS c m) (gcap c m) := by
  obtain ⟨h1, h2⟩ := h
  unfold gC gS gcap
  split
  · exact ⟨by omega, by omega⟩
  · exact ⟨by omega, by omega⟩
theorem Tx.app {σ0 σ : Mem} {L M : List Int} (h : Tx σ0 σ L) (hM : ∀ c ∈ M, 0 ≤ c ∧ c < 128) (h9 : M.length ≤ 16) (hl : (L.length : Int) + M.length ≤ 200) : Tx σ0 (appL σ M) (L ++ M) ∧ appL σ M 0 33 0 = gcap (σ 0 33 0) ((L.length : Int) + M.length) := by
  obtain ⟨hR, ⟨b1, b2, b3, b4⟩, hc, hn, ht, hf⟩ := h
  have e33 : appL σ M 0 33 0 = gcap (σ 0 33 0) ((L.length : Int) + M.length) := by
    unfold appL
    rw [st3_j (by decide), wrM_o (by decide), growM_33, hn]
    rfl
  have hcap : gcap (σ 0 33 0) ((L.length : Int) + M.length) ≤ 499 ∧ (L.length : Int) + M.length ≤ gcap (σ 0 33 0) ((L.length : Int) + M.length) ∧ 16 ≤ gcap (σ 0 33 0) ((L.length : Int) + M.length) := by
    unfold gcap
    split <;> omega
  have e3 : appL σ M 0 31 3 = (L.length : Int) + M.length := by
    unfold appL
    rw [st3_self, hn]
  have e1 : appL σ M 0 31 1 = 0 := by
    unfold appL
    rw [st3_k (by decide), wrM_o (by decide), growM_o (by decide), b1]
  have hgR := growM_R (m := σ 0 31 3 + M.length) hR ⟨by omega, by omega⟩
  have hmem : ∀ k : Nat, k < M.length → 0 ≤ M.getD k 0 ∧ M.getD k 0 < 128 := fun k hk => by
    rw [List.getD_eq_getElem?_getD, List.getElem?_eq_getElem hk]
    exact hM _ (List.getElem_mem hk)
  have hgb : ∀ k : Int, 0 ≤ k → 0 ≤ growM σ (σ 0 31 3 + M.length) 0 32 k ∧ growM σ (σ 0 31 3 + M.length) 0 32 k < 128 := fun k k0 => by
    unfold growM
    split
    · exact b4 k k0
    · dsimp only
      rw [if_neg (by omega), if_pos ⟨rfl, rfl⟩]
      split
      · exact b4 k k0
      · decide
  have e32 : ∀ k : Int, appL σ M 0 32 k = wrM (growM σ (σ 0 31 3 + M.length)) (σ 0 31 3) M 0 32 k := fun k => by
    unfold appL
    rw [st3_j (by decide)]
  have eb : ∀ k : Int, 0 ≤ k → 0 ≤ appL σ M 0 32 k ∧ appL σ M 0 32 k < 128 := fun k k0 => by
    rw [e32]
    by_cases q : σ 0 31 3 ≤ k ∧ k < σ 0 31 3 + M.length
    · rw [wrM_in q]
      exact hmem _ (by omega)
    · rw [wrM_out q]
      exact hgb k k0
  refine ⟨⟨?_, ⟨e1, ⟨by rw [e33]; exact hcap.2.2, by rw [e33]; omega⟩, ⟨by rw [e3]; omega, by rw [e3, e33]; exact hcap.2.1⟩, eb⟩, by rw [e33]; exact hcap.1, ?_, fun k hk => ?_, fun i j hij => ?_⟩, e33⟩
  · unfold appL
    refine Rng.st ?_ (by rw [hn]; exact ⟨by omega, by omega⟩)
    intro g j k hj
    by_cases q : g = 0 ∧ j = 32
    · obtain ⟨rfl, rfl⟩ := q
      by_cases z : σ 0 31 3 ≤ k ∧ k < σ 0 31 3 + M.length
      · rw [wrM_in z]
        have := hmem (k - σ 0 31 3).toNat (by omega)
        exact ⟨by omega, by omega⟩
      · rw [wrM_out z]
        exact hgR _ _ _ hj
    · rw [wrM_o q]
      exact hgR _ _ _ hj
  · rw [e3, List.length_append]
    exact (Int.natCast_add _ _).symm
  · rw [List.length_append] at hk
    rw [e32]
    by_cases q : k < L.length
    · rw [wrM_out (by omega), growM_32 (by omega), ht k q, List.getD_eq_getElem?_getD, List.getD_eq_getElem?_getD, List.getElem?_append_left q]
    · rw [wrM_in ⟨by omega, by omega⟩, List.getD_eq_getElem?_getD, List.getD_eq_getElem?_getD, List.getElem?_append_right (by omega), show ((k : Int) - σ 0 31 3).toNat = k - L.length by omega]
  · unfold appL
    rw [st3_oj (by omega), wrM_o (by omega), growM_o (by omega)]
    exact hf i j hij
/-- the same addresses, the builder's array aside -/
def Sa (ad ad2 : Adr) : Prop := ∃ v : Nat, ad2 = ast ad 0 32 v
theorem Sa.rf {ad : Adr} : Sa ad ad := ⟨_, ast_same.symm⟩
theorem Sa.tr {ad ad2 ad3 : Adr} (h : Sa ad ad2) (h2 : Sa ad2 ad3) : Sa ad ad3 := by
  obtain ⟨v, rfl⟩ := h
  obtain ⟨w, rfl⟩ := h2
  exact ⟨w, ast_twice⟩
theorem Sa.e {ad ad2 : Adr} (h : Sa ad ad2) (g : Int) (j : Nat) (hj : ¬ j = 32) : ad2 g j = ad g j := by
  obtain ⟨v, rfl⟩ := h
  exact ast_j hj
section BT
variable {X : Cx} {own : String} {cc : ByteArray} {nL : Nat} {rm : Room} {ad : Adr} {σ σ0 : Mem} {pc : Nat} {ls : Ls} {st : List Value} {cs ss : Nat} {L : List Int} {c0 : Int}
theorem B_tC (hf : Cf X own cc nL rm) (hl0 : (xl X).stackTraces = false) {index : Nat} {c : Int} (h : Tx σ0 σ L) (hK : Kc c0 cs ss (σ 0 33 0)) (hc : 0 ≤ c ∧ c < 128) (hL : (L.length : Int) + 1 ≤ 200) (hw : CV own index RJ4 yJ4_append_cf468 cJ4_append_cf468 2 1 (some (.object "java/lang/StringBuilder")))
    (hst : (st.map fun v => v.category).sum ≤ 8) (hfr : 6 ≤ rm.frames ∧ 341 ≤ rm.locals) (hcl : gcap (σ 0 33 0) ((L.length : Int) + 1) - c0 ≤ (rm.cells : Int) ∧ 3 * (gcap (σ 0 33 0) ((L.length : Int) + 1) - c0) ≤ (rm.slots : Int)) (hdg : decode cc pc = .ok (.invokevirtual index, 3))
    (kk : ∀ (ad2 : Adr) (σ' : Mem) (cs' ss' : Nat), Sa ad ad2 → Tx σ0 σ' (L ++ [c]) → σ' 0 33 0 = gcap (σ 0 33 0) ((L.length : Int) + 1) → Kc c0 cs' ss' (σ' 0 33 0) → B X ad2 σ' (pc + 3) ls (.ref (ad2 0 31) :: st) cs' ss') : B X ad σ pc ls (.int (iN c) :: .ref (ad 0 31) :: st) cs ss := by
  obtain ⟨h1, h2⟩ := h.app (M := [c]) (fun x hx => by rw [List.mem_singleton.mp hx]; exact hc) (by simp) (by simpa using hL)
  have hn : σ 0 31 3 + 1 = (L.length : Int) + 1 := by rw [h.2.2.2.1]
  have e2 : appL σ [c] 0 33 0 = gcap (σ 0 33 0) ((L.length : Int) + 1) := h2
  have k2 := hK.app (m := (L.length : Int) + 1) (by have := h.2.1.2.1; omega)
  refine B_gV hf (As := [_]) (b4_appC hl0 σ h.1 h.2.1 c hc) hw l01 rfl rfl rfl hst ⟨hfr.1, hfr.2, ?_, ?_⟩ hdg (fun v σ' hσ => ?_)
  · rw [hn]
    have := k2.1
    omega
  · rw [hn]
    have := k2.2
    omega
  · subst hσ
    have := kk (ast ad 0 32 v) (appL σ [c]) (cs + gC (σ 0 33 0) (σ 0 31 3 + 1)) (ss + gS (σ 0 33 0) (σ 0 31 3 + 1)) ⟨v, rfl⟩ h1 e2 (by rw [e2, hn]; exact k2)
    exact this
theorem B_tI (hf : Cf X own cc nL rm) (hl0 : (xl X).stackTraces = false) {index : Nat} {v : Int} (h : Tx σ0 σ L) (hK : Kc c0 cs ss (σ 0 33 0)) (hv : 0 ≤ v ∧ v < 1000000000) (hL : (L.length : Int) + (dl v).length ≤ 200) (hw : CV own index RJ4 yJ4_append_bf812 cJ4_append_bf812 2 1 (some (.object "java/lang/StringBuilder")))
    (hst : (st.map fun v => v.category).sum ≤ 8) (hfr : 6 ≤ rm.frames ∧ 341 ≤ rm.locals) (hcl : gcap (σ 0 33 0) ((L.length : Int) + (dl v).length) - c0 ≤ (rm.cells : Int) ∧ 3 * (gcap (σ 0 33 0) ((L.length : Int) + (dl v).length) - c0) ≤ (rm.slots : Int)) (hdg : decode cc pc = .ok (.invokevirtual index, 3))
    (kk : ∀ (ad2 : Adr) (σ' : Mem) (cs' ss' : Nat), Sa ad ad2 → Tx σ0 σ' (L ++ dl v) → σ' 0 33 0 = gcap (σ 0 33 0) ((L.length : Int) + (dl v).length) → Kc c0 cs' ss' (σ' 0 33 0) → B X ad2 σ' (pc + 3) ls (.ref (ad2 0 31) :: st) cs' ss') : B X ad σ pc ls (.int (iN v) :: .ref (ad 0 31) :: st) cs ss := by
  obtain ⟨h1, e2⟩ := h.app (M := dl v) (dl_b hv.1) (by have := (dl_len (v := v)).1; omega) hL
  have hn : σ 0 31 3 = (L.length : Int) := h.2.2.2.1
  have k2 := hK.app (m := (L.length : Int) + (dl v).length) (by have := h.2.1.2.1; omega)
  refine B_gV hf (As := [_]) (b4_appI hl0 σ h.1 h.2.1 v hv.1 hv.2 h.2.2.1) hw l01 rfl rfl rfl hst ⟨hfr.1, hfr.2, ?_, ?_⟩ hdg (fun w σ' hσ => ?_)
  · rw [hn]
    have := k2.1
    omega
  · rw [hn]
    have := k2.2
    omega
  · subst hσ
    have := kk (ast ad 0 32 w) (appL σ (dl v)) (cs + gC (σ 0 33 0) (σ 0 31 3 + (dl v).length)) (ss + gS (σ 0 33 0) (σ 0 31 3 + (dl v).length)) ⟨w, rfl⟩ h1 e2 (by rw [e2, hn]; exact k2)
    exact this
end BT
