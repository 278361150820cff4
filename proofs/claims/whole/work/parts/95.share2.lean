/-! the share, no NaN -/
section SS2
variable {l : Launch} {D : va_G} {K : Nat → ClassId} {ad : Adr} {σ : Mem} {B : Int}
theorem st_share2 (hl0 : l.stackTraces = false) (h : INV σ B) : StV l D K ad σ B yX8_offeredShare (.code yX8_offeredShare cX8_offeredShare 2 (some .float)) 9 1 6 yX9_offeredShare (.code yX9_offeredShare cX9_offeredShare 1 (some .float)) 6 ["java/lang/ArithmeticException"] (fun w => ∃ d : UInt32, w = .float d ∧ vf_n64 (FP.f2d d)) := by
  obtain ⟨s0, s1, s2, s3, s4, s5, s6, s7, s8, s9, s10, s11, s12⟩ := h.m.sc
  have z0 : vf_n64 (FP.f2d (0 : UInt32)) := f2d_n64 (by decide +kernel)
  have zc : vf_n64 (FP.f2d FP.fconst0) := f2d_n64 (by decide +kernel)
  have n12 := h.m.mi.no
  have n13 := h.m.mi.fl.2.1
  by_cases hk : σ 0 1 3 = 0
  · refine ⟨_, 1, .float 0, σ, cx_share hl0 σ h.r hk, Or.inr ⟨0, _, rfl, rfl, rfl⟩, ⟨_, rfl, z0⟩, h.r, fun σ2 hR2 hW => ?_⟩
    have hI := INV_w h (Int.le_refl B) hR2 hW
    have e := hW.e (j := 41) (by decide)
    exact ⟨_, _, gx_share hl0 σ2 hR2 (by rw [e]; omega), ⟨_, rfl, zc⟩, st3_self, fun q => absurd q (by decide), fun j hj => (st3_50 j hj).trans (st3_50 j hj), INV_o (INV_o hI (Int.le_refl B) ⟨by decide, by decide⟩) (by omega) ⟨by decide, by decide⟩⟩
  · have hd : vf_n64 (FP.f2d (FP.fdiv (FP.i2f (iN (σ 0 12 0))) (FP.i2f (iN (σ 0 1 3))))) := f2d_n64 (div_n32 (by rw [iN_toInt ⟨by omega, by omega⟩]; omega) (by rw [iN_toInt ⟨by omega, by omega⟩]; omega) (by rw [iN_toInt ⟨by omega, by omega⟩]; exact hk))
    refine ⟨_, 0, _, σ, c_share hl0 σ h.r h.m.mi hk, Or.inl ⟨rfl, rfl⟩, ⟨_, rfl, hd⟩, h.r, fun σ2 hR2 hW => ?_⟩
    have hI := INV_w h (Int.le_refl B) hR2 hW
    have e := hW.e (j := 41) (by decide)
    exact ⟨_, _, g_share hl0 σ2 hR2 hI.m.ni (by rw [e]; omega), ⟨_, rfl, by rw [e, ← s1, ← s3]; exact hd⟩, st3_self, fun _ => by rw [e, s1, s3], st3_50, INV_o hI (by omega) ⟨by decide, by decide⟩⟩
end SS2
