/-! all operations, and the beginning -/
theorem i_start : i_I (fun _ _ => 0) (fun _ _ => 0) := by
  have c0 : (0 : Int32).toNatClampNeg = 0 := by decide
  have z0 : (0 : Int32).toInt = 0 := by decide
  have zl : ∀ N, z_le (0 : Int32) N := fun N => ⟨0, Nat.zero_le _, nI_0.symm⟩
  have vi : ∀ N, 0 < N → vp_in (0 : Int32) N := fun N hN => vp_in_iff.mpr ⟨by rw [z0]; decide, by rw [z0]; omega⟩
  refine ⟨fun _ _ => rfl, fun _ _ => rfl, fun q hq i => ?_, fun q hq => zl _, ⟨fun i => ⟨by rw [z0]; decide, Int.le_refl _⟩, fun _ _ => rfl, fun _ _ => rfl, fun i hi => ?_, fun i hi => ?_⟩, ⟨?_, ?_, ?_⟩, rfl⟩
  · simp only [i_bl, List.mem_cons, List.not_mem_nil, or_false] at hq
    rcases hq with rfl | rfl | rfl | rfl | rfl | rfl | rfl | rfl | rfl | rfl | rfl | rfl | rfl | rfl | rfl
    · show -1 ≤ (0 : Int32).toInt; rw [z0]; decide
    · show -1 ≤ (0 : Int32).toInt; rw [z0]; decide
    · show -1 ≤ (0 : Int32).toInt; rw [z0]; decide
    · show 0 ≤ (0 : Int32).toInt; rw [z0]; decide
    · exact zl _
    · exact vi 6 (by decide)
    · exact zl _
    · exact vi 16 (by decide)
    · exact zl _
    · exact zl _
    · exact zl _
    · exact vi 6 (by decide)
    · show 0 ≤ (0 : Int32).toInt; rw [z0]; decide
    · exact zl _
    · exact zl _
  · rw [z0] at hi; omega
  · rw [z0] at hi; omega
  · unfold i_cl i_ml
    rw [c0]
  · unfold i_cl
    rw [c0]
    exact List.Pairwise.nil
  · unfold i_cl
    rw [c0]
    intro q hq
    cases hq
theorem i_FF : l_FF i_I :=
  ⟨fun S P x1 h => o_people h x1, fun S P x1 x2 h => o_person h x1 x2, fun S P x1 x2 x3 h => o_root h x1 x2 x3, fun S P x1 x2 h => o_adopt h x1 x2, fun S P x1 h => o_raise h x1, fun S P x1 h => o_members h x1, fun S P x1 h => o_story h x1, fun S P x1 x2 x3 h => o_part h x1 x2 x3, fun S P x1 x2 x3 h => o_hears h x1 x2 x3, fun S P x1 h => o_told h x1, fun S P x1 x2 x3 x4 h => o_mark h x1 x2 x3 x4, fun S P x1 x2 x3 h => o_explain h x1 x2 x3, fun S P x1 x2 h => o_isProved h x1 x2, fun S P x1 x2 x3 x4 x5 h => o_act h x1 x2 x3 x4 x5, fun S P x1 x2 h => o_voids h x1 x2, fun S P x1 h => o_giveUp h x1, fun S P x1 x2 h => o_left h x1 x2, fun S P x1 x2 h => o_leftAnew h x1 x2, fun S P x1 x2 x3 h => o_claim h x1 x2 x3, fun S P x1 x2 x3 h => o_vote h x1 x2 x3, fun S P x1 h => o_register h x1, fun S P x1 h => o_determine h x1, fun S P x1 h => o_revise h x1, fun S P x1 x2 h => o_ofClaim h x1 x2, fun S P x1 h => o_holders h x1, fun S P x1 x2 x3 h => o_may h x1 x2 x3, fun S P x1 x2 x3 x4 x5 h => o_notice h x1 x2 x3 x4 x5, fun S P x1 x2 h => o_agree h x1 x2, fun S P x1 x2 h => o_object h x1 x2, fun S P x1 x2 h => o_decide h x1 x2, fun S P x1 h => o_proceed h x1, fun S P x1 x2 h => o_ofNotice h x1 x2, fun S P x1 x2 h => o_value h x1 x2, fun S P x1 h => o_owed h x1, fun S P x1 h => o_pay h x1, fun S P x1 h => o_paid h x1, fun S P x1 h => o_pass h x1⟩
