/-! what holds at all times is kept -/
def z_Jv (a i : Nat) (x : Int32) : Prop := (a = 4112 → i = 6 → z_le x 6) ∧ (a = 4112 → i = 7 → z_le x 30) ∧ (a = 6184 → i = 4 → z_le x 10) ∧ (a = 8216 → i = 7 → z_le x 60) ∧ (a = 10240 → i = 8 → z_le x 40) ∧ (a = 12296 → i = 8 → z_le x 12) ∧ (a = 14368 → i = 11 → z_le x 12) ∧ (a = 2096 → i = 8 → z_le x 5000) ∧ (a = 32849 → vp_in x 6) ∧ (a = 34897 → z_le x 12) ∧ (a = 49201 → z_le x 8) ∧ (a = 71777 → vp_in x 6)
theorem z_Jv_no {a i : Nat} {x : Int32} (h : z_mem [2096, 4112, 6184, 8216, 10240, 12296, 14368, 32849, 34897, 49201, 71777] a = false) : z_Jv a i x := by
  refine ⟨fun e => (by subst e; cases h), fun e => (by subst e; cases h), fun e => (by subst e; cases h), fun e => (by subst e; cases h), fun e => (by subst e; cases h), fun e => (by subst e; cases h), fun e => (by subst e; cases h), fun e => (by subst e; cases h), fun e => (by subst e; cases h), fun e => (by subst e; cases h), fun e => (by subst e; cases h), fun e => (by subst e; cases h)⟩
theorem z_Jv_peoples {x : Int32} (h : z_le x 6) : z_Jv 4112 6 x := ⟨fun _ _ => h, fun _ e => absurd e (by decide), fun e => absurd e (by decide), fun e => absurd e (by decide), fun e => absurd e (by decide), fun e => absurd e (by decide), fun e => absurd e (by decide), fun e => absurd e (by decide), fun e => absurd e (by decide), fun e => absurd e (by decide), fun e => absurd e (by decide), fun e => absurd e (by decide)⟩
theorem z_Jv_persons {x : Int32} (h : z_le x 30) : z_Jv 4112 7 x := ⟨fun _ e => absurd e (by decide), fun _ _ => h, fun e => absurd e (by decide), fun e => absurd e (by decide), fun e => absurd e (by decide), fun e => absurd e (by decide), fun e => absurd e (by decide), fun e => absurd e (by decide), fun e => absurd e (by decide), fun e => absurd e (by decide), fun e => absurd e (by decide), fun e => absurd e (by decide)⟩
theorem z_Jv_stories {x : Int32} (h : z_le x 10) : z_Jv 6184 4 x := ⟨fun e => absurd e (by decide), fun e => absurd e (by decide), fun _ _ => h, fun e => absurd e (by decide), fun e => absurd e (by decide), fun e => absurd e (by decide), fun e => absurd e (by decide), fun e => absurd e (by decide), fun e => absurd e (by decide), fun e => absurd e (by decide), fun e => absurd e (by decide), fun e => absurd e (by decide)⟩
theorem z_Jv_marks {x : Int32} (h : z_le x 60) : z_Jv 8216 7 x := ⟨fun e => absurd e (by decide), fun e => absurd e (by decide), fun e => absurd e (by decide), fun _ _ => h, fun e => absurd e (by decide), fun e => absurd e (by decide), fun e => absurd e (by decide), fun e => absurd e (by decide), fun e => absurd e (by decide), fun e => absurd e (by decide), fun e => absurd e (by decide), fun e => absurd e (by decide)⟩
theorem z_Jv_acts {x : Int32} (h : z_le x 40) : z_Jv 10240 8 x := ⟨fun e => absurd e (by decide), fun e => absurd e (by decide), fun e => absurd e (by decide), fun e => absurd e (by decide), fun _ _ => h, fun e => absurd e (by decide), fun e => absurd e (by decide), fun e => absurd e (by decide), fun e => absurd e (by decide), fun e => absurd e (by decide), fun e => absurd e (by decide), fun e => absurd e (by decide)⟩
theorem z_Jv_claims {x : Int32} (h : z_le x 12) : z_Jv 12296 8 x := ⟨fun e => absurd e (by decide), fun e => absurd e (by decide), fun e => absurd e (by decide), fun e => absurd e (by decide), fun e => absurd e (by decide), fun _ _ => h, fun e => absurd e (by decide), fun e => absurd e (by decide), fun e => absurd e (by decide), fun e => absurd e (by decide), fun e => absurd e (by decide), fun e => absurd e (by decide)⟩
theorem z_Jv_notices {x : Int32} (h : z_le x 12) : z_Jv 14368 11 x := ⟨fun e => absurd e (by decide), fun e => absurd e (by decide), fun e => absurd e (by decide), fun e => absurd e (by decide), fun e => absurd e (by decide), fun e => absurd e (by decide), fun _ _ => h, fun e => absurd e (by decide), fun e => absurd e (by decide), fun e => absurd e (by decide), fun e => absurd e (by decide), fun e => absurd e (by decide)⟩
theorem z_Jv_now {x : Int32} (h : z_le x 5000) : z_Jv 2096 8 x := ⟨fun e => absurd e (by decide), fun e => absurd e (by decide), fun e => absurd e (by decide), fun e => absurd e (by decide), fun e => absurd e (by decide), fun e => absurd e (by decide), fun e => absurd e (by decide), fun _ _ => h, fun e => absurd e (by decide), fun e => absurd e (by decide), fun e => absurd e (by decide), fun e => absurd e (by decide)⟩
theorem z_Jv_stp {i : Nat} {x : Int32} (h : vp_in x 6) : z_Jv 32849 i x := ⟨fun e => absurd e (by decide), fun e => absurd e (by decide), fun e => absurd e (by decide), fun e => absurd e (by decide), fun e => absurd e (by decide), fun e => absurd e (by decide), fun e => absurd e (by decide), fun e => absurd e (by decide), fun _ => h, fun e => absurd e (by decide), fun e => absurd e (by decide), fun e => absurd e (by decide)⟩
theorem z_Jv_parts {i : Nat} {x : Int32} (h : z_le x 12) : z_Jv 34897 i x := ⟨fun e => absurd e (by decide), fun e => absurd e (by decide), fun e => absurd e (by decide), fun e => absurd e (by decide), fun e => absurd e (by decide), fun e => absurd e (by decide), fun e => absurd e (by decide), fun e => absurd e (by decide), fun e => absurd e (by decide), fun _ => h, fun e => absurd e (by decide), fun e => absurd e (by decide)⟩
theorem z_Jv_expl {i : Nat} {x : Int32} (h : z_le x 8) : z_Jv 49201 i x := ⟨fun e => absurd e (by decide), fun e => absurd e (by decide), fun e => absurd e (by decide), fun e => absurd e (by decide), fun e => absurd e (by decide), fun e => absurd e (by decide), fun e => absurd e (by decide), fun e => absurd e (by decide), fun e => absurd e (by decide), fun e => absurd e (by decide), fun _ => h, fun e => absurd e (by decide)⟩
theorem z_Jv_clp {i : Nat} {x : Int32} (h : vp_in x 6) : z_Jv 71777 i x := ⟨fun e => absurd e (by decide), fun e => absurd e (by decide), fun e => absurd e (by decide), fun e => absurd e (by decide), fun e => absurd e (by decide), fun e => absurd e (by decide), fun e => absurd e (by decide), fun e => absurd e (by decide), fun e => absurd e (by decide), fun e => absurd e (by decide), fun e => absurd e (by decide), fun _ => h⟩
theorem z_J_set {M : z_MI} {a i : Nat} {x : Int32} (h : z_J M) (c : z_Jv a i x) : z_J (va_up M a (upd (M a) i x)) := by
  obtain ⟨h0, h1, h2, h3, h4, h5, h6, h7, h8, h9, h10, h11⟩ := h
  obtain ⟨c0, c1, c2, c3, c4, c5, c6, c7, c8, c9, c10, c11⟩ := c
  refine ⟨?_, ?_, ?_, ?_, ?_, ?_, ?_, ?_, ?_, ?_, ?_, ?_⟩
  · by_cases e : 4112 = a
    · rw [← e, va_up_self]
      unfold upd
      split
      · exact c0 e.symm (by first | assumption | (exact Eq.symm ‹_›))
      · exact h0
    · rw [va_up_ne _ _ e]
      exact h0
  · by_cases e : 4112 = a
    · rw [← e, va_up_self]
      unfold upd
      split
      · exact c1 e.symm (by first | assumption | (exact Eq.symm ‹_›))
      · exact h1
    · rw [va_up_ne _ _ e]
      exact h1
  · by_cases e : 6184 = a
    · rw [← e, va_up_self]
      unfold upd
      split
      · exact c2 e.symm (by first | assumption | (exact Eq.symm ‹_›))
      · exact h2
    · rw [va_up_ne _ _ e]
      exact h2
  · by_cases e : 8216 = a
    · rw [← e, va_up_self]
      unfold upd
      split
      · exact c3 e.symm (by first | assumption | (exact Eq.symm ‹_›))
      · exact h3
    · rw [va_up_ne _ _ e]
      exact h3
  · by_cases e : 10240 = a
    · rw [← e, va_up_self]
      unfold upd
      split
      · exact c4 e.symm (by first | assumption | (exact Eq.symm ‹_›))
      · exact h4
    · rw [va_up_ne _ _ e]
      exact h4
  · by_cases e : 12296 = a
    · rw [← e, va_up_self]
      unfold upd
      split
      · exact c5 e.symm (by first | assumption | (exact Eq.symm ‹_›))
      · exact h5
    · rw [va_up_ne _ _ e]
      exact h5
  · by_cases e : 14368 = a
    · rw [← e, va_up_self]
      unfold upd
      split
      · exact c6 e.symm (by first | assumption | (exact Eq.symm ‹_›))
      · exact h6
    · rw [va_up_ne _ _ e]
      exact h6
  · by_cases e : 2096 = a
    · rw [← e, va_up_self]
      unfold upd
      split
      · exact c7 e.symm (by first | assumption | (exact Eq.symm ‹_›))
      · exact h7
    · rw [va_up_ne _ _ e]
      exact h7
  · intro j
    by_cases e : 32849 = a
    · rw [← e, va_up_self]
      unfold upd
      split
      · exact c8 e.symm
      · exact h8 j
    · rw [va_up_ne _ _ e]
      exact h8 j
  · intro j
    by_cases e : 34897 = a
    · rw [← e, va_up_self]
      unfold upd
      split
      · exact c9 e.symm
      · exact h9 j
    · rw [va_up_ne _ _ e]
      exact h9 j
  · intro j
    by_cases e : 49201 = a
    · rw [← e, va_up_self]
      unfold upd
      split
      · exact c10 e.symm
      · exact h10 j
    · rw [va_up_ne _ _ e]
      exact h10 j
  · intro j
    by_cases e : 71777 = a
    · rw [← e, va_up_self]
      unfold upd
      split
      · exact c11 e.symm
      · exact h11 j
    · rw [va_up_ne _ _ e]
      exact h11 j
theorem z_le_inc {x : Int32} {N M : Nat} (h : z_le x N) (hlt : x < nI M) (hM : M ≤ N) (hN : N < 2 ^ 31) : z_le (x + nI 1) N := by
  obtain ⟨k, hk, rfl⟩ := h
  have := (nI_ltI (a := k) (b := M) (by omega) (by omega)).mp hlt
  exact ⟨k + 1, by omega, nI_add k 1⟩
theorem z_le_of {x : Int32} {N : Nat} (h0 : 0 ≤ x) (h1 : x ≤ nI N) (hN : N + 1 < 2 ^ 31) : z_le x N := by
  rw [Int32.le_iff_toInt_le] at h0 h1
  rw [nI_toInt (by omega)] at h1
  have e0 : (0 : Int32).toInt = 0 := by decide
  obtain ⟨j, hj, rfl⟩ := vp_in_of (x := x) (n := N + 1) (vp_in_iff.mpr ⟨by omega, by omega⟩) (by omega)
  exact ⟨j, by omega, rfl⟩
theorem j_addPeople {S : z_MI} {P : z_ML} {x1 : Int32} (h : z_J S) (hc : S 4112 6 < nI 6) : z_J (u_X2_addPeople S P x1) := by
  unfold u_X2_addPeople
  exact z_J_set (z_J_set h (z_Jv_no rfl)) (z_Jv_peoples (z_le_inc (z_J_peoples h) hc (by decide) (by decide)))
theorem j_addPerson {S : z_MI} {P : z_ML} {x1 x2 : Int32} (h : z_J S) (hc : S 4112 7 < nI 30) : z_J (u_X2_addPerson S P x1 x2) := by
  unfold u_X2_addPerson
  exact z_J_set (z_J_set (z_J_set (z_J_set h (z_Jv_no rfl)) (z_Jv_no rfl)) (z_Jv_no rfl)) (z_Jv_persons (z_le_inc (z_J_persons h) hc (by decide) (by decide)))
theorem j_X5add {S : z_MI} {P : z_ML} {x1 : Int32} (h : z_J S) (hc : S 6184 4 < nI 10) (hx : vp_in x1 6) : z_J (u_X5_add S P x1) := by
  unfold u_X5_add
  exact z_J_set (z_J_set h (z_Jv_stp hx)) (z_Jv_stories (z_le_inc (z_J_stories h) hc (by decide) (by decide)))
theorem j_addPart {S : z_MI} {P : z_ML} {x1 x2 x3 : Int32} (h : z_J S) (hc : S 34897 x1.toNatClampNeg < nI 12) : z_J (u_X5_addPart S P x1 x2 x3) := by
  unfold u_X5_addPart
  exact z_J_set (z_J_set (z_J_set h (z_Jv_no rfl)) (z_Jv_no rfl)) (z_Jv_parts (z_le_inc (z_J_parts h _) hc (by decide) (by decide)))
theorem j_addExplained {S : z_MI} {P : z_ML} {x1 x2 x3 : Int32} (h : z_J S) (hc : S 49201 x1.toNatClampNeg < nI 8) : z_J (u_X3_addExplained S P x1 x2 x3) := by
  unfold u_X3_addExplained
  exact z_J_set (z_J_set (z_J_set h (z_Jv_no rfl)) (z_Jv_no rfl)) (z_Jv_expl (z_le_inc (z_J_expl h _) hc (by decide) (by decide)))
theorem j_X0add {S : z_MI} {P : z_ML} {x1 x2 x3 x4 x5 : Int32} (h : z_J S) (hc : S 10240 8 < nI 40) : z_J (u_X0_add S P x1 x2 x3 x4 x5) := by
  unfold u_X0_add
  exact z_J_set (z_J_set (z_J_set (z_J_set (z_J_set (z_J_set (z_J_set h (z_Jv_no rfl)) (z_Jv_no rfl)) (z_Jv_no rfl)) (z_Jv_no rfl)) (z_Jv_no rfl)) (z_Jv_no rfl)) (z_Jv_acts (z_le_inc (z_J_acts h) hc (by decide) (by decide)))
theorem j_X1add {S : z_MI} {P : z_ML} {x1 x2 x3 : Int32} (h : z_J S) (hc : S 12296 8 < nI 12) (hx : vp_in x1 6) : z_J (u_X1_add S P x1 x2 x3) := by
  unfold u_X1_add
  exact z_J_set (z_J_set (z_J_set (z_J_set (z_J_set (z_J_set h (z_Jv_clp hx)) (z_Jv_no rfl)) (z_Jv_no rfl)) (z_Jv_no rfl)) (z_Jv_no rfl)) (z_Jv_claims (z_le_inc (z_J_claims h) hc (by decide) (by decide)))
theorem j_X4add {S : z_MI} {P : z_ML} {x1 x2 : Int32} (h : z_J S) (hc : S 14368 11 < nI 12) : z_J (u_X4_add S P x1 x2) := by
  unfold u_X4_add
  exact z_J_set (z_J_set (z_J_set (z_J_set (z_J_set h (z_Jv_no rfl)) (z_Jv_no rfl)) (z_Jv_no rfl)) (z_Jv_no rfl)) (z_Jv_notices (z_le_inc (z_J_notices h) hc (by decide) (by decide)))
theorem j_tell {S : z_MI} {P : z_ML} {x1 x2 x3 x4 x5 : Int32} (h : z_J S) : z_J (u_X4_tell S P x1 x2 x3 x4 x5) := by
  unfold u_X4_tell
  exact z_J_set (z_J_set (z_J_set (z_J_set h (z_Jv_no rfl)) (z_Jv_no rfl)) (z_Jv_no rfl)) (z_Jv_no rfl)
theorem j_grant {S : z_MI} {P : z_ML} {x1 x2 : Int32} (h : z_J S) : z_J (u_X1_grant S P x1 x2) := by
  unfold u_X1_grant
  split
  · exact z_J_set (z_J_set h (z_Jv_no rfl)) (z_Jv_no rfl)
  · exact z_J_set (z_J_set h (z_Jv_no rfl)) (z_Jv_no rfl)
theorem j_sh {T : z_MI} {x5 : Int32} (h : z_J T) : z_J (m_sh T x5) := by
  unfold m_sh
  exact z_J_set (z_J_set (z_J_set (z_J_set h (z_Jv_no rfl)) (z_Jv_no rfl)) (z_Jv_no rfl)) (z_Jv_no rfl)
theorem j_sh8 {T : z_MI} {x5 : Int32} : m_sh T x5 8216 = T 8216 := by
  unfold m_sh
  rw [va_up_ne _ _ (by decide), va_up_ne _ _ (by decide), va_up_ne _ _ (by decide), va_up_ne _ _ (by decide)]
theorem j_fin {T : z_MI} {x1 x2 x3 x4 x5 : Int32} (h : z_J T) (hc : T 8216 7 < nI 60) : z_J (m_fin x1 x2 x3 x4 T x5) := by
  unfold m_fin
  refine z_J_set (z_J_set (z_J_set (z_J_set (z_J_set h (z_Jv_no rfl)) (z_Jv_no rfl)) (z_Jv_no rfl)) (z_Jv_no rfl)) (z_Jv_marks ?_)
  exact z_le_inc (z_J_marks h) hc (by decide) (by decide)
theorem j_X3add {x1 x2 x3 x4 : Int32} : ∀ (a : Nat) (x5 : Int32) (T : z_MI), z_J T → T 8216 7 < nI 60 → z_J (l_X3_add x1 x2 x3 x4 a x5 T)
  | 0, x5, T, h, hc => j_fin h hc
  | a + 1, x5, T, h, hc => by
    unfold l_X3_add
    split
    · exact j_fin h hc
    · split
      · exact j_fin h hc
      · exact j_X3add a _ _ (j_sh h) (by rw [j_sh8]; exact hc)
theorem jp_people {S : z_MI} {P : z_ML} {x1 : Int32} (h : z_J S) : z_J (u_X6_people S P x1) := by
  unfold u_X6_people
  repeat' split
  all_goals first | exact h | exact j_addPeople h (by assumption) | exact z_J_set h (z_Jv_no rfl) | exact z_J_set (z_J_set h (z_Jv_no rfl)) (z_Jv_no rfl)
theorem jp_person {S : z_MI} {P : z_ML} {x1 x2 : Int32} (h : z_J S) : z_J (u_X6_person S P x1 x2) := by
  unfold u_X6_person
  repeat' split
  all_goals first | exact h | exact j_addPerson h (by assumption) | exact z_J_set h (z_Jv_no rfl) | exact z_J_set (z_J_set h (z_Jv_no rfl)) (z_Jv_no rfl)
theorem jp_root {S : z_MI} {P : z_ML} {x1 x2 x3 : Int32} (h : z_J S) : z_J (u_X6_root S P x1 x2 x3) := by
  unfold u_X6_root
  repeat' split
  all_goals first | exact h | exact z_J_set h (z_Jv_no rfl) | exact z_J_set (z_J_set h (z_Jv_no rfl)) (z_Jv_no rfl)
theorem jp_adopt {S : z_MI} {P : z_ML} {x1 x2 : Int32} (h : z_J S) : z_J (u_X6_adopt S P x1 x2) := by
  unfold u_X6_adopt
  repeat' split
  all_goals first | exact h | exact z_J_set h (z_Jv_no rfl) | exact z_J_set (z_J_set h (z_Jv_no rfl)) (z_Jv_no rfl)
theorem jp_raise {S : z_MI} {P : z_ML} {x1 : Int32} (h : z_J S) : z_J (u_X6_raise S P x1) := by
  unfold u_X6_raise
  repeat' split
  all_goals first | exact h | exact z_J_set h (z_Jv_no rfl) | exact z_J_set (z_J_set h (z_Jv_no rfl)) (z_Jv_no rfl)
theorem jp_story {S : z_MI} {P : z_ML} {x1 : Int32} (h : z_J S) : z_J (u_X6_story S P x1) := by
  unfold u_X6_story
  repeat' split
  all_goals first | exact h | exact j_X5add h (by assumption) (t_isPeople h (by assumption)) | exact z_J_set h (z_Jv_no rfl) | exact z_J_set (z_J_set h (z_Jv_no rfl)) (z_Jv_no rfl)
theorem jp_part {S : z_MI} {P : z_ML} {x1 x2 x3 : Int32} (h : z_J S) : z_J (u_X6_part S P x1 x2 x3) := by
  unfold u_X6_part
  repeat' split
  all_goals first | exact h | exact j_addPart h (by assumption) | exact z_J_set h (z_Jv_no rfl) | exact z_J_set (z_J_set h (z_Jv_no rfl)) (z_Jv_no rfl)
theorem jp_explain {S : z_MI} {P : z_ML} {x1 x2 x3 : Int32} (h : z_J S) : z_J (u_X6_explain S P x1 x2 x3) := by
  unfold u_X6_explain
  repeat' split
  all_goals first | exact h | exact j_addExplained h (by assumption) | exact z_J_set h (z_Jv_no rfl) | exact z_J_set (z_J_set h (z_Jv_no rfl)) (z_Jv_no rfl)
theorem jp_act {S : z_MI} {P : z_ML} {x1 x2 x3 x4 x5 : Int32} (h : z_J S) : z_J (u_X6_act S P x1 x2 x3 x4 x5) := by
  unfold u_X6_act
  repeat' split
  all_goals first | exact h | exact j_X0add h (by assumption) | exact z_J_set h (z_Jv_no rfl) | exact z_J_set (z_J_set h (z_Jv_no rfl)) (z_Jv_no rfl)
theorem jp_voids {S : z_MI} {P : z_ML} {x1 x2 : Int32} (h : z_J S) : z_J (u_X6_voids S P x1 x2) := by
  unfold u_X6_voids
  repeat' split
  all_goals first | exact h | exact z_J_set h (z_Jv_no rfl) | exact z_J_set (z_J_set h (z_Jv_no rfl)) (z_Jv_no rfl)
theorem jp_giveUp {S : z_MI} {P : z_ML} {x1 : Int32} (h : z_J S) : z_J (u_X6_giveUp S P x1) := by
  unfold u_X6_giveUp
  repeat' split
  all_goals first | exact h | exact z_J_set h (z_Jv_no rfl) | exact z_J_set (z_J_set h (z_Jv_no rfl)) (z_Jv_no rfl)
theorem jp_claim {S : z_MI} {P : z_ML} {x1 x2 x3 : Int32} (h : z_J S) : z_J (u_X6_claim S P x1 x2 x3) := by
  unfold u_X6_claim
  repeat' split
  all_goals first | exact h | exact j_X1add h (by assumption) (t_isPeople h (by assumption)) | exact z_J_set h (z_Jv_no rfl) | exact z_J_set (z_J_set h (z_Jv_no rfl)) (z_Jv_no rfl)
theorem jp_vote {S : z_MI} {P : z_ML} {x1 x2 x3 : Int32} (h : z_J S) : z_J (u_X6_vote S P x1 x2 x3) := by
  unfold u_X6_vote
  repeat' split
  all_goals first | exact h | exact z_J_set h (z_Jv_no rfl) | exact z_J_set (z_J_set h (z_Jv_no rfl)) (z_Jv_no rfl)
theorem jp_register {S : z_MI} {P : z_ML} {x1 : Int32} (h : z_J S) : z_J (u_X6_register S P x1) := by
  unfold u_X6_register
  repeat' split
  all_goals first | exact h | exact z_J_set h (z_Jv_no rfl) | exact z_J_set (z_J_set h (z_Jv_no rfl)) (z_Jv_no rfl)
theorem jp_determine {S : z_MI} {P : z_ML} {x1 : Int32} (h : z_J S) : z_J (u_X6_determine S P x1) := by
  unfold u_X6_determine
  repeat' split
  all_goals first | exact h | exact j_grant h | exact z_J_set h (z_Jv_no rfl) | exact z_J_set (z_J_set h (z_Jv_no rfl)) (z_Jv_no rfl)
theorem jp_revise {S : z_MI} {P : z_ML} {x1 : Int32} (h : z_J S) : z_J (u_X6_revise S P x1) := by
  unfold u_X6_revise
  repeat' split
  all_goals first | exact h | exact j_grant h | exact z_J_set h (z_Jv_no rfl) | exact z_J_set (z_J_set h (z_Jv_no rfl)) (z_Jv_no rfl)
theorem jp_notice {S : z_MI} {P : z_ML} {x1 x2 x3 x4 x5 : Int32} (h : z_J S) : z_J (u_X6_notice S P x1 x2 x3 x4 x5) := by
  unfold u_X6_notice
  repeat' split
  all_goals first | exact h | exact j_tell (j_X4add h (by assumption))
theorem jp_agree {S : z_MI} {P : z_ML} {x1 x2 : Int32} (h : z_J S) : z_J (u_X6_agree S P x1 x2) := by
  unfold u_X6_agree
  repeat' split
  all_goals first | exact h | exact z_J_set h (z_Jv_no rfl) | exact z_J_set (z_J_set h (z_Jv_no rfl)) (z_Jv_no rfl)
theorem jp_object {S : z_MI} {P : z_ML} {x1 x2 : Int32} (h : z_J S) : z_J (u_X6_object S P x1 x2) := by
  unfold u_X6_object
  repeat' split
  all_goals first | exact h | exact z_J_set h (z_Jv_no rfl) | exact z_J_set (z_J_set h (z_Jv_no rfl)) (z_Jv_no rfl)
theorem jp_decide {S : z_MI} {P : z_ML} {x1 x2 : Int32} (h : z_J S) : z_J (u_X6_decide S P x1 x2) := by
  unfold u_X6_decide
  repeat' split
  all_goals first | exact h | exact z_J_set h (z_Jv_no rfl) | exact z_J_set (z_J_set h (z_Jv_no rfl)) (z_Jv_no rfl)
theorem jp_proceed {S : z_MI} {P : z_ML} {x1 : Int32} (h : z_J S) : z_J (u_X6_proceed S P x1) := by
  unfold u_X6_proceed
  repeat' split
  all_goals first | exact h | exact z_J_set (z_J_set (j_X0add h (by assumption)) (z_Jv_no rfl)) (z_Jv_no rfl)
theorem jp_value {S : z_MI} {P : z_ML} {x1 x2 : Int32} (h : z_J S) : z_J (u_X6_value S P x1 x2) := by
  unfold u_X6_value
  repeat' split
  all_goals first | exact h | exact z_J_set h (z_Jv_no rfl) | exact z_J_set (z_J_set h (z_Jv_no rfl)) (z_Jv_no rfl)
theorem j_now {S : z_MI} {x : Int32} (h : z_J S) (h1 : ¬ x < nI 1) (h2 : x ≤ nI 600) (h3 : S 2096 8 + x ≤ nI 5000) : z_le (S 2096 8 + x) 5000 := by
  obtain ⟨k, hk, e⟩ := z_J_now h
  obtain ⟨j, hj, rfl⟩ := z_le_of (x := x) (N := 600) (by
    rw [Int32.lt_iff_toInt_lt] at h1
    rw [Int32.le_iff_toInt_le]
    have e1 : (nI 1).toInt = 1 := by decide
    have e0 : (0 : Int32).toInt = 0 := by decide
    omega) h2 (by decide)
  rw [e, nI_add] at h3 ⊢
  exact ⟨k + j, (nI_leI (by omega) (by omega)).mp h3, rfl⟩
theorem jp_pass {S : z_MI} {P : z_ML} {x1 : Int32} (h : z_J S) : z_J (u_X6_pass S P x1) := by
  unfold u_X6_pass
  repeat' split
  all_goals first | exact h | exact z_J_set h (z_Jv_now (j_now h (by assumption) (by assumption) (by assumption)))
theorem jp_pay {S : z_MI} {P : z_ML} {x1 : Int32} (h : z_J S) : z_J (u_X6_pay S P x1) := by
  unfold u_X6_pay
  repeat' split
  all_goals first | exact h | exact z_J_set h (z_Jv_no rfl) | exact z_J_set (z_J_set h (z_Jv_no rfl)) (z_Jv_no rfl)
theorem jp_mark {S : z_MI} {P : z_ML} {x1 x2 x3 x4 : Int32} (h : z_J S) : z_J (u_X6_mark S P x1 x2 x3 x4) := by
  unfold u_X6_mark
  repeat' split
  all_goals first | exact h | exact j_X3add _ _ _ h (by assumption)
/-! the methods at the law's level -/
theorem y_isint {v : Value} (h : y_int v = true) : ∃ x : Int32, v = .int x := by
  cases v <;> first | exact ⟨_, rfl⟩ | cases h
def y_ri : List Value → Option Value → Prop := fun _ v => ∃ x : Int32, v = some (.int x)
def y_rl : List Value → Option Value → Prop := fun _ v => ∃ x : Int64, v = some (.long x)
def y_rv : List Value → Option Value → Prop := fun _ v => v = none
/-- an answer, only where the first number is below N -/
def y_rn (N : Nat) : List Value → Option Value → Prop := fun as v => (∃ x : Int32, v = some (.int x)) ∧ match as with
  | .int a :: _ => ¬ nI N ≤ a
  | _ => False
theorem y_nle {x : Int32} {N : Nat} (h : vp_in x N) (hN : N < 2 ^ 31) : ¬ nI N ≤ x := by
  obtain ⟨j, hj, rfl⟩ := vp_in_of h hN
  intro q
  have := (nI_leI hN (by omega)).mp q
  omega
theorem y_ints1 {as : List Value} (h : as.all y_int = true) (hn : as.length = 1) : ∃ x1 : Int32, as = [.int x1] := by
  match as, h, hn with
  | [v1], h, _ =>
    simp only [List.all_cons, List.all_nil, Bool.and_eq_true, Bool.and_true] at h
    obtain ⟨x1, rfl⟩ := y_isint h
    exact ⟨x1, rfl⟩
theorem y_ints2 {as : List Value} (h : as.all y_int = true) (hn : as.length = 2) : ∃ x1 x2 : Int32, as = [.int x1, .int x2] := by
  match as, h, hn with
  | [v1, v2], h, _ =>
    simp only [List.all_cons, List.all_nil, Bool.and_eq_true, Bool.and_true] at h
    obtain ⟨x1, rfl⟩ := y_isint h.1
    obtain ⟨x2, rfl⟩ := y_isint h.2
    exact ⟨x1, x2, rfl⟩
theorem y_ints3 {as : List Value} (h : as.all y_int = true) (hn : as.length = 3) : ∃ x1 x2 x3 : Int32, as = [.int x1, .int x2, .int x3] := by
  match as, h, hn with
  | [v1, v2, v3], h, _ =>
    simp only [List.all_cons, List.all_nil, Bool.and_eq_true, Bool.and_true] at h
    obtain ⟨x1, rfl⟩ := y_isint h.1
    obtain ⟨x2, rfl⟩ := y_isint h.2.1
    obtain ⟨x3, rfl⟩ := y_isint h.2.2
    exact ⟨x1, x2, x3, rfl⟩
theorem y_ints4 {as : List Value} (h : as.all y_int = true) (hn : as.length = 4) : ∃ x1 x2 x3 x4 : Int32, as = [.int x1, .int x2, .int x3, .int x4] := by
  match as, h, hn with
  | [v1, v2, v3, v4], h, _ =>
    simp only [List.all_cons, List.all_nil, Bool.and_eq_true, Bool.and_true] at h
    obtain ⟨x1, rfl⟩ := y_isint h.1
    obtain ⟨x2, rfl⟩ := y_isint h.2.1
    obtain ⟨x3, rfl⟩ := y_isint h.2.2.1
    obtain ⟨x4, rfl⟩ := y_isint h.2.2.2
    exact ⟨x1, x2, x3, x4, rfl⟩
theorem y_ints5 {as : List Value} (h : as.all y_int = true) (hn : as.length = 5) : ∃ x1 x2 x3 x4 x5 : Int32, as = [.int x1, .int x2, .int x3, .int x4, .int x5] := by
  match as, h, hn with
  | [v1, v2, v3, v4, v5], h, _ =>
    simp only [List.all_cons, List.all_nil, Bool.and_eq_true, Bool.and_true] at h
    obtain ⟨x1, rfl⟩ := y_isint h.1
    obtain ⟨x2, rfl⟩ := y_isint h.2.1
    obtain ⟨x3, rfl⟩ := y_isint h.2.2.1
    obtain ⟨x4, rfl⟩ := y_isint h.2.2.2.1
    obtain ⟨x5, rfl⟩ := y_isint h.2.2.2.2
    exact ⟨x1, x2, x3, x4, x5, rfl⟩
theorem we_people (S : z_MI) (P : z_ML) (x1 : Int32) : e_X6_people S P x1 = 0 ∨ e_X6_people S P x1 = 2 ∨ e_X6_people S P x1 = 3 := by
  unfold e_X6_people
  repeat' split
  all_goals first | exact Or.inl rfl | exact Or.inr (Or.inl rfl) | exact Or.inr (Or.inr (rfl))
theorem wk_people : y_WK sp_X6_people 1 y_ri ["java/lang/IllegalArgumentException", "java/lang/IllegalStateException"] := by
  intro S P as hJ has hn
  obtain ⟨x1, rfl⟩ := y_ints1 has hn
  refine ⟨hJ, ?_⟩
  rcases we_people S P x1 with he | he | he
  · rw [he]
    exact ⟨(jp_people hJ), _, rfl⟩
  · rw [he]
    exact ⟨hJ, List.mem_cons_self⟩
  · rw [he]
    exact ⟨hJ, List.mem_cons_of_mem _ (List.mem_cons_self)⟩
theorem we_person (S : z_MI) (P : z_ML) (x1 x2 : Int32) : e_X6_person S P x1 x2 = 0 ∨ e_X6_person S P x1 x2 = 1 ∨ e_X6_person S P x1 x2 = 2 ∨ e_X6_person S P x1 x2 = 3 := by
  unfold e_X6_person
  repeat' split
  all_goals first | exact Or.inl rfl | exact Or.inr (Or.inl rfl) | exact Or.inr (Or.inr (Or.inl rfl)) | exact Or.inr (Or.inr (Or.inr (rfl)))
theorem wk_person : y_WK sp_X6_person 2 y_ri ["java/lang/IndexOutOfBoundsException", "java/lang/IllegalArgumentException", "java/lang/IllegalStateException"] := by
  intro S P as hJ has hn
  obtain ⟨x1, x2, rfl⟩ := y_ints2 has hn
  refine ⟨hJ, ?_⟩
  rcases we_person S P x1 x2 with he | he | he | he
  · rw [he]
    exact ⟨(jp_person hJ), _, rfl⟩
  · rw [he]
    exact ⟨hJ, List.mem_cons_self⟩
  · rw [he]
    exact ⟨hJ, List.mem_cons_of_mem _ (List.mem_cons_self)⟩
  · rw [he]
    exact ⟨hJ, List.mem_cons_of_mem _ (List.mem_cons_of_mem _ (List.mem_cons_self))⟩
theorem we_root (S : z_MI) (P : z_ML) (x1 x2 x3 : Int32) : e_X6_root S P x1 x2 x3 = 0 ∨ e_X6_root S P x1 x2 x3 = 1 := by
  unfold e_X6_root
  repeat' split
  all_goals first | exact Or.inl rfl | exact Or.inr (rfl)
theorem wk_root : y_WK sp_X6_root 3 y_ri ["java/lang/IndexOutOfBoundsException"] := by
  intro S P as hJ has hn
  obtain ⟨x1, x2, x3, rfl⟩ := y_ints3 has hn
  refine ⟨hJ, ?_⟩
  rcases we_root S P x1 x2 x3 with he | he
  · rw [he]
    exact ⟨(jp_root hJ), _, rfl⟩
  · rw [he]
    exact ⟨hJ, List.mem_cons_self⟩
theorem we_adopt (S : z_MI) (P : z_ML) (x1 x2 : Int32) : e_X6_adopt S P x1 x2 = 0 ∨ e_X6_adopt S P x1 x2 = 1 ∨ e_X6_adopt S P x1 x2 = 2 := by
  unfold e_X6_adopt
  repeat' split
  all_goals first | exact Or.inl rfl | exact Or.inr (Or.inl rfl) | exact Or.inr (Or.inr (rfl))
theorem wk_adopt : y_WK sp_X6_adopt 2 y_ri ["java/lang/IndexOutOfBoundsException", "java/lang/IllegalArgumentException"] := by
  intro S P as hJ has hn
  obtain ⟨x1, x2, rfl⟩ := y_ints2 has hn
  refine ⟨hJ, ?_⟩
  rcases we_adopt S P x1 x2 with he | he | he
  · rw [he]
    exact ⟨(jp_adopt hJ), _, rfl⟩
  · rw [he]
    exact ⟨hJ, List.mem_cons_self⟩
  · rw [he]
    exact ⟨hJ, List.mem_cons_of_mem _ (List.mem_cons_self)⟩
theorem we_raise (S : z_MI) (P : z_ML) (x1 : Int32) : e_X6_raise S P x1 = 0 ∨ e_X6_raise S P x1 = 1 ∨ e_X6_raise S P x1 = 3 := by
  unfold e_X6_raise
  repeat' split
  all_goals first | exact Or.inl rfl | exact Or.inr (Or.inl rfl) | exact Or.inr (Or.inr (rfl))
theorem wk_raise : y_WK sp_X6_raise 1 y_ri ["java/lang/IndexOutOfBoundsException", "java/lang/IllegalStateException"] := by
  intro S P as hJ has hn
  obtain ⟨x1, rfl⟩ := y_ints1 has hn
  refine ⟨hJ, ?_⟩
  rcases we_raise S P x1 with he | he | he
  · rw [he]
    exact ⟨(jp_raise hJ), _, rfl⟩
  · rw [he]
    exact ⟨hJ, List.mem_cons_self⟩
  · rw [he]
    exact ⟨hJ, List.mem_cons_of_mem _ (List.mem_cons_self)⟩
theorem we_members (S : z_MI) (P : z_ML) (x1 : Int32) : e_X6_members S P x1 = 0 ∨ e_X6_members S P x1 = 1 := by
  unfold e_X6_members
  repeat' split
  all_goals first | exact Or.inl rfl | exact Or.inr (rfl)
theorem wk_members : y_WK sp_X6_members 1 (y_rn 6) ["java/lang/IndexOutOfBoundsException"] := by
  intro S P as hJ has hn
  obtain ⟨x1, rfl⟩ := y_ints1 has hn
  refine ⟨hJ, ?_⟩
  rcases we_members S P x1 with he | he
  · rw [he]
    have h1 : f_X2_isPeople S P x1 = true := by
      unfold e_X6_members at he
      split at he
      · assumption
      · cases he
    exact ⟨hJ, ⟨_, rfl⟩, y_nle (t_isPeople hJ h1) (by decide)⟩
  · rw [he]
    exact ⟨hJ, List.mem_cons_self⟩
theorem we_story (S : z_MI) (P : z_ML) (x1 : Int32) : e_X6_story S P x1 = 0 ∨ e_X6_story S P x1 = 1 ∨ e_X6_story S P x1 = 3 := by
  unfold e_X6_story
  repeat' split
  all_goals first | exact Or.inl rfl | exact Or.inr (Or.inl rfl) | exact Or.inr (Or.inr (rfl))
theorem wk_story : y_WK sp_X6_story 1 y_ri ["java/lang/IndexOutOfBoundsException", "java/lang/IllegalStateException"] := by
  intro S P as hJ has hn
  obtain ⟨x1, rfl⟩ := y_ints1 has hn
  refine ⟨hJ, ?_⟩
  rcases we_story S P x1 with he | he | he
  · rw [he]
    exact ⟨(jp_story hJ), _, rfl⟩
  · rw [he]
    exact ⟨hJ, List.mem_cons_self⟩
  · rw [he]
    exact ⟨hJ, List.mem_cons_of_mem _ (List.mem_cons_self)⟩
theorem we_part (S : z_MI) (P : z_ML) (x1 x2 x3 : Int32) : e_X6_part S P x1 x2 x3 = 0 ∨ e_X6_part S P x1 x2 x3 = 1 ∨ e_X6_part S P x1 x2 x3 = 2 ∨ e_X6_part S P x1 x2 x3 = 3 := by
  unfold e_X6_part
  repeat' split
  all_goals first | exact Or.inl rfl | exact Or.inr (Or.inl rfl) | exact Or.inr (Or.inr (Or.inl rfl)) | exact Or.inr (Or.inr (Or.inr (rfl)))
theorem wk_part : y_WK sp_X6_part 3 y_ri ["java/lang/IndexOutOfBoundsException", "java/lang/IllegalArgumentException", "java/lang/IllegalStateException"] := by
  intro S P as hJ has hn
  obtain ⟨x1, x2, x3, rfl⟩ := y_ints3 has hn
  refine ⟨hJ, ?_⟩
  rcases we_part S P x1 x2 x3 with he | he | he | he
  · rw [he]
    exact ⟨(jp_part hJ), _, rfl⟩
  · rw [he]
    exact ⟨hJ, List.mem_cons_self⟩
  · rw [he]
    exact ⟨hJ, List.mem_cons_of_mem _ (List.mem_cons_self)⟩
  · rw [he]
    exact ⟨hJ, List.mem_cons_of_mem _ (List.mem_cons_of_mem _ (List.mem_cons_self))⟩
theorem we_hears (S : z_MI) (P : z_ML) (x1 x2 x3 : Int32) : e_X6_hears S P x1 x2 x3 = 0 ∨ e_X6_hears S P x1 x2 x3 = 1 := by
  unfold e_X6_hears
  repeat' split
  all_goals first | exact Or.inl rfl | exact Or.inr (rfl)
theorem wk_hears : y_WK sp_X6_hears 3 y_ri ["java/lang/IndexOutOfBoundsException"] := by
  intro S P as hJ has hn
  obtain ⟨x1, x2, x3, rfl⟩ := y_ints3 has hn
  refine ⟨hJ, ?_⟩
  rcases we_hears S P x1 x2 x3 with he | he
  · rw [he]
    exact ⟨hJ, _, rfl⟩
  · rw [he]
    exact ⟨hJ, List.mem_cons_self⟩
theorem we_told (S : z_MI) (P : z_ML) (x1 : Int32) : e_X6_told S P x1 = 0 ∨ e_X6_told S P x1 = 1 := by
  unfold e_X6_told
  repeat' split
  all_goals first | exact Or.inl rfl | exact Or.inr (rfl)
theorem wk_told : y_WK sp_X6_told 1 y_ri ["java/lang/IndexOutOfBoundsException"] := by
  intro S P as hJ has hn
  obtain ⟨x1, rfl⟩ := y_ints1 has hn
  refine ⟨hJ, ?_⟩
  rcases we_told S P x1 with he | he
  · rw [he]
    exact ⟨hJ, _, rfl⟩
  · rw [he]
    exact ⟨hJ, List.mem_cons_self⟩
theorem we_explain (S : z_MI) (P : z_ML) (x1 x2 x3 : Int32) : e_X6_explain S P x1 x2 x3 = 0 ∨ e_X6_explain S P x1 x2 x3 = 1 ∨ e_X6_explain S P x1 x2 x3 = 2 ∨ e_X6_explain S P x1 x2 x3 = 3 := by
  unfold e_X6_explain
  repeat' split
  all_goals first | exact Or.inl rfl | exact Or.inr (Or.inl rfl) | exact Or.inr (Or.inr (Or.inl rfl)) | exact Or.inr (Or.inr (Or.inr (rfl)))
theorem wk_explain : y_WK sp_X6_explain 3 y_ri ["java/lang/IndexOutOfBoundsException", "java/lang/IllegalArgumentException", "java/lang/IllegalStateException"] := by
  intro S P as hJ has hn
  obtain ⟨x1, x2, x3, rfl⟩ := y_ints3 has hn
  refine ⟨hJ, ?_⟩
  rcases we_explain S P x1 x2 x3 with he | he | he | he
  · rw [he]
    exact ⟨(jp_explain hJ), _, rfl⟩
  · rw [he]
    exact ⟨hJ, List.mem_cons_self⟩
  · rw [he]
    exact ⟨hJ, List.mem_cons_of_mem _ (List.mem_cons_self)⟩
  · rw [he]
    exact ⟨hJ, List.mem_cons_of_mem _ (List.mem_cons_of_mem _ (List.mem_cons_self))⟩
theorem we_isProved (S : z_MI) (P : z_ML) (x1 x2 : Int32) : e_X6_isProved S P x1 x2 = 0 ∨ e_X6_isProved S P x1 x2 = 1 := by
  unfold e_X6_isProved
  repeat' split
  all_goals first | exact Or.inl rfl | exact Or.inr (rfl)
theorem wk_isProved : y_WK sp_X6_isProved 2 y_ri ["java/lang/IndexOutOfBoundsException"] := by
  intro S P as hJ has hn
  obtain ⟨x1, x2, rfl⟩ := y_ints2 has hn
  refine ⟨hJ, ?_⟩
  rcases we_isProved S P x1 x2 with he | he
  · rw [he]
    exact ⟨hJ, _, rfl⟩
  · rw [he]
    exact ⟨hJ, List.mem_cons_self⟩
theorem we_act (S : z_MI) (P : z_ML) (x1 x2 x3 x4 x5 : Int32) : e_X6_act S P x1 x2 x3 x4 x5 = 0 ∨ e_X6_act S P x1 x2 x3 x4 x5 = 2 ∨ e_X6_act S P x1 x2 x3 x4 x5 = 3 := by
  unfold e_X6_act
  repeat' split
  all_goals first | exact Or.inl rfl | exact Or.inr (Or.inl rfl) | exact Or.inr (Or.inr (rfl))
theorem wk_act : y_WK sp_X6_act 5 y_ri ["java/lang/IllegalArgumentException", "java/lang/IllegalStateException"] := by
  intro S P as hJ has hn
  obtain ⟨x1, x2, x3, x4, x5, rfl⟩ := y_ints5 has hn
  refine ⟨hJ, ?_⟩
  rcases we_act S P x1 x2 x3 x4 x5 with he | he | he
  · rw [he]
    exact ⟨(jp_act hJ), _, rfl⟩
  · rw [he]
    exact ⟨hJ, List.mem_cons_self⟩
  · rw [he]
    exact ⟨hJ, List.mem_cons_of_mem _ (List.mem_cons_self)⟩
theorem we_voids (S : z_MI) (P : z_ML) (x1 x2 : Int32) : e_X6_voids S P x1 x2 = 0 ∨ e_X6_voids S P x1 x2 = 1 := by
  unfold e_X6_voids
  repeat' split
  all_goals first | exact Or.inl rfl | exact Or.inr (rfl)
theorem wk_voids : y_WK sp_X6_voids 2 y_ri ["java/lang/IndexOutOfBoundsException"] := by
  intro S P as hJ has hn
  obtain ⟨x1, x2, rfl⟩ := y_ints2 has hn
  refine ⟨hJ, ?_⟩
  rcases we_voids S P x1 x2 with he | he
  · rw [he]
    exact ⟨(jp_voids hJ), _, rfl⟩
  · rw [he]
    exact ⟨hJ, List.mem_cons_self⟩
theorem we_giveUp (S : z_MI) (P : z_ML) (x1 : Int32) : e_X6_giveUp S P x1 = 0 ∨ e_X6_giveUp S P x1 = 1 ∨ e_X6_giveUp S P x1 = 3 := by
  unfold e_X6_giveUp
  repeat' split
  all_goals first | exact Or.inl rfl | exact Or.inr (Or.inl rfl) | exact Or.inr (Or.inr (rfl))
theorem wk_giveUp : y_WK sp_X6_giveUp 1 y_ri ["java/lang/IndexOutOfBoundsException", "java/lang/IllegalStateException"] := by
  intro S P as hJ has hn
  obtain ⟨x1, rfl⟩ := y_ints1 has hn
  refine ⟨hJ, ?_⟩
  rcases we_giveUp S P x1 with he | he | he
  · rw [he]
    exact ⟨(jp_giveUp hJ), _, rfl⟩
  · rw [he]
    exact ⟨hJ, List.mem_cons_self⟩
  · rw [he]
    exact ⟨hJ, List.mem_cons_of_mem _ (List.mem_cons_self)⟩
theorem we_left (S : z_MI) (P : z_ML) (x1 x2 : Int32) : e_X6_left S P x1 x2 = 0 ∨ e_X6_left S P x1 x2 = 1 ∨ e_X6_left S P x1 x2 = 2 := by
  unfold e_X6_left
  repeat' split
  all_goals first | exact Or.inl rfl | exact Or.inr (Or.inl rfl) | exact Or.inr (Or.inr (rfl))
theorem wk_left : y_WK sp_X6_left 2 y_ri ["java/lang/IndexOutOfBoundsException", "java/lang/IllegalArgumentException"] := by
  intro S P as hJ has hn
  obtain ⟨x1, x2, rfl⟩ := y_ints2 has hn
  refine ⟨hJ, ?_⟩
  rcases we_left S P x1 x2 with he | he | he
  · rw [he]
    exact ⟨hJ, _, rfl⟩
  · rw [he]
    exact ⟨hJ, List.mem_cons_self⟩
  · rw [he]
    exact ⟨hJ, List.mem_cons_of_mem _ (List.mem_cons_self)⟩
theorem we_leftAnew (S : z_MI) (P : z_ML) (x1 x2 : Int32) : e_X6_leftAnew S P x1 x2 = 0 ∨ e_X6_leftAnew S P x1 x2 = 1 ∨ e_X6_leftAnew S P x1 x2 = 2 := by
  unfold e_X6_leftAnew
  repeat' split
  all_goals first | exact Or.inl rfl | exact Or.inr (Or.inl rfl) | exact Or.inr (Or.inr (rfl))
theorem wk_leftAnew : y_WK sp_X6_leftAnew 2 y_ri ["java/lang/IndexOutOfBoundsException", "java/lang/IllegalArgumentException"] := by
  intro S P as hJ has hn
  obtain ⟨x1, x2, rfl⟩ := y_ints2 has hn
  refine ⟨hJ, ?_⟩
  rcases we_leftAnew S P x1 x2 with he | he | he
  · rw [he]
    exact ⟨hJ, _, rfl⟩
  · rw [he]
    exact ⟨hJ, List.mem_cons_self⟩
  · rw [he]
    exact ⟨hJ, List.mem_cons_of_mem _ (List.mem_cons_self)⟩
theorem we_claim (S : z_MI) (P : z_ML) (x1 x2 x3 : Int32) : e_X6_claim S P x1 x2 x3 = 0 ∨ e_X6_claim S P x1 x2 x3 = 1 ∨ e_X6_claim S P x1 x2 x3 = 2 ∨ e_X6_claim S P x1 x2 x3 = 3 := by
  unfold e_X6_claim
  repeat' split
  all_goals first | exact Or.inl rfl | exact Or.inr (Or.inl rfl) | exact Or.inr (Or.inr (Or.inl rfl)) | exact Or.inr (Or.inr (Or.inr (rfl)))
theorem wk_claim : y_WK sp_X6_claim 3 y_ri ["java/lang/IndexOutOfBoundsException", "java/lang/IllegalArgumentException", "java/lang/IllegalStateException"] := by
  intro S P as hJ has hn
  obtain ⟨x1, x2, x3, rfl⟩ := y_ints3 has hn
  refine ⟨hJ, ?_⟩
  rcases we_claim S P x1 x2 x3 with he | he | he | he
  · rw [he]
    exact ⟨(jp_claim hJ), _, rfl⟩
  · rw [he]
    exact ⟨hJ, List.mem_cons_self⟩
  · rw [he]
    exact ⟨hJ, List.mem_cons_of_mem _ (List.mem_cons_self)⟩
  · rw [he]
    exact ⟨hJ, List.mem_cons_of_mem _ (List.mem_cons_of_mem _ (List.mem_cons_self))⟩
theorem we_vote (S : z_MI) (P : z_ML) (x1 x2 x3 : Int32) : e_X6_vote S P x1 x2 x3 = 0 ∨ e_X6_vote S P x1 x2 x3 = 1 ∨ e_X6_vote S P x1 x2 x3 = 3 := by
  unfold e_X6_vote
  repeat' split
  all_goals first | exact Or.inl rfl | exact Or.inr (Or.inl rfl) | exact Or.inr (Or.inr (rfl))
theorem wk_vote : y_WK sp_X6_vote 3 y_rv ["java/lang/IndexOutOfBoundsException", "java/lang/IllegalStateException"] := by
  intro S P as hJ has hn
  obtain ⟨x1, x2, x3, rfl⟩ := y_ints3 has hn
  refine ⟨hJ, ?_⟩
  rcases we_vote S P x1 x2 x3 with he | he | he
  · rw [he]
    exact ⟨(jp_vote hJ), rfl⟩
  · rw [he]
    exact ⟨hJ, List.mem_cons_self⟩
  · rw [he]
    exact ⟨hJ, List.mem_cons_of_mem _ (List.mem_cons_self)⟩
theorem we_register (S : z_MI) (P : z_ML) (x1 : Int32) : e_X6_register S P x1 = 0 ∨ e_X6_register S P x1 = 1 ∨ e_X6_register S P x1 = 3 := by
  unfold e_X6_register
  repeat' split
  all_goals first | exact Or.inl rfl | exact Or.inr (Or.inl rfl) | exact Or.inr (Or.inr (rfl))
theorem wk_register : y_WK sp_X6_register 1 y_ri ["java/lang/IndexOutOfBoundsException", "java/lang/IllegalStateException"] := by
  intro S P as hJ has hn
  obtain ⟨x1, rfl⟩ := y_ints1 has hn
  refine ⟨hJ, ?_⟩
  rcases we_register S P x1 with he | he | he
  · rw [he]
    exact ⟨(jp_register hJ), _, rfl⟩
  · rw [he]
    exact ⟨hJ, List.mem_cons_self⟩
  · rw [he]
    exact ⟨hJ, List.mem_cons_of_mem _ (List.mem_cons_self)⟩
theorem we_determine (S : z_MI) (P : z_ML) (x1 : Int32) : e_X6_determine S P x1 = 0 ∨ e_X6_determine S P x1 = 1 ∨ e_X6_determine S P x1 = 3 := by
  unfold e_X6_determine
  repeat' split
  all_goals first | exact Or.inl rfl | exact Or.inr (Or.inl rfl) | exact Or.inr (Or.inr (rfl))
theorem wk_determine : y_WK sp_X6_determine 1 y_ri ["java/lang/IndexOutOfBoundsException", "java/lang/IllegalStateException"] := by
  intro S P as hJ has hn
  obtain ⟨x1, rfl⟩ := y_ints1 has hn
  refine ⟨hJ, ?_⟩
  rcases we_determine S P x1 with he | he | he
  · rw [he]
    exact ⟨(jp_determine hJ), _, rfl⟩
  · rw [he]
    exact ⟨hJ, List.mem_cons_self⟩
  · rw [he]
    exact ⟨hJ, List.mem_cons_of_mem _ (List.mem_cons_self)⟩
theorem we_revise (S : z_MI) (P : z_ML) (x1 : Int32) : e_X6_revise S P x1 = 0 ∨ e_X6_revise S P x1 = 1 ∨ e_X6_revise S P x1 = 3 := by
  unfold e_X6_revise
  repeat' split
  all_goals first | exact Or.inl rfl | exact Or.inr (Or.inl rfl) | exact Or.inr (Or.inr (rfl))
theorem wk_revise : y_WK sp_X6_revise 1 y_ri ["java/lang/IndexOutOfBoundsException", "java/lang/IllegalStateException"] := by
  intro S P as hJ has hn
  obtain ⟨x1, rfl⟩ := y_ints1 has hn
  refine ⟨hJ, ?_⟩
  rcases we_revise S P x1 with he | he | he
  · rw [he]
    exact ⟨(jp_revise hJ), _, rfl⟩
  · rw [he]
    exact ⟨hJ, List.mem_cons_self⟩
  · rw [he]
    exact ⟨hJ, List.mem_cons_of_mem _ (List.mem_cons_self)⟩
theorem we_ofClaim (S : z_MI) (P : z_ML) (x1 x2 : Int32) : e_X6_ofClaim S P x1 x2 = 0 ∨ e_X6_ofClaim S P x1 x2 = 1 ∨ e_X6_ofClaim S P x1 x2 = 2 := by
  unfold e_X6_ofClaim
  repeat' split
  all_goals first | exact Or.inl rfl | exact Or.inr (Or.inl rfl) | exact Or.inr (Or.inr (rfl))
theorem wk_ofClaim : y_WK sp_X6_ofClaim 2 (y_rn 12) ["java/lang/IndexOutOfBoundsException", "java/lang/IllegalArgumentException"] := by
  intro S P as hJ has hn
  obtain ⟨x1, x2, rfl⟩ := y_ints2 has hn
  refine ⟨hJ, ?_⟩
  rcases we_ofClaim S P x1 x2 with he | he | he
  · rw [he]
    have h1 : f_X1_isClaim S P x1 = true := by
      unfold e_X6_ofClaim at he
      split at he
      · assumption
      · cases he
    exact ⟨hJ, ⟨_, rfl⟩, y_nle (t_isClaim hJ h1) (by decide)⟩
  · rw [he]
    exact ⟨hJ, List.mem_cons_self⟩
  · rw [he]
    exact ⟨hJ, List.mem_cons_of_mem _ (List.mem_cons_self)⟩
theorem we_holders (S : z_MI) (P : z_ML) (x1 : Int32) : e_X6_holders S P x1 = 0 ∨ e_X6_holders S P x1 = 1 := by
  unfold e_X6_holders
  repeat' split
  all_goals first | exact Or.inl rfl | exact Or.inr (rfl)
theorem wk_holders : y_WK sp_X6_holders 1 y_ri ["java/lang/IndexOutOfBoundsException"] := by
  intro S P as hJ has hn
  obtain ⟨x1, rfl⟩ := y_ints1 has hn
  refine ⟨hJ, ?_⟩
  rcases we_holders S P x1 with he | he
  · rw [he]
    exact ⟨hJ, _, rfl⟩
  · rw [he]
    exact ⟨hJ, List.mem_cons_self⟩
theorem we_may (S : z_MI) (P : z_ML) (x1 x2 x3 : Int32) : e_X6_may S P x1 x2 x3 = 0 ∨ e_X6_may S P x1 x2 x3 = 1 := by
  unfold e_X6_may
  repeat' split
  all_goals first | exact Or.inl rfl | exact Or.inr (rfl)
theorem wk_may : y_WK sp_X6_may 3 y_ri ["java/lang/IndexOutOfBoundsException"] := by
  intro S P as hJ has hn
  obtain ⟨x1, x2, x3, rfl⟩ := y_ints3 has hn
  refine ⟨hJ, ?_⟩
  rcases we_may S P x1 x2 x3 with he | he
  · rw [he]
    exact ⟨hJ, _, rfl⟩
  · rw [he]
    exact ⟨hJ, List.mem_cons_self⟩
theorem we_notice (S : z_MI) (P : z_ML) (x1 x2 x3 x4 x5 : Int32) : e_X6_notice S P x1 x2 x3 x4 x5 = 0 ∨ e_X6_notice S P x1 x2 x3 x4 x5 = 2 ∨ e_X6_notice S P x1 x2 x3 x4 x5 = 3 := by
  unfold e_X6_notice
  repeat' split
  all_goals first | exact Or.inl rfl | exact Or.inr (Or.inl rfl) | exact Or.inr (Or.inr (rfl))
theorem wk_notice : y_WK sp_X6_notice 5 y_ri ["java/lang/IllegalArgumentException", "java/lang/IllegalStateException"] := by
  intro S P as hJ has hn
  obtain ⟨x1, x2, x3, x4, x5, rfl⟩ := y_ints5 has hn
  refine ⟨hJ, ?_⟩
  rcases we_notice S P x1 x2 x3 x4 x5 with he | he | he
  · rw [he]
    exact ⟨(jp_notice hJ), _, rfl⟩
  · rw [he]
    exact ⟨hJ, List.mem_cons_self⟩
  · rw [he]
    exact ⟨hJ, List.mem_cons_of_mem _ (List.mem_cons_self)⟩
theorem we_agree (S : z_MI) (P : z_ML) (x1 x2 : Int32) : e_X6_agree S P x1 x2 = 0 ∨ e_X6_agree S P x1 x2 = 1 ∨ e_X6_agree S P x1 x2 = 3 := by
  unfold e_X6_agree
  repeat' split
  all_goals first | exact Or.inl rfl | exact Or.inr (Or.inl rfl) | exact Or.inr (Or.inr (rfl))
theorem wk_agree : y_WK sp_X6_agree 2 y_ri ["java/lang/IndexOutOfBoundsException", "java/lang/IllegalStateException"] := by
  intro S P as hJ has hn
  obtain ⟨x1, x2, rfl⟩ := y_ints2 has hn
  refine ⟨hJ, ?_⟩
  rcases we_agree S P x1 x2 with he | he | he
  · rw [he]
    exact ⟨(jp_agree hJ), _, rfl⟩
  · rw [he]
    exact ⟨hJ, List.mem_cons_self⟩
  · rw [he]
    exact ⟨hJ, List.mem_cons_of_mem _ (List.mem_cons_self)⟩
theorem we_object (S : z_MI) (P : z_ML) (x1 x2 : Int32) : e_X6_object S P x1 x2 = 0 ∨ e_X6_object S P x1 x2 = 1 ∨ e_X6_object S P x1 x2 = 3 := by
  unfold e_X6_object
  repeat' split
  all_goals first | exact Or.inl rfl | exact Or.inr (Or.inl rfl) | exact Or.inr (Or.inr (rfl))
theorem wk_object : y_WK sp_X6_object 2 y_rv ["java/lang/IndexOutOfBoundsException", "java/lang/IllegalStateException"] := by
  intro S P as hJ has hn
  obtain ⟨x1, x2, rfl⟩ := y_ints2 has hn
  refine ⟨hJ, ?_⟩
  rcases we_object S P x1 x2 with he | he | he
  · rw [he]
    exact ⟨(jp_object hJ), rfl⟩
  · rw [he]
    exact ⟨hJ, List.mem_cons_self⟩
  · rw [he]
    exact ⟨hJ, List.mem_cons_of_mem _ (List.mem_cons_self)⟩
theorem we_decide (S : z_MI) (P : z_ML) (x1 x2 : Int32) : e_X6_decide S P x1 x2 = 0 ∨ e_X6_decide S P x1 x2 = 1 ∨ e_X6_decide S P x1 x2 = 3 := by
  unfold e_X6_decide
  repeat' split
  all_goals first | exact Or.inl rfl | exact Or.inr (Or.inl rfl) | exact Or.inr (Or.inr (rfl))
theorem wk_decide : y_WK sp_X6_decide 2 y_ri ["java/lang/IndexOutOfBoundsException", "java/lang/IllegalStateException"] := by
  intro S P as hJ has hn
  obtain ⟨x1, x2, rfl⟩ := y_ints2 has hn
  refine ⟨hJ, ?_⟩
  rcases we_decide S P x1 x2 with he | he | he
  · rw [he]
    exact ⟨(jp_decide hJ), _, rfl⟩
  · rw [he]
    exact ⟨hJ, List.mem_cons_self⟩
  · rw [he]
    exact ⟨hJ, List.mem_cons_of_mem _ (List.mem_cons_self)⟩
theorem we_proceed (S : z_MI) (P : z_ML) (x1 : Int32) : e_X6_proceed S P x1 = 0 ∨ e_X6_proceed S P x1 = 1 ∨ e_X6_proceed S P x1 = 3 := by
  unfold e_X6_proceed
  repeat' split
  all_goals first | exact Or.inl rfl | exact Or.inr (Or.inl rfl) | exact Or.inr (Or.inr (rfl))
theorem wk_proceed : y_WK sp_X6_proceed 1 y_ri ["java/lang/IndexOutOfBoundsException", "java/lang/IllegalStateException"] := by
  intro S P as hJ has hn
  obtain ⟨x1, rfl⟩ := y_ints1 has hn
  refine ⟨hJ, ?_⟩
  rcases we_proceed S P x1 with he | he | he
  · rw [he]
    exact ⟨(jp_proceed hJ), _, rfl⟩
  · rw [he]
    exact ⟨hJ, List.mem_cons_self⟩
  · rw [he]
    exact ⟨hJ, List.mem_cons_of_mem _ (List.mem_cons_self)⟩
theorem we_ofNotice (S : z_MI) (P : z_ML) (x1 x2 : Int32) : e_X6_ofNotice S P x1 x2 = 0 ∨ e_X6_ofNotice S P x1 x2 = 1 ∨ e_X6_ofNotice S P x1 x2 = 2 := by
  unfold e_X6_ofNotice
  repeat' split
  all_goals first | exact Or.inl rfl | exact Or.inr (Or.inl rfl) | exact Or.inr (Or.inr (rfl))
theorem wk_ofNotice : y_WK sp_X6_ofNotice 2 (y_rn 12) ["java/lang/IndexOutOfBoundsException", "java/lang/IllegalArgumentException"] := by
  intro S P as hJ has hn
  obtain ⟨x1, x2, rfl⟩ := y_ints2 has hn
  refine ⟨hJ, ?_⟩
  rcases we_ofNotice S P x1 x2 with he | he | he
  · rw [he]
    have h1 : f_X4_isNotice S P x1 = true := by
      unfold e_X6_ofNotice at he
      split at he
      · assumption
      · cases he
    exact ⟨hJ, ⟨_, rfl⟩, y_nle (t_isNotice hJ h1) (by decide)⟩
  · rw [he]
    exact ⟨hJ, List.mem_cons_self⟩
  · rw [he]
    exact ⟨hJ, List.mem_cons_of_mem _ (List.mem_cons_self)⟩
theorem we_value (S : z_MI) (P : z_ML) (x1 x2 : Int32) : e_X6_value S P x1 x2 = 0 ∨ e_X6_value S P x1 x2 = 1 ∨ e_X6_value S P x1 x2 = 2 := by
  unfold e_X6_value
  repeat' split
  all_goals first | exact Or.inl rfl | exact Or.inr (Or.inl rfl) | exact Or.inr (Or.inr (rfl))
theorem wk_value : y_WK sp_X6_value 2 y_ri ["java/lang/IndexOutOfBoundsException", "java/lang/IllegalArgumentException"] := by
  intro S P as hJ has hn
  obtain ⟨x1, x2, rfl⟩ := y_ints2 has hn
  refine ⟨hJ, ?_⟩
  rcases we_value S P x1 x2 with he | he | he
  · rw [he]
    exact ⟨(jp_value hJ), _, rfl⟩
  · rw [he]
    exact ⟨hJ, List.mem_cons_self⟩
  · rw [he]
    exact ⟨hJ, List.mem_cons_of_mem _ (List.mem_cons_self)⟩
theorem we_owed (S : z_MI) (P : z_ML) (x1 : Int32) : e_X6_owed S P x1 = 0 ∨ e_X6_owed S P x1 = 1 := by
  unfold e_X6_owed
  repeat' split
  all_goals first | exact Or.inl rfl | exact Or.inr (rfl)
theorem wk_owed : y_WK sp_X6_owed 1 y_rl ["java/lang/IndexOutOfBoundsException"] := by
  intro S P as hJ has hn
  obtain ⟨x1, rfl⟩ := y_ints1 has hn
  refine ⟨hJ, ?_⟩
  rcases we_owed S P x1 with he | he
  · rw [he]
    exact ⟨hJ, _, rfl⟩
  · rw [he]
    exact ⟨hJ, List.mem_cons_self⟩
theorem we_paid (S : z_MI) (P : z_ML) (x1 : Int32) : e_X6_paid S P x1 = 0 ∨ e_X6_paid S P x1 = 1 := by
  unfold e_X6_paid
  repeat' split
  all_goals first | exact Or.inl rfl | exact Or.inr (rfl)
theorem wk_paid : y_WK sp_X6_paid 1 y_rl ["java/lang/IndexOutOfBoundsException"] := by
  intro S P as hJ has hn
  obtain ⟨x1, rfl⟩ := y_ints1 has hn
  refine ⟨hJ, ?_⟩
  rcases we_paid S P x1 with he | he
  · rw [he]
    exact ⟨hJ, _, rfl⟩
  · rw [he]
    exact ⟨hJ, List.mem_cons_self⟩
theorem we_pass (S : z_MI) (P : z_ML) (x1 : Int32) : e_X6_pass S P x1 = 0 ∨ e_X6_pass S P x1 = 2 ∨ e_X6_pass S P x1 = 3 := by
  unfold e_X6_pass
  repeat' split
  all_goals first | exact Or.inl rfl | exact Or.inr (Or.inl rfl) | exact Or.inr (Or.inr (rfl))
theorem wk_pass : y_WK sp_X6_pass 1 y_ri ["java/lang/IllegalArgumentException", "java/lang/IllegalStateException"] := by
  intro S P as hJ has hn
  obtain ⟨x1, rfl⟩ := y_ints1 has hn
  refine ⟨hJ, ?_⟩
  rcases we_pass S P x1 with he | he | he
  · rw [he]
    exact ⟨(jp_pass hJ), _, rfl⟩
  · rw [he]
    exact ⟨hJ, List.mem_cons_self⟩
  · rw [he]
    exact ⟨hJ, List.mem_cons_of_mem _ (List.mem_cons_self)⟩
theorem we_pay (S : z_MI) (P : z_ML) (x1 : Int32) : e_X6_pay S P x1 = 0 ∨ e_X6_pay S P x1 = 1 ∨ e_X6_pay S P x1 = 3 := by
  unfold e_X6_pay
  repeat' split
  all_goals first | exact Or.inl rfl | exact Or.inr (Or.inl rfl) | exact Or.inr (Or.inr (rfl))
theorem wk_pay : y_WK sp_X6_pay 1 y_rl ["java/lang/IndexOutOfBoundsException", "java/lang/IllegalStateException"] := by
  intro S P as hJ has hn
  obtain ⟨x1, rfl⟩ := y_ints1 has hn
  refine ⟨hJ, ?_⟩
  rcases we_pay S P x1 with he | he | he
  · rw [he]
    exact ⟨(jp_pay hJ), _, rfl⟩
  · rw [he]
    exact ⟨hJ, List.mem_cons_self⟩
  · rw [he]
    exact ⟨hJ, List.mem_cons_of_mem _ (List.mem_cons_self)⟩
theorem we_mark (S : z_MI) (P : z_ML) (x1 x2 x3 x4 : Int32) : e_X6_mark S P x1 x2 x3 x4 = 0 ∨ e_X6_mark S P x1 x2 x3 x4 = 1 ∨ e_X6_mark S P x1 x2 x3 x4 = 2 ∨ e_X6_mark S P x1 x2 x3 x4 = 3 := by
  unfold e_X6_mark
  repeat' split
  all_goals first | exact Or.inl rfl | exact Or.inr (Or.inl rfl) | exact Or.inr (Or.inr (Or.inl rfl)) | exact Or.inr (Or.inr (Or.inr (rfl)))
theorem wk_mark : y_WK sp_X6_mark 4 y_ri ["java/lang/IndexOutOfBoundsException", "java/lang/IllegalArgumentException", "java/lang/IllegalStateException"] := by
  intro S P as hJ has hn
  obtain ⟨x1, x2, x3, x4, rfl⟩ := y_ints4 has hn
  refine ⟨hJ, ?_⟩
  rcases we_mark S P x1 x2 x3 x4 with he | he | he | he
  · rw [he]
    exact ⟨(jp_mark hJ), _, rfl⟩
  · rw [he]
    exact ⟨hJ, List.mem_cons_self⟩
  · rw [he]
    exact ⟨hJ, List.mem_cons_of_mem _ (List.mem_cons_self)⟩
  · rw [he]
    exact ⟨hJ, List.mem_cons_of_mem _ (List.mem_cons_of_mem _ (List.mem_cons_self))⟩
