/-! operations, A -/
theorem ok_people {S T : z_MI} {P Q : z_ML} (h : i_2 S T P Q) (x1 : Int32) : i_G 0 1 2 (e_X6_people S P x1) S (u_X6_people S P x1) P Q (u_X7_people T Q x1) ((f_X6_people S P x1).toInt64) ((f_X7_people T Q x1).toInt64) := by
  have m0 : ((f_X7_in T Q x1 (nI 0) (nI 2)) = true) ↔ ((¬ (x1 < 0)) ∧ (x1 ≤ (nI 2))) := by exact k_in1z
  have m1 : ((T 110648 2) = (nI 6)) ↔ ((¬ ((S 4112 6) < (nI 6)))) := by rw [i_c_peoples h]; exact k_full (z_J_peoples (i_J h)) (by decide)
  by_cases c0 : x1 < 0
  · skip
    have nm0 : ¬ ((f_X7_in T Q x1 (nI 0) (nI 2)) = true) := fun q => ((m0.mp q).1) c0
    have he : e_X6_people S P x1 = (2) := by
      unfold e_X6_people
      rw [if_pos c0]
    have hV : u_X7_people T Q x1 = (va_up T 110648 (upd (T 110648) 0 (nI 1))) := by
      unfold u_X7_people
      rw [if_neg nm0]
    exact i_Gerr h he hV (by decide) (fun _ _ => rfl)
  · skip
    by_cases c1 : x1 ≤ (nI 2)
    · skip
      by_cases c2 : (S 4112 6) < (nI 6)
      · skip
        have nm0 : (f_X7_in T Q x1 (nI 0) (nI 2)) = true := m0.mpr ⟨c0, c1⟩
        have nm1 : ¬ ((T 110648 2) = (nI 6)) := fun q => ((m1.mp q)) c2
        have he : e_X6_people S P x1 = (0) := by
          unfold e_X6_people
          rw [if_neg c0, if_pos c1, if_pos c2]
        have hV : u_X7_people T Q x1 = (va_up (va_up (va_up T 110648 (upd (T 110648) 0 (nI 0))) 112689 (upd ((va_up T 110648 (upd (T 110648) 0 (nI 0))) 112689) ((T 110648 2).toNatClampNeg) x1)) 110648 (upd ((va_up (va_up T 110648 (upd (T 110648) 0 (nI 0))) 112689 (upd ((va_up T 110648 (upd (T 110648) 0 (nI 0))) 112689) ((T 110648 2).toNatClampNeg) x1)) 110648) 2 ((T 110648 2) + (nI 1)))) := by
          unfold u_X7_people
          rw [if_pos nm0, if_neg nm1]
        have hU : u_X6_people S P x1 = (u_X2_addPeople S P x1) := by
          unfold u_X6_people
          rw [if_neg c0, if_pos c1, if_pos c2]
        have hf : f_X6_people S P x1 = (f_X2_addPeople S P x1) := by
          unfold f_X6_people
          rw [if_neg c0, if_pos c1, if_pos c2]
        have hg : f_X7_people T Q x1 = (((T 110648 2) + (nI 1)) - (nI 1)) := by
          unfold f_X7_people
          rw [if_pos nm0, if_neg nm1]
        refine i_Gok he hU hV rfl ?_ ?_
        · rw [hf, hg]
          show (S 4112 6).toInt64 = _
          rw [i_c_peoples h, Int32.add_sub_cancel]
        · unfold u_X2_addPeople
          have h1 := i_thr (x := nI 0) h
          have h2 := s_pair (a := 20529) (b := 112689) (k := (S 4112 6).toNatClampNeg) (k' := (T 110648 2).toNatClampNeg) (x := x1) (x' := x1) h1 (by decide) (by rw [i_c_peoples h]) rfl (i_bl_no (by decide)) (i_T_pair h.2.2.2.2.1 (by decide))
          have hz : z_le (S 4112 6) 6 := z_J_peoples (i_J h)
          exact s_cnt h2 (by decide) (by decide) (by decide) (by rw [i_c_peoples h]) (i_nl_kin_peoples (k_zle hz (by decide) c2)) (i_T_peoples h2.2.2.2.2.1 rfl hz c2)
      · skip
        have nm0 : (f_X7_in T Q x1 (nI 0) (nI 2)) = true := m0.mpr ⟨c0, c1⟩
        have nm1 : (T 110648 2) = (nI 6) := m1.mpr c2
        have he : e_X6_people S P x1 = (3) := by
          unfold e_X6_people
          rw [if_neg c0, if_pos c1, if_neg c2]
        have hV : u_X7_people T Q x1 = (va_up T 110648 (upd (T 110648) 0 (nI 2))) := by
          unfold u_X7_people
          rw [if_pos nm0, if_pos nm1]
        exact i_Gerr h he hV (by decide) (fun _ _ => rfl)
    · skip
      have nm0 : ¬ ((f_X7_in T Q x1 (nI 0) (nI 2)) = true) := fun q => c1 ((m0.mp q).2)
      have he : e_X6_people S P x1 = (2) := by
        unfold e_X6_people
        rw [if_neg c0, if_neg c1]
      have hV : u_X7_people T Q x1 = (va_up T 110648 (upd (T 110648) 0 (nI 1))) := by
        unfold u_X7_people
        rw [if_neg nm0]
      exact i_Gerr h he hV (by decide) (fun _ _ => rfl)
theorem w6_people (S : z_MI) (P : z_ML) (x1 : Int32) (q : Nat) (hq : 110648 ≤ q) : u_X6_people S P x1 q = S q := by
  unfold u_X6_people
  (repeat' split) <;> first | rfl | (try unfold u_X2_addPeople; simp (disch := omega) only [va_up_ne])
theorem w7_people (T : z_MI) (Q : z_ML) (x1 : Int32) (q : Nat) (hq : q < 110648) : u_X7_people T Q x1 q = T q := by
  unfold u_X7_people
  (repeat' split) <;> first | rfl | simp (disch := omega) only [va_up_ne]
theorem o_people {S : z_MI} {P : z_ML} (h0 : i_I S P) (x1 : Int32) : F_people S P x1 i_I :=
  i_FO h0 (w6_people S P x1) (fun T Q q hq => w7_people T Q x1 q hq) (fun T Q h => ok_people (T := T) (Q := Q) h x1) (by rcases w_L_people_e S P x1 with e | e | e <;> rw [e] <;> decide)
theorem ok_raise {S T : z_MI} {P Q : z_ML} (h : i_2 S T P Q) (x1 : Int32) : i_G 1 0 2 (e_X6_raise S P x1) S (u_X6_raise S P x1) P Q (u_X7_raise T Q x1) ((f_X6_raise S P x1).toInt64) ((f_X7_raise T Q x1).toInt64) := by
  have m0 : ((f_X7_isPerson T Q x1) = true) ↔ (((f_X2_isPerson S P x1) = true)) := by rw [k_isPerson (P' := P) h]
  have m1 : ((T 125169 x1.toNatClampNeg) = (nI 3)) ↔ ((¬ ((S 30961 x1.toNatClampNeg) < (nI 3)))) := by rw [i_a_ranks h]; exact k_full (i_b_kin_rank h _) (by decide)
  by_cases c0 : (f_X2_isPerson S P x1) = true
  · skip
    by_cases c1 : (S 30961 x1.toNatClampNeg) < (nI 3)
    · skip
      have nm0 : (f_X7_isPerson T Q x1) = true := m0.mpr c0
      have nm1 : ¬ ((T 125169 x1.toNatClampNeg) = (nI 3)) := fun q => ((m1.mp q)) c1
      have he : e_X6_raise S P x1 = (0) := by
        unfold e_X6_raise
        rw [if_pos c0, if_pos c1]
      have hV : u_X7_raise T Q x1 = (va_up (va_up T 110648 (upd (T 110648) 0 (nI 0))) 125169 (upd ((va_up T 110648 (upd (T 110648) 0 (nI 0))) 125169) x1.toNatClampNeg ((T 125169 x1.toNatClampNeg) + (nI 1)))) := by
        unfold u_X7_raise
        rw [if_pos nm0, if_neg nm1]
      have hU : u_X6_raise S P x1 = (va_up S 30961 (upd (S 30961) x1.toNatClampNeg ((S 30961 x1.toNatClampNeg) + (nI 1)))) := by
        unfold u_X6_raise
        rw [if_pos c0, if_pos c1]
      have hf : f_X6_raise S P x1 = ((upd (S 30961) x1.toNatClampNeg ((S 30961 x1.toNatClampNeg) + (nI 1))) x1.toNatClampNeg) := by
        unfold f_X6_raise
        rw [if_pos c0, if_pos c1]
      have hg : f_X7_raise T Q x1 = ((upd (T 125169) x1.toNatClampNeg ((T 125169 x1.toNatClampNeg) + (nI 1))) x1.toNatClampNeg) := by
        unfold f_X7_raise
        rw [if_pos nm0, if_neg nm1]
      refine i_Gok he hU hV rfl ?_ ?_
      · rw [hf, hg]
        rw [i_a_ranks h]
      · have h1 := i_thr (x := nI 0) h
        exact s_pair (a := 30961) (b := 125169) h1 (by decide) rfl (by rw [i_a_ranks h]) (i_bl_kin_rank (k_zle (i_b_kin_rank h _) (by decide) c1)) (i_T_pair h.2.2.2.2.1 (by decide))
    · skip
      have nm0 : (f_X7_isPerson T Q x1) = true := m0.mpr c0
      have nm1 : (T 125169 x1.toNatClampNeg) = (nI 3) := m1.mpr c1
      have he : e_X6_raise S P x1 = (3) := by
        unfold e_X6_raise
        rw [if_pos c0, if_neg c1]
      have hV : u_X7_raise T Q x1 = (va_up T 110648 (upd (T 110648) 0 (nI 2))) := by
        unfold u_X7_raise
        rw [if_pos nm0, if_pos nm1]
      exact i_Gerr h he hV (by decide) (fun _ _ => rfl)
  · skip
    have nm0 : ¬ ((f_X7_isPerson T Q x1) = true) := fun q => c0 ((m0.mp q))
    have he : e_X6_raise S P x1 = (1) := by
      unfold e_X6_raise
      rw [if_neg c0]
    have hV : u_X7_raise T Q x1 = (va_up T 110648 (upd (T 110648) 0 (nI 1))) := by
      unfold u_X7_raise
      rw [if_neg nm0]
    exact i_Gerr h he hV (by decide) (fun _ _ => rfl)
theorem w6_raise (S : z_MI) (P : z_ML) (x1 : Int32) (q : Nat) (hq : 110648 ≤ q) : u_X6_raise S P x1 q = S q := by
  unfold u_X6_raise
  (repeat' split) <;> first | rfl | (simp (disch := omega) only [va_up_ne])
theorem w7_raise (T : z_MI) (Q : z_ML) (x1 : Int32) (q : Nat) (hq : q < 110648) : u_X7_raise T Q x1 q = T q := by
  unfold u_X7_raise
  (repeat' split) <;> first | rfl | simp (disch := omega) only [va_up_ne]
theorem o_raise {S : z_MI} {P : z_ML} (h0 : i_I S P) (x1 : Int32) : F_raise S P x1 i_I :=
  i_FO h0 (w6_raise S P x1) (fun T Q q hq => w7_raise T Q x1 q hq) (fun T Q h => ok_raise (T := T) (Q := Q) h x1) (by rcases w_L_raise_e S P x1 with e | e | e <;> rw [e] <;> decide)
theorem ok_members {S T : z_MI} {P Q : z_ML} (h : i_2 S T P Q) (x1 : Int32) : i_G 1 0 0 (e_X6_members S P x1) S (S) P Q (u_X7_members T Q x1) ((f_X6_members S P x1).toInt64) ((f_X7_members T Q x1).toInt64) := by
  have m0 : ((f_X7_isPeople T Q x1) = true) ↔ (((f_X2_isPeople S P x1) = true)) := by rw [k_isPeople (P' := P) h]
  by_cases c0 : (f_X2_isPeople S P x1) = true
  · skip
    have nm0 : (f_X7_isPeople T Q x1) = true := m0.mpr c0
    have he : e_X6_members S P x1 = (0) := by
      unfold e_X6_members
      rw [if_pos c0]
    have hV : u_X7_members T Q x1 = (va_up T 110648 (upd (T 110648) 0 (nI 0))) := by
      unfold u_X7_members
      rw [if_pos nm0]
    have hf : f_X6_members S P x1 = (f_X2_membersOf S P x1) := by
      unfold f_X6_members
      rw [if_pos c0]
    have hg : f_X7_members T Q x1 = (f_X7_membersOf (va_up T 110648 (upd (T 110648) 0 (nI 0))) Q x1) := by
      unfold f_X7_members
      rw [if_pos nm0]
    refine i_Gok he rfl hV rfl ?_ ?_
    · rw [hf, hg]
      rw [k_membersOf (P' := P) (Q' := Q) (i_thr h) c0]
    · exact i_thr h
  · skip
    have nm0 : ¬ ((f_X7_isPeople T Q x1) = true) := fun q => c0 ((m0.mp q))
    have he : e_X6_members S P x1 = (1) := by
      unfold e_X6_members
      rw [if_neg c0]
    have hV : u_X7_members T Q x1 = (va_up T 110648 (upd (T 110648) 0 (nI 1))) := by
      unfold u_X7_members
      rw [if_neg nm0]
    exact i_Gerr h he hV (by decide) (fun _ _ => rfl)
theorem w7_members (T : z_MI) (Q : z_ML) (x1 : Int32) (q : Nat) (hq : q < 110648) : u_X7_members T Q x1 q = T q := by
  unfold u_X7_members
  (repeat' split) <;> first | rfl | simp (disch := omega) only [va_up_ne]
theorem o_members {S : z_MI} {P : z_ML} (h0 : i_I S P) (x1 : Int32) : F_members S P x1 i_I :=
  i_FO h0 (fun q hq => rfl) (fun T Q q hq => w7_members T Q x1 q hq) (fun T Q h => ok_members (T := T) (Q := Q) h x1) (by rcases w_L_members_e S P x1 with e | e <;> rw [e] <;> decide)
theorem ok_story {S T : z_MI} {P Q : z_ML} (h : i_2 S T P Q) (x1 : Int32) : i_G 1 0 2 (e_X6_story S P x1) S (u_X6_story S P x1) P Q (u_X7_story T Q x1) ((f_X6_story S P x1).toInt64) ((f_X7_story T Q x1).toInt64) := by
  have m0 : ((f_X7_isPeople T Q x1) = true) ↔ (((f_X2_isPeople S P x1) = true)) := by rw [k_isPeople (P' := P) h]
  have m1 : ((T 110648 11) = (nI 10)) ↔ ((¬ ((S 6184 4) < (nI 10)))) := by rw [i_c_stories h]; exact k_full (z_J_stories (i_J h)) (by decide)
  by_cases c0 : (f_X2_isPeople S P x1) = true
  · skip
    by_cases c1 : (S 6184 4) < (nI 10)
    · skip
      have nm0 : (f_X7_isPeople T Q x1) = true := m0.mpr c0
      have nm1 : ¬ ((T 110648 11) = (nI 10)) := fun q => ((m1.mp q)) c1
      have he : e_X6_story S P x1 = (0) := by
        unfold e_X6_story
        rw [if_pos c0, if_pos c1]
      have hV : u_X7_story T Q x1 = (va_up (va_up (va_up T 110648 (upd (T 110648) 0 (nI 0))) 127057 (upd ((va_up T 110648 (upd (T 110648) 0 (nI 0))) 127057) ((T 110648 11).toNatClampNeg) x1)) 110648 (upd ((va_up (va_up T 110648 (upd (T 110648) 0 (nI 0))) 127057 (upd ((va_up T 110648 (upd (T 110648) 0 (nI 0))) 127057) ((T 110648 11).toNatClampNeg) x1)) 110648) 11 ((T 110648 11) + (nI 1)))) := by
        unfold u_X7_story
        rw [if_pos nm0, if_neg nm1]
      have hU : u_X6_story S P x1 = (u_X5_add S P x1) := by
        unfold u_X6_story
        rw [if_pos c0, if_pos c1]
      have hf : f_X6_story S P x1 = (f_X5_add S P x1) := by
        unfold f_X6_story
        rw [if_pos c0, if_pos c1]
      have hg : f_X7_story T Q x1 = (((T 110648 11) + (nI 1)) - (nI 1)) := by
        unfold f_X7_story
        rw [if_pos nm0, if_neg nm1]
      refine i_Gok he hU hV rfl ?_ ?_
      · rw [hf, hg]
        show (S 6184 4).toInt64 = _
        rw [i_c_stories h, Int32.add_sub_cancel]
      · unfold u_X5_add
        have h1 := i_thr (x := nI 0) h
        have hJ := i_J h
        have hz : z_le (S 6184 4) 10 := z_J_stories hJ
        have hk := k_clI hz (by decide)
        obtain ⟨j, hj, hj2, hj3⟩ := k_idxP h c0
        have h2 := s_pair (a := 32849) (b := 127057) (k := (S 6184 4).toNatClampNeg) (k' := (T 110648 11).toNatClampNeg) (x := x1) (x' := x1) h1 (by decide) (by rw [i_c_stories h]) rfl (i_bl_stories_people (t_isPeople hJ c0)) (i_T_stp h.2.2.2.2.1 (by omega))
        exact s_cnt h2 (by decide) (by decide) (by decide) (by rw [i_c_stories h]) (i_nl_stories_count (k_zle hz (by decide) c1)) (i_T_stc h2.2.2.2.2.1 rfl hz c1 (by
          show (upd (S 32849) (S 6184 4).toNatClampNeg x1 (S 6184 4).toNatClampNeg).toInt < (S 4112 6).toInt
          rw [pk_us, hj, nI_toInt (by omega)]
          exact hj3))
    · skip
      have nm0 : (f_X7_isPeople T Q x1) = true := m0.mpr c0
      have nm1 : (T 110648 11) = (nI 10) := m1.mpr c1
      have he : e_X6_story S P x1 = (3) := by
        unfold e_X6_story
        rw [if_pos c0, if_neg c1]
      have hV : u_X7_story T Q x1 = (va_up T 110648 (upd (T 110648) 0 (nI 2))) := by
        unfold u_X7_story
        rw [if_pos nm0, if_pos nm1]
      exact i_Gerr h he hV (by decide) (fun _ _ => rfl)
  · skip
    have nm0 : ¬ ((f_X7_isPeople T Q x1) = true) := fun q => c0 ((m0.mp q))
    have he : e_X6_story S P x1 = (1) := by
      unfold e_X6_story
      rw [if_neg c0]
    have hV : u_X7_story T Q x1 = (va_up T 110648 (upd (T 110648) 0 (nI 1))) := by
      unfold u_X7_story
      rw [if_neg nm0]
    exact i_Gerr h he hV (by decide) (fun _ _ => rfl)
theorem w6_story (S : z_MI) (P : z_ML) (x1 : Int32) (q : Nat) (hq : 110648 ≤ q) : u_X6_story S P x1 q = S q := by
  unfold u_X6_story
  (repeat' split) <;> first | rfl | (try unfold u_X5_add; simp (disch := omega) only [va_up_ne])
theorem w7_story (T : z_MI) (Q : z_ML) (x1 : Int32) (q : Nat) (hq : q < 110648) : u_X7_story T Q x1 q = T q := by
  unfold u_X7_story
  (repeat' split) <;> first | rfl | simp (disch := omega) only [va_up_ne]
theorem o_story {S : z_MI} {P : z_ML} (h0 : i_I S P) (x1 : Int32) : F_story S P x1 i_I :=
  i_FO h0 (w6_story S P x1) (fun T Q q hq => w7_story T Q x1 q hq) (fun T Q h => ok_story (T := T) (Q := Q) h x1) (by rcases w_L_story_e S P x1 with e | e | e <;> rw [e] <;> decide)
theorem ok_part {S T : z_MI} {P Q : z_ML} (h : i_2 S T P Q) (x1 x2 x3 : Int32) : i_G 1 2 3 (e_X6_part S P x1 x2 x3) S (u_X6_part S P x1 x2 x3) P Q (u_X7_part T Q x1 x2 x3) ((f_X6_part S P x1 x2 x3).toInt64) ((f_X7_part T Q x1 x2 x3).toInt64) := by
  have m0 : ((f_X7_isStory T Q x1) = true) ↔ (((f_X5_isStory S P x1) = true)) := by rw [k_isStory (P' := P) h]
  have m1 : ((f_X7_isPlace T Q x2) = true) ↔ (((f_X6_isPlace S P x2) = true)) := by rw [k_isPlace S T P Q]
  have m2 : ((f_X7_in T Q x3 (nI 0) (nI 3)) = true) ↔ ((¬ (x3 < 0)) ∧ (x3 ≤ (nI 3))) := by exact k_in1z
  have m3 : ((T 129105 x1.toNatClampNeg) = (nI 12)) ↔ ((¬ ((S 34897 x1.toNatClampNeg) < (nI 12)))) := by rw [i_a_parts h]; exact k_full (z_J_parts (i_J h) _) (by decide)
  by_cases c0 : (f_X5_isStory S P x1) = true
  · skip
    by_cases c1 : (f_X6_isPlace S P x2) = true
    · skip
      by_cases c2 : x3 < 0
      · skip
        have nm0 : (f_X7_isStory T Q x1) = true := m0.mpr c0
        have nm1 : (f_X7_isPlace T Q x2) = true := m1.mpr c1
        have nm2 : ¬ ((f_X7_in T Q x3 (nI 0) (nI 3)) = true) := fun q => ((m2.mp q).1) c2
        have he : e_X6_part S P x1 x2 x3 = (2) := by
          unfold e_X6_part
          rw [if_pos c0, if_pos c1, if_pos c2]
        have hV : u_X7_part T Q x1 x2 x3 = (va_up T 110648 (upd (T 110648) 0 (nI 2))) := by
          unfold u_X7_part
          rw [if_pos nm0, if_pos nm1, if_neg nm2]
        exact i_Gerr h he hV (by decide) (fun _ _ => rfl)
      · skip
        by_cases c3 : x3 ≤ (nI 3)
        · skip
          by_cases c4 : (S 34897 x1.toNatClampNeg) < (nI 12)
          · skip
            have nm0 : (f_X7_isStory T Q x1) = true := m0.mpr c0
            have nm1 : (f_X7_isPlace T Q x2) = true := m1.mpr c1
            have nm2 : (f_X7_in T Q x3 (nI 0) (nI 3)) = true := m2.mpr ⟨c2, c3⟩
            have nm3 : ¬ ((T 129105 x1.toNatClampNeg) = (nI 12)) := fun q => ((m3.mp q)) c4
            have he : e_X6_part S P x1 x2 x3 = (0) := by
              unfold e_X6_part
              rw [if_pos c0, if_pos c1, if_neg c2, if_pos c3, if_pos c4]
            have hV : u_X7_part T Q x1 x2 x3 = (va_up (va_up (va_up (va_up T 110648 (upd (T 110648) 0 (nI 0))) 132033 (upd ((va_up T 110648 (upd (T 110648) 0 (nI 0))) 132033) ((((nI 12) * x1) + (T 129105 x1.toNatClampNeg)).toNatClampNeg) x2)) 134081 (upd ((va_up (va_up T 110648 (upd (T 110648) 0 (nI 0))) 132033 (upd ((va_up T 110648 (upd (T 110648) 0 (nI 0))) 132033) ((((nI 12) * x1) + (T 129105 x1.toNatClampNeg)).toNatClampNeg) x2)) 134081) ((((nI 12) * x1) + (T 129105 x1.toNatClampNeg)).toNatClampNeg) x3)) 129105 (upd ((va_up (va_up (va_up T 110648 (upd (T 110648) 0 (nI 0))) 132033 (upd ((va_up T 110648 (upd (T 110648) 0 (nI 0))) 132033) ((((nI 12) * x1) + (T 129105 x1.toNatClampNeg)).toNatClampNeg) x2)) 134081 (upd ((va_up (va_up T 110648 (upd (T 110648) 0 (nI 0))) 132033 (upd ((va_up T 110648 (upd (T 110648) 0 (nI 0))) 132033) ((((nI 12) * x1) + (T 129105 x1.toNatClampNeg)).toNatClampNeg) x2)) 134081) ((((nI 12) * x1) + (T 129105 x1.toNatClampNeg)).toNatClampNeg) x3)) 129105) x1.toNatClampNeg ((T 129105 x1.toNatClampNeg) + (nI 1)))) := by
              unfold u_X7_part
              rw [if_pos nm0, if_pos nm1, if_pos nm2, if_neg nm3]
            have hU : u_X6_part S P x1 x2 x3 = (u_X5_addPart S P x1 x2 x3) := by
              unfold u_X6_part
              rw [if_pos c0, if_pos c1, if_neg c2, if_pos c3, if_pos c4]
            have hf : f_X6_part S P x1 x2 x3 = (f_X5_addPart S P x1 x2 x3) := by
              unfold f_X6_part
              rw [if_pos c0, if_pos c1, if_neg c2, if_pos c3, if_pos c4]
            have hg : f_X7_part T Q x1 x2 x3 = ((upd (T 129105) x1.toNatClampNeg ((T 129105 x1.toNatClampNeg) + (nI 1))) x1.toNatClampNeg) := by
              unfold f_X7_part
              rw [if_pos nm0, if_pos nm1, if_pos nm2, if_neg nm3]
            refine i_Gok he hU hV rfl ?_ ?_
            · rw [hf, hg]
              show ((upd (S 34897) x1.toNatClampNeg ((S 34897 x1.toNatClampNeg) + (nI 1))) x1.toNatClampNeg).toInt64 = _
              rw [i_a_parts h]
            · unfold u_X5_addPart
              have h1 := i_thr (x := nI 0) h
              have hJ := i_J h
              have hk : (x1 * nI 12 + S 34897 x1.toNatClampNeg).toNatClampNeg = (nI 12 * x1 + T 129105 x1.toNatClampNeg).toNatClampNeg := by rw [i_a_parts h, Int32.mul_comm]
              have h2 := s_pair (a := 37825) (b := 132033) (x := x2) (x' := x2) h1 (by decide) hk rfl (i_bl_stories_place (k_vpL c1)) (i_T_pair h.2.2.2.2.1 (by decide))
              have h3 := s_pair (a := 39873) (b := 134081) (x := x3) (x' := x3) h2 (by decide) hk rfl (i_bl_stories_level (k_zleR c2 c3 (by decide))) (i_T_pair h2.2.2.2.2.1 (by decide))
              exact s_pair (a := 34897) (b := 129105) h3 (by decide) rfl (by rw [i_a_parts h]) (i_bl_stories_parts (k_zle (z_J_parts hJ _) (by decide) c4)) (i_T_pair h3.2.2.2.2.1 (by decide))
          · skip
            have nm0 : (f_X7_isStory T Q x1) = true := m0.mpr c0
            have nm1 : (f_X7_isPlace T Q x2) = true := m1.mpr c1
            have nm2 : (f_X7_in T Q x3 (nI 0) (nI 3)) = true := m2.mpr ⟨c2, c3⟩
            have nm3 : (T 129105 x1.toNatClampNeg) = (nI 12) := m3.mpr c4
            have he : e_X6_part S P x1 x2 x3 = (3) := by
              unfold e_X6_part
              rw [if_pos c0, if_pos c1, if_neg c2, if_pos c3, if_neg c4]
            have hV : u_X7_part T Q x1 x2 x3 = (va_up T 110648 (upd (T 110648) 0 (nI 3))) := by
              unfold u_X7_part
              rw [if_pos nm0, if_pos nm1, if_pos nm2, if_pos nm3]
            exact i_Gerr h he hV (by decide) (fun _ _ => rfl)
        · skip
          have nm0 : (f_X7_isStory T Q x1) = true := m0.mpr c0
          have nm1 : (f_X7_isPlace T Q x2) = true := m1.mpr c1
          have nm2 : ¬ ((f_X7_in T Q x3 (nI 0) (nI 3)) = true) := fun q => c3 ((m2.mp q).2)
          have he : e_X6_part S P x1 x2 x3 = (2) := by
            unfold e_X6_part
            rw [if_pos c0, if_pos c1, if_neg c2, if_neg c3]
          have hV : u_X7_part T Q x1 x2 x3 = (va_up T 110648 (upd (T 110648) 0 (nI 2))) := by
            unfold u_X7_part
            rw [if_pos nm0, if_pos nm1, if_neg nm2]
          exact i_Gerr h he hV (by decide) (fun _ _ => rfl)
    · skip
      have nm0 : (f_X7_isStory T Q x1) = true := m0.mpr c0
      have nm1 : ¬ ((f_X7_isPlace T Q x2) = true) := fun q => c1 ((m1.mp q))
      have he : e_X6_part S P x1 x2 x3 = (1) := by
        unfold e_X6_part
        rw [if_pos c0, if_neg c1]
      have hV : u_X7_part T Q x1 x2 x3 = (va_up T 110648 (upd (T 110648) 0 (nI 1))) := by
        unfold u_X7_part
        rw [if_pos nm0, if_neg nm1]
      exact i_Gerr h he hV (by decide) (fun _ _ => rfl)
  · skip
    have nm0 : ¬ ((f_X7_isStory T Q x1) = true) := fun q => c0 ((m0.mp q))
    have he : e_X6_part S P x1 x2 x3 = (1) := by
      unfold e_X6_part
      rw [if_neg c0]
    have hV : u_X7_part T Q x1 x2 x3 = (va_up T 110648 (upd (T 110648) 0 (nI 1))) := by
      unfold u_X7_part
      rw [if_neg nm0]
    exact i_Gerr h he hV (by decide) (fun _ _ => rfl)
theorem w6_part (S : z_MI) (P : z_ML) (x1 x2 x3 : Int32) (q : Nat) (hq : 110648 ≤ q) : u_X6_part S P x1 x2 x3 q = S q := by
  unfold u_X6_part
  (repeat' split) <;> first | rfl | (try unfold u_X5_addPart; simp (disch := omega) only [va_up_ne])
theorem w7_part (T : z_MI) (Q : z_ML) (x1 x2 x3 : Int32) (q : Nat) (hq : q < 110648) : u_X7_part T Q x1 x2 x3 q = T q := by
  unfold u_X7_part
  (repeat' split) <;> first | rfl | simp (disch := omega) only [va_up_ne]
theorem o_part {S : z_MI} {P : z_ML} (h0 : i_I S P) (x1 x2 x3 : Int32) : F_part S P x1 x2 x3 i_I :=
  i_FO h0 (w6_part S P x1 x2 x3) (fun T Q q hq => w7_part T Q x1 x2 x3 q hq) (fun T Q h => ok_part (T := T) (Q := Q) h x1 x2 x3) (by rcases w_L_part_e S P x1 x2 x3 with e | e | e | e <;> rw [e] <;> decide)
theorem k_ite2 {A B C : Prop} [Decidable A] [Decidable B] [Decidable C] {α : Type} {X Y : α} (h : A ∧ B ↔ C) : (if A then if B then X else Y else Y) = if C then X else Y := by
  by_cases a : A
  · rw [if_pos a]
    by_cases b : B
    · rw [if_pos b, if_pos (h.mp ⟨a, b⟩)]
    · rw [if_neg b, if_neg (fun c => b (h.mpr c).2)]
  · rw [if_neg a, if_neg (fun c => a (h.mpr c).1)]
theorem k_exC2 {T : z_MI} {Q : z_ML} {x2 x3 : Int32} : (f_X7_in T Q x2 (nI 0) (nI 5000) = true ∧ f_X7_in T Q x3 x2 (nI 5000) = true) ↔ (¬ x2 < 0 ∧ ¬ x3 < x2 ∧ x3 ≤ nI 5000) := by
  rw [k_in1z, k_in1]
  rw [Int32.lt_iff_toInt_lt, Int32.lt_iff_toInt_lt, Int32.le_iff_toInt_le, Int32.le_iff_toInt_le]
  omega
theorem n7_explain_u (T : z_MI) (Q : z_ML) (x1 x2 x3 : Int32) : u_X7_explain T Q x1 x2 x3 = (if ¬ x2 < 0 ∧ ¬ x3 < x2 ∧ x3 ≤ (nI 5000) then (if (f_X7_isPeople T Q x1) = true then (if (T 143409 x1.toNatClampNeg) = (nI 8) then (va_up T 110648 (upd (T 110648) 0 (nI 3))) else (va_up (va_up (va_up (va_up T 110648 (upd (T 110648) 0 (nI 0))) 145793 (upd ((va_up T 110648 (upd (T 110648) 0 (nI 0))) 145793) ((((nI 8) * x1) + (T 143409 x1.toNatClampNeg)).toNatClampNeg) x2)) 147841 (upd ((va_up (va_up T 110648 (upd (T 110648) 0 (nI 0))) 145793 (upd ((va_up T 110648 (upd (T 110648) 0 (nI 0))) 145793) ((((nI 8) * x1) + (T 143409 x1.toNatClampNeg)).toNatClampNeg) x2)) 147841) ((((nI 8) * x1) + (T 143409 x1.toNatClampNeg)).toNatClampNeg) x3)) 143409 (upd ((va_up (va_up (va_up T 110648 (upd (T 110648) 0 (nI 0))) 145793 (upd ((va_up T 110648 (upd (T 110648) 0 (nI 0))) 145793) ((((nI 8) * x1) + (T 143409 x1.toNatClampNeg)).toNatClampNeg) x2)) 147841 (upd ((va_up (va_up T 110648 (upd (T 110648) 0 (nI 0))) 145793 (upd ((va_up T 110648 (upd (T 110648) 0 (nI 0))) 145793) ((((nI 8) * x1) + (T 143409 x1.toNatClampNeg)).toNatClampNeg) x2)) 147841) ((((nI 8) * x1) + (T 143409 x1.toNatClampNeg)).toNatClampNeg) x3)) 143409) x1.toNatClampNeg ((T 143409 x1.toNatClampNeg) + (nI 1))))) else (va_up T 110648 (upd (T 110648) 0 (nI 1)))) else (if (f_X7_isPeople T Q x1) = true then (va_up T 110648 (upd (T 110648) 0 (nI 2))) else (va_up T 110648 (upd (T 110648) 0 (nI 1))))) := by
  unfold u_X7_explain
  exact k_ite2 k_exC2
theorem n7_explain_f (T : z_MI) (Q : z_ML) (x1 x2 x3 : Int32) : f_X7_explain T Q x1 x2 x3 = (if ¬ x2 < 0 ∧ ¬ x3 < x2 ∧ x3 ≤ (nI 5000) then (if (f_X7_isPeople T Q x1) = true then (if (T 143409 x1.toNatClampNeg) = (nI 8) then (nI 0) else ((upd (T 143409) x1.toNatClampNeg ((T 143409 x1.toNatClampNeg) + (nI 1))) x1.toNatClampNeg)) else (nI 0)) else (if (f_X7_isPeople T Q x1) = true then (nI 0) else (nI 0))) := by
  unfold f_X7_explain
  exact k_ite2 k_exC2
theorem ok_explain {S T : z_MI} {P Q : z_ML} (h : i_2 S T P Q) (x1 x2 x3 : Int32) : i_G 1 2 3 (e_X6_explain S P x1 x2 x3) S (u_X6_explain S P x1 x2 x3) P Q (u_X7_explain T Q x1 x2 x3) ((f_X6_explain S P x1 x2 x3).toInt64) ((f_X7_explain T Q x1 x2 x3).toInt64) := by
  have m0 : (¬ x2 < 0 ∧ ¬ x3 < x2 ∧ x3 ≤ (nI 5000)) ↔ ((¬ (x2 < 0)) ∧ (¬ (x3 < x2)) ∧ (x3 ≤ (nI 5000))) := Iff.rfl
  have m1 : ((f_X7_isPeople T Q x1) = true) ↔ (((f_X2_isPeople S P x1) = true)) := by rw [k_isPeople (P' := P) h]
  have m2 : ((T 143409 x1.toNatClampNeg) = (nI 8)) ↔ ((¬ ((S 49201 x1.toNatClampNeg) < (nI 8)))) := by rw [i_a_explained h]; exact k_full (z_J_expl (i_J h) _) (by decide)
  by_cases c0 : (f_X2_isPeople S P x1) = true
  · skip
    by_cases c1 : x2 < 0
    · skip
      have nm0 : ¬ (¬ x2 < 0 ∧ ¬ x3 < x2 ∧ x3 ≤ (nI 5000)) := fun q => ((m0.mp q).1) c1
      have nm1 : (f_X7_isPeople T Q x1) = true := m1.mpr c0
      have he : e_X6_explain S P x1 x2 x3 = (2) := by
        unfold e_X6_explain
        rw [if_pos c0, if_pos c1]
      have hV : u_X7_explain T Q x1 x2 x3 = (va_up T 110648 (upd (T 110648) 0 (nI 2))) := by
        rw [n7_explain_u]
        rw [if_neg nm0, if_pos nm1]
      exact i_Gerr h he hV (by decide) (fun _ _ => rfl)
    · skip
      by_cases c2 : x3 < x2
      · skip
        have nm0 : ¬ (¬ x2 < 0 ∧ ¬ x3 < x2 ∧ x3 ≤ (nI 5000)) := fun q => ((m0.mp q).2.1) c2
        have nm1 : (f_X7_isPeople T Q x1) = true := m1.mpr c0
        have he : e_X6_explain S P x1 x2 x3 = (2) := by
          unfold e_X6_explain
          rw [if_pos c0, if_neg c1, if_pos c2]
        have hV : u_X7_explain T Q x1 x2 x3 = (va_up T 110648 (upd (T 110648) 0 (nI 2))) := by
          rw [n7_explain_u]
          rw [if_neg nm0, if_pos nm1]
        exact i_Gerr h he hV (by decide) (fun _ _ => rfl)
      · skip
        by_cases c3 : x3 ≤ (nI 5000)
        · skip
          by_cases c4 : (S 49201 x1.toNatClampNeg) < (nI 8)
          · skip
            have nm0 : ¬ x2 < 0 ∧ ¬ x3 < x2 ∧ x3 ≤ (nI 5000) := m0.mpr ⟨c1, c2, c3⟩
            have nm1 : (f_X7_isPeople T Q x1) = true := m1.mpr c0
            have nm2 : ¬ ((T 143409 x1.toNatClampNeg) = (nI 8)) := fun q => ((m2.mp q)) c4
            have he : e_X6_explain S P x1 x2 x3 = (0) := by
              unfold e_X6_explain
              rw [if_pos c0, if_neg c1, if_neg c2, if_pos c3, if_pos c4]
            have hV : u_X7_explain T Q x1 x2 x3 = (va_up (va_up (va_up (va_up T 110648 (upd (T 110648) 0 (nI 0))) 145793 (upd ((va_up T 110648 (upd (T 110648) 0 (nI 0))) 145793) ((((nI 8) * x1) + (T 143409 x1.toNatClampNeg)).toNatClampNeg) x2)) 147841 (upd ((va_up (va_up T 110648 (upd (T 110648) 0 (nI 0))) 145793 (upd ((va_up T 110648 (upd (T 110648) 0 (nI 0))) 145793) ((((nI 8) * x1) + (T 143409 x1.toNatClampNeg)).toNatClampNeg) x2)) 147841) ((((nI 8) * x1) + (T 143409 x1.toNatClampNeg)).toNatClampNeg) x3)) 143409 (upd ((va_up (va_up (va_up T 110648 (upd (T 110648) 0 (nI 0))) 145793 (upd ((va_up T 110648 (upd (T 110648) 0 (nI 0))) 145793) ((((nI 8) * x1) + (T 143409 x1.toNatClampNeg)).toNatClampNeg) x2)) 147841 (upd ((va_up (va_up T 110648 (upd (T 110648) 0 (nI 0))) 145793 (upd ((va_up T 110648 (upd (T 110648) 0 (nI 0))) 145793) ((((nI 8) * x1) + (T 143409 x1.toNatClampNeg)).toNatClampNeg) x2)) 147841) ((((nI 8) * x1) + (T 143409 x1.toNatClampNeg)).toNatClampNeg) x3)) 143409) x1.toNatClampNeg ((T 143409 x1.toNatClampNeg) + (nI 1)))) := by
              rw [n7_explain_u]
              rw [if_pos nm0, if_pos nm1, if_neg nm2]
            have hU : u_X6_explain S P x1 x2 x3 = (u_X3_addExplained S P x1 x2 x3) := by
              unfold u_X6_explain
              rw [if_pos c0, if_neg c1, if_neg c2, if_pos c3, if_pos c4]
            have hf : f_X6_explain S P x1 x2 x3 = (f_X3_addExplained S P x1 x2 x3) := by
              unfold f_X6_explain
              rw [if_pos c0, if_neg c1, if_neg c2, if_pos c3, if_pos c4]
            have hg : f_X7_explain T Q x1 x2 x3 = ((upd (T 143409) x1.toNatClampNeg ((T 143409 x1.toNatClampNeg) + (nI 1))) x1.toNatClampNeg) := by
              rw [n7_explain_f]
              rw [if_pos nm0, if_pos nm1, if_neg nm2]
            refine i_Gok he hU hV rfl ?_ ?_
            · rw [hf, hg]
              show ((upd (S 49201) x1.toNatClampNeg ((S 49201 x1.toNatClampNeg) + (nI 1))) x1.toNatClampNeg).toInt64 = _
              rw [i_a_explained h]
            · unfold u_X3_addExplained
              have h1 := i_thr (x := nI 0) h
              have hJ := i_J h
              have hk : (x1 * nI 8 + S 49201 x1.toNatClampNeg).toNatClampNeg = (nI 8 * x1 + T 143409 x1.toNatClampNeg).toNatClampNeg := by rw [i_a_explained h, Int32.mul_comm]
              have h2 := s_pair (a := 51585) (b := 145793) (x := x2) (x' := x2) h1 (by decide) hk rfl (i_bl_no (by decide)) (i_T_pair h.2.2.2.2.1 (by decide))
              have h3 := s_pair (a := 53633) (b := 147841) (x := x3) (x' := x3) h2 (by decide) hk rfl (i_bl_no (by decide)) (i_T_pair h2.2.2.2.2.1 (by decide))
              exact s_pair (a := 49201) (b := 143409) h3 (by decide) rfl (by rw [i_a_explained h]) (i_bl_marks_explained (k_zle (z_J_expl hJ _) (by decide) c4)) (i_T_pair h3.2.2.2.2.1 (by decide))
          · skip
            have nm0 : ¬ x2 < 0 ∧ ¬ x3 < x2 ∧ x3 ≤ (nI 5000) := m0.mpr ⟨c1, c2, c3⟩
            have nm1 : (f_X7_isPeople T Q x1) = true := m1.mpr c0
            have nm2 : (T 143409 x1.toNatClampNeg) = (nI 8) := m2.mpr c4
            have he : e_X6_explain S P x1 x2 x3 = (3) := by
              unfold e_X6_explain
              rw [if_pos c0, if_neg c1, if_neg c2, if_pos c3, if_neg c4]
            have hV : u_X7_explain T Q x1 x2 x3 = (va_up T 110648 (upd (T 110648) 0 (nI 3))) := by
              rw [n7_explain_u]
              rw [if_pos nm0, if_pos nm1, if_pos nm2]
            exact i_Gerr h he hV (by decide) (fun _ _ => rfl)
        · skip
          have nm0 : ¬ (¬ x2 < 0 ∧ ¬ x3 < x2 ∧ x3 ≤ (nI 5000)) := fun q => c3 ((m0.mp q).2.2)
          have nm1 : (f_X7_isPeople T Q x1) = true := m1.mpr c0
          have he : e_X6_explain S P x1 x2 x3 = (2) := by
            unfold e_X6_explain
            rw [if_pos c0, if_neg c1, if_neg c2, if_neg c3]
          have hV : u_X7_explain T Q x1 x2 x3 = (va_up T 110648 (upd (T 110648) 0 (nI 2))) := by
            rw [n7_explain_u]
            rw [if_neg nm0, if_pos nm1]
          exact i_Gerr h he hV (by decide) (fun _ _ => rfl)
  · skip
    by_cases d0 : ¬ x2 < 0 ∧ ¬ x3 < x2 ∧ x3 ≤ (nI 5000)
    · skip
      have nm1 : ¬ ((f_X7_isPeople T Q x1) = true) := fun q => c0 ((m1.mp q))
      have he : e_X6_explain S P x1 x2 x3 = (1) := by
        unfold e_X6_explain
        rw [if_neg c0]
      have hV : u_X7_explain T Q x1 x2 x3 = (va_up T 110648 (upd (T 110648) 0 (nI 1))) := by
        rw [n7_explain_u]
        rw [if_pos d0, if_neg nm1]
      exact i_Gerr h he hV (by decide) (fun _ _ => rfl)
    · skip
      have nm1 : ¬ ((f_X7_isPeople T Q x1) = true) := fun q => c0 ((m1.mp q))
      have he : e_X6_explain S P x1 x2 x3 = (1) := by
        unfold e_X6_explain
        rw [if_neg c0]
      have hV : u_X7_explain T Q x1 x2 x3 = (va_up T 110648 (upd (T 110648) 0 (nI 1))) := by
        rw [n7_explain_u]
        rw [if_neg d0, if_neg nm1]
      exact i_Gerr h he hV (by decide) (fun _ _ => rfl)
theorem w6_explain (S : z_MI) (P : z_ML) (x1 x2 x3 : Int32) (q : Nat) (hq : 110648 ≤ q) : u_X6_explain S P x1 x2 x3 q = S q := by
  unfold u_X6_explain
  (repeat' split) <;> first | rfl | (try unfold u_X3_addExplained; simp (disch := omega) only [va_up_ne])
theorem w7_explain (T : z_MI) (Q : z_ML) (x1 x2 x3 : Int32) (q : Nat) (hq : q < 110648) : u_X7_explain T Q x1 x2 x3 q = T q := by
  unfold u_X7_explain
  (repeat' split) <;> first | rfl | simp (disch := omega) only [va_up_ne]
theorem o_explain {S : z_MI} {P : z_ML} (h0 : i_I S P) (x1 x2 x3 : Int32) : F_explain S P x1 x2 x3 i_I :=
  i_FO h0 (w6_explain S P x1 x2 x3) (fun T Q q hq => w7_explain T Q x1 x2 x3 q hq) (fun T Q h => ok_explain (T := T) (Q := Q) h x1 x2 x3) (by rcases w_L_explain_e S P x1 x2 x3 with e | e | e | e <;> rw [e] <;> decide)
theorem ok_left {S T : z_MI} {P Q : z_ML} (h : i_2 S T P Q) (x1 x2 : Int32) : i_G 1 2 0 (e_X6_left S P x1 x2) S (S) P Q (u_X7_left T Q x1 x2) ((f_X6_left S P x1 x2).toInt64) ((f_X7_left T Q x1 x2).toInt64) := by
  have m0 : ((f_X7_isPlace T Q x1) = true) ↔ (((f_X6_isPlace S P x1) = true)) := by rw [k_isPlace S T P Q]
  have m1 : ((f_X7_in T Q x2 (nI 0) (nI 5000)) = true) ↔ (((f_X6_isMonth S P x2) = true)) := k_month S T P Q _
  by_cases c0 : (f_X6_isPlace S P x1) = true
  · skip
    by_cases c1 : (f_X6_isMonth S P x2) = true
    · skip
      have nm0 : (f_X7_isPlace T Q x1) = true := m0.mpr c0
      have nm1 : (f_X7_in T Q x2 (nI 0) (nI 5000)) = true := m1.mpr c1
      have he : e_X6_left S P x1 x2 = (0) := by
        unfold e_X6_left
        rw [if_pos c0, if_pos c1]
      have hV : u_X7_left T Q x1 x2 = (va_up T 110648 (upd (T 110648) 0 (nI 0))) := by
        unfold u_X7_left
        rw [if_pos nm0, if_pos nm1]
      have hf : f_X6_left S P x1 x2 = (f_X0_leftAt S P x1 x2) := by
        unfold f_X6_left
        rw [if_pos c0, if_pos c1]
      have hg : f_X7_left T Q x1 x2 = (f_X7_leftIn (va_up T 110648 (upd (T 110648) 0 (nI 0))) Q x1 x2) := by
        unfold f_X7_left
        rw [if_pos nm0, if_pos nm1]
      refine i_Gok he rfl hV rfl ?_ ?_
      · rw [hf, hg]
        obtain ⟨j, rfl, hj⟩ := k_idxL c0
        rw [(k_leftIn (P' := P) (Q' := Q) (i_thr (x := nI 0) h) (nI_pos (by omega)) x2).1]
      · exact i_thr h
    · skip
      have nm0 : (f_X7_isPlace T Q x1) = true := m0.mpr c0
      have nm1 : ¬ ((f_X7_in T Q x2 (nI 0) (nI 5000)) = true) := fun q => c1 ((m1.mp q))
      have he : e_X6_left S P x1 x2 = (2) := by
        unfold e_X6_left
        rw [if_pos c0, if_neg c1]
      have hV : u_X7_left T Q x1 x2 = (va_up T 110648 (upd (T 110648) 0 (nI 2))) := by
        unfold u_X7_left
        rw [if_pos nm0, if_neg nm1]
      exact i_Gerr h he hV (by decide) (fun _ _ => rfl)
  · skip
    have nm0 : ¬ ((f_X7_isPlace T Q x1) = true) := fun q => c0 ((m0.mp q))
    have he : e_X6_left S P x1 x2 = (1) := by
      unfold e_X6_left
      rw [if_neg c0]
    have hV : u_X7_left T Q x1 x2 = (va_up T 110648 (upd (T 110648) 0 (nI 1))) := by
      unfold u_X7_left
      rw [if_neg nm0]
    exact i_Gerr h he hV (by decide) (fun _ _ => rfl)
theorem w7_left (T : z_MI) (Q : z_ML) (x1 x2 : Int32) (q : Nat) (hq : q < 110648) : u_X7_left T Q x1 x2 q = T q := by
  unfold u_X7_left
  (repeat' split) <;> first | rfl | simp (disch := omega) only [va_up_ne]
theorem o_left {S : z_MI} {P : z_ML} (h0 : i_I S P) (x1 x2 : Int32) : F_left S P x1 x2 i_I :=
  i_FO h0 (fun q hq => rfl) (fun T Q q hq => w7_left T Q x1 x2 q hq) (fun T Q h => ok_left (T := T) (Q := Q) h x1 x2) (by rcases w_L_left_e S P x1 x2 with e | e | e <;> rw [e] <;> decide)
theorem ok_leftAnew {S T : z_MI} {P Q : z_ML} (h : i_2 S T P Q) (x1 x2 : Int32) : i_G 1 2 0 (e_X6_leftAnew S P x1 x2) S (S) P Q (u_X7_leftAnew T Q x1 x2) ((f_X6_leftAnew S P x1 x2).toInt64) ((f_X7_leftAnew T Q x1 x2).toInt64) := by
  have m0 : ((f_X7_isPlace T Q x1) = true) ↔ (((f_X6_isPlace S P x1) = true)) := by rw [k_isPlace S T P Q]
  have m1 : ((f_X7_in T Q x2 (nI 0) (nI 5000)) = true) ↔ (((f_X6_isMonth S P x2) = true)) := k_month S T P Q _
  by_cases c0 : (f_X6_isPlace S P x1) = true
  · skip
    by_cases c1 : (f_X6_isMonth S P x2) = true
    · skip
      have nm0 : (f_X7_isPlace T Q x1) = true := m0.mpr c0
      have nm1 : (f_X7_in T Q x2 (nI 0) (nI 5000)) = true := m1.mpr c1
      have he : e_X6_leftAnew S P x1 x2 = (0) := by
        unfold e_X6_leftAnew
        rw [if_pos c0, if_pos c1]
      have hV : u_X7_left T Q x1 x2 = (va_up T 110648 (upd (T 110648) 0 (nI 0))) := by
        unfold u_X7_left
        rw [if_pos nm0, if_pos nm1]
      have hf : f_X6_leftAnew S P x1 x2 = ((z_fo (fun k39 a39 => l_X6_leftAnew_39 S P x1 x2 k39 a39) (nI 0) 5)) := by
        unfold f_X6_leftAnew
        rw [if_pos c0, if_pos c1]
      have hg : f_X7_left T Q x1 x2 = (f_X7_leftIn (va_up T 110648 (upd (T 110648) 0 (nI 0))) Q x1 x2) := by
        unfold f_X7_left
        rw [if_pos nm0, if_pos nm1]
      refine i_Gok he rfl hV rfl ?_ ?_
      · rw [hf]
        show _ = (f_X7_left T Q x1 x2).toInt64
        rw [hg]
        obtain ⟨j, rfl, hj⟩ := k_idxL c0
        rw [k_leftAnew, (k_leftIn (P' := P) (Q' := Q) (i_thr (x := nI 0) h) (nI_pos (by omega)) x2).1]
      · exact i_thr h
    · skip
      have nm0 : (f_X7_isPlace T Q x1) = true := m0.mpr c0
      have nm1 : ¬ ((f_X7_in T Q x2 (nI 0) (nI 5000)) = true) := fun q => c1 ((m1.mp q))
      have he : e_X6_leftAnew S P x1 x2 = (2) := by
        unfold e_X6_leftAnew
        rw [if_pos c0, if_neg c1]
      have hV : u_X7_left T Q x1 x2 = (va_up T 110648 (upd (T 110648) 0 (nI 2))) := by
        unfold u_X7_left
        rw [if_pos nm0, if_neg nm1]
      exact i_Gerr h he hV (by decide) (fun _ _ => rfl)
  · skip
    have nm0 : ¬ ((f_X7_isPlace T Q x1) = true) := fun q => c0 ((m0.mp q))
    have he : e_X6_leftAnew S P x1 x2 = (1) := by
      unfold e_X6_leftAnew
      rw [if_neg c0]
    have hV : u_X7_left T Q x1 x2 = (va_up T 110648 (upd (T 110648) 0 (nI 1))) := by
      unfold u_X7_left
      rw [if_neg nm0]
    exact i_Gerr h he hV (by decide) (fun _ _ => rfl)
theorem w7_leftAnew (T : z_MI) (Q : z_ML) (x1 x2 : Int32) (q : Nat) (hq : q < 110648) : u_X7_leftAnew T Q x1 x2 q = T q := by
  unfold u_X7_leftAnew
  unfold u_X7_left
  (repeat' split) <;> first | rfl | simp (disch := omega) only [va_up_ne]
theorem o_leftAnew {S : z_MI} {P : z_ML} (h0 : i_I S P) (x1 x2 : Int32) : F_leftAnew S P x1 x2 i_I :=
  i_FO h0 (fun q hq => rfl) (fun T Q q hq => w7_leftAnew T Q x1 x2 q hq) (fun T Q h => ok_leftAnew (T := T) (Q := Q) h x1 x2) (by rcases w_L_leftAnew_e S P x1 x2 with e | e | e <;> rw [e] <;> decide)
theorem ok_value {S T : z_MI} {P Q : z_ML} (h : i_2 S T P Q) (x1 x2 : Int32) : i_G 1 2 0 (e_X6_value S P x1 x2) S (u_X6_value S P x1 x2) P Q (u_X7_value T Q x1 x2) ((f_X6_value S P x1 x2).toInt64) ((f_X7_value T Q x1 x2).toInt64) := by
  have m0 : ((f_X7_isPlace T Q x1) = true) ↔ (((f_X6_isPlace S P x1) = true)) := by rw [k_isPlace S T P Q]
  have m1 : ((f_X7_in T Q x2 (nI 0) (nI 1000000)) = true) ↔ ((¬ (x2 < 0)) ∧ (x2 ≤ (nI 1000000))) := by exact k_in1z
  by_cases c0 : (f_X6_isPlace S P x1) = true
  · skip
    by_cases c1 : x2 < 0
    · skip
      have nm0 : (f_X7_isPlace T Q x1) = true := m0.mpr c0
      have nm1 : ¬ ((f_X7_in T Q x2 (nI 0) (nI 1000000)) = true) := fun q => ((m1.mp q).1) c1
      have he : e_X6_value S P x1 x2 = (2) := by
        unfold e_X6_value
        rw [if_pos c0, if_pos c1]
      have hV : u_X7_value T Q x1 x2 = (va_up T 110648 (upd (T 110648) 0 (nI 2))) := by
        unfold u_X7_value
        rw [if_pos nm0, if_neg nm1]
      exact i_Gerr h he hV (by decide) (fun _ _ => rfl)
    · skip
      by_cases c2 : x2 ≤ (nI 1000000)
      · skip
        have nm0 : (f_X7_isPlace T Q x1) = true := m0.mpr c0
        have nm1 : (f_X7_in T Q x2 (nI 0) (nI 1000000)) = true := m1.mpr ⟨c1, c2⟩
        have he : e_X6_value S P x1 x2 = (0) := by
          unfold e_X6_value
          rw [if_pos c0, if_neg c1, if_pos c2]
        have hV : u_X7_value T Q x1 x2 = (va_up (va_up T 110648 (upd (T 110648) 0 (nI 0))) 204929 (upd ((va_up T 110648 (upd (T 110648) 0 (nI 0))) 204929) x1.toNatClampNeg x2)) := by
          unfold u_X7_value
          rw [if_pos nm0, if_pos nm1]
        have hU : u_X6_value S P x1 x2 = (va_up S 16513 (upd (S 16513) x1.toNatClampNeg x2)) := by
          unfold u_X6_value
          rw [if_pos c0, if_neg c1, if_pos c2]
        have hf : f_X6_value S P x1 x2 = (S 16513 x1.toNatClampNeg) := by
          unfold f_X6_value
          rw [if_pos c0, if_neg c1, if_pos c2]
        have hg : f_X7_value T Q x1 x2 = (T 204929 x1.toNatClampNeg) := by
          unfold f_X7_value
          rw [if_pos nm0, if_pos nm1]
        refine i_Gok he hU hV rfl ?_ ?_
        · rw [hf, hg]
          rw [i_a_values h]
        · have h1 := i_thr (x := nI 0) h
          exact s_pair (a := 16513) (b := 204929) h1 (by decide) rfl rfl (i_bl_bench_values (k_zleR c1 c2 (by decide))) (i_T_pair h.2.2.2.2.1 (by decide))
      · skip
        have nm0 : (f_X7_isPlace T Q x1) = true := m0.mpr c0
        have nm1 : ¬ ((f_X7_in T Q x2 (nI 0) (nI 1000000)) = true) := fun q => c2 ((m1.mp q).2)
        have he : e_X6_value S P x1 x2 = (2) := by
          unfold e_X6_value
          rw [if_pos c0, if_neg c1, if_neg c2]
        have hV : u_X7_value T Q x1 x2 = (va_up T 110648 (upd (T 110648) 0 (nI 2))) := by
          unfold u_X7_value
          rw [if_pos nm0, if_neg nm1]
        exact i_Gerr h he hV (by decide) (fun _ _ => rfl)
  · skip
    have nm0 : ¬ ((f_X7_isPlace T Q x1) = true) := fun q => c0 ((m0.mp q))
    have he : e_X6_value S P x1 x2 = (1) := by
      unfold e_X6_value
      rw [if_neg c0]
    have hV : u_X7_value T Q x1 x2 = (va_up T 110648 (upd (T 110648) 0 (nI 1))) := by
      unfold u_X7_value
      rw [if_neg nm0]
    exact i_Gerr h he hV (by decide) (fun _ _ => rfl)
theorem w6_value (S : z_MI) (P : z_ML) (x1 x2 : Int32) (q : Nat) (hq : 110648 ≤ q) : u_X6_value S P x1 x2 q = S q := by
  unfold u_X6_value
  (repeat' split) <;> first | rfl | (simp (disch := omega) only [va_up_ne])
theorem w7_value (T : z_MI) (Q : z_ML) (x1 x2 : Int32) (q : Nat) (hq : q < 110648) : u_X7_value T Q x1 x2 q = T q := by
  unfold u_X7_value
  (repeat' split) <;> first | rfl | simp (disch := omega) only [va_up_ne]
theorem o_value {S : z_MI} {P : z_ML} (h0 : i_I S P) (x1 x2 : Int32) : F_value S P x1 x2 i_I :=
  i_FO h0 (w6_value S P x1 x2) (fun T Q q hq => w7_value T Q x1 x2 q hq) (fun T Q h => ok_value (T := T) (Q := Q) h x1 x2) (by rcases w_L_value_e S P x1 x2 with e | e | e <;> rw [e] <;> decide)
theorem ok_paid {S T : z_MI} {P Q : z_ML} (h : i_2 S T P Q) (x1 : Int32) : i_G 1 0 0 (e_X6_paid S P x1) S (S) P Q (u_X7_paid T Q x1) (f_X6_paid S P x1) (f_X7_paid T Q x1) := by
  have m0 : ((f_X7_isPeople T Q x1) = true) ↔ (((f_X2_isPeople S P x1) = true)) := by rw [k_isPeople (P' := P) h]
  by_cases c0 : (f_X2_isPeople S P x1) = true
  · skip
    have nm0 : (f_X7_isPeople T Q x1) = true := m0.mpr c0
    have he : e_X6_paid S P x1 = (0) := by
      unfold e_X6_paid
      rw [if_pos c0]
    have hV : u_X7_paid T Q x1 = (va_up T 110648 (upd (T 110648) 0 (nI 0))) := by
      unfold u_X7_paid
      rw [if_pos nm0]
    have hf : f_X6_paid S P x1 = (P 18483 x1.toNatClampNeg) := by
      unfold f_X6_paid
      rw [if_pos c0]
    have hg : f_X7_paid T Q x1 = (Q 116787 x1.toNatClampNeg) := by
      unfold f_X7_paid
      rw [if_pos nm0]
    refine i_Gok he rfl hV rfl ?_ ?_
    · rw [hf, hg]
      rw [h.2.2.2.2.2.2]
    · exact i_thr h
  · skip
    have nm0 : ¬ ((f_X7_isPeople T Q x1) = true) := fun q => c0 ((m0.mp q))
    have he : e_X6_paid S P x1 = (1) := by
      unfold e_X6_paid
      rw [if_neg c0]
    have hV : u_X7_paid T Q x1 = (va_up T 110648 (upd (T 110648) 0 (nI 1))) := by
      unfold u_X7_paid
      rw [if_neg nm0]
    exact i_Gerr h he hV (by decide) (fun _ _ => rfl)
theorem w7_paid (T : z_MI) (Q : z_ML) (x1 : Int32) (q : Nat) (hq : q < 110648) : u_X7_paid T Q x1 q = T q := by
  unfold u_X7_paid
  (repeat' split) <;> first | rfl | simp (disch := omega) only [va_up_ne]
theorem o_paid {S : z_MI} {P : z_ML} (h0 : i_I S P) (x1 : Int32) : F_paid S P x1 i_I :=
  i_FO h0 (fun q hq => rfl) (fun T Q q hq => w7_paid T Q x1 q hq) (fun T Q h => ok_paid (T := T) (Q := Q) h x1) (by rcases w_L_paid_e S P x1 with e | e <;> rw [e] <;> decide)
theorem ok_holders {S T : z_MI} {P Q : z_ML} (h : i_2 S T P Q) (x1 : Int32) : i_G 1 0 0 (e_X6_holders S P x1) S (S) P Q (u_X7_holders T Q x1) ((f_X6_holders S P x1).toInt64) ((f_X7_holders T Q x1).toInt64) := by
  have m0 : ((f_X7_isPlace T Q x1) = true) ↔ (((f_X6_isPlace S P x1) = true)) := by rw [k_isPlace S T P Q]
  by_cases c0 : (f_X6_isPlace S P x1) = true
  · skip
    have nm0 : (f_X7_isPlace T Q x1) = true := m0.mpr c0
    have he : e_X6_holders S P x1 = (0) := by
      unfold e_X6_holders
      rw [if_pos c0]
    have hV : u_X7_holders T Q x1 = (va_up T 110648 (upd (T 110648) 0 (nI 0))) := by
      unfold u_X7_holders
      rw [if_pos nm0]
    have hf : f_X6_holders S P x1 = (f_X1_holdersOf S P x1) := by
      unfold f_X6_holders
      rw [if_pos c0]
    have hg : f_X7_holders T Q x1 = (f_X7_holdersOf (va_up T 110648 (upd (T 110648) 0 (nI 0))) Q x1) := by
      unfold f_X7_holders
      rw [if_pos nm0]
    refine i_Gok he rfl hV rfl ?_ ?_
    · rw [hf, hg]
      obtain ⟨j, rfl, hj⟩ := k_idxL c0
      rw [k_holdersOf (P' := P) (Q' := Q) (i_thr (x := nI 0) h) (nI_pos (by omega))]
    · exact i_thr h
  · skip
    have nm0 : ¬ ((f_X7_isPlace T Q x1) = true) := fun q => c0 ((m0.mp q))
    have he : e_X6_holders S P x1 = (1) := by
      unfold e_X6_holders
      rw [if_neg c0]
    have hV : u_X7_holders T Q x1 = (va_up T 110648 (upd (T 110648) 0 (nI 1))) := by
      unfold u_X7_holders
      rw [if_neg nm0]
    exact i_Gerr h he hV (by decide) (fun _ _ => rfl)
theorem w7_holders (T : z_MI) (Q : z_ML) (x1 : Int32) (q : Nat) (hq : q < 110648) : u_X7_holders T Q x1 q = T q := by
  unfold u_X7_holders
  (repeat' split) <;> first | rfl | simp (disch := omega) only [va_up_ne]
theorem o_holders {S : z_MI} {P : z_ML} (h0 : i_I S P) (x1 : Int32) : F_holders S P x1 i_I :=
  i_FO h0 (fun q hq => rfl) (fun T Q q hq => w7_holders T Q x1 q hq) (fun T Q h => ok_holders (T := T) (Q := Q) h x1) (by rcases w_L_holders_e S P x1 with e | e <;> rw [e] <;> decide)
theorem ok_owed {S T : z_MI} {P Q : z_ML} (h : i_2 S T P Q) (x1 : Int32) : i_G 1 0 0 (e_X6_owed S P x1) S (S) P Q (u_X7_owed T Q x1) (f_X6_owed S P x1) (f_X7_owed T Q x1) := by
  have m0 : ((f_X7_isAct T Q x1) = true) ↔ (((f_X0_isAct S P x1) = true)) := by rw [k_isAct (P' := P) h]
  by_cases c0 : (f_X0_isAct S P x1) = true
  · skip
    have nm0 : (f_X7_isAct T Q x1) = true := m0.mpr c0
    have he : e_X6_owed S P x1 = (0) := by
      unfold e_X6_owed
      rw [if_pos c0]
    have hV : u_X7_owed T Q x1 = (va_up T 110648 (upd (T 110648) 0 (nI 0))) := by
      unfold u_X7_owed
      rw [if_pos nm0]
    have hf : f_X6_owed S P x1 = (f_X6_owedFor S P x1) := by
      unfold f_X6_owed
      rw [if_pos c0]
    have hg : f_X7_owed T Q x1 = (f_X7_owedFor (va_up T 110648 (upd (T 110648) 0 (nI 0))) Q x1) := by
      unfold f_X7_owed
      rw [if_pos nm0]
    refine i_Gok he rfl hV rfl ?_ ?_
    · rw [hf, hg]
      rw [k_owedFor P Q (i_thr (x := nI 0) h)]
    · exact i_thr h
  · skip
    have nm0 : ¬ ((f_X7_isAct T Q x1) = true) := fun q => c0 ((m0.mp q))
    have he : e_X6_owed S P x1 = (1) := by
      unfold e_X6_owed
      rw [if_neg c0]
    have hV : u_X7_owed T Q x1 = (va_up T 110648 (upd (T 110648) 0 (nI 1))) := by
      unfold u_X7_owed
      rw [if_neg nm0]
    exact i_Gerr h he hV (by decide) (fun _ _ => rfl)
theorem w7_owed (T : z_MI) (Q : z_ML) (x1 : Int32) (q : Nat) (hq : q < 110648) : u_X7_owed T Q x1 q = T q := by
  unfold u_X7_owed
  (repeat' split) <;> first | rfl | simp (disch := omega) only [va_up_ne]
theorem o_owed {S : z_MI} {P : z_ML} (h0 : i_I S P) (x1 : Int32) : F_owed S P x1 i_I :=
  i_FO h0 (fun q hq => rfl) (fun T Q q hq => w7_owed T Q x1 q hq) (fun T Q h => ok_owed (T := T) (Q := Q) h x1) (by rcases w_L_owed_e S P x1 with e | e <;> rw [e] <;> decide)
theorem ok_isProved {S T : z_MI} {P Q : z_ML} (h : i_2 S T P Q) (x1 x2 : Int32) : i_G 1 0 0 (e_X6_isProved S P x1 x2) S (S) P Q (u_X7_isProved T Q x1 x2) (z_b64 (f_X6_isProved S P x1 x2)) (z_b64 (f_X7_isProved T Q x1 x2)) := by
  have m0 : ((f_X7_isPeople T Q x1) = true) ↔ (((f_X2_isPeople S P x1) = true)) := by rw [k_isPeople (P' := P) h]
  have m1 : ((f_X7_isPlace T Q x2) = true) ↔ (((f_X6_isPlace S P x2) = true)) := by rw [k_isPlace S T P Q]
  by_cases c0 : (f_X2_isPeople S P x1) = true
  · skip
    by_cases c1 : (f_X6_isPlace S P x2) = true
    · skip
      by_cases d0 : (f_X7_proves (va_up T 110648 (upd (T 110648) 0 (nI 0))) Q x1 x2) = true
      · skip
        have nm0 : (f_X7_isPeople T Q x1) = true := m0.mpr c0
        have nm1 : (f_X7_isPlace T Q x2) = true := m1.mpr c1
        have he : e_X6_isProved S P x1 x2 = (0) := by
          unfold e_X6_isProved
          rw [if_pos c0, if_pos c1]
        have hV : u_X7_isProved T Q x1 x2 = (va_up T 110648 (upd (T 110648) 0 (nI 0))) := by
          unfold u_X7_isProved
          rw [if_pos nm0, if_pos nm1, if_pos d0]
        have hf : f_X6_isProved S P x1 x2 = (f_X3_prove S P x1 x2 (S 2096 8)) := by
          unfold f_X6_isProved
          rw [if_pos c0, if_pos c1]
        have hg : f_X7_isProved T Q x1 x2 = (true) := by
          unfold f_X7_isProved
          rw [if_pos nm0, if_pos nm1, if_pos d0]
        refine i_Gok he rfl hV rfl ?_ ?_
        · rw [hf, hg]
          have hp := k_proves (P' := P) (Q' := Q) (i_thr (x := nI 0) h) (t_isPeople (i_J h) c0) x2
          rw [hp] at d0
          rw [d0]
        · exact i_thr h
      · skip
        have nm0 : (f_X7_isPeople T Q x1) = true := m0.mpr c0
        have nm1 : (f_X7_isPlace T Q x2) = true := m1.mpr c1
        have he : e_X6_isProved S P x1 x2 = (0) := by
          unfold e_X6_isProved
          rw [if_pos c0, if_pos c1]
        have hV : u_X7_isProved T Q x1 x2 = (va_up T 110648 (upd (T 110648) 0 (nI 0))) := by
          unfold u_X7_isProved
          rw [if_pos nm0, if_pos nm1, if_neg d0]
        have hf : f_X6_isProved S P x1 x2 = (f_X3_prove S P x1 x2 (S 2096 8)) := by
          unfold f_X6_isProved
          rw [if_pos c0, if_pos c1]
        have hg : f_X7_isProved T Q x1 x2 = (false) := by
          unfold f_X7_isProved
          rw [if_pos nm0, if_pos nm1, if_neg d0]
        refine i_Gok he rfl hV rfl ?_ ?_
        · rw [hf, hg]
          have hp := k_proves (P' := P) (Q' := Q) (i_thr (x := nI 0) h) (t_isPeople (i_J h) c0) x2
          rw [hp] at d0
          have e0 : f_X3_prove S P x1 x2 (S 2096 8) = false := by simpa using d0
          rw [e0]
        · exact i_thr h
    · skip
      have nm0 : (f_X7_isPeople T Q x1) = true := m0.mpr c0
      have nm1 : ¬ ((f_X7_isPlace T Q x2) = true) := fun q => c1 ((m1.mp q))
      have he : e_X6_isProved S P x1 x2 = (1) := by
        unfold e_X6_isProved
        rw [if_pos c0, if_neg c1]
      have hV : u_X7_isProved T Q x1 x2 = (va_up T 110648 (upd (T 110648) 0 (nI 1))) := by
        unfold u_X7_isProved
        rw [if_pos nm0, if_neg nm1]
      exact i_Gerr h he hV (by decide) (fun _ _ => rfl)
  · skip
    have nm0 : ¬ ((f_X7_isPeople T Q x1) = true) := fun q => c0 ((m0.mp q))
    have he : e_X6_isProved S P x1 x2 = (1) := by
      unfold e_X6_isProved
      rw [if_neg c0]
    have hV : u_X7_isProved T Q x1 x2 = (va_up T 110648 (upd (T 110648) 0 (nI 1))) := by
      unfold u_X7_isProved
      rw [if_neg nm0]
    exact i_Gerr h he hV (by decide) (fun _ _ => rfl)
theorem w7_isProved (T : z_MI) (Q : z_ML) (x1 x2 : Int32) (q : Nat) (hq : q < 110648) : u_X7_isProved T Q x1 x2 q = T q := by
  unfold u_X7_isProved
  (repeat' split) <;> first | rfl | simp (disch := omega) only [va_up_ne]
theorem o_isProved {S : z_MI} {P : z_ML} (h0 : i_I S P) (x1 x2 : Int32) : F_isProved S P x1 x2 i_I :=
  i_FO h0 (fun q hq => rfl) (fun T Q q hq => w7_isProved T Q x1 x2 q hq) (fun T Q h => ok_isProved (T := T) (Q := Q) h x1 x2) (by rcases w_L_isProved_e S P x1 x2 with e | e <;> rw [e] <;> decide)
theorem ok_voids {S T : z_MI} {P Q : z_ML} (h : i_2 S T P Q) (x1 x2 : Int32) : i_G 1 0 0 (e_X6_voids S P x1 x2) S (u_X6_voids S P x1 x2) P Q (u_X7_voids T Q x1 x2) (z_b64 (f_X6_voids S P x1 x2)) (z_b64 (f_X7_voids T Q x1 x2)) := by
  have m0 : ((f_X7_isAct T Q x1) = true) ↔ (((f_X0_isAct S P x1) = true)) := by rw [k_isAct (P' := P) h]
  have m1 : ((T 160066 x1.toNatClampNeg) = x2) ↔ (((S 67906 x1.toNatClampNeg) = x2)) := by rw [i_a_areVoid h]
  by_cases c0 : (f_X0_isAct S P x1) = true
  · skip
    by_cases c1 : (S 67906 x1.toNatClampNeg) = x2
    · skip
      have nm0 : (f_X7_isAct T Q x1) = true := m0.mpr c0
      have nm1 : (T 160066 x1.toNatClampNeg) = x2 := m1.mpr c1
      have he : e_X6_voids S P x1 x2 = (0) := by
        unfold e_X6_voids
        rw [if_pos c0, if_pos c1]
      have hV : u_X7_voids T Q x1 x2 = (va_up (va_up T 110648 (upd (T 110648) 0 (nI 0))) 160066 (upd ((va_up T 110648 (upd (T 110648) 0 (nI 0))) 160066) x1.toNatClampNeg (vp_nar .boolean x2))) := by
        unfold u_X7_voids
        rw [if_pos nm0, if_pos nm1]
      have hU : u_X6_voids S P x1 x2 = (va_up S 67906 (upd (S 67906) x1.toNatClampNeg (vp_nar .boolean x2))) := by
        unfold u_X6_voids
        rw [if_pos c0, if_pos c1]
      have hf : f_X6_voids S P x1 x2 = (false) := by
        unfold f_X6_voids
        rw [if_pos c0, if_pos c1]
      have hg : f_X7_voids T Q x1 x2 = (false) := by
        unfold f_X7_voids
        rw [if_pos nm0, if_pos nm1]
      refine i_Gok he hU hV rfl ?_ ?_
      · rw [hf, hg]
      · have h1 := i_thr (x := nI 0) h
        exact s_pair (a := 67906) (b := 160066) h1 (by decide) rfl rfl (i_bl_no (by decide)) (i_T_pair h.2.2.2.2.1 (by decide))
    · skip
      have nm0 : (f_X7_isAct T Q x1) = true := m0.mpr c0
      have nm1 : ¬ ((T 160066 x1.toNatClampNeg) = x2) := fun q => c1 ((m1.mp q))
      have he : e_X6_voids S P x1 x2 = (0) := by
        unfold e_X6_voids
        rw [if_pos c0, if_neg c1]
      have hV : u_X7_voids T Q x1 x2 = (va_up (va_up T 110648 (upd (T 110648) 0 (nI 0))) 160066 (upd ((va_up T 110648 (upd (T 110648) 0 (nI 0))) 160066) x1.toNatClampNeg (vp_nar .boolean x2))) := by
        unfold u_X7_voids
        rw [if_pos nm0, if_neg nm1]
      have hU : u_X6_voids S P x1 x2 = (va_up S 67906 (upd (S 67906) x1.toNatClampNeg (vp_nar .boolean x2))) := by
        unfold u_X6_voids
        rw [if_pos c0, if_neg c1]
      have hf : f_X6_voids S P x1 x2 = (true) := by
        unfold f_X6_voids
        rw [if_pos c0, if_neg c1]
      have hg : f_X7_voids T Q x1 x2 = (true) := by
        unfold f_X7_voids
        rw [if_pos nm0, if_neg nm1]
      refine i_Gok he hU hV rfl ?_ ?_
      · rw [hf, hg]
      · have h1 := i_thr (x := nI 0) h
        exact s_pair (a := 67906) (b := 160066) h1 (by decide) rfl rfl (i_bl_no (by decide)) (i_T_pair h.2.2.2.2.1 (by decide))
  · skip
    have nm0 : ¬ ((f_X7_isAct T Q x1) = true) := fun q => c0 ((m0.mp q))
    have he : e_X6_voids S P x1 x2 = (1) := by
      unfold e_X6_voids
      rw [if_neg c0]
    have hV : u_X7_voids T Q x1 x2 = (va_up T 110648 (upd (T 110648) 0 (nI 1))) := by
      unfold u_X7_voids
      rw [if_neg nm0]
    exact i_Gerr h he hV (by decide) (fun _ _ => rfl)
theorem w6_voids (S : z_MI) (P : z_ML) (x1 x2 : Int32) (q : Nat) (hq : 110648 ≤ q) : u_X6_voids S P x1 x2 q = S q := by
  unfold u_X6_voids
  (repeat' split) <;> first | rfl | (simp (disch := omega) only [va_up_ne])
theorem w7_voids (T : z_MI) (Q : z_ML) (x1 x2 : Int32) (q : Nat) (hq : q < 110648) : u_X7_voids T Q x1 x2 q = T q := by
  unfold u_X7_voids
  (repeat' split) <;> first | rfl | simp (disch := omega) only [va_up_ne]
theorem o_voids {S : z_MI} {P : z_ML} (h0 : i_I S P) (x1 x2 : Int32) : F_voids S P x1 x2 i_I :=
  i_FO h0 (w6_voids S P x1 x2) (fun T Q q hq => w7_voids T Q x1 x2 q hq) (fun T Q h => ok_voids (T := T) (Q := Q) h x1 x2) (by rcases w_L_voids_e S P x1 x2 with e | e <;> rw [e] <;> decide)
theorem ok_giveUp {S T : z_MI} {P Q : z_ML} (h : i_2 S T P Q) (x1 : Int32) : i_G 1 0 2 (e_X6_giveUp S P x1) S (u_X6_giveUp S P x1) P Q (u_X7_giveUp T Q x1) ((f_X6_giveUp S P x1).toInt64) ((f_X7_giveUp T Q x1).toInt64) := by
  have m0 : ((f_X7_isAct T Q x1) = true) ↔ (((f_X0_isAct S P x1) = true)) := by rw [k_isAct (P' := P) h]
  have m1 : ((T 162113 x1.toNatClampNeg) = (-1)) ↔ (((S 65857 x1.toNatClampNeg) = (-1))) := by rw [i_a_gaveUp h]
  by_cases c0 : (f_X0_isAct S P x1) = true
  · skip
    by_cases c1 : (S 65857 x1.toNatClampNeg) = (-1)
    · skip
      have nm0 : (f_X7_isAct T Q x1) = true := m0.mpr c0
      have nm1 : (T 162113 x1.toNatClampNeg) = (-1) := m1.mpr c1
      have he : e_X6_giveUp S P x1 = (0) := by
        unfold e_X6_giveUp
        rw [if_pos c0, if_pos c1]
      have hV : u_X7_giveUp T Q x1 = (va_up (va_up T 110648 (upd (T 110648) 0 (nI 0))) 162113 (upd ((va_up T 110648 (upd (T 110648) 0 (nI 0))) 162113) x1.toNatClampNeg (T 110648 1))) := by
        unfold u_X7_giveUp
        rw [if_pos nm0, if_pos nm1]
      have hU : u_X6_giveUp S P x1 = (va_up S 65857 (upd (S 65857) x1.toNatClampNeg (S 2096 8))) := by
        unfold u_X6_giveUp
        rw [if_pos c0, if_pos c1]
      have hf : f_X6_giveUp S P x1 = ((S 2096 8) - (S 55617 x1.toNatClampNeg)) := by
        unfold f_X6_giveUp
        rw [if_pos c0, if_pos c1]
      have hg : f_X7_giveUp T Q x1 = ((T 110648 1) - (T 149825 x1.toNatClampNeg)) := by
        unfold f_X7_giveUp
        rw [if_pos nm0, if_pos nm1]
      refine i_Gok he hU hV rfl ?_ ?_
      · rw [hf, hg]
        rw [i_c_now h, i_a_actMonth h]
      · have h1 := i_thr (x := nI 0) h
        exact s_pair (a := 65857) (b := 162113) h1 (by decide) rfl (by rw [i_c_now h]) (i_bl_no (by decide)) (i_T_pair h.2.2.2.2.1 (by decide))
    · skip
      have nm0 : (f_X7_isAct T Q x1) = true := m0.mpr c0
      have nm1 : ¬ ((T 162113 x1.toNatClampNeg) = (-1)) := fun q => c1 ((m1.mp q))
      have he : e_X6_giveUp S P x1 = (3) := by
        unfold e_X6_giveUp
        rw [if_pos c0, if_neg c1]
      have hV : u_X7_giveUp T Q x1 = (va_up T 110648 (upd (T 110648) 0 (nI 2))) := by
        unfold u_X7_giveUp
        rw [if_pos nm0, if_neg nm1]
      exact i_Gerr h he hV (by decide) (fun _ _ => rfl)
  · skip
    have nm0 : ¬ ((f_X7_isAct T Q x1) = true) := fun q => c0 ((m0.mp q))
    have he : e_X6_giveUp S P x1 = (1) := by
      unfold e_X6_giveUp
      rw [if_neg c0]
    have hV : u_X7_giveUp T Q x1 = (va_up T 110648 (upd (T 110648) 0 (nI 1))) := by
      unfold u_X7_giveUp
      rw [if_neg nm0]
    exact i_Gerr h he hV (by decide) (fun _ _ => rfl)
theorem w6_giveUp (S : z_MI) (P : z_ML) (x1 : Int32) (q : Nat) (hq : 110648 ≤ q) : u_X6_giveUp S P x1 q = S q := by
  unfold u_X6_giveUp
  (repeat' split) <;> first | rfl | (simp (disch := omega) only [va_up_ne])
theorem w7_giveUp (T : z_MI) (Q : z_ML) (x1 : Int32) (q : Nat) (hq : q < 110648) : u_X7_giveUp T Q x1 q = T q := by
  unfold u_X7_giveUp
  (repeat' split) <;> first | rfl | simp (disch := omega) only [va_up_ne]
theorem o_giveUp {S : z_MI} {P : z_ML} (h0 : i_I S P) (x1 : Int32) : F_giveUp S P x1 i_I :=
  i_FO h0 (w6_giveUp S P x1) (fun T Q q hq => w7_giveUp T Q x1 q hq) (fun T Q h => ok_giveUp (T := T) (Q := Q) h x1) (by rcases w_L_giveUp_e S P x1 with e | e | e <;> rw [e] <;> decide)
