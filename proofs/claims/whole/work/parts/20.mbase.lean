def f_X7_thrown (S : z_MI) (P : z_ML) : Int32 :=
  S 110648 0
def sp_X7_thrown : z_SP := fun as S P k => match as with
  | [] => k (some (.int (f_X7_thrown S P))) S P
  | _ => False
def G_X7_thrown : z_G := ([(0, .aload_n 0, 1, 0), (1, .getfield 150, 4, 0), (4, .ireturn, 5, 0)], [(150, 110648, 0, none)], [], [], [], [], [], some .int)
set_option maxRecDepth 20000 in
set_option maxHeartbeats 4000000 in
theorem ct_X7_thrown (l : Launch) : z_CT l yX7_thrown cX7_thrown 1 (some .int) (z_rc 110648 sp_X7_thrown) 0 := by
  refine z_CT_of G_X7_thrown (by decide) (by decide +kernel) (z_pok_of ft_X7 ci_X7 cL_X7_L fo_X7 co_X7 lo_X7 (by decide +kernel)) rfl rfl ?_ ?_ ?_
  · intro as S P Po h0
    obtain ⟨as, rfl, h⟩ := z_rc_of h0
    unfold sp_X7_thrown at h
    split at h
    · exact Nat.le_of_ble_eq_true rfl
    · exact h.elim
  · exact fun _ h => absurd h List.not_mem_nil
  · intro as S P Po h0 V hV hW
    obtain ⟨as, rfl, h⟩ := z_rc_of h0
    unfold sp_X7_thrown at h
    split at h
    · skip
      have hpo := h
      refine hV [] 8 0 _ _ _ _ ?_
      exact z_pi hpo (rfl) (rfl) (rfl)
    · exact h.elim
def f_X7_in (S : z_MI) (P : z_ML) (x0 : Int32) (x1 : Int32) (x2 : Int32) : Bool :=
  if x0 < x1 then
    false
  else
    if x2 < x0 then
      false
    else
      true
def sp_X7_in : z_SP := fun as S P k => match as with
  | [.int x0, .int x1, .int x2] => k (some (.int (z_b (f_X7_in S P x0 x1 x2)))) S P
  | _ => False
def G_X7_in : z_G := ([(0, .iload_n 0, 1, 0), (1, .iload_n 1, 2, 0), (2, .if_icmp .lt 12, 5, 14), (5, .iload_n 0, 6, 0), (6, .iload_n 2, 7, 0), (7, .if_icmp .gt 7, 10, 14), (10, .iconst 1, 11, 0), (11, .goto 4, 14, 15), (14, .iconst 0, 15, 0), (15, .ireturn, 16, 0)], [], [], [], [], [], [], some .boolean)
set_option maxRecDepth 20000 in
set_option maxHeartbeats 4000000 in
theorem ct_X7_in (l : Launch) : z_CT l yX7_in cX7_in 3 (some .boolean) sp_X7_in 0 := by
  refine z_CT_of G_X7_in (by decide) (by decide +kernel) (z_pok_of ft_X7 ci_X7 cL_X7_L fo_X7 co_X7 lo_X7 (by decide +kernel)) rfl rfl ?_ ?_ ?_
  · intro as S P Po h
    unfold sp_X7_in at h
    split at h
    · exact Nat.le_of_ble_eq_true rfl
    · exact h.elim
  · exact fun _ h => absurd h List.not_mem_nil
  · intro as S P Po h V hV hW
    unfold sp_X7_in at h
    split at h
    · rename_i x0 x1 x2
      have hpo := h
      refine hV [] 15 0 _ _ _ _ ?_
      refine ⟨fun (h1 : x0 < x1) => ?_, fun (h1 : ¬ (x0 < x1)) => ?_⟩
      · exact ⟨(by first | rfl | exact z_nb _), z_pb hpo ((if_pos h1).trans rfl) (rfl) (rfl)⟩
      · refine ⟨fun (h2 : x2 < x0) => ?_, fun (h2 : ¬ (x2 < x0)) => ?_⟩
        · exact ⟨(by first | rfl | exact z_nb _), z_pb hpo ((if_neg h1).trans ((if_pos h2).trans rfl)) (rfl) (rfl)⟩
        · exact ⟨(by first | rfl | exact z_nb _), z_pb hpo ((if_neg h1).trans ((if_neg h2).trans rfl)) (rfl) (rfl)⟩
    · exact h.elim
def f_X7_holds (S : z_MI) (P : z_ML) (x1 : Int32) : Bool :=
  if x1 = 0 then
    true
  else
    false
def u_X7_holds (S : z_MI) (P : z_ML) (x1 : Int32) : z_MI :=
  va_up S 110648 (upd (S 110648) 0 x1)
def sp_X7_holds : z_SP := fun as S P k => match as with
  | [.int x1] => k (some (.int (z_b (f_X7_holds S P x1)))) (u_X7_holds S P x1) P
  | _ => False
def G_X7_holds : z_G := ([(0, .aload_n 0, 1, 0), (1, .iload_n 1, 2, 0), (2, .putfield 150, 5, 0), (5, .iload_n 1, 6, 0), (6, .ifCond .ne 7, 9, 13), (9, .iconst 1, 10, 0), (10, .goto 4, 13, 14), (13, .iconst 0, 14, 0), (14, .ireturn, 15, 0)], [(150, 110648, 0, none)], [], [], [], [], [], some .boolean)
set_option maxRecDepth 20000 in
set_option maxHeartbeats 4000000 in
theorem ct_X7_holds (l : Launch) : z_CT l yX7_holds cX7_holds 2 (some .boolean) (z_rc 110648 sp_X7_holds) 0 := by
  refine z_CT_of G_X7_holds (by decide) (by decide +kernel) (z_pok_of ft_X7 ci_X7 cL_X7_L fo_X7 co_X7 lo_X7 (by decide +kernel)) rfl rfl ?_ ?_ ?_
  · intro as S P Po h0
    obtain ⟨as, rfl, h⟩ := z_rc_of h0
    unfold sp_X7_holds at h
    split at h
    · exact Nat.le_of_ble_eq_true rfl
    · exact h.elim
  · exact fun _ h => absurd h List.not_mem_nil
  · intro as S P Po h0 V hV hW
    obtain ⟨as, rfl, h⟩ := z_rc_of h0
    unfold sp_X7_holds at h
    split at h
    · rename_i x1
      have hpo := h
      refine hV [] 14 0 _ _ _ _ ?_
      refine ⟨fun (h1 : ¬ (x1 = 0)) => ?_, fun (h1 : x1 = 0) => ?_⟩
      · exact ⟨(by first | rfl | exact z_nb _), z_pb hpo ((if_neg h1).trans rfl) (rfl) (rfl)⟩
      · exact ⟨(by first | rfl | exact z_nb _), z_pb hpo ((if_pos h1).trans rfl) (rfl) (rfl)⟩
    · exact h.elim
def f_X7_isPeople (S : z_MI) (P : z_ML) (x1 : Int32) : Bool :=
  f_X7_in S P x1 (nI 0) ((S 110648 2) - (nI 1))
def sp_X7_isPeople : z_SP := fun as S P k => match as with
  | [.int x1] => k (some (.int (z_b (f_X7_isPeople S P x1)))) S P
  | _ => False
def G_X7_isPeople : z_G := ([(0, .iload_n 1, 1, 0), (1, .iconst 0, 2, 0), (2, .aload_n 0, 3, 0), (3, .getfield 154, 6, 0), (6, .iconst 1, 7, 0), (7, .isub, 8, 0), (8, .invokestatic 157, 11, 0), (11, .ireturn, 12, 0)], [(154, 110648, 2, none)], [(100157, 3, sp_X7_in)], [], [], [], [], some .boolean)
set_option maxRecDepth 20000 in
set_option maxHeartbeats 4000000 in
theorem ct_X7_isPeople (l : Launch) : z_CT l yX7_isPeople cX7_isPeople 2 (some .boolean) (z_rc 110648 sp_X7_isPeople) 1 := by
  refine z_CT_of G_X7_isPeople (by decide) (by decide +kernel) (z_pok_of ft_X7 ci_X7 cL_X7_L fo_X7 co_X7 lo_X7 (by decide +kernel)) rfl rfl ?_ ?_ ?_
  · intro as S P Po h0
    obtain ⟨as, rfl, h⟩ := z_rc_of h0
    unfold sp_X7_isPeople at h
    split at h
    · exact Nat.le_of_ble_eq_true rfl
    · exact h.elim
  · exact List.forall_mem_cons.mpr ⟨z_coS (ct_X7_in l) kb_X7_in ks_X7_157 (by decide) (by decide), fun _ h => absurd h List.not_mem_nil⟩
  · intro as S P Po h0 V hV hW
    obtain ⟨as, rfl, h⟩ := z_rc_of h0
    unfold sp_X7_isPeople at h
    split at h
    · rename_i x1
      have hpo := h
      refine hV [] 13 0 _ _ _ _ ?_
      exact ⟨(by first | rfl | exact z_nb _), z_pb hpo (rfl) (rfl) (rfl)⟩
    · exact h.elim
def f_X7_isPerson (S : z_MI) (P : z_ML) (x1 : Int32) : Bool :=
  f_X7_in S P x1 (nI 0) ((S 110648 6) - (nI 1))
def sp_X7_isPerson : z_SP := fun as S P k => match as with
  | [.int x1] => k (some (.int (z_b (f_X7_isPerson S P x1)))) S P
  | _ => False
def G_X7_isPerson : z_G := ([(0, .iload_n 1, 1, 0), (1, .iconst 0, 2, 0), (2, .aload_n 0, 3, 0), (3, .getfield 161, 6, 0), (6, .iconst 1, 7, 0), (7, .isub, 8, 0), (8, .invokestatic 157, 11, 0), (11, .ireturn, 12, 0)], [(161, 110648, 6, none)], [(100157, 3, sp_X7_in)], [], [], [], [], some .boolean)
set_option maxRecDepth 20000 in
set_option maxHeartbeats 4000000 in
theorem ct_X7_isPerson (l : Launch) : z_CT l yX7_isPerson cX7_isPerson 2 (some .boolean) (z_rc 110648 sp_X7_isPerson) 1 := by
  refine z_CT_of G_X7_isPerson (by decide) (by decide +kernel) (z_pok_of ft_X7 ci_X7 cL_X7_L fo_X7 co_X7 lo_X7 (by decide +kernel)) rfl rfl ?_ ?_ ?_
  · intro as S P Po h0
    obtain ⟨as, rfl, h⟩ := z_rc_of h0
    unfold sp_X7_isPerson at h
    split at h
    · exact Nat.le_of_ble_eq_true rfl
    · exact h.elim
  · exact List.forall_mem_cons.mpr ⟨z_coS (ct_X7_in l) kb_X7_in ks_X7_157 (by decide) (by decide), fun _ h => absurd h List.not_mem_nil⟩
  · intro as S P Po h0 V hV hW
    obtain ⟨as, rfl, h⟩ := z_rc_of h0
    unfold sp_X7_isPerson at h
    split at h
    · rename_i x1
      have hpo := h
      refine hV [] 13 0 _ _ _ _ ?_
      exact ⟨(by first | rfl | exact z_nb _), z_pb hpo (rfl) (rfl) (rfl)⟩
    · exact h.elim
def f_X7_isPlace (S : z_MI) (P : z_ML) (x0 : Int32) : Bool :=
  f_X7_in S P x0 (nI 0) (nI 15)
def sp_X7_isPlace : z_SP := fun as S P k => match as with
  | [.int x0] => k (some (.int (z_b (f_X7_isPlace S P x0)))) S P
  | _ => False
def G_X7_isPlace : z_G := ([(0, .iload_n 0, 1, 0), (1, .iconst 0, 2, 0), (2, .bipush 15, 4, 0), (4, .invokestatic 157, 7, 0), (7, .ireturn, 8, 0)], [], [(100157, 3, sp_X7_in)], [], [], [], [], some .boolean)
set_option maxRecDepth 20000 in
set_option maxHeartbeats 4000000 in
theorem ct_X7_isPlace (l : Launch) : z_CT l yX7_isPlace cX7_isPlace 1 (some .boolean) sp_X7_isPlace 1 := by
  refine z_CT_of G_X7_isPlace (by decide) (by decide +kernel) (z_pok_of ft_X7 ci_X7 cL_X7_L fo_X7 co_X7 lo_X7 (by decide +kernel)) rfl rfl ?_ ?_ ?_
  · intro as S P Po h
    unfold sp_X7_isPlace at h
    split at h
    · exact Nat.le_of_ble_eq_true rfl
    · exact h.elim
  · exact List.forall_mem_cons.mpr ⟨z_coS (ct_X7_in l) kb_X7_in ks_X7_157 (by decide) (by decide), fun _ h => absurd h List.not_mem_nil⟩
  · intro as S P Po h V hV hW
    unfold sp_X7_isPlace at h
    split at h
    · rename_i x0
      have hpo := h
      refine hV [] 10 0 _ _ _ _ ?_
      exact ⟨(by first | rfl | exact z_nb _), z_pb hpo (rfl) (rfl) (rfl)⟩
    · exact h.elim
def f_X7_isStory (S : z_MI) (P : z_ML) (x1 : Int32) : Bool :=
  f_X7_in S P x1 (nI 0) ((S 110648 11) - (nI 1))
def sp_X7_isStory : z_SP := fun as S P k => match as with
  | [.int x1] => k (some (.int (z_b (f_X7_isStory S P x1)))) S P
  | _ => False
def G_X7_isStory : z_G := ([(0, .iload_n 1, 1, 0), (1, .iconst 0, 2, 0), (2, .aload_n 0, 3, 0), (3, .getfield 197, 6, 0), (6, .iconst 1, 7, 0), (7, .isub, 8, 0), (8, .invokestatic 157, 11, 0), (11, .ireturn, 12, 0)], [(197, 110648, 11, none)], [(100157, 3, sp_X7_in)], [], [], [], [], some .boolean)
set_option maxRecDepth 20000 in
set_option maxHeartbeats 4000000 in
theorem ct_X7_isStory (l : Launch) : z_CT l yX7_isStory cX7_isStory 2 (some .boolean) (z_rc 110648 sp_X7_isStory) 1 := by
  refine z_CT_of G_X7_isStory (by decide) (by decide +kernel) (z_pok_of ft_X7 ci_X7 cL_X7_L fo_X7 co_X7 lo_X7 (by decide +kernel)) rfl rfl ?_ ?_ ?_
  · intro as S P Po h0
    obtain ⟨as, rfl, h⟩ := z_rc_of h0
    unfold sp_X7_isStory at h
    split at h
    · exact Nat.le_of_ble_eq_true rfl
    · exact h.elim
  · exact List.forall_mem_cons.mpr ⟨z_coS (ct_X7_in l) kb_X7_in ks_X7_157 (by decide) (by decide), fun _ h => absurd h List.not_mem_nil⟩
  · intro as S P Po h0 V hV hW
    obtain ⟨as, rfl, h⟩ := z_rc_of h0
    unfold sp_X7_isStory at h
    split at h
    · rename_i x1
      have hpo := h
      refine hV [] 13 0 _ _ _ _ ?_
      exact ⟨(by first | rfl | exact z_nb _), z_pb hpo (rfl) (rfl) (rfl)⟩
    · exact h.elim
def f_X7_isAct (S : z_MI) (P : z_ML) (x1 : Int32) : Bool :=
  f_X7_in S P x1 (nI 0) ((S 110648 24) - (nI 1))
def sp_X7_isAct : z_SP := fun as S P k => match as with
  | [.int x1] => k (some (.int (z_b (f_X7_isAct S P x1)))) S P
  | _ => False
def G_X7_isAct : z_G := ([(0, .iload_n 1, 1, 0), (1, .iconst 0, 2, 0), (2, .aload_n 0, 3, 0), (3, .getfield 164, 6, 0), (6, .iconst 1, 7, 0), (7, .isub, 8, 0), (8, .invokestatic 157, 11, 0), (11, .ireturn, 12, 0)], [(164, 110648, 24, none)], [(100157, 3, sp_X7_in)], [], [], [], [], some .boolean)
set_option maxRecDepth 20000 in
set_option maxHeartbeats 4000000 in
theorem ct_X7_isAct (l : Launch) : z_CT l yX7_isAct cX7_isAct 2 (some .boolean) (z_rc 110648 sp_X7_isAct) 1 := by
  refine z_CT_of G_X7_isAct (by decide) (by decide +kernel) (z_pok_of ft_X7 ci_X7 cL_X7_L fo_X7 co_X7 lo_X7 (by decide +kernel)) rfl rfl ?_ ?_ ?_
  · intro as S P Po h0
    obtain ⟨as, rfl, h⟩ := z_rc_of h0
    unfold sp_X7_isAct at h
    split at h
    · exact Nat.le_of_ble_eq_true rfl
    · exact h.elim
  · exact List.forall_mem_cons.mpr ⟨z_coS (ct_X7_in l) kb_X7_in ks_X7_157 (by decide) (by decide), fun _ h => absurd h List.not_mem_nil⟩
  · intro as S P Po h0 V hV hW
    obtain ⟨as, rfl, h⟩ := z_rc_of h0
    unfold sp_X7_isAct at h
    split at h
    · rename_i x1
      have hpo := h
      refine hV [] 13 0 _ _ _ _ ?_
      exact ⟨(by first | rfl | exact z_nb _), z_pb hpo (rfl) (rfl) (rfl)⟩
    · exact h.elim
def f_X7_isClaim (S : z_MI) (P : z_ML) (x1 : Int32) : Bool :=
  f_X7_in S P x1 (nI 0) ((S 110648 33) - (nI 1))
def sp_X7_isClaim : z_SP := fun as S P k => match as with
  | [.int x1] => k (some (.int (z_b (f_X7_isClaim S P x1)))) S P
  | _ => False
def G_X7_isClaim : z_G := ([(0, .iload_n 1, 1, 0), (1, .iconst 0, 2, 0), (2, .aload_n 0, 3, 0), (3, .getfield 167, 6, 0), (6, .iconst 1, 7, 0), (7, .isub, 8, 0), (8, .invokestatic 157, 11, 0), (11, .ireturn, 12, 0)], [(167, 110648, 33, none)], [(100157, 3, sp_X7_in)], [], [], [], [], some .boolean)
set_option maxRecDepth 20000 in
set_option maxHeartbeats 4000000 in
theorem ct_X7_isClaim (l : Launch) : z_CT l yX7_isClaim cX7_isClaim 2 (some .boolean) (z_rc 110648 sp_X7_isClaim) 1 := by
  refine z_CT_of G_X7_isClaim (by decide) (by decide +kernel) (z_pok_of ft_X7 ci_X7 cL_X7_L fo_X7 co_X7 lo_X7 (by decide +kernel)) rfl rfl ?_ ?_ ?_
  · intro as S P Po h0
    obtain ⟨as, rfl, h⟩ := z_rc_of h0
    unfold sp_X7_isClaim at h
    split at h
    · exact Nat.le_of_ble_eq_true rfl
    · exact h.elim
  · exact List.forall_mem_cons.mpr ⟨z_coS (ct_X7_in l) kb_X7_in ks_X7_157 (by decide) (by decide), fun _ h => absurd h List.not_mem_nil⟩
  · intro as S P Po h0 V hV hW
    obtain ⟨as, rfl, h⟩ := z_rc_of h0
    unfold sp_X7_isClaim at h
    split at h
    · rename_i x1
      have hpo := h
      refine hV [] 13 0 _ _ _ _ ?_
      exact ⟨(by first | rfl | exact z_nb _), z_pb hpo (rfl) (rfl) (rfl)⟩
    · exact h.elim
def f_X7_isNotice (S : z_MI) (P : z_ML) (x1 : Int32) : Bool :=
  f_X7_in S P x1 (nI 0) ((S 110648 42) - (nI 1))
def sp_X7_isNotice : z_SP := fun as S P k => match as with
  | [.int x1] => k (some (.int (z_b (f_X7_isNotice S P x1)))) S P
  | _ => False
def G_X7_isNotice : z_G := ([(0, .iload_n 1, 1, 0), (1, .iconst 0, 2, 0), (2, .aload_n 0, 3, 0), (3, .getfield 170, 6, 0), (6, .iconst 1, 7, 0), (7, .isub, 8, 0), (8, .invokestatic 157, 11, 0), (11, .ireturn, 12, 0)], [(170, 110648, 42, none)], [(100157, 3, sp_X7_in)], [], [], [], [], some .boolean)
set_option maxRecDepth 20000 in
set_option maxHeartbeats 4000000 in
theorem ct_X7_isNotice (l : Launch) : z_CT l yX7_isNotice cX7_isNotice 2 (some .boolean) (z_rc 110648 sp_X7_isNotice) 1 := by
  refine z_CT_of G_X7_isNotice (by decide) (by decide +kernel) (z_pok_of ft_X7 ci_X7 cL_X7_L fo_X7 co_X7 lo_X7 (by decide +kernel)) rfl rfl ?_ ?_ ?_
  · intro as S P Po h0
    obtain ⟨as, rfl, h⟩ := z_rc_of h0
    unfold sp_X7_isNotice at h
    split at h
    · exact Nat.le_of_ble_eq_true rfl
    · exact h.elim
  · exact List.forall_mem_cons.mpr ⟨z_coS (ct_X7_in l) kb_X7_in ks_X7_157 (by decide) (by decide), fun _ h => absurd h List.not_mem_nil⟩
  · intro as S P Po h0 V hV hW
    obtain ⟨as, rfl, h⟩ := z_rc_of h0
    unfold sp_X7_isNotice at h
    split at h
    · rename_i x1
      have hpo := h
      refine hV [] 13 0 _ _ _ _ ?_
      exact ⟨(by first | rfl | exact z_nb _), z_pb hpo (rfl) (rfl) (rfl)⟩
    · exact h.elim
def f_X7_has (S : z_MI) (P : z_ML) (x0 : Int32) (x1 : Int32) : Bool :=
  if ((x0 >>> (x1 &&& 31)) &&& (nI 1)) = (nI 1) then
    true
  else
    false
def sp_X7_has : z_SP := fun as S P k => match as with
  | [.int x0, .int x1] => k (some (.int (z_b (f_X7_has S P x0 x1)))) S P
  | _ => False
def G_X7_has : z_G := ([(0, .iload_n 0, 1, 0), (1, .iload_n 1, 2, 0), (2, .ishr, 3, 0), (3, .iconst 1, 4, 0), (4, .iand, 5, 0), (5, .iconst 1, 6, 0), (6, .if_icmp .ne 7, 9, 13), (9, .iconst 1, 10, 0), (10, .goto 4, 13, 14), (13, .iconst 0, 14, 0), (14, .ireturn, 15, 0)], [], [], [], [], [], [], some .boolean)
set_option maxRecDepth 20000 in
set_option maxHeartbeats 4000000 in
theorem ct_X7_has (l : Launch) : z_CT l yX7_has cX7_has 2 (some .boolean) sp_X7_has 0 := by
  refine z_CT_of G_X7_has (by decide) (by decide +kernel) (z_pok_of ft_X7 ci_X7 cL_X7_L fo_X7 co_X7 lo_X7 (by decide +kernel)) rfl rfl ?_ ?_ ?_
  · intro as S P Po h
    unfold sp_X7_has at h
    split at h
    · exact Nat.le_of_ble_eq_true rfl
    · exact h.elim
  · exact fun _ h => absurd h List.not_mem_nil
  · intro as S P Po h V hV hW
    unfold sp_X7_has at h
    split at h
    · rename_i x0 x1
      have hpo := h
      refine hV [] 16 0 _ _ _ _ ?_
      refine ⟨fun (h1 : ¬ (((x0 >>> (x1 &&& 31)) &&& (nI 1)) = (nI 1))) => ?_, fun (h1 : ((x0 >>> (x1 &&& 31)) &&& (nI 1)) = (nI 1)) => ?_⟩
      · exact ⟨(by first | rfl | exact z_nb _), z_pb hpo ((if_neg h1).trans rfl) (rfl) (rfl)⟩
      · exact ⟨(by first | rfl | exact z_nb _), z_pb hpo ((if_pos h1).trans rfl) (rfl) (rfl)⟩
    · exact h.elim
def l_X7_bits_4 (S : z_MI) (P : z_ML) (x0 : Int32) (k4 : Nat) (a4 : Int32) : Int32 :=
  a4 + ((x0 >>> ((nI k4) &&& 31)) &&& (nI 1))
def f_X7_bits (S : z_MI) (P : z_ML) (x0 : Int32) : Int32 :=
  (z_fo (fun k4 a4 => l_X7_bits_4 S P x0 k4 a4) (nI 0) 31)
def sp_X7_bits : z_SP := fun as S P k => match as with
  | [.int x0] => k (some (.int (f_X7_bits S P x0))) S P
  | _ => False
def G_X7_bits : z_G := ([(0, .iconst 0, 1, 0), (1, .istore_n 1, 2, 0), (2, .iconst 0, 3, 0), (3, .istore_n 2, 4, 0), (4, .iload_n 2, 5, 0), (5, .bipush 31, 7, 0), (7, .if_icmp .ge 17, 10, 24), (10, .iload_n 1, 11, 0), (11, .iload_n 0, 12, 0), (12, .iload_n 2, 13, 0), (13, .ishr, 14, 0), (14, .iconst 1, 15, 0), (15, .iand, 16, 0), (16, .iadd, 17, 0), (17, .istore_n 1, 18, 0), (18, .iinc 2 1, 21, 0), (21, .goto (-17), 24, 4), (24, .iload_n 1, 25, 0), (25, .ireturn, 26, 0)], [], [], [], [], [], [], some .int)
set_option maxRecDepth 20000 in
set_option maxHeartbeats 4000000 in
theorem ct_X7_bits (l : Launch) : z_CT l yX7_bits cX7_bits 3 (some .int) sp_X7_bits 0 := by
  refine z_CT_of G_X7_bits (by decide) (by decide +kernel) (z_pok_of ft_X7 ci_X7 cL_X7_L fo_X7 co_X7 lo_X7 (by decide +kernel)) rfl rfl ?_ ?_ ?_
  · intro as S P Po h
    unfold sp_X7_bits at h
    split at h
    · exact Nat.le_of_ble_eq_true rfl
    · exact h.elim
  · exact fun _ h => absurd h List.not_mem_nil
  · intro as S P Po h V hV hW
    unfold sp_X7_bits at h
    split at h
    · rename_i x0
      have hpo := h
      refine hV [4] 24 0 _ _ _ _ ?_
      have hb4 : ((nI 31) : Int32) = (nI 31) := rfl
      have hL4 : ∀ (j k4 : Nat) (x900 : Int32) (a4 : Int32), k4 + j = 31 → x900 = nI k4 → a4 = z_fo (fun k4 a4 => l_X7_bits_4 S P x0 k4 a4) (nI 0) k4 → V 4 [(0, .int x0), (1, .int a4), (2, .int x900)] [] S P := by
        intro j
        induction j with
        | zero =>
          intro k4 x900 a4 hk4 hx4 ha4
          subst hx4
          have hk9 : k4 = 31 := by omega
          subst hk9
          subst ha4
          refine hV [4] 24 4 _ _ _ _ ?_
          refine ⟨fun _ => ?_, fun h => absurd ((z_brge hb4 (by omega) (by omega)).mpr (Nat.le_refl _)) h⟩
          exact z_pi hpo (rfl) (rfl) (rfl)
        | succ j ih =>
          intro k4 x900 a4 hk4 hx4 ha4
          subst hx4
          have hk9 : k4 < 31 := by omega
          subst ha4
          refine hV [4] 24 4 _ _ _ _ ?_
          refine ⟨fun h => absurd ((z_brge hb4 (by omega) (by omega)).mp h) (by omega), fun _ => ?_⟩
          exact hW [0, 1, 2] _ _ _ _ _ (ih (k4 + 1) _ ((z_fo (fun k4 a4 => l_X7_bits_4 S P x0 k4 a4) (nI 0) k4) + ((x0 >>> ((nI k4) &&& 31)) &&& (nI 1))) (by omega) (nI_add k4 1) ((rfl).symm))
      exact hW [0, 1, 2] _ _ _ _ _ (hL4 31 0 _ (nI 0) (Nat.zero_add _) rfl rfl)
    · exact h.elim
def f_X7_isIn (S : z_MI) (P : z_ML) (x0 : Int32) (x1 : Int32) : Bool :=
  if x1 = (-1) then
    false
  else
    if (f_X7_has S P x0 x1) = true then
      true
    else
      false
def sp_X7_isIn : z_SP := fun as S P k => match as with
  | [.int x0, .int x1] => k (some (.int (z_b (f_X7_isIn S P x0 x1)))) S P
  | _ => False
def G_X7_isIn : z_G := ([(0, .iload_n 1, 1, 0), (1, .iconst (-1), 2, 0), (2, .if_icmp .eq 15, 5, 17), (5, .iload_n 0, 6, 0), (6, .iload_n 1, 7, 0), (7, .invokestatic 180, 10, 0), (10, .ifCond .eq 7, 13, 17), (13, .iconst 1, 14, 0), (14, .goto 4, 17, 18), (17, .iconst 0, 18, 0), (18, .ireturn, 19, 0)], [], [(100180, 2, sp_X7_has)], [], [], [], [], some .boolean)
set_option maxRecDepth 20000 in
set_option maxHeartbeats 4000000 in
theorem ct_X7_isIn (l : Launch) : z_CT l yX7_isIn cX7_isIn 2 (some .boolean) sp_X7_isIn 1 := by
  refine z_CT_of G_X7_isIn (by decide) (by decide +kernel) (z_pok_of ft_X7 ci_X7 cL_X7_L fo_X7 co_X7 lo_X7 (by decide +kernel)) rfl rfl ?_ ?_ ?_
  · intro as S P Po h
    unfold sp_X7_isIn at h
    split at h
    · exact Nat.le_of_ble_eq_true rfl
    · exact h.elim
  · exact List.forall_mem_cons.mpr ⟨z_coS (ct_X7_has l) kb_X7_has ks_X7_180 (by decide) (by decide), fun _ h => absurd h List.not_mem_nil⟩
  · intro as S P Po h V hV hW
    unfold sp_X7_isIn at h
    split at h
    · rename_i x0 x1
      have hpo := h
      refine hV [] 16 0 _ _ _ _ ?_
      refine ⟨fun (h1 : x1 = (-1)) => ?_, fun (h1 : ¬ (x1 = (-1))) => ?_⟩
      · exact ⟨(by first | rfl | exact z_nb _), z_pb hpo ((if_pos h1).trans rfl) (rfl) (rfl)⟩
      · refine z_br (fun (h2 : (f_X7_has S P x0 x1) = false) => ?_) (fun (h2 : (f_X7_has S P x0 x1) = true) => ?_)
        · exact ⟨(by first | rfl | exact z_nb _), z_pb hpo ((if_neg h1).trans ((if_neg (z_nt h2)).trans rfl)) (rfl) (rfl)⟩
        · exact ⟨(by first | rfl | exact z_nb _), z_pb hpo ((if_neg h1).trans ((if_pos h2).trans rfl)) (rfl) (rfl)⟩
    · exact h.elim
def f_X7_age (S : z_MI) (P : z_ML) (x1 : Int32) : Int32 :=
  (S 110648 1) - (S 182369 x1.toNatClampNeg)
def sp_X7_age : z_SP := fun as S P k => match as with
  | [.int x1] => vp_in x1 12 ∧ k (some (.int (f_X7_age S P x1))) S P
  | _ => False
def G_X7_age : z_G := ([(0, .aload_n 0, 1, 0), (1, .getfield 209, 4, 0), (4, .aload_n 0, 5, 0), (5, .getfield 114, 8, 0), (8, .iload_n 1, 9, 0), (9, .iaload, 10, 0), (10, .isub, 11, 0), (11, .ireturn, 12, 0)], [(114, 110648, 43, some 182369), (209, 110648, 1, none)], [], [], [], [], [], some .int)
set_option maxRecDepth 20000 in
set_option maxHeartbeats 4000000 in
theorem ct_X7_age (l : Launch) : z_CT l yX7_age cX7_age 2 (some .int) (z_rc 110648 sp_X7_age) 0 := by
  refine z_CT_of G_X7_age (by decide) (by decide +kernel) (z_pok_of ft_X7 ci_X7 cL_X7_L fo_X7 co_X7 lo_X7 (by decide +kernel)) rfl rfl ?_ ?_ ?_
  · intro as S P Po h0
    obtain ⟨as, rfl, h⟩ := z_rc_of h0
    unfold sp_X7_age at h
    split at h
    · exact Nat.le_of_ble_eq_true rfl
    · exact h.elim
  · exact fun _ h => absurd h List.not_mem_nil
  · intro as S P Po h0 V hV hW
    obtain ⟨as, rfl, h⟩ := z_rc_of h0
    unfold sp_X7_age at h
    split at h
    · rename_i x1
      obtain ⟨hp0, hpo⟩ := h
      refine hV [] 13 0 _ _ _ _ ?_
      refine ⟨(show vp_in x1 12 by assumption), ?_⟩
      exact z_pi hpo (rfl) (rfl) (rfl)
    · exact h.elim
def z_JM (S : z_MI) : Prop := (z_le (S 110648 2) 6) ∧ (z_le (S 110648 6) 30) ∧ (z_le (S 110648 11) 10) ∧ (z_le (S 110648 16) 60) ∧ (z_le (S 110648 24) 40) ∧ (z_le (S 110648 33) 12) ∧ (z_le (S 110648 42) 12) ∧ (z_le (S 110648 1) 5000) ∧ (∀ i, vp_in (S 127057 i) 6) ∧ (∀ i, z_le (S 129105 i) 12) ∧ (∀ i, z_le (S 143409 i) 8) ∧ (∀ i, vp_in (S 165985 i) 6)
theorem z_J_Mpeoples {S : z_MI} (h : z_JM S) : z_le (S 110648 2) 6 := h.1
theorem z_J_Mpersons {S : z_MI} (h : z_JM S) : z_le (S 110648 6) 30 := h.2.1
theorem z_J_Mstories {S : z_MI} (h : z_JM S) : z_le (S 110648 11) 10 := h.2.2.1
theorem z_J_Mmarks {S : z_MI} (h : z_JM S) : z_le (S 110648 16) 60 := h.2.2.2.1
theorem z_J_Macts {S : z_MI} (h : z_JM S) : z_le (S 110648 24) 40 := h.2.2.2.2.1
theorem z_J_Mclaims {S : z_MI} (h : z_JM S) : z_le (S 110648 33) 12 := h.2.2.2.2.2.1
theorem z_J_Mnotices {S : z_MI} (h : z_JM S) : z_le (S 110648 42) 12 := h.2.2.2.2.2.2.1
theorem z_J_Mnow {S : z_MI} (h : z_JM S) : z_le (S 110648 1) 5000 := h.2.2.2.2.2.2.2.1
theorem z_J_Mstp {S : z_MI} (h : z_JM S) : ∀ i, vp_in (S 127057 i) 6 := h.2.2.2.2.2.2.2.2.1
theorem z_J_Mparts {S : z_MI} (h : z_JM S) : ∀ i, z_le (S 129105 i) 12 := h.2.2.2.2.2.2.2.2.2.1
theorem z_J_Mexpl {S : z_MI} (h : z_JM S) : ∀ i, z_le (S 143409 i) 8 := h.2.2.2.2.2.2.2.2.2.2.1
theorem z_J_Mclp {S : z_MI} (h : z_JM S) : ∀ i, vp_in (S 165985 i) 6 := h.2.2.2.2.2.2.2.2.2.2.2
theorem z_dec1 {a : Nat} : (nI (a + 1) : Int32) - nI 1 = nI a := by rw [← nI_add a 1]; exact Int32.add_sub_cancel _ _
theorem z_ckm {x c : Int32} {N : Nat} (h1 : ¬ x < nI 0) (h2 : ¬ (c - nI 1) < x) (hc : z_le c N) (hN : N < 2 ^ 31) : vp_in x N := by
  obtain ⟨n, hn, rfl⟩ := hc
  rw [vp_in_iff]
  rw [Int32.lt_iff_toInt_lt] at h1
  have h0 : (nI 0 : Int32).toInt = 0 := by decide
  cases n with
  | zero =>
    rw [Int32.lt_iff_toInt_lt] at h2
    have h3 : (nI 0 - nI 1 : Int32).toInt = -1 := by decide
    omega
  | succ n =>
    rw [z_dec1, Int32.lt_iff_toInt_lt, nI_toInt (by omega)] at h2
    omega
theorem z_hq0 (S : z_MI) (P : z_ML) : f_X7_holds S P (nI 0) = true := rfl
theorem z_hq1 (S : z_MI) (P : z_ML) : f_X7_holds S P (nI 1) = false := rfl
theorem z_hq2 (S : z_MI) (P : z_ML) : f_X7_holds S P (nI 2) = false := rfl
theorem z_hq3 (S : z_MI) (P : z_ML) : f_X7_holds S P (nI 3) = false := rfl
theorem z_hbT {b : Bool} {A B : Prop} (hb : b = true) (h : B) : (z_b b = 0 → A) ∧ (¬ z_b b = 0 → B) := by
  subst hb
  exact ⟨fun q => absurd q (by decide), fun _ => h⟩
theorem z_hbF {b : Bool} {A B : Prop} (hb : b = false) (h : A) : (z_b b = 0 → A) ∧ (¬ z_b b = 0 → B) := by
  subst hb
  exact ⟨fun _ => h, fun q => absurd (by decide) q⟩
theorem z_hnT {b : Bool} {A B : Prop} (hb : b = true) (h : A) : (¬ z_b b = 0 → A) ∧ (z_b b = 0 → B) := by
  subst hb
  exact ⟨fun _ => h, fun q => absurd q (by decide)⟩
theorem z_hnF {b : Bool} {A B : Prop} (hb : b = false) (h : B) : (¬ z_b b = 0 → A) ∧ (z_b b = 0 → B) := by
  subst hb
  exact ⟨fun q => absurd (by decide) q, fun _ => h⟩
theorem z_bs0 (b : Int32) : b = b + nI 0 := (Int32.add_zero b).symm
theorem z_bsS (b : Int32) (k : Nat) : (b + nI k) + nI 1 = b + nI (k + 1) := by
  rw [← nI_add k 1, Int32.add_assoc]
theorem z_brbs {b e : Int32} {m n k : Nat} (hB : b = nI m ∧ m < 2 ^ 20) (he : e = nI n) (hn : n < 2 ^ 20) (hk : k < 2 ^ 20) : b + e ≤ b + nI k ↔ n ≤ k := by
  rw [hB.1, he, nI_add, nI_add, nI_leI (by have := hB.2; omega) (by have := hB.2; omega)]
  omega
theorem z_base8 {x : Int32} (h : vp_in x 6) : ∃ m, m < 48 ∧ (nI 8 * x = nI m ∧ m < 2 ^ 20) := by
  obtain ⟨j, hj, rfl⟩ := vp_in_of h (by decide)
  exact ⟨8 * j, by omega, pk_mul 8 j, by omega⟩
theorem z_bi_i2b {v : Int32} (h : v = nI 0 ∨ v = nI 1) : v = z_b (z_i2b v) := by
  rcases h with h | h <;> subst h <;> decide
theorem z_pbi {Po : z_PO} {b : Bool} {v : Int32} {S S' : z_MI} {P P' : z_ML} (h : Po (some (.int (z_b b))) S P) (h1 : b = z_i2b v) (h2 : S = S') (h3 : P = P') (hv : v = nI 0 ∨ v = nI 1) : narrow .boolean (.int v) = .int v ∧ Po (some (.int v)) S' P' := by
  subst h1; subst h2; subst h3
  rw [← z_bi_i2b hv] at h
  refine ⟨?_, h⟩
  rcases hv with hv | hv <;> subst hv <;> rfl
theorem z_bi_fo {f : Nat → Int32 → Int32} {a : Int32} {n : Nat} (ha : a = nI 0 ∨ a = nI 1) (hf : ∀ k b, (b = nI 0 ∨ b = nI 1) → (f k b = nI 0 ∨ f k b = nI 1)) : z_fo f a n = nI 0 ∨ z_fo f a n = nI 1 := by
  induction n with
  | zero => exact ha
  | succ n ih => exact hf n _ ih
theorem z_le12 {c : Int32} (h : z_le c 10) : z_le (nI 12 * c) 120 := by
  obtain ⟨n, hn, rfl⟩ := h
  exact ⟨12 * n, by omega, pk_mul 12 n⟩
theorem z_in_m {x y : Int32} {m N M : Nat} (h : vp_in x N) (hy : vp_in y m) (hM : N * m ≤ M ∧ M < 2 ^ 31) (hm : m < 2 ^ 31) : vp_in (nI m * x + y) M := by
  obtain ⟨j, hj, rfl⟩ := vp_in_of hy hm
  rw [Int32.mul_comm]
  exact z_in_ma h hj hM
theorem z_rne {c : Int32} {n : Nat} (h : ¬ c = nI n) (hc : z_le c n) (hn : n < 2 ^ 31) : vp_in c n := by
  obtain ⟨k, hk, rfl⟩ := hc
  have h1 : k ≠ n := fun q => h (by rw [q])
  exact vp_in_nI (by omega) hn
theorem z_div12 {k : Nat} (hk : k < 120) : (nI k : Int32) / nI 12 = nI (k / 12) ∧ (nI k : Int32) - nI k / nI 12 * nI 12 = nI (k % 12) := by
  have h : ∀ j : Fin 120, (nI j.1 : Int32) / nI 12 = nI (j.1 / 12) ∧ (nI j.1 : Int32) - nI j.1 / nI 12 * nI 12 = nI (j.1 % 12) := by decide +kernel
  exact h ⟨k, hk⟩
theorem z_d12a {k : Nat} (hk : k < 120) : vp_in ((nI k : Int32) / nI 12) 10 := by
  rw [(z_div12 hk).1]
  exact vp_in_nI (by omega) (by omega)
theorem z_d12b {k : Nat} (hk : k < 120) : vp_in (nI 12 * ((nI k : Int32) / nI 12) + ((nI k : Int32) - nI k / nI 12 * nI 12)) 120 := by
  refine z_in_m (z_d12a hk) ?_ (by decide) (by decide)
  rw [(z_div12 hk).2]
  exact vp_in_nI (by omega) (by omega)
theorem m_isPeople {S : z_MI} {P : z_ML} {x : Int32} (hJ : z_JM S) (h : f_X7_isPeople S P x = true) : vp_in x 6 := by
  unfold f_X7_isPeople f_X7_in at h
  split at h
  · cases h
  · split at h
    · cases h
    · exact z_ckm ‹_› ‹_› (z_J_Mpeoples hJ) (by decide)
theorem m_isPerson {S : z_MI} {P : z_ML} {x : Int32} (hJ : z_JM S) (h : f_X7_isPerson S P x = true) : vp_in x 30 := by
  unfold f_X7_isPerson f_X7_in at h
  split at h
  · cases h
  · split at h
    · cases h
    · exact z_ckm ‹_› ‹_› (z_J_Mpersons hJ) (by decide)
theorem m_isStory {S : z_MI} {P : z_ML} {x : Int32} (hJ : z_JM S) (h : f_X7_isStory S P x = true) : vp_in x 10 := by
  unfold f_X7_isStory f_X7_in at h
  split at h
  · cases h
  · split at h
    · cases h
    · exact z_ckm ‹_› ‹_› (z_J_Mstories hJ) (by decide)
theorem m_isAct {S : z_MI} {P : z_ML} {x : Int32} (hJ : z_JM S) (h : f_X7_isAct S P x = true) : vp_in x 40 := by
  unfold f_X7_isAct f_X7_in at h
  split at h
  · cases h
  · split at h
    · cases h
    · exact z_ckm ‹_› ‹_› (z_J_Macts hJ) (by decide)
theorem m_isClaim {S : z_MI} {P : z_ML} {x : Int32} (hJ : z_JM S) (h : f_X7_isClaim S P x = true) : vp_in x 12 := by
  unfold f_X7_isClaim f_X7_in at h
  split at h
  · cases h
  · split at h
    · cases h
    · exact z_ckm ‹_› ‹_› (z_J_Mclaims hJ) (by decide)
theorem m_isNotice {S : z_MI} {P : z_ML} {x : Int32} (hJ : z_JM S) (h : f_X7_isNotice S P x = true) : vp_in x 12 := by
  unfold f_X7_isNotice f_X7_in at h
  split at h
  · cases h
  · split at h
    · cases h
    · exact z_ckm ‹_› ‹_› (z_J_Mnotices hJ) (by decide)
theorem m_isPlace {S : z_MI} {P : z_ML} {x : Int32} (h : f_X7_isPlace S P x = true) : vp_in x 16 := by
  unfold f_X7_isPlace f_X7_in at h
  split at h
  · cases h
  · split at h
    · cases h
    · exact z_ckm (c := nI 16) ‹_› ‹_› ⟨16, by decide, rfl⟩ (by decide)
theorem m_inPart {S : z_MI} {P : z_ML} {x y c : Int32} (hx : vp_in x 10) (hc : z_le c 12) (h : f_X7_in S P y (nI 0) (c - nI 1) = true) : vp_in (nI 12 * x + y) 120 := by
  unfold f_X7_in at h
  split at h
  · cases h
  · split at h
    · cases h
    · exact z_in_m hx (z_ckm ‹_› ‹_› hc (by decide)) (by decide) (by decide)
