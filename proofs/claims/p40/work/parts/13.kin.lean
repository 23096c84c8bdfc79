def f_X6_isIn (S : z_MI) (P : z_ML) (x0 : Int32) (x1 : Int32) : Bool :=
  if x1 < 0 then
    false
  else
    if ((((x0).toUInt32 >>> ((x1).toUInt32 &&& Int32.toUInt32 31)).toInt32) &&& (nI 1)) = (nI 1) then
      true
    else
      false
def sp_X6_isIn : z_SP := fun as S P k => match as with
  | [.int x0, .int x1] => k (some (.int (z_b (f_X6_isIn S P x0 x1)))) S P
  | _ => False
def G_X6_isIn : z_G := ([(0, .iload_n 1, 1, 0), (1, .ifCond .lt 16, 4, 17), (4, .iload_n 0, 5, 0), (5, .iload_n 1, 6, 0), (6, .iushr, 7, 0), (7, .iconst 1, 8, 0), (8, .iand, 9, 0), (9, .iconst 1, 10, 0), (10, .if_icmp .ne 7, 13, 17), (13, .iconst 1, 14, 0), (14, .goto 4, 17, 18), (17, .iconst 0, 18, 0), (18, .ireturn, 19, 0)], [], [], [], [], [], [], some .boolean)
set_option maxRecDepth 20000 in
set_option maxHeartbeats 4000000 in
theorem ct_X6_isIn (l : Launch) : z_CT l yX6_isIn cX6_isIn 2 (some .boolean) sp_X6_isIn 0 := by
  refine z_CT_of G_X6_isIn (by decide) (by decide +kernel) (z_pok_of ft_X6 ci_X6 cL_X6_L fo_X6 co_X6 lo_X6 (by decide +kernel)) rfl rfl ?_ ?_ ?_
  · intro as S P Po h
    unfold sp_X6_isIn at h
    split at h
    · exact Nat.le_of_ble_eq_true rfl
    · exact h.elim
  · exact fun _ h => absurd h List.not_mem_nil
  · intro as S P Po h V hV hW
    unfold sp_X6_isIn at h
    split at h
    · rename_i x0 x1
      have hpo := h
      refine hV [] 18 0 _ _ _ _ ?_
      refine ⟨fun (h1 : x1 < 0) => ?_, fun (h1 : ¬ (x1 < 0)) => ?_⟩
      · exact ⟨(by first | rfl | exact z_nb _), z_pb hpo ((if_pos h1).trans rfl) (rfl) (rfl)⟩
      · refine ⟨fun (h2 : ¬ (((((x0).toUInt32 >>> ((x1).toUInt32 &&& Int32.toUInt32 31)).toInt32) &&& (nI 1)) = (nI 1))) => ?_, fun (h2 : ((((x0).toUInt32 >>> ((x1).toUInt32 &&& Int32.toUInt32 31)).toInt32) &&& (nI 1)) = (nI 1)) => ?_⟩
        · exact ⟨(by first | rfl | exact z_nb _), z_pb hpo ((if_neg h1).trans ((if_neg h2).trans rfl)) (rfl) (rfl)⟩
        · exact ⟨(by first | rfl | exact z_nb _), z_pb hpo ((if_neg h1).trans ((if_pos h2).trans rfl)) (rfl) (rfl)⟩
    · exact h.elim
def f_X6_with (S : z_MI) (P : z_ML) (x0 : Int32) (x1 : Int32) (x2 : Int32) : Int32 :=
  if x2 = 0 then
    x0 &&& (((nI 1) <<< (x1 &&& 31)) ^^^ (-1))
  else
    x0 ||| ((nI 1) <<< (x1 &&& 31))
def sp_X6_with : z_SP := fun as S P k => match as with
  | [.int x0, .int x1, .int x2] => k (some (.int (f_X6_with S P x0 x1 x2))) S P
  | _ => False
def G_X6_with : z_G := ([(0, .iload_n 2, 1, 0), (1, .ifCond .eq 11, 4, 12), (4, .iload_n 0, 5, 0), (5, .iconst 1, 6, 0), (6, .iload_n 1, 7, 0), (7, .ishl, 8, 0), (8, .ior, 9, 0), (9, .goto 10, 12, 19), (12, .iload_n 0, 13, 0), (13, .iconst 1, 14, 0), (14, .iload_n 1, 15, 0), (15, .ishl, 16, 0), (16, .iconst (-1), 17, 0), (17, .ixor, 18, 0), (18, .iand, 19, 0), (19, .ireturn, 20, 0)], [], [], [], [], [], [], some .int)
set_option maxRecDepth 20000 in
set_option maxHeartbeats 4000000 in
theorem ct_X6_with (l : Launch) : z_CT l yX6_with cX6_with 3 (some .int) sp_X6_with 0 := by
  refine z_CT_of G_X6_with (by decide) (by decide +kernel) (z_pok_of ft_X6 ci_X6 cL_X6_L fo_X6 co_X6 lo_X6 (by decide +kernel)) rfl rfl ?_ ?_ ?_
  · intro as S P Po h
    unfold sp_X6_with at h
    split at h
    · exact Nat.le_of_ble_eq_true rfl
    · exact h.elim
  · exact fun _ h => absurd h List.not_mem_nil
  · intro as S P Po h V hV hW
    unfold sp_X6_with at h
    split at h
    · rename_i x0 x1 x2
      have hpo := h
      refine hV [] 21 0 _ _ _ _ ?_
      refine ⟨fun (h1 : x2 = 0) => ?_, fun (h1 : ¬ (x2 = 0)) => ?_⟩
      · exact z_pi hpo ((if_pos h1).trans rfl) (rfl) (rfl)
      · exact z_pi hpo ((if_neg h1).trans rfl) (rfl) (rfl)
    · exact h.elim
def f_X2_isPeople (S : z_MI) (P : z_ML) (x1 : Int32) : Bool :=
  if x1 < 0 then
    false
  else
    if (S 4112 6) ≤ x1 then
      false
    else
      true
def sp_X2_isPeople : z_SP := fun as S P k => match as with
  | [.int x1] => k (some (.int (z_b (f_X2_isPeople S P x1)))) S P
  | _ => False
def G_X2_isPeople : z_G := ([(0, .iload_n 1, 1, 0), (1, .ifCond .lt 15, 4, 16), (4, .iload_n 1, 5, 0), (5, .aload_n 0, 6, 0), (6, .getfield 30, 9, 0), (9, .if_icmp .ge 7, 12, 16), (12, .iconst 1, 13, 0), (13, .goto 4, 16, 17), (16, .iconst 0, 17, 0), (17, .ireturn, 18, 0)], [(30, 4112, 6, none)], [], [], [], [], [], some .boolean)
set_option maxRecDepth 20000 in
set_option maxHeartbeats 4000000 in
theorem ct_X2_isPeople (l : Launch) : z_CT l yX2_isPeople cX2_isPeople 2 (some .boolean) (z_rc 4112 sp_X2_isPeople) 0 := by
  refine z_CT_of G_X2_isPeople (by decide) (by decide +kernel) (z_pok_of ft_X2 ci_X2 cL_X2_L fo_X2 co_X2 lo_X2 (by decide +kernel)) rfl rfl ?_ ?_ ?_
  · intro as S P Po h0
    obtain ⟨as, rfl, h⟩ := z_rc_of h0
    unfold sp_X2_isPeople at h
    split at h
    · exact Nat.le_of_ble_eq_true rfl
    · exact h.elim
  · exact fun _ h => absurd h List.not_mem_nil
  · intro as S P Po h0 V hV hW
    obtain ⟨as, rfl, h⟩ := z_rc_of h0
    unfold sp_X2_isPeople at h
    split at h
    · rename_i x1
      have hpo := h
      refine hV [] 15 0 _ _ _ _ ?_
      refine ⟨fun (h1 : x1 < 0) => ?_, fun (h1 : ¬ (x1 < 0)) => ?_⟩
      · exact ⟨(by first | rfl | exact z_nb _), z_pb hpo ((if_pos h1).trans rfl) (rfl) (rfl)⟩
      · refine ⟨fun (h2 : (S 4112 6) ≤ x1) => ?_, fun (h2 : ¬ ((S 4112 6) ≤ x1)) => ?_⟩
        · exact ⟨(by first | rfl | exact z_nb _), z_pb hpo ((if_neg h1).trans ((if_pos h2).trans rfl)) (rfl) (rfl)⟩
        · exact ⟨(by first | rfl | exact z_nb _), z_pb hpo ((if_neg h1).trans ((if_neg h2).trans rfl)) (rfl) (rfl)⟩
    · exact h.elim
def f_X2_isPerson (S : z_MI) (P : z_ML) (x1 : Int32) : Bool :=
  if x1 < 0 then
    false
  else
    if (S 4112 7) ≤ x1 then
      false
    else
      true
def sp_X2_isPerson : z_SP := fun as S P k => match as with
  | [.int x1] => k (some (.int (z_b (f_X2_isPerson S P x1)))) S P
  | _ => False
def G_X2_isPerson : z_G := ([(0, .iload_n 1, 1, 0), (1, .ifCond .lt 15, 4, 16), (4, .iload_n 1, 5, 0), (5, .aload_n 0, 6, 0), (6, .getfield 34, 9, 0), (9, .if_icmp .ge 7, 12, 16), (12, .iconst 1, 13, 0), (13, .goto 4, 16, 17), (16, .iconst 0, 17, 0), (17, .ireturn, 18, 0)], [(34, 4112, 7, none)], [], [], [], [], [], some .boolean)
set_option maxRecDepth 20000 in
set_option maxHeartbeats 4000000 in
theorem ct_X2_isPerson (l : Launch) : z_CT l yX2_isPerson cX2_isPerson 2 (some .boolean) (z_rc 4112 sp_X2_isPerson) 0 := by
  refine z_CT_of G_X2_isPerson (by decide) (by decide +kernel) (z_pok_of ft_X2 ci_X2 cL_X2_L fo_X2 co_X2 lo_X2 (by decide +kernel)) rfl rfl ?_ ?_ ?_
  · intro as S P Po h0
    obtain ⟨as, rfl, h⟩ := z_rc_of h0
    unfold sp_X2_isPerson at h
    split at h
    · exact Nat.le_of_ble_eq_true rfl
    · exact h.elim
  · exact fun _ h => absurd h List.not_mem_nil
  · intro as S P Po h0 V hV hW
    obtain ⟨as, rfl, h⟩ := z_rc_of h0
    unfold sp_X2_isPerson at h
    split at h
    · rename_i x1
      have hpo := h
      refine hV [] 15 0 _ _ _ _ ?_
      refine ⟨fun (h1 : x1 < 0) => ?_, fun (h1 : ¬ (x1 < 0)) => ?_⟩
      · exact ⟨(by first | rfl | exact z_nb _), z_pb hpo ((if_pos h1).trans rfl) (rfl) (rfl)⟩
      · refine ⟨fun (h2 : (S 4112 7) ≤ x1) => ?_, fun (h2 : ¬ ((S 4112 7) ≤ x1)) => ?_⟩
        · exact ⟨(by first | rfl | exact z_nb _), z_pb hpo ((if_neg h1).trans ((if_pos h2).trans rfl)) (rfl) (rfl)⟩
        · exact ⟨(by first | rfl | exact z_nb _), z_pb hpo ((if_neg h1).trans ((if_neg h2).trans rfl)) (rfl) (rfl)⟩
    · exact h.elim
def f_X2_isPersonOrNone (S : z_MI) (P : z_ML) (x1 : Int32) : Bool :=
  if x1 = (-1) then
    true
  else
    if (f_X2_isPerson S P x1) = true then
      true
    else
      false
def sp_X2_isPersonOrNone : z_SP := fun as S P k => match as with
  | [.int x1] => k (some (.int (z_b (f_X2_isPersonOrNone S P x1)))) S P
  | _ => False
def G_X2_isPersonOrNone : z_G := ([(0, .iload_n 1, 1, 0), (1, .iconst (-1), 2, 0), (2, .if_icmp .eq 11, 5, 13), (5, .aload_n 0, 6, 0), (6, .iload_n 1, 7, 0), (7, .invokevirtual 37, 10, 0), (10, .ifCond .eq 7, 13, 17), (13, .iconst 1, 14, 0), (14, .goto 4, 17, 18), (17, .iconst 0, 18, 0), (18, .ireturn, 19, 0)], [], [(37, 2, (z_rc 4112 sp_X2_isPerson))], [], [], [], [], some .boolean)
set_option maxRecDepth 20000 in
set_option maxHeartbeats 4000000 in
theorem ct_X2_isPersonOrNone (l : Launch) : z_CT l yX2_isPersonOrNone cX2_isPersonOrNone 2 (some .boolean) (z_rc 4112 sp_X2_isPersonOrNone) 1 := by
  refine z_CT_of G_X2_isPersonOrNone (by decide) (by decide +kernel) (z_pok_of ft_X2 ci_X2 cL_X2_L fo_X2 co_X2 lo_X2 (by decide +kernel)) rfl rfl ?_ ?_ ?_
  · intro as S P Po h0
    obtain ⟨as, rfl, h⟩ := z_rc_of h0
    unfold sp_X2_isPersonOrNone at h
    split at h
    · exact Nat.le_of_ble_eq_true rfl
    · exact h.elim
  · exact List.forall_mem_cons.mpr ⟨z_coV (ct_X2_isPerson l) kb_X2_isPerson kv_X2_37 ko_X2 (by decide) (by decide) (by decide), fun _ h => absurd h List.not_mem_nil⟩
  · intro as S P Po h0 V hV hW
    obtain ⟨as, rfl, h⟩ := z_rc_of h0
    unfold sp_X2_isPersonOrNone at h
    split at h
    · rename_i x1
      have hpo := h
      refine hV [] 16 0 _ _ _ _ ?_
      refine ⟨fun (h1 : x1 = (-1)) => ?_, fun (h1 : ¬ (x1 = (-1))) => ?_⟩
      · exact ⟨(by first | rfl | exact z_nb _), z_pb hpo ((if_pos h1).trans rfl) (rfl) (rfl)⟩
      · refine z_br (fun (h2 : (f_X2_isPerson S P x1) = false) => ?_) (fun (h2 : (f_X2_isPerson S P x1) = true) => ?_)
        · exact ⟨(by first | rfl | exact z_nb _), z_pb hpo ((if_neg h1).trans ((if_neg (z_nt h2)).trans rfl)) (rfl) (rfl)⟩
        · exact ⟨(by first | rfl | exact z_nb _), z_pb hpo ((if_neg h1).trans ((if_pos h2).trans rfl)) (rfl) (rfl)⟩
    · exact h.elim
def f_X2_addPeople (S : z_MI) (P : z_ML) (x1 : Int32) : Int32 :=
  S 4112 6
def u_X2_addPeople (S : z_MI) (P : z_ML) (x1 : Int32) : z_MI :=
  va_up (va_up S 20529 (upd (S 20529) ((S 4112 6).toNatClampNeg) x1)) 4112 (upd ((va_up S 20529 (upd (S 20529) ((S 4112 6).toNatClampNeg) x1)) 4112) 6 ((S 4112 6) + (nI 1)))
def sp_X2_addPeople : z_SP := fun as S P k => match as with
  | [.int x1] => vp_in (S 4112 6) 6 ∧ k (some (.int (f_X2_addPeople S P x1))) (u_X2_addPeople S P x1) P
  | _ => False
def G_X2_addPeople : z_G := ([(0, .aload_n 0, 1, 0), (1, .getfield 30, 4, 0), (4, .istore_n 2, 5, 0), (5, .aload_n 0, 6, 0), (6, .getfield 9, 9, 0), (9, .iload_n 2, 10, 0), (10, .iload_n 1, 11, 0), (11, .iastore, 12, 0), (12, .aload_n 0, 13, 0), (13, .dup, 14, 0), (14, .getfield 30, 17, 0), (17, .iconst 1, 18, 0), (18, .iadd, 19, 0), (19, .putfield 30, 22, 0), (22, .iload_n 2, 23, 0), (23, .ireturn, 24, 0)], [(9, 4112, 0, some 20529), (30, 4112, 6, none)], [], [], [], [], [], some .int)
set_option maxRecDepth 20000 in
set_option maxHeartbeats 4000000 in
theorem ct_X2_addPeople (l : Launch) : z_CT l yX2_addPeople cX2_addPeople 3 (some .int) (z_rc 4112 sp_X2_addPeople) 0 := by
  refine z_CT_of G_X2_addPeople (by decide) (by decide +kernel) (z_pok_of ft_X2 ci_X2 cL_X2_L fo_X2 co_X2 lo_X2 (by decide +kernel)) rfl rfl ?_ ?_ ?_
  · intro as S P Po h0
    obtain ⟨as, rfl, h⟩ := z_rc_of h0
    unfold sp_X2_addPeople at h
    split at h
    · exact Nat.le_of_ble_eq_true rfl
    · exact h.elim
  · exact fun _ h => absurd h List.not_mem_nil
  · intro as S P Po h0 V hV hW
    obtain ⟨as, rfl, h⟩ := z_rc_of h0
    unfold sp_X2_addPeople at h
    split at h
    · rename_i x1
      obtain ⟨hp0, hpo⟩ := h
      refine hV [] 21 0 _ _ _ _ ?_
      refine ⟨(show vp_in (S 4112 6) 6 by assumption), ?_⟩
      exact z_pi hpo (rfl) (rfl) (rfl)
    · exact h.elim
def f_X2_addPerson (S : z_MI) (P : z_ML) (x1 : Int32) (x2 : Int32) : Int32 :=
  S 4112 7
def u_X2_addPerson (S : z_MI) (P : z_ML) (x1 : Int32) (x2 : Int32) : z_MI :=
  va_up (va_up (va_up (va_up S 24817 (upd (S 24817) ((S 4112 7).toNatClampNeg) x1)) 26865 (upd ((va_up S 24817 (upd (S 24817) ((S 4112 7).toNatClampNeg) x1)) 26865) ((S 4112 7).toNatClampNeg) x2)) 28913 (upd ((va_up (va_up S 24817 (upd (S 24817) ((S 4112 7).toNatClampNeg) x1)) 26865 (upd ((va_up S 24817 (upd (S 24817) ((S 4112 7).toNatClampNeg) x1)) 26865) ((S 4112 7).toNatClampNeg) x2)) 28913) ((S 4112 7).toNatClampNeg) (-1))) 4112 (upd ((va_up (va_up (va_up S 24817 (upd (S 24817) ((S 4112 7).toNatClampNeg) x1)) 26865 (upd ((va_up S 24817 (upd (S 24817) ((S 4112 7).toNatClampNeg) x1)) 26865) ((S 4112 7).toNatClampNeg) x2)) 28913 (upd ((va_up (va_up S 24817 (upd (S 24817) ((S 4112 7).toNatClampNeg) x1)) 26865 (upd ((va_up S 24817 (upd (S 24817) ((S 4112 7).toNatClampNeg) x1)) 26865) ((S 4112 7).toNatClampNeg) x2)) 28913) ((S 4112 7).toNatClampNeg) (-1))) 4112) 7 ((S 4112 7) + (nI 1)))
def sp_X2_addPerson : z_SP := fun as S P k => match as with
  | [.int x1, .int x2] => vp_in (S 4112 7) 30 ∧ k (some (.int (f_X2_addPerson S P x1 x2))) (u_X2_addPerson S P x1 x2) P
  | _ => False
def G_X2_addPerson : z_G := ([(0, .aload_n 0, 1, 0), (1, .getfield 34, 4, 0), (4, .istore_n 3, 5, 0), (5, .aload_n 0, 6, 0), (6, .getfield 18, 9, 0), (9, .iload_n 3, 10, 0), (10, .iload_n 1, 11, 0), (11, .iastore, 12, 0), (12, .aload_n 0, 13, 0), (13, .getfield 21, 16, 0), (16, .iload_n 3, 17, 0), (17, .iload_n 2, 18, 0), (18, .iastore, 19, 0), (19, .aload_n 0, 20, 0), (20, .getfield 24, 23, 0), (23, .iload_n 3, 24, 0), (24, .iconst (-1), 25, 0), (25, .iastore, 26, 0), (26, .aload_n 0, 27, 0), (27, .dup, 28, 0), (28, .getfield 34, 31, 0), (31, .iconst 1, 32, 0), (32, .iadd, 33, 0), (33, .putfield 34, 36, 0), (36, .iload_n 3, 37, 0), (37, .ireturn, 38, 0)], [(18, 4112, 2, some 24817), (21, 4112, 3, some 26865), (24, 4112, 4, some 28913), (34, 4112, 7, none)], [], [], [], [], [], some .int)
set_option maxRecDepth 20000 in
set_option maxHeartbeats 4000000 in
theorem ct_X2_addPerson (l : Launch) : z_CT l yX2_addPerson cX2_addPerson 4 (some .int) (z_rc 4112 sp_X2_addPerson) 0 := by
  refine z_CT_of G_X2_addPerson (by decide) (by decide +kernel) (z_pok_of ft_X2 ci_X2 cL_X2_L fo_X2 co_X2 lo_X2 (by decide +kernel)) rfl rfl ?_ ?_ ?_
  · intro as S P Po h0
    obtain ⟨as, rfl, h⟩ := z_rc_of h0
    unfold sp_X2_addPerson at h
    split at h
    · exact Nat.le_of_ble_eq_true rfl
    · exact h.elim
  · exact fun _ h => absurd h List.not_mem_nil
  · intro as S P Po h0 V hV hW
    obtain ⟨as, rfl, h⟩ := z_rc_of h0
    unfold sp_X2_addPerson at h
    split at h
    · rename_i x1 x2
      obtain ⟨hp0, hpo⟩ := h
      refine hV [] 31 0 _ _ _ _ ?_
      refine ⟨(show vp_in (S 4112 7) 30 by assumption), ?_⟩
      refine ⟨(show vp_in (S 4112 7) 30 by assumption), ?_⟩
      refine ⟨(show vp_in (S 4112 7) 30 by assumption), ?_⟩
      exact z_pi hpo (rfl) (rfl) (rfl)
    · exact h.elim
def f_X2_isNext (S : z_MI) (P : z_ML) (x1 : Int32) (x2 : Int32) (x3 : Int32) : Bool :=
  if x3 = (nI 1) then
    if x3 = 0 then
      if (f_X6_isIn S P x1 (S 28913 x2.toNatClampNeg)) = true then
        true
      else
        false
    else
      if (f_X6_isIn S P x1 (S 26865 x2.toNatClampNeg)) = true then
        true
      else
        if (f_X6_isIn S P x1 (S 28913 x2.toNatClampNeg)) = true then
          true
        else
          false
  else
    if (f_X6_isIn S P x1 (S 24817 x2.toNatClampNeg)) = true then
      true
    else
      if x3 = 0 then
        if (f_X6_isIn S P x1 (S 28913 x2.toNatClampNeg)) = true then
          true
        else
          false
      else
        if (f_X6_isIn S P x1 (S 26865 x2.toNatClampNeg)) = true then
          true
        else
          if (f_X6_isIn S P x1 (S 28913 x2.toNatClampNeg)) = true then
            true
          else
            false
def sp_X2_isNext : z_SP := fun as S P k => match as with
  | [.int x1, .int x2, .int x3] => vp_in x2 30 ∧ k (some (.int (z_b (f_X2_isNext S P x1 x2 x3)))) S P
  | _ => False
def G_X2_isNext : z_G := ([(0, .iload_n 3, 1, 0), (1, .iconst 1, 2, 0), (2, .if_icmp .eq 16, 5, 18), (5, .iload_n 1, 6, 0), (6, .aload_n 0, 7, 0), (7, .getfield 18, 10, 0), (10, .iload_n 2, 11, 0), (11, .iaload, 12, 0), (12, .invokestatic 56, 15, 0), (15, .ifCond .ne 33, 18, 48), (18, .iload_n 3, 19, 0), (19, .ifCond .eq 16, 22, 35), (22, .iload_n 1, 23, 0), (23, .aload_n 0, 24, 0), (24, .getfield 21, 27, 0), (27, .iload_n 2, 28, 0), (28, .iaload, 29, 0), (29, .invokestatic 56, 32, 0), (32, .ifCond .ne 16, 35, 48), (35, .iload_n 1, 36, 0), (36, .aload_n 0, 37, 0), (37, .getfield 24, 40, 0), (40, .iload_n 2, 41, 0), (41, .iaload, 42, 0), (42, .invokestatic 56, 45, 0), (45, .ifCond .eq 7, 48, 52), (48, .iconst 1, 49, 0), (49, .goto 4, 52, 53), (52, .iconst 0, 53, 0), (53, .ireturn, 54, 0)], [(18, 4112, 2, some 24817), (21, 4112, 3, some 26865), (24, 4112, 4, some 28913)], [(100056, 2, sp_X6_isIn)], [], [], [], [], some .boolean)
set_option maxRecDepth 20000 in
set_option maxHeartbeats 4000000 in
theorem ct_X2_isNext (l : Launch) : z_CT l yX2_isNext cX2_isNext 4 (some .boolean) (z_rc 4112 sp_X2_isNext) 1 := by
  refine z_CT_of G_X2_isNext (by decide) (by decide +kernel) (z_pok_of ft_X2 ci_X2 cL_X2_L fo_X2 co_X2 lo_X2 (by decide +kernel)) rfl rfl ?_ ?_ ?_
  · intro as S P Po h0
    obtain ⟨as, rfl, h⟩ := z_rc_of h0
    unfold sp_X2_isNext at h
    split at h
    · exact Nat.le_of_ble_eq_true rfl
    · exact h.elim
  · exact List.forall_mem_cons.mpr ⟨z_coN (host := "Songlinebench") (ct_X6_isIn l) kb_X6_isIn kn_X2_56 (by decide) (by decide), fun _ h => absurd h List.not_mem_nil⟩
  · intro as S P Po h0 V hV hW
    obtain ⟨as, rfl, h⟩ := z_rc_of h0
    unfold sp_X2_isNext at h
    split at h
    · rename_i x1 x2 x3
      obtain ⟨hp0, hpo⟩ := h
      refine hV [] 35 0 _ _ _ _ ?_
      refine ⟨fun (h1 : x3 = (nI 1)) => ?_, fun (h1 : ¬ (x3 = (nI 1))) => ?_⟩
      · refine ⟨fun (h2 : x3 = 0) => ?_, fun (h2 : ¬ (x3 = 0)) => ?_⟩
        · refine ⟨(show vp_in x2 30 by assumption), ?_⟩
          refine z_br (fun (h3 : (f_X6_isIn S P x1 (S 28913 x2.toNatClampNeg)) = false) => ?_) (fun (h3 : (f_X6_isIn S P x1 (S 28913 x2.toNatClampNeg)) = true) => ?_)
          · exact ⟨(by first | rfl | exact z_nb _), z_pb hpo ((if_pos h1).trans ((if_pos h2).trans ((if_neg (z_nt h3)).trans rfl))) (rfl) (rfl)⟩
          · exact ⟨(by first | rfl | exact z_nb _), z_pb hpo ((if_pos h1).trans ((if_pos h2).trans ((if_pos h3).trans rfl))) (rfl) (rfl)⟩
        · refine ⟨(show vp_in x2 30 by assumption), ?_⟩
          refine z_brn (fun (h4 : (f_X6_isIn S P x1 (S 26865 x2.toNatClampNeg)) = true) => ?_) (fun (h4 : (f_X6_isIn S P x1 (S 26865 x2.toNatClampNeg)) = false) => ?_)
          · exact ⟨(by first | rfl | exact z_nb _), z_pb hpo ((if_pos h1).trans ((if_neg h2).trans ((if_pos h4).trans rfl))) (rfl) (rfl)⟩
          · refine ⟨(show vp_in x2 30 by assumption), ?_⟩
            refine z_br (fun (h5 : (f_X6_isIn S P x1 (S 28913 x2.toNatClampNeg)) = false) => ?_) (fun (h5 : (f_X6_isIn S P x1 (S 28913 x2.toNatClampNeg)) = true) => ?_)
            · exact ⟨(by first | rfl | exact z_nb _), z_pb hpo ((if_pos h1).trans ((if_neg h2).trans ((if_neg (z_nt h4)).trans ((if_neg (z_nt h5)).trans rfl)))) (rfl) (rfl)⟩
            · exact ⟨(by first | rfl | exact z_nb _), z_pb hpo ((if_pos h1).trans ((if_neg h2).trans ((if_neg (z_nt h4)).trans ((if_pos h5).trans rfl)))) (rfl) (rfl)⟩
      · refine ⟨(show vp_in x2 30 by assumption), ?_⟩
        refine z_brn (fun (h6 : (f_X6_isIn S P x1 (S 24817 x2.toNatClampNeg)) = true) => ?_) (fun (h6 : (f_X6_isIn S P x1 (S 24817 x2.toNatClampNeg)) = false) => ?_)
        · exact ⟨(by first | rfl | exact z_nb _), z_pb hpo ((if_neg h1).trans ((if_pos h6).trans rfl)) (rfl) (rfl)⟩
        · refine ⟨fun (h7 : x3 = 0) => ?_, fun (h7 : ¬ (x3 = 0)) => ?_⟩
          · refine ⟨(show vp_in x2 30 by assumption), ?_⟩
            refine z_br (fun (h8 : (f_X6_isIn S P x1 (S 28913 x2.toNatClampNeg)) = false) => ?_) (fun (h8 : (f_X6_isIn S P x1 (S 28913 x2.toNatClampNeg)) = true) => ?_)
            · exact ⟨(by first | rfl | exact z_nb _), z_pb hpo ((if_neg h1).trans ((if_neg (z_nt h6)).trans ((if_pos h7).trans ((if_neg (z_nt h8)).trans rfl)))) (rfl) (rfl)⟩
            · exact ⟨(by first | rfl | exact z_nb _), z_pb hpo ((if_neg h1).trans ((if_neg (z_nt h6)).trans ((if_pos h7).trans ((if_pos h8).trans rfl)))) (rfl) (rfl)⟩
          · refine ⟨(show vp_in x2 30 by assumption), ?_⟩
            refine z_brn (fun (h9 : (f_X6_isIn S P x1 (S 26865 x2.toNatClampNeg)) = true) => ?_) (fun (h9 : (f_X6_isIn S P x1 (S 26865 x2.toNatClampNeg)) = false) => ?_)
            · exact ⟨(by first | rfl | exact z_nb _), z_pb hpo ((if_neg h1).trans ((if_neg (z_nt h6)).trans ((if_neg h7).trans ((if_pos h9).trans rfl)))) (rfl) (rfl)⟩
            · refine ⟨(show vp_in x2 30 by assumption), ?_⟩
              refine z_br (fun (h10 : (f_X6_isIn S P x1 (S 28913 x2.toNatClampNeg)) = false) => ?_) (fun (h10 : (f_X6_isIn S P x1 (S 28913 x2.toNatClampNeg)) = true) => ?_)
              · exact ⟨(by first | rfl | exact z_nb _), z_pb hpo ((if_neg h1).trans ((if_neg (z_nt h6)).trans ((if_neg h7).trans ((if_neg (z_nt h9)).trans ((if_neg (z_nt h10)).trans rfl))))) (rfl) (rfl)⟩
              · exact ⟨(by first | rfl | exact z_nb _), z_pb hpo ((if_neg h1).trans ((if_neg (z_nt h6)).trans ((if_neg h7).trans ((if_neg (z_nt h9)).trans ((if_pos h10).trans rfl))))) (rfl) (rfl)⟩
    · exact h.elim
def l_X2_withNext_5 (S : z_MI) (P : z_ML) (x1 : Int32) (x2 : Int32) (k5 : Nat) (a5 : Int32) : Int32 :=
  if (f_X2_isNext S P a5 (nI k5) x2) = true then
    f_X6_with S P a5 (nI k5) (nI 1)
  else
    a5
def f_X2_withNext (S : z_MI) (P : z_ML) (x1 : Int32) (x2 : Int32) : Int32 :=
  (z_fo (fun k5 a5 => l_X2_withNext_5 S P x1 x2 k5 a5) x1 (S 4112 7).toNatClampNeg)
def sp_X2_withNext : z_SP := fun as S P k => match as with
  | [.int x1, .int x2] => z_le (S 4112 7) 30 ∧ k (some (.int (f_X2_withNext S P x1 x2))) S P
  | _ => False
def G_X2_withNext : z_G := ([(0, .iload_n 1, 1, 0), (1, .istore_n 3, 2, 0), (2, .iconst 0, 3, 0), (3, .istore 4, 5, 0), (5, .iload 4, 7, 0), (7, .aload_n 0, 8, 0), (8, .getfield 34, 11, 0), (11, .if_icmp .ge 28, 14, 39), (14, .aload_n 0, 15, 0), (15, .iload_n 3, 16, 0), (16, .iload 4, 18, 0), (18, .iload_n 2, 19, 0), (19, .invokevirtual 48, 22, 0), (22, .ifCond .eq 11, 25, 33), (25, .iload_n 3, 26, 0), (26, .iload 4, 28, 0), (28, .iconst 1, 29, 0), (29, .invokestatic 52, 32, 0), (32, .istore_n 3, 33, 0), (33, .iinc 4 1, 36, 0), (36, .goto (-31), 39, 5), (39, .iload_n 3, 40, 0), (40, .ireturn, 41, 0)], [(34, 4112, 7, none)], [(100052, 3, sp_X6_with), (48, 4, (z_rc 4112 sp_X2_isNext))], [], [], [], [], some .int)
set_option maxRecDepth 20000 in
set_option maxHeartbeats 4000000 in
theorem ct_X2_withNext (l : Launch) : z_CT l yX2_withNext cX2_withNext 5 (some .int) (z_rc 4112 sp_X2_withNext) 2 := by
  refine z_CT_of G_X2_withNext (by decide) (by decide +kernel) (z_pok_of ft_X2 ci_X2 cL_X2_L fo_X2 co_X2 lo_X2 (by decide +kernel)) rfl rfl ?_ ?_ ?_
  · intro as S P Po h0
    obtain ⟨as, rfl, h⟩ := z_rc_of h0
    unfold sp_X2_withNext at h
    split at h
    · exact Nat.le_of_ble_eq_true rfl
    · exact h.elim
  · exact List.forall_mem_cons.mpr ⟨z_coN (host := "Songlinebench") (ct_X6_with l) kb_X6_with kn_X2_52 (by decide) (by decide), List.forall_mem_cons.mpr ⟨z_coV (ct_X2_isNext l) kb_X2_isNext kv_X2_48 ko_X2 (by decide) (by decide) (by decide), fun _ h => absurd h List.not_mem_nil⟩⟩
  · intro as S P Po h0 V hV hW
    obtain ⟨as, rfl, h⟩ := z_rc_of h0
    unfold sp_X2_withNext at h
    split at h
    · rename_i x1 x2
      obtain ⟨hp0, hpo⟩ := h
      refine hV [5] 28 0 _ _ _ _ ?_
      obtain ⟨hb5, hN5⟩ := z_le_cl (show z_le (S 4112 7) 30 by assumption) (by decide)
      have hL5 : ∀ (j k5 : Nat) (x900 : Int32) (a5 : Int32), k5 + j = (S 4112 7).toNatClampNeg → x900 = nI k5 → a5 = z_fo (fun k5 a5 => l_X2_withNext_5 S P x1 x2 k5 a5) x1 k5 → V 5 [(0, .ref 4112), (1, .int x1), (2, .int x2), (3, .int a5), (4, .int x900)] [] S P := by
        intro j
        induction j with
        | zero =>
          intro k5 x900 a5 hk5 hx5 ha5
          subst hx5
          have hk9 : k5 = (S 4112 7).toNatClampNeg := by omega
          subst hk9
          subst ha5
          refine hV [5] 28 5 _ _ _ _ ?_
          refine ⟨fun _ => ?_, fun h => absurd ((z_brge hb5 (by omega) (by omega)).mpr (Nat.le_refl _)) h⟩
          exact z_pi hpo (rfl) (rfl) (rfl)
        | succ j ih =>
          intro k5 x900 a5 hk5 hx5 ha5
          subst hx5
          have hk9 : k5 < (S 4112 7).toNatClampNeg := by omega
          subst ha5
          refine hV [5] 28 5 _ _ _ _ ?_
          refine ⟨fun h => absurd ((z_brge hb5 (by omega) (by omega)).mp h) (by omega), fun _ => ?_⟩
          refine ⟨(show vp_in (nI k5) 30 by exact vp_in_nI (by omega) (by omega)), ?_⟩
          refine z_br (fun (h2 : (f_X2_isNext S P (z_fo (fun k5 a5 => l_X2_withNext_5 S P x1 x2 k5 a5) x1 k5) (nI k5) x2) = false) => ?_) (fun (h2 : (f_X2_isNext S P (z_fo (fun k5 a5 => l_X2_withNext_5 S P x1 x2 k5 a5) x1 k5) (nI k5) x2) = true) => ?_)
          · exact hW [0, 1, 2, 3, 4] _ _ _ _ _ (ih (k5 + 1) _ (z_fo (fun k5 a5 => l_X2_withNext_5 S P x1 x2 k5 a5) x1 k5) (by omega) (nI_add k5 1) (((if_neg (z_nt h2)).trans rfl).symm))
          · exact hW [0, 1, 2, 3, 4] _ _ _ _ _ (ih (k5 + 1) _ (f_X6_with S P (z_fo (fun k5 a5 => l_X2_withNext_5 S P x1 x2 k5 a5) x1 k5) (nI k5) (nI 1)) (by omega) (nI_add k5 1) (((if_pos h2).trans rfl).symm))
      exact hW [0, 1, 2, 3, 4] _ _ _ _ _ (hL5 (S 4112 7).toNatClampNeg 0 _ x1 (Nat.zero_add _) rfl rfl)
    · exact h.elim
