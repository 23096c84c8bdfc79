def f_X6_act (S : z_MI) (P : z_ML) (x1 : Int32) (x2 : Int32) (x3 : Int32) (x4 : Int32) (x5 : Int32) : Int32 :=
  if x1 < 0 then
    0
  else
    if (S 2096 8) < x1 then
      0
    else
      if (f_X6_isDeed S P x2 x3 x4) = true then
        if (f_X6_isLast S P x5 x4 x1) = true then
          if (S 10240 8) < (nI 40) then
            f_X0_add S P x1 x2 x3 x4 x5
          else
            0
        else
          0
      else
        0
def u_X6_act (S : z_MI) (P : z_ML) (x1 : Int32) (x2 : Int32) (x3 : Int32) (x4 : Int32) (x5 : Int32) : z_MI :=
  if x1 < 0 then
    S
  else
    if (S 2096 8) < x1 then
      S
    else
      if (f_X6_isDeed S P x2 x3 x4) = true then
        if (f_X6_isLast S P x5 x4 x1) = true then
          if (S 10240 8) < (nI 40) then
            u_X0_add S P x1 x2 x3 x4 x5
          else
            S
        else
          S
      else
        S
def e_X6_act (S : z_MI) (P : z_ML) (x1 : Int32) (x2 : Int32) (x3 : Int32) (x4 : Int32) (x5 : Int32) : Nat :=
  if x1 < 0 then
    2
  else
    if (S 2096 8) < x1 then
      2
    else
      if (f_X6_isDeed S P x2 x3 x4) = true then
        if (f_X6_isLast S P x5 x4 x1) = true then
          if (S 10240 8) < (nI 40) then
            0
          else
            3
        else
          2
      else
        2
def sp_X6_act : z_SX := fun as S P k kx => match as with
  | [.ref 2096, .int x1, .int x2, .int x3, .int x4, .int x5] => z_J S ∧ (match e_X6_act S P x1 x2 x3 x4 x5 with
      | 0 => k (some (.int (f_X6_act S P x1 x2 x3 x4 x5))) (u_X6_act S P x1 x2 x3 x4 x5) P
      | 1 => kx "java/lang/IndexOutOfBoundsException" S P
      | 2 => kx "java/lang/IllegalArgumentException" S P
      | _ => kx "java/lang/IllegalStateException" S P)
  | _ => False
def G_X6_act : z_G := ([(0, .iload_n 1, 1, 0), (1, .ifCond .lt 32, 4, 33), (4, .iload_n 1, 5, 0), (5, .aload_n 0, 6, 0), (6, .getfield 59, 9, 0), (9, .if_icmp .gt 24, 12, 33), (12, .iload_n 2, 13, 0), (13, .iload_n 3, 14, 0), (14, .iload 4, 16, 0), (16, .invokestatic 211, 19, 0), (19, .ifCond .eq 14, 22, 33), (22, .iload 5, 24, 0), (24, .iload 4, 26, 0), (26, .iload_n 1, 27, 0), (27, .invokestatic 214, 30, 0), (30, .ifCond .ne 13, 33, 43), (33, .new 63, 36, 0), (36, .dup, 37, 0), (37, .ldc 217, 39, 0), (39, .invokespecial 67, 42, 0), (42, .athrow, 43, 0), (43, .aload_n 0, 44, 0), (44, .getfield 33, 47, 0), (47, .getfield 219, 50, 0), (50, .bipush 40, 52, 0), (52, .if_icmp .lt 13, 55, 65), (55, .new 73, 58, 0), (58, .dup, 59, 0), (59, .ldc 220, 61, 0), (61, .invokespecial 77, 64, 0), (64, .athrow, 65, 0), (65, .aload_n 0, 66, 0), (66, .getfield 33, 69, 0), (69, .iload_n 1, 70, 0), (70, .iload_n 2, 71, 0), (71, .iload_n 3, 72, 0), (72, .iload 4, 74, 0), (74, .iload 5, 76, 0), (76, .invokevirtual 222, 79, 0), (79, .ireturn, 80, 0)], [(33, 2096, 3, some 10240), (59, 2096, 8, none), (219, 10240, 8, none)], [(100211, 3, sp_X6_isDeed), (100214, 3, sp_X6_isLast), (222, 6, (z_rc 10240 sp_X0_add))], [], [], [(33, "java/lang/IllegalArgumentException"), (55, "java/lang/IllegalStateException")], [], some .int)
def ss_X6_act : List z_ST := [(33, "java/lang/IllegalArgumentException", 63, 217, 67, "an argument is out of range", false), (55, "java/lang/IllegalStateException", 73, 220, 77, "there are 40 acts", false)]
set_option maxRecDepth 20000 in
set_option maxHeartbeats 4000000 in
theorem ct_X6_act (l : Launch) (hl9 : l.stackTraces = false) : z_CX l yX6_act cX6_act 6 (some .int) sp_X6_act 6 := by
  refine z_CX_of G_X6_act ss_X6_act hl9 (by decide) (by decide) (by decide +kernel) (z_pok_of ft_X6 ci_X6 cL_X6_L fo_X6 co_X6 lo_X6 (by decide +kernel)) rfl rfl (by decide +kernel) ?_ ?_ ?_
  · intro as S P Po Px h
    unfold sp_X6_act at h
    split at h
    · exact Nat.le_of_ble_eq_true rfl
    · exact h.elim
  · exact List.forall_mem_cons.mpr ⟨z_coS (ct_X6_isDeed l) kb_X6_isDeed ks_X6_211 (by decide) (by decide), List.forall_mem_cons.mpr ⟨z_coS (ct_X6_isLast l) kb_X6_isLast ks_X6_214 (by decide) (by decide), List.forall_mem_cons.mpr ⟨z_coV (ct_X0_add l) kb_X0_add kv_X6_222 ko_X0 (by decide) (by decide) (by decide), fun _ h => absurd h List.not_mem_nil⟩⟩⟩
  · intro as S P Po Px h V hV hW
    unfold sp_X6_act at h
    split at h
    · rename_i x1 x2 x3 x4 x5
      obtain ⟨hp0, hpo⟩ := h
      refine hV [] 45 0 _ _ _ _ ?_
      refine ⟨fun (h1 : x1 < 0) => ?_, fun (h1 : ¬ (x1 < 0)) => ?_⟩
      · have he : e_X6_act S P x1 x2 x3 x4 x5 = 2 := (if_pos h1).trans rfl
        rw [he] at hpo
        exact hpo
      · refine ⟨fun (h2 : (S 2096 8) < x1) => ?_, fun (h2 : ¬ ((S 2096 8) < x1)) => ?_⟩
        · have he : e_X6_act S P x1 x2 x3 x4 x5 = 2 := (if_neg h1).trans ((if_pos h2).trans rfl)
          rw [he] at hpo
          exact hpo
        · refine z_br (fun (h3 : (f_X6_isDeed S P x2 x3 x4) = false) => ?_) (fun (h3 : (f_X6_isDeed S P x2 x3 x4) = true) => ?_)
          · have he : e_X6_act S P x1 x2 x3 x4 x5 = 2 := (if_neg h1).trans ((if_neg h2).trans ((if_neg (z_nt h3)).trans rfl))
            rw [he] at hpo
            exact hpo
          · refine z_brn (fun (h4 : (f_X6_isLast S P x5 x4 x1) = true) => ?_) (fun (h4 : (f_X6_isLast S P x5 x4 x1) = false) => ?_)
            · refine ⟨fun (h5 : (S 10240 8) < (nI 40)) => ?_, fun (h5 : ¬ ((S 10240 8) < (nI 40))) => ?_⟩
              · refine ⟨(show vp_in (S 10240 8) 40 by first | exact z_room (by assumption) (z_J_acts hp0) (by decide) (by decide) | exact z_roomL (by assumption) (z_J_acts hp0) (by decide) (by decide)), ?_⟩
                have he : e_X6_act S P x1 x2 x3 x4 x5 = 0 := (if_neg h1).trans ((if_neg h2).trans ((if_pos h3).trans ((if_pos h4).trans ((if_pos h5).trans rfl))))
                rw [he] at hpo
                exact z_pi hpo ((if_neg h1).trans ((if_neg h2).trans ((if_pos h3).trans ((if_pos h4).trans ((if_pos h5).trans rfl))))) ((if_neg h1).trans ((if_neg h2).trans ((if_pos h3).trans ((if_pos h4).trans ((if_pos h5).trans rfl))))) (rfl)
              · have he : e_X6_act S P x1 x2 x3 x4 x5 = 3 := (if_neg h1).trans ((if_neg h2).trans ((if_pos h3).trans ((if_pos h4).trans ((if_neg h5).trans rfl))))
                rw [he] at hpo
                exact hpo
            · have he : e_X6_act S P x1 x2 x3 x4 x5 = 2 := (if_neg h1).trans ((if_neg h2).trans ((if_pos h3).trans ((if_neg (z_nt h4)).trans rfl)))
              rw [he] at hpo
              exact hpo
    · exact h.elim
def f_X6_voids (S : z_MI) (P : z_ML) (x1 : Int32) (x2 : Int32) : Bool :=
  if (f_X0_isAct S P x1) = true then
    if (S 67906 x1.toNatClampNeg) = x2 then
      false
    else
      true
  else
    false
def u_X6_voids (S : z_MI) (P : z_ML) (x1 : Int32) (x2 : Int32) : z_MI :=
  if (f_X0_isAct S P x1) = true then
    if (S 67906 x1.toNatClampNeg) = x2 then
      va_up S 67906 (upd (S 67906) x1.toNatClampNeg (vp_nar .boolean x2))
    else
      va_up S 67906 (upd (S 67906) x1.toNatClampNeg (vp_nar .boolean x2))
  else
    S
def e_X6_voids (S : z_MI) (P : z_ML) (x1 : Int32) (x2 : Int32) : Nat :=
  if (f_X0_isAct S P x1) = true then
    if (S 67906 x1.toNatClampNeg) = x2 then
      0
    else
      0
  else
    1
def sp_X6_voids : z_SX := fun as S P k kx => match as with
  | [.ref 2096, .int x1, .int x2] => z_J S ∧ (match e_X6_voids S P x1 x2 with
      | 0 => k (some (.int (z_b (f_X6_voids S P x1 x2)))) (u_X6_voids S P x1 x2) P
      | 1 => kx "java/lang/IndexOutOfBoundsException" S P
      | 2 => kx "java/lang/IllegalArgumentException" S P
      | _ => kx "java/lang/IllegalStateException" S P)
  | _ => False
def G_X6_voids : z_G := ([(0, .aload_n 0, 1, 0), (1, .getfield 33, 4, 0), (4, .iload_n 1, 5, 0), (5, .invokevirtual 225, 8, 0), (8, .ifCond .ne 13, 11, 21), (11, .new 86, 14, 0), (14, .dup, 15, 0), (15, .ldc 228, 17, 0), (17, .invokespecial 90, 20, 0), (20, .athrow, 21, 0), (21, .aload_n 0, 22, 0), (22, .getfield 33, 25, 0), (25, .getfield 230, 28, 0), (28, .iload_n 1, 29, 0), (29, .baload, 30, 0), (30, .iload_n 2, 31, 0), (31, .if_icmp .eq 7, 34, 38), (34, .iconst 1, 35, 0), (35, .goto 4, 38, 39), (38, .iconst 0, 39, 0), (39, .istore_n 3, 40, 0), (40, .aload_n 0, 41, 0), (41, .getfield 33, 44, 0), (44, .getfield 230, 47, 0), (47, .iload_n 1, 48, 0), (48, .iload_n 2, 49, 0), (49, .bastore, 50, 0), (50, .iload_n 3, 51, 0), (51, .ireturn, 52, 0)], [(33, 2096, 3, some 10240), (230, 10240, 6, some 67906)], [(225, 2, (z_rc 10240 sp_X0_isAct))], [], [], [(11, "java/lang/IndexOutOfBoundsException")], [], some .boolean)
def ss_X6_voids : List z_ST := [(11, "java/lang/IndexOutOfBoundsException", 86, 228, 90, "no such act", false)]
set_option maxRecDepth 20000 in
set_option maxHeartbeats 4000000 in
theorem ct_X6_voids (l : Launch) (hl9 : l.stackTraces = false) : z_CX l yX6_voids cX6_voids 4 (some .boolean) sp_X6_voids 6 := by
  refine z_CX_of G_X6_voids ss_X6_voids hl9 (by decide) (by decide) (by decide +kernel) (z_pok_of ft_X6 ci_X6 cL_X6_L fo_X6 co_X6 lo_X6 (by decide +kernel)) rfl rfl (by decide +kernel) ?_ ?_ ?_
  · intro as S P Po Px h
    unfold sp_X6_voids at h
    split at h
    · exact Nat.le_of_ble_eq_true rfl
    · exact h.elim
  · exact List.forall_mem_cons.mpr ⟨z_coV (ct_X0_isAct l) kb_X0_isAct kv_X6_225 ko_X0 (by decide) (by decide) (by decide), fun _ h => absurd h List.not_mem_nil⟩
  · intro as S P Po Px h V hV hW
    unfold sp_X6_voids at h
    split at h
    · rename_i x1 x2
      obtain ⟨hp0, hpo⟩ := h
      refine hV [] 34 0 _ _ _ _ ?_
      refine z_brn (fun (h1 : (f_X0_isAct S P x1) = true) => ?_) (fun (h1 : (f_X0_isAct S P x1) = false) => ?_)
      · refine ⟨(show vp_in x1 40 by first | exact t_isAct hp0 (by assumption)), ?_⟩
        refine ⟨fun (h2 : (S 67906 x1.toNatClampNeg) = x2) => ?_, fun (h2 : ¬ ((S 67906 x1.toNatClampNeg) = x2)) => ?_⟩
        · refine ⟨(show vp_in x1 40 by first | exact t_isAct hp0 (by assumption)), ?_⟩
          have he : e_X6_voids S P x1 x2 = 0 := (if_pos h1).trans ((if_pos h2).trans rfl)
          rw [he] at hpo
          exact ⟨(by first | rfl | exact z_nb _), z_pb hpo ((if_pos h1).trans ((if_pos h2).trans rfl)) ((if_pos h1).trans ((if_pos h2).trans rfl)) (rfl)⟩
        · refine ⟨(show vp_in x1 40 by first | exact t_isAct hp0 (by assumption)), ?_⟩
          have he : e_X6_voids S P x1 x2 = 0 := (if_pos h1).trans ((if_neg h2).trans rfl)
          rw [he] at hpo
          exact ⟨(by first | rfl | exact z_nb _), z_pb hpo ((if_pos h1).trans ((if_neg h2).trans rfl)) ((if_pos h1).trans ((if_neg h2).trans rfl)) (rfl)⟩
      · have he : e_X6_voids S P x1 x2 = 1 := (if_neg (z_nt h1)).trans rfl
        rw [he] at hpo
        exact hpo
    · exact h.elim
def f_X6_giveUp (S : z_MI) (P : z_ML) (x1 : Int32) : Int32 :=
  if (f_X0_isAct S P x1) = true then
    if (S 65857 x1.toNatClampNeg) = (-1) then
      (S 2096 8) - (S 55617 x1.toNatClampNeg)
    else
      0
  else
    0
def u_X6_giveUp (S : z_MI) (P : z_ML) (x1 : Int32) : z_MI :=
  if (f_X0_isAct S P x1) = true then
    if (S 65857 x1.toNatClampNeg) = (-1) then
      va_up S 65857 (upd (S 65857) x1.toNatClampNeg (S 2096 8))
    else
      S
  else
    S
def e_X6_giveUp (S : z_MI) (P : z_ML) (x1 : Int32) : Nat :=
  if (f_X0_isAct S P x1) = true then
    if (S 65857 x1.toNatClampNeg) = (-1) then
      0
    else
      3
  else
    1
def sp_X6_giveUp : z_SX := fun as S P k kx => match as with
  | [.ref 2096, .int x1] => z_J S ∧ (match e_X6_giveUp S P x1 with
      | 0 => k (some (.int (f_X6_giveUp S P x1))) (u_X6_giveUp S P x1) P
      | 1 => kx "java/lang/IndexOutOfBoundsException" S P
      | 2 => kx "java/lang/IllegalArgumentException" S P
      | _ => kx "java/lang/IllegalStateException" S P)
  | _ => False
def G_X6_giveUp : z_G := ([(0, .aload_n 0, 1, 0), (1, .getfield 33, 4, 0), (4, .iload_n 1, 5, 0), (5, .invokevirtual 225, 8, 0), (8, .ifCond .ne 13, 11, 21), (11, .new 86, 14, 0), (14, .dup, 15, 0), (15, .ldc 228, 17, 0), (17, .invokespecial 90, 20, 0), (20, .athrow, 21, 0), (21, .aload_n 0, 22, 0), (22, .getfield 33, 25, 0), (25, .getfield 234, 28, 0), (28, .iload_n 1, 29, 0), (29, .iaload, 30, 0), (30, .iconst (-1), 31, 0), (31, .if_icmp .eq 13, 34, 44), (34, .new 73, 37, 0), (37, .dup, 38, 0), (38, .ldc 237, 40, 0), (40, .invokespecial 77, 43, 0), (43, .athrow, 44, 0), (44, .aload_n 0, 45, 0), (45, .getfield 33, 48, 0), (48, .getfield 234, 51, 0), (51, .iload_n 1, 52, 0), (52, .aload_n 0, 53, 0), (53, .getfield 59, 56, 0), (56, .iastore, 57, 0), (57, .aload_n 0, 58, 0), (58, .getfield 59, 61, 0), (61, .aload_n 0, 62, 0), (62, .getfield 33, 65, 0), (65, .getfield 239, 68, 0), (68, .iload_n 1, 69, 0), (69, .iaload, 70, 0), (70, .isub, 71, 0), (71, .ireturn, 72, 0)], [(33, 2096, 3, some 10240), (59, 2096, 8, none), (234, 10240, 5, some 65857), (239, 10240, 0, some 55617)], [(225, 2, (z_rc 10240 sp_X0_isAct))], [], [], [(11, "java/lang/IndexOutOfBoundsException"), (34, "java/lang/IllegalStateException")], [], some .int)
def ss_X6_giveUp : List z_ST := [(11, "java/lang/IndexOutOfBoundsException", 86, 228, 90, "no such act", false), (34, "java/lang/IllegalStateException", 73, 237, 77, "the act was given up", false)]
set_option maxRecDepth 20000 in
set_option maxHeartbeats 4000000 in
theorem ct_X6_giveUp (l : Launch) (hl9 : l.stackTraces = false) : z_CX l yX6_giveUp cX6_giveUp 2 (some .int) sp_X6_giveUp 6 := by
  refine z_CX_of G_X6_giveUp ss_X6_giveUp hl9 (by decide) (by decide) (by decide +kernel) (z_pok_of ft_X6 ci_X6 cL_X6_L fo_X6 co_X6 lo_X6 (by decide +kernel)) rfl rfl (by decide +kernel) ?_ ?_ ?_
  · intro as S P Po Px h
    unfold sp_X6_giveUp at h
    split at h
    · exact Nat.le_of_ble_eq_true rfl
    · exact h.elim
  · exact List.forall_mem_cons.mpr ⟨z_coV (ct_X0_isAct l) kb_X0_isAct kv_X6_225 ko_X0 (by decide) (by decide) (by decide), fun _ h => absurd h List.not_mem_nil⟩
  · intro as S P Po Px h V hV hW
    unfold sp_X6_giveUp at h
    split at h
    · rename_i x1
      obtain ⟨hp0, hpo⟩ := h
      refine hV [] 43 0 _ _ _ _ ?_
      refine z_brn (fun (h1 : (f_X0_isAct S P x1) = true) => ?_) (fun (h1 : (f_X0_isAct S P x1) = false) => ?_)
      · refine ⟨(show vp_in x1 40 by first | exact t_isAct hp0 (by assumption)), ?_⟩
        refine ⟨fun (h2 : (S 65857 x1.toNatClampNeg) = (-1)) => ?_, fun (h2 : ¬ ((S 65857 x1.toNatClampNeg) = (-1))) => ?_⟩
        · refine ⟨(show vp_in x1 40 by first | exact t_isAct hp0 (by assumption)), ?_⟩
          refine ⟨(show vp_in x1 40 by first | exact t_isAct hp0 (by assumption)), ?_⟩
          have he : e_X6_giveUp S P x1 = 0 := (if_pos h1).trans ((if_pos h2).trans rfl)
          rw [he] at hpo
          exact z_pi hpo ((if_pos h1).trans ((if_pos h2).trans rfl)) ((if_pos h1).trans ((if_pos h2).trans rfl)) (rfl)
        · have he : e_X6_giveUp S P x1 = 3 := (if_pos h1).trans ((if_neg h2).trans rfl)
          rw [he] at hpo
          exact hpo
      · have he : e_X6_giveUp S P x1 = 1 := (if_neg (z_nt h1)).trans rfl
        rw [he] at hpo
        exact hpo
    · exact h.elim
def f_X6_left (S : z_MI) (P : z_ML) (x1 : Int32) (x2 : Int32) : Int32 :=
  if (f_X6_isPlace S P x1) = true then
    if (f_X6_isMonth S P x2) = true then
      f_X0_leftAt S P x1 x2
    else
      0
  else
    0
def e_X6_left (S : z_MI) (P : z_ML) (x1 : Int32) (x2 : Int32) : Nat :=
  if (f_X6_isPlace S P x1) = true then
    if (f_X6_isMonth S P x2) = true then
      0
    else
      2
  else
    1
def sp_X6_left : z_SX := fun as S P k kx => match as with
  | [.ref 2096, .int x1, .int x2] => z_J S ∧ (match e_X6_left S P x1 x2 with
      | 0 => k (some (.int (f_X6_left S P x1 x2))) S P
      | 1 => kx "java/lang/IndexOutOfBoundsException" S P
      | 2 => kx "java/lang/IllegalArgumentException" S P
      | _ => kx "java/lang/IllegalStateException" S P)
  | _ => False
def G_X6_left : z_G := ([(0, .iload_n 1, 1, 0), (1, .invokestatic 150, 4, 0), (4, .ifCond .ne 13, 7, 17), (7, .new 86, 10, 0), (10, .dup, 11, 0), (11, .ldc 242, 13, 0), (13, .invokespecial 90, 16, 0), (16, .athrow, 17, 0), (17, .iload_n 2, 18, 0), (18, .invokestatic 244, 21, 0), (21, .ifCond .ne 13, 24, 34), (24, .new 63, 27, 0), (27, .dup, 28, 0), (28, .ldc 247, 30, 0), (30, .invokespecial 67, 33, 0), (33, .athrow, 34, 0), (34, .aload_n 0, 35, 0), (35, .getfield 33, 38, 0), (38, .iload_n 1, 39, 0), (39, .iload_n 2, 40, 0), (40, .invokevirtual 249, 43, 0), (43, .ireturn, 44, 0)], [(33, 2096, 3, some 10240)], [(100150, 1, sp_X6_isPlace), (100244, 1, sp_X6_isMonth), (249, 3, (z_rc 10240 sp_X0_leftAt))], [], [], [(7, "java/lang/IndexOutOfBoundsException"), (24, "java/lang/IllegalArgumentException")], [], some .int)
def ss_X6_left : List z_ST := [(7, "java/lang/IndexOutOfBoundsException", 86, 242, 90, "no such place", false), (24, "java/lang/IllegalArgumentException", 63, 247, 67, "month is out of range", false)]
set_option maxRecDepth 20000 in
set_option maxHeartbeats 4000000 in
theorem ct_X6_left (l : Launch) (hl9 : l.stackTraces = false) : z_CX l yX6_left cX6_left 3 (some .int) sp_X6_left 6 := by
  refine z_CX_of G_X6_left ss_X6_left hl9 (by decide) (by decide) (by decide +kernel) (z_pok_of ft_X6 ci_X6 cL_X6_L fo_X6 co_X6 lo_X6 (by decide +kernel)) rfl rfl (by decide +kernel) ?_ ?_ ?_
  · intro as S P Po Px h
    unfold sp_X6_left at h
    split at h
    · exact Nat.le_of_ble_eq_true rfl
    · exact h.elim
  · exact List.forall_mem_cons.mpr ⟨z_coS (ct_X6_isPlace l) kb_X6_isPlace ks_X6_150 (by decide) (by decide), List.forall_mem_cons.mpr ⟨z_coS (ct_X6_isMonth l) kb_X6_isMonth ks_X6_244 (by decide) (by decide), List.forall_mem_cons.mpr ⟨z_coV (ct_X0_leftAt l) kb_X0_leftAt kv_X6_249 ko_X0 (by decide) (by decide) (by decide), fun _ h => absurd h List.not_mem_nil⟩⟩⟩
  · intro as S P Po Px h V hV hW
    unfold sp_X6_left at h
    split at h
    · rename_i x1 x2
      obtain ⟨hp0, hpo⟩ := h
      refine hV [] 27 0 _ _ _ _ ?_
      refine z_brn (fun (h1 : (f_X6_isPlace S P x1) = true) => ?_) (fun (h1 : (f_X6_isPlace S P x1) = false) => ?_)
      · refine z_brn (fun (h2 : (f_X6_isMonth S P x2) = true) => ?_) (fun (h2 : (f_X6_isMonth S P x2) = false) => ?_)
        · refine ⟨(show z_le (S 10240 8) 40 by exact z_J_acts hp0), ?_⟩
          have he : e_X6_left S P x1 x2 = 0 := (if_pos h1).trans ((if_pos h2).trans rfl)
          rw [he] at hpo
          exact z_pi hpo ((if_pos h1).trans ((if_pos h2).trans rfl)) (rfl) (rfl)
        · have he : e_X6_left S P x1 x2 = 2 := (if_pos h1).trans ((if_neg (z_nt h2)).trans rfl)
          rw [he] at hpo
          exact hpo
      · have he : e_X6_left S P x1 x2 = 1 := (if_neg (z_nt h1)).trans rfl
        rw [he] at hpo
        exact hpo
    · exact h.elim
def l_X6_leftAnew_39 (S : z_MI) (P : z_ML) (x1 : Int32) (x2 : Int32) (k39 : Nat) (a39 : Int32) : Int32 :=
  if (f_X0_isTaken S P (nI k39) x1 x2) = true then
    f_X6_with S P a39 (nI k39) (nI 0)
  else
    f_X6_with S P a39 (nI k39) (nI 1)
def f_X6_leftAnew (S : z_MI) (P : z_ML) (x1 : Int32) (x2 : Int32) : Int32 :=
  if (f_X6_isPlace S P x1) = true then
    if (f_X6_isMonth S P x2) = true then
      (z_fo (fun k39 a39 => l_X6_leftAnew_39 S P x1 x2 k39 a39) (nI 0) 5)
    else
      0
  else
    0
def e_X6_leftAnew (S : z_MI) (P : z_ML) (x1 : Int32) (x2 : Int32) : Nat :=
  if (f_X6_isPlace S P x1) = true then
    if (f_X6_isMonth S P x2) = true then
      0
    else
      2
  else
    1
def sp_X6_leftAnew : z_SX := fun as S P k kx => match as with
  | [.ref 2096, .int x1, .int x2] => z_J S ∧ (match e_X6_leftAnew S P x1 x2 with
      | 0 => k (some (.int (f_X6_leftAnew S P x1 x2))) S P
      | 1 => kx "java/lang/IndexOutOfBoundsException" S P
      | 2 => kx "java/lang/IllegalArgumentException" S P
      | _ => kx "java/lang/IllegalStateException" S P)
  | _ => False
def G_X6_leftAnew : z_G := ([(0, .iload_n 1, 1, 0), (1, .invokestatic 150, 4, 0), (4, .ifCond .ne 13, 7, 17), (7, .new 86, 10, 0), (10, .dup, 11, 0), (11, .ldc 242, 13, 0), (13, .invokespecial 90, 16, 0), (16, .athrow, 17, 0), (17, .iload_n 2, 18, 0), (18, .invokestatic 244, 21, 0), (21, .ifCond .ne 13, 24, 34), (24, .new 63, 27, 0), (27, .dup, 28, 0), (28, .ldc 247, 30, 0), (30, .invokespecial 67, 33, 0), (33, .athrow, 34, 0), (34, .iconst 0, 35, 0), (35, .istore_n 3, 36, 0), (36, .iconst 0, 37, 0), (37, .istore 4, 39, 0), (39, .iload 4, 41, 0), (41, .iconst 4, 42, 0), (42, .if_icmp .gt 35, 45, 77), (45, .iload_n 3, 46, 0), (46, .iload 4, 48, 0), (48, .aload_n 0, 49, 0), (49, .getfield 33, 52, 0), (52, .iload 4, 54, 0), (54, .iload_n 1, 55, 0), (55, .iload_n 2, 56, 0), (56, .invokevirtual 252, 59, 0), (59, .ifCond .ne 7, 62, 66), (62, .iconst 1, 63, 0), (63, .goto 4, 66, 67), (66, .iconst 0, 67, 0), (67, .invokestatic 113, 70, 0), (70, .istore_n 3, 71, 0), (71, .iinc 4 1, 74, 0), (74, .goto (-35), 77, 39), (77, .iload_n 3, 78, 0), (78, .ireturn, 79, 0)], [(33, 2096, 3, some 10240)], [(100113, 3, sp_X6_with), (100150, 1, sp_X6_isPlace), (100244, 1, sp_X6_isMonth), (252, 4, (z_rc 10240 sp_X0_isTaken))], [], [], [(7, "java/lang/IndexOutOfBoundsException"), (24, "java/lang/IllegalArgumentException")], [], some .int)
def ss_X6_leftAnew : List z_ST := [(7, "java/lang/IndexOutOfBoundsException", 86, 242, 90, "no such place", false), (24, "java/lang/IllegalArgumentException", 63, 247, 67, "month is out of range", false)]
set_option maxRecDepth 20000 in
set_option maxHeartbeats 4000000 in
theorem ct_X6_leftAnew (l : Launch) (hl9 : l.stackTraces = false) : z_CX l yX6_leftAnew cX6_leftAnew 5 (some .int) sp_X6_leftAnew 6 := by
  refine z_CX_of G_X6_leftAnew ss_X6_leftAnew hl9 (by decide) (by decide) (by decide +kernel) (z_pok_of ft_X6 ci_X6 cL_X6_L fo_X6 co_X6 lo_X6 (by decide +kernel)) rfl rfl (by decide +kernel) ?_ ?_ ?_
  · intro as S P Po Px h
    unfold sp_X6_leftAnew at h
    split at h
    · exact Nat.le_of_ble_eq_true rfl
    · exact h.elim
  · exact List.forall_mem_cons.mpr ⟨z_coS (ct_X6_with l) kb_X6_with ks_X6_113 (by decide) (by decide), List.forall_mem_cons.mpr ⟨z_coS (ct_X6_isPlace l) kb_X6_isPlace ks_X6_150 (by decide) (by decide), List.forall_mem_cons.mpr ⟨z_coS (ct_X6_isMonth l) kb_X6_isMonth ks_X6_244 (by decide) (by decide), List.forall_mem_cons.mpr ⟨z_coV (ct_X0_isTaken l) kb_X0_isTaken kv_X6_252 ko_X0 (by decide) (by decide) (by decide), fun _ h => absurd h List.not_mem_nil⟩⟩⟩⟩
  · intro as S P Po Px h V hV hW
    unfold sp_X6_leftAnew at h
    split at h
    · rename_i x1 x2
      obtain ⟨hp0, hpo⟩ := h
      refine hV [39] 46 0 _ _ _ _ ?_
      refine z_brn (fun (h1 : (f_X6_isPlace S P x1) = true) => ?_) (fun (h1 : (f_X6_isPlace S P x1) = false) => ?_)
      · refine z_brn (fun (h2 : (f_X6_isMonth S P x2) = true) => ?_) (fun (h2 : (f_X6_isMonth S P x2) = false) => ?_)
        · have hb39 : ((nI 5) : Int32) = (nI 5) := rfl
          have hL39 : ∀ (j k39 : Nat) (x900 : Int32) (a39 : Int32), k39 + j = 5 → x900 = nI k39 → a39 = z_fo (fun k39 a39 => l_X6_leftAnew_39 S P x1 x2 k39 a39) (nI 0) k39 → V 39 [(0, .ref 2096), (1, .int x1), (2, .int x2), (3, .int a39), (4, .int x900)] [] S P := by
            intro j
            induction j with
            | zero =>
              intro k39 x900 a39 hk39 hx39 ha39
              subst hx39
              have hk9 : k39 = 5 := by omega
              subst hk9
              subst ha39
              refine hV [39] 46 39 _ _ _ _ ?_
              refine ⟨fun _ => ?_, fun h => absurd ((z_brgt hb39 (by omega) (by omega)).mpr (Nat.le_refl _)) h⟩
              have he : e_X6_leftAnew S P x1 x2 = 0 := (if_pos h1).trans ((if_pos h2).trans rfl)
              rw [he] at hpo
              exact z_pi hpo ((if_pos h1).trans ((if_pos h2).trans rfl)) (rfl) (rfl)
            | succ j ih =>
              intro k39 x900 a39 hk39 hx39 ha39
              subst hx39
              have hk9 : k39 < 5 := by omega
              subst ha39
              refine hV [39] 46 39 _ _ _ _ ?_
              refine ⟨fun h => absurd ((z_brgt hb39 (by omega) (by omega)).mp h) (by omega), fun _ => ?_⟩
              refine ⟨(show z_le (S 10240 8) 40 by exact z_J_acts hp0), ?_⟩
              refine z_brn (fun (h4 : (f_X0_isTaken S P (nI k39) x1 x2) = true) => ?_) (fun (h4 : (f_X0_isTaken S P (nI k39) x1 x2) = false) => ?_)
              · exact hW [0, 1, 2, 3, 4] _ _ _ _ _ (ih (k39 + 1) _ (f_X6_with S P (z_fo (fun k39 a39 => l_X6_leftAnew_39 S P x1 x2 k39 a39) (nI 0) k39) (nI k39) (nI 0)) (by omega) (nI_add k39 1) (((if_pos h4).trans rfl).symm))
              · exact hW [0, 1, 2, 3, 4] _ _ _ _ _ (ih (k39 + 1) _ (f_X6_with S P (z_fo (fun k39 a39 => l_X6_leftAnew_39 S P x1 x2 k39 a39) (nI 0) k39) (nI k39) (nI 1)) (by omega) (nI_add k39 1) (((if_neg (z_nt h4)).trans rfl).symm))
          exact hW [0, 1, 2, 3, 4] _ _ _ _ _ (hL39 5 0 _ (nI 0) (Nat.zero_add _) rfl rfl)
        · have he : e_X6_leftAnew S P x1 x2 = 2 := (if_pos h1).trans ((if_neg (z_nt h2)).trans rfl)
          rw [he] at hpo
          exact hpo
      · have he : e_X6_leftAnew S P x1 x2 = 1 := (if_neg (z_nt h1)).trans rfl
        rw [he] at hpo
        exact hpo
    · exact h.elim
def f_X6_claim (S : z_MI) (P : z_ML) (x1 : Int32) (x2 : Int32) (x3 : Int32) : Int32 :=
  if (f_X2_isPeople S P x1) = true then
    if (f_X6_isSomePlaces S P x2) = true then
      if (f_X6_isSomeRights S P x3) = true then
        if (S 12296 8) < (nI 12) then
          f_X1_add S P x1 x2 x3
        else
          0
      else
        0
    else
      0
  else
    0
def u_X6_claim (S : z_MI) (P : z_ML) (x1 : Int32) (x2 : Int32) (x3 : Int32) : z_MI :=
  if (f_X2_isPeople S P x1) = true then
    if (f_X6_isSomePlaces S P x2) = true then
      if (f_X6_isSomeRights S P x3) = true then
        if (S 12296 8) < (nI 12) then
          u_X1_add S P x1 x2 x3
        else
          S
      else
        S
    else
      S
  else
    S
def e_X6_claim (S : z_MI) (P : z_ML) (x1 : Int32) (x2 : Int32) (x3 : Int32) : Nat :=
  if (f_X2_isPeople S P x1) = true then
    if (f_X6_isSomePlaces S P x2) = true then
      if (f_X6_isSomeRights S P x3) = true then
        if (S 12296 8) < (nI 12) then
          0
        else
          3
      else
        2
    else
      2
  else
    1
def sp_X6_claim : z_SX := fun as S P k kx => match as with
  | [.ref 2096, .int x1, .int x2, .int x3] => z_J S ∧ (match e_X6_claim S P x1 x2 x3 with
      | 0 => k (some (.int (f_X6_claim S P x1 x2 x3))) (u_X6_claim S P x1 x2 x3) P
      | 1 => kx "java/lang/IndexOutOfBoundsException" S P
      | 2 => kx "java/lang/IllegalArgumentException" S P
      | _ => kx "java/lang/IllegalStateException" S P)
  | _ => False
def G_X6_claim : z_G := ([(0, .aload_n 0, 1, 0), (1, .getfield 10, 4, 0), (4, .iload_n 1, 5, 0), (5, .invokevirtual 102, 8, 0), (8, .ifCond .ne 13, 11, 21), (11, .new 86, 14, 0), (14, .dup, 15, 0), (15, .ldc 137, 17, 0), (17, .invokespecial 90, 20, 0), (20, .athrow, 21, 0), (21, .iload_n 2, 22, 0), (22, .invokestatic 255, 25, 0), (25, .ifCond .eq 10, 28, 35), (28, .iload_n 3, 29, 0), (29, .invokestatic 258, 32, 0), (32, .ifCond .ne 14, 35, 46), (35, .new 63, 38, 0), (38, .dup, 39, 0), (39, .ldc_w 261, 42, 0), (42, .invokespecial 67, 45, 0), (45, .athrow, 46, 0), (46, .aload_n 0, 47, 0), (47, .getfield 40, 50, 0), (50, .getfield 263, 53, 0), (53, .bipush 12, 55, 0), (55, .if_icmp .lt 14, 58, 69), (58, .new 73, 61, 0), (61, .dup, 62, 0), (62, .ldc_w 264, 65, 0), (65, .invokespecial 77, 68, 0), (68, .athrow, 69, 0), (69, .aload_n 0, 70, 0), (70, .getfield 40, 73, 0), (73, .iload_n 1, 74, 0), (74, .iload_n 2, 75, 0), (75, .iload_n 3, 76, 0), (76, .invokevirtual 266, 79, 0), (79, .ireturn, 80, 0)], [(10, 2096, 0, some 4112), (40, 2096, 4, some 12296), (263, 12296, 8, none)], [(100255, 1, sp_X6_isSomePlaces), (100258, 1, sp_X6_isSomeRights), (102, 2, (z_rc 4112 sp_X2_isPeople)), (266, 4, (z_rc 12296 sp_X1_add))], [], [], [(11, "java/lang/IndexOutOfBoundsException"), (35, "java/lang/IllegalArgumentException"), (58, "java/lang/IllegalStateException")], [], some .int)
def ss_X6_claim : List z_ST := [(11, "java/lang/IndexOutOfBoundsException", 86, 137, 90, "no such people", false), (35, "java/lang/IllegalArgumentException", 63, 261, 67, "places or rights is out of range", true), (58, "java/lang/IllegalStateException", 73, 264, 77, "there are 12 claims", true)]
set_option maxRecDepth 20000 in
set_option maxHeartbeats 4000000 in
theorem ct_X6_claim (l : Launch) (hl9 : l.stackTraces = false) : z_CX l yX6_claim cX6_claim 4 (some .int) sp_X6_claim 6 := by
  refine z_CX_of G_X6_claim ss_X6_claim hl9 (by decide) (by decide) (by decide +kernel) (z_pok_of ft_X6 ci_X6 cL_X6_L fo_X6 co_X6 lo_X6 (by decide +kernel)) rfl rfl (by decide +kernel) ?_ ?_ ?_
  · intro as S P Po Px h
    unfold sp_X6_claim at h
    split at h
    · exact Nat.le_of_ble_eq_true rfl
    · exact h.elim
  · exact List.forall_mem_cons.mpr ⟨z_coS (ct_X6_isSomePlaces l) kb_X6_isSomePlaces ks_X6_255 (by decide) (by decide), List.forall_mem_cons.mpr ⟨z_coS (ct_X6_isSomeRights l) kb_X6_isSomeRights ks_X6_258 (by decide) (by decide), List.forall_mem_cons.mpr ⟨z_coV (ct_X2_isPeople l) kb_X2_isPeople kv_X6_102 ko_X2 (by decide) (by decide) (by decide), List.forall_mem_cons.mpr ⟨z_coV (ct_X1_add l) kb_X1_add kv_X6_266 ko_X1 (by decide) (by decide) (by decide), fun _ h => absurd h List.not_mem_nil⟩⟩⟩⟩
  · intro as S P Po Px h V hV hW
    unfold sp_X6_claim at h
    split at h
    · rename_i x1 x2 x3
      obtain ⟨hp0, hpo⟩ := h
      refine hV [] 43 0 _ _ _ _ ?_
      refine z_brn (fun (h1 : (f_X2_isPeople S P x1) = true) => ?_) (fun (h1 : (f_X2_isPeople S P x1) = false) => ?_)
      · refine z_br (fun (h2 : (f_X6_isSomePlaces S P x2) = false) => ?_) (fun (h2 : (f_X6_isSomePlaces S P x2) = true) => ?_)
        · have he : e_X6_claim S P x1 x2 x3 = 2 := (if_pos h1).trans ((if_neg (z_nt h2)).trans rfl)
          rw [he] at hpo
          exact hpo
        · refine z_brn (fun (h3 : (f_X6_isSomeRights S P x3) = true) => ?_) (fun (h3 : (f_X6_isSomeRights S P x3) = false) => ?_)
          · refine ⟨fun (h4 : (S 12296 8) < (nI 12)) => ?_, fun (h4 : ¬ ((S 12296 8) < (nI 12))) => ?_⟩
            · refine ⟨(show vp_in (S 12296 8) 12 by first | exact z_room (by assumption) (z_J_claims hp0) (by decide) (by decide) | exact z_roomL (by assumption) (z_J_claims hp0) (by decide) (by decide)), ?_⟩
              have he : e_X6_claim S P x1 x2 x3 = 0 := (if_pos h1).trans ((if_pos h2).trans ((if_pos h3).trans ((if_pos h4).trans rfl)))
              rw [he] at hpo
              exact z_pi hpo ((if_pos h1).trans ((if_pos h2).trans ((if_pos h3).trans ((if_pos h4).trans rfl)))) ((if_pos h1).trans ((if_pos h2).trans ((if_pos h3).trans ((if_pos h4).trans rfl)))) (rfl)
            · have he : e_X6_claim S P x1 x2 x3 = 3 := (if_pos h1).trans ((if_pos h2).trans ((if_pos h3).trans ((if_neg h4).trans rfl)))
              rw [he] at hpo
              exact hpo
          · have he : e_X6_claim S P x1 x2 x3 = 2 := (if_pos h1).trans ((if_pos h2).trans ((if_neg (z_nt h3)).trans rfl))
            rw [he] at hpo
            exact hpo
      · have he : e_X6_claim S P x1 x2 x3 = 1 := (if_neg (z_nt h1)).trans rfl
        rw [he] at hpo
        exact hpo
    · exact h.elim
def u_X6_vote (S : z_MI) (P : z_ML) (x1 : Int32) (x2 : Int32) (x3 : Int32) : z_MI :=
  if (f_X2_isPerson S P x1) = true then
    if (f_X1_isClaim S P x2) = true then
      if (S 77921 x2.toNatClampNeg) = 0 then
        if (f_X6_isIn S P (f_X2_membersOf S P (S 71777 x2.toNatClampNeg)) x1) = true then
          va_up (va_up S 84065 (upd (S 84065) x2.toNatClampNeg (f_X6_with S P (S 84065 x2.toNatClampNeg) x1 (nI 1)))) 86113 (upd ((va_up S 84065 (upd (S 84065) x2.toNatClampNeg (f_X6_with S P (S 84065 x2.toNatClampNeg) x1 (nI 1)))) 86113) x2.toNatClampNeg (f_X6_with (va_up S 84065 (upd (S 84065) x2.toNatClampNeg (f_X6_with S P (S 84065 x2.toNatClampNeg) x1 (nI 1)))) P (S 86113 x2.toNatClampNeg) x1 x3))
        else
          S
      else
        S
    else
      S
  else
    S
def e_X6_vote (S : z_MI) (P : z_ML) (x1 : Int32) (x2 : Int32) (x3 : Int32) : Nat :=
  if (f_X2_isPerson S P x1) = true then
    if (f_X1_isClaim S P x2) = true then
      if (S 77921 x2.toNatClampNeg) = 0 then
        if (f_X6_isIn S P (f_X2_membersOf S P (S 71777 x2.toNatClampNeg)) x1) = true then
          0
        else
          3
      else
        3
    else
      1
  else
    1
def sp_X6_vote : z_SX := fun as S P k kx => match as with
  | [.ref 2096, .int x1, .int x2, .int x3] => z_J S ∧ (match e_X6_vote S P x1 x2 x3 with
      | 0 => k (none) (u_X6_vote S P x1 x2 x3) P
      | 1 => kx "java/lang/IndexOutOfBoundsException" S P
      | 2 => kx "java/lang/IllegalArgumentException" S P
      | _ => kx "java/lang/IllegalStateException" S P)
  | _ => False
def G_X6_vote : z_G := ([(0, .aload_n 0, 1, 0), (1, .getfield 10, 4, 0), (4, .iload_n 1, 5, 0), (5, .invokevirtual 105, 8, 0), (8, .ifCond .eq 14, 11, 22), (11, .aload_n 0, 12, 0), (12, .getfield 40, 15, 0), (15, .iload_n 2, 16, 0), (16, .invokevirtual 268, 19, 0), (19, .ifCond .ne 14, 22, 33), (22, .new 86, 25, 0), (25, .dup, 26, 0), (26, .ldc_w 271, 29, 0), (29, .invokespecial 90, 32, 0), (32, .athrow, 33, 0), (33, .aload_n 0, 34, 0), (34, .getfield 40, 37, 0), (37, .getfield 273, 40, 0), (40, .iload_n 2, 41, 0), (41, .iaload, 42, 0), (42, .ifCond .ne 26, 45, 68), (45, .aload_n 0, 46, 0), (46, .getfield 10, 49, 0), (49, .aload_n 0, 50, 0), (50, .getfield 40, 53, 0), (53, .getfield 276, 56, 0), (56, .iload_n 2, 57, 0), (57, .iaload, 58, 0), (58, .invokevirtual 117, 61, 0), (61, .iload_n 1, 62, 0), (62, .invokestatic 184, 65, 0), (65, .ifCond .ne 14, 68, 79), (68, .new 73, 71, 0), (71, .dup, 72, 0), (72, .ldc_w 277, 75, 0), (75, .invokespecial 77, 78, 0), (78, .athrow, 79, 0), (79, .aload_n 0, 80, 0), (80, .getfield 40, 83, 0), (83, .getfield 279, 86, 0), (86, .iload_n 2, 87, 0), (87, .aload_n 0, 88, 0), (88, .getfield 40, 91, 0), (91, .getfield 279, 94, 0), (94, .iload_n 2, 95, 0), (95, .iaload, 96, 0), (96, .iload_n 1, 97, 0), (97, .iconst 1, 98, 0), (98, .invokestatic 113, 101, 0), (101, .iastore, 102, 0), (102, .aload_n 0, 103, 0), (103, .getfield 40, 106, 0), (106, .getfield 282, 109, 0), (109, .iload_n 2, 110, 0), (110, .aload_n 0, 111, 0), (111, .getfield 40, 114, 0), (114, .getfield 282, 117, 0), (117, .iload_n 2, 118, 0), (118, .iaload, 119, 0), (119, .iload_n 1, 120, 0), (120, .iload_n 3, 121, 0), (121, .invokestatic 113, 124, 0), (124, .iastore, 125, 0), (125, .return_, 126, 0)], [(10, 2096, 0, some 4112), (40, 2096, 4, some 12296), (273, 12296, 3, some 77921), (276, 12296, 0, some 71777), (279, 12296, 6, some 84065), (282, 12296, 7, some 86113)], [(100113, 3, sp_X6_with), (100184, 2, sp_X6_isIn), (105, 2, (z_rc 4112 sp_X2_isPerson)), (117, 2, (z_rc 4112 sp_X2_membersOf)), (268, 2, (z_rc 12296 sp_X1_isClaim))], [], [], [(22, "java/lang/IndexOutOfBoundsException"), (68, "java/lang/IllegalStateException")], [], none)
def ss_X6_vote : List z_ST := [(22, "java/lang/IndexOutOfBoundsException", 86, 271, 90, "no such person or claim", true), (68, "java/lang/IllegalStateException", 73, 277, 77, "the claim is not FILED, or the person does not belong", true)]
set_option maxRecDepth 20000 in
set_option maxHeartbeats 4000000 in
theorem ct_X6_vote (l : Launch) (hl9 : l.stackTraces = false) : z_CX l yX6_vote cX6_vote 4 (none) sp_X6_vote 6 := by
  refine z_CX_of G_X6_vote ss_X6_vote hl9 (by decide) (by decide) (by decide +kernel) (z_pok_of ft_X6 ci_X6 cL_X6_L fo_X6 co_X6 lo_X6 (by decide +kernel)) rfl rfl (by decide +kernel) ?_ ?_ ?_
  · intro as S P Po Px h
    unfold sp_X6_vote at h
    split at h
    · exact Nat.le_of_ble_eq_true rfl
    · exact h.elim
  · exact List.forall_mem_cons.mpr ⟨z_coS (ct_X6_with l) kb_X6_with ks_X6_113 (by decide) (by decide), List.forall_mem_cons.mpr ⟨z_coS (ct_X6_isIn l) kb_X6_isIn ks_X6_184 (by decide) (by decide), List.forall_mem_cons.mpr ⟨z_coV (ct_X2_isPerson l) kb_X2_isPerson kv_X6_105 ko_X2 (by decide) (by decide) (by decide), List.forall_mem_cons.mpr ⟨z_coV (ct_X2_membersOf l) kb_X2_membersOf kv_X6_117 ko_X2 (by decide) (by decide) (by decide), List.forall_mem_cons.mpr ⟨z_coV (ct_X1_isClaim l) kb_X1_isClaim kv_X6_268 ko_X1 (by decide) (by decide) (by decide), fun _ h => absurd h List.not_mem_nil⟩⟩⟩⟩⟩
  · intro as S P Po Px h V hV hW
    unfold sp_X6_vote at h
    split at h
    · rename_i x1 x2 x3
      obtain ⟨hp0, hpo⟩ := h
      refine hV [] 69 0 _ _ _ _ ?_
      refine z_br (fun (h1 : (f_X2_isPerson S P x1) = false) => ?_) (fun (h1 : (f_X2_isPerson S P x1) = true) => ?_)
      · have he : e_X6_vote S P x1 x2 x3 = 1 := (if_neg (z_nt h1)).trans rfl
        rw [he] at hpo
        exact hpo
      · refine z_brn (fun (h2 : (f_X1_isClaim S P x2) = true) => ?_) (fun (h2 : (f_X1_isClaim S P x2) = false) => ?_)
        · refine ⟨(show vp_in x2 12 by first | exact t_isClaim hp0 (by assumption) | exact t_isNotice hp0 (by assumption)), ?_⟩
          refine ⟨fun (h3 : ¬ ((S 77921 x2.toNatClampNeg) = 0)) => ?_, fun (h3 : (S 77921 x2.toNatClampNeg) = 0) => ?_⟩
          · have he : e_X6_vote S P x1 x2 x3 = 3 := (if_pos h1).trans ((if_pos h2).trans ((if_neg h3).trans rfl))
            rw [he] at hpo
            exact hpo
          · refine ⟨(show vp_in x2 12 by first | exact t_isClaim hp0 (by assumption) | exact t_isNotice hp0 (by assumption)), ?_⟩
            refine ⟨(show vp_in (S 71777 x2.toNatClampNeg) 6 by exact z_J_clp hp0 _), (show z_le (S 4112 7) 30 by exact z_J_persons hp0), ?_⟩
            refine z_brn (fun (h4 : (f_X6_isIn S P (f_X2_membersOf S P (S 71777 x2.toNatClampNeg)) x1) = true) => ?_) (fun (h4 : (f_X6_isIn S P (f_X2_membersOf S P (S 71777 x2.toNatClampNeg)) x1) = false) => ?_)
            · refine ⟨(show vp_in x2 12 by first | exact t_isClaim hp0 (by assumption) | exact t_isNotice hp0 (by assumption)), ?_⟩
              refine ⟨(show vp_in x2 12 by first | exact t_isClaim hp0 (by assumption) | exact t_isNotice hp0 (by assumption)), ?_⟩
              refine ⟨(show vp_in x2 12 by first | exact t_isClaim hp0 (by assumption) | exact t_isNotice hp0 (by assumption)), ?_⟩
              refine ⟨(show vp_in x2 12 by first | exact t_isClaim hp0 (by assumption) | exact t_isNotice hp0 (by assumption)), ?_⟩
              have he : e_X6_vote S P x1 x2 x3 = 0 := (if_pos h1).trans ((if_pos h2).trans ((if_pos h3).trans ((if_pos h4).trans rfl)))
              rw [he] at hpo
              exact z_pv hpo ((if_pos h1).trans ((if_pos h2).trans ((if_pos h3).trans ((if_pos h4).trans rfl)))) (rfl)
            · have he : e_X6_vote S P x1 x2 x3 = 3 := (if_pos h1).trans ((if_pos h2).trans ((if_pos h3).trans ((if_neg (z_nt h4)).trans rfl)))
              rw [he] at hpo
              exact hpo
        · have he : e_X6_vote S P x1 x2 x3 = 1 := (if_pos h1).trans ((if_neg (z_nt h2)).trans rfl)
          rw [he] at hpo
          exact hpo
    · exact h.elim
def f_X6_register (S : z_MI) (P : z_ML) (x1 : Int32) : Int32 :=
  if (f_X1_isClaim S P x1) = true then
    if (S 77921 x1.toNatClampNeg) = 0 then
      if (f_X6_firstFailed S P x1) = 0 then
        f_X6_firstFailed S P x1
      else
        f_X6_firstFailed S P x1
    else
      0
  else
    0
def u_X6_register (S : z_MI) (P : z_ML) (x1 : Int32) : z_MI :=
  if (f_X1_isClaim S P x1) = true then
    if (S 77921 x1.toNatClampNeg) = 0 then
      if (f_X6_firstFailed S P x1) = 0 then
        va_up (va_up S 77921 (upd (S 77921) x1.toNatClampNeg (nI 1))) 82017 (upd ((va_up S 77921 (upd (S 77921) x1.toNatClampNeg (nI 1))) 82017) x1.toNatClampNeg (S 2096 8))
      else
        S
    else
      S
  else
    S
def e_X6_register (S : z_MI) (P : z_ML) (x1 : Int32) : Nat :=
  if (f_X1_isClaim S P x1) = true then
    if (S 77921 x1.toNatClampNeg) = 0 then
      if (f_X6_firstFailed S P x1) = 0 then
        0
      else
        0
    else
      3
  else
    1
def sp_X6_register : z_SX := fun as S P k kx => match as with
  | [.ref 2096, .int x1] => z_J S ∧ (match e_X6_register S P x1 with
      | 0 => k (some (.int (f_X6_register S P x1))) (u_X6_register S P x1) P
      | 1 => kx "java/lang/IndexOutOfBoundsException" S P
      | 2 => kx "java/lang/IllegalArgumentException" S P
      | _ => kx "java/lang/IllegalStateException" S P)
  | _ => False
def G_X6_register : z_G := ([(0, .aload_n 0, 1, 0), (1, .getfield 40, 4, 0), (4, .iload_n 1, 5, 0), (5, .invokevirtual 268, 8, 0), (8, .ifCond .ne 14, 11, 22), (11, .new 86, 14, 0), (14, .dup, 15, 0), (15, .ldc_w 285, 18, 0), (18, .invokespecial 90, 21, 0), (21, .athrow, 22, 0), (22, .aload_n 0, 23, 0), (23, .getfield 40, 26, 0), (26, .getfield 273, 29, 0), (29, .iload_n 1, 30, 0), (30, .iaload, 31, 0), (31, .ifCond .eq 14, 34, 45), (34, .new 73, 37, 0), (37, .dup, 38, 0), (38, .ldc_w 287, 41, 0), (41, .invokespecial 77, 44, 0), (44, .athrow, 45, 0), (45, .aload_n 0, 46, 0), (46, .iload_n 1, 47, 0), (47, .invokevirtual 289, 50, 0), (50, .istore_n 2, 51, 0), (51, .iload_n 2, 52, 0), (52, .ifCond .ne 26, 55, 78), (55, .aload_n 0, 56, 0), (56, .getfield 40, 59, 0), (59, .getfield 273, 62, 0), (62, .iload_n 1, 63, 0), (63, .iconst 1, 64, 0), (64, .iastore, 65, 0), (65, .aload_n 0, 66, 0), (66, .getfield 40, 69, 0), (69, .getfield 292, 72, 0), (72, .iload_n 1, 73, 0), (73, .aload_n 0, 74, 0), (74, .getfield 59, 77, 0), (77, .iastore, 78, 0), (78, .iload_n 2, 79, 0), (79, .ireturn, 80, 0)], [(40, 2096, 4, some 12296), (59, 2096, 8, none), (273, 12296, 3, some 77921), (292, 12296, 5, some 82017)], [(268, 2, (z_rc 12296 sp_X1_isClaim)), (289, 2, (z_rc 2096 sp_X6_firstFailed))], [], [], [(11, "java/lang/IndexOutOfBoundsException"), (34, "java/lang/IllegalStateException")], [], some .int)
def ss_X6_register : List z_ST := [(11, "java/lang/IndexOutOfBoundsException", 86, 285, 90, "no such claim", true), (34, "java/lang/IllegalStateException", 73, 287, 77, "the claim is not FILED", true)]
set_option maxRecDepth 20000 in
set_option maxHeartbeats 4000000 in
theorem ct_X6_register (l : Launch) (hl9 : l.stackTraces = false) : z_CX l yX6_register cX6_register 3 (some .int) sp_X6_register 6 := by
  refine z_CX_of G_X6_register ss_X6_register hl9 (by decide) (by decide) (by decide +kernel) (z_pok_of ft_X6 ci_X6 cL_X6_L fo_X6 co_X6 lo_X6 (by decide +kernel)) rfl rfl (by decide +kernel) ?_ ?_ ?_
  · intro as S P Po Px h
    unfold sp_X6_register at h
    split at h
    · exact Nat.le_of_ble_eq_true rfl
    · exact h.elim
  · exact List.forall_mem_cons.mpr ⟨z_coV (ct_X1_isClaim l) kb_X1_isClaim kv_X6_268 ko_X1 (by decide) (by decide) (by decide), List.forall_mem_cons.mpr ⟨z_coV (ct_X6_firstFailed l) kb_X6_firstFailed kv_X6_289 ko_X6 (by decide) (by decide) (by decide), fun _ h => absurd h List.not_mem_nil⟩⟩
  · intro as S P Po Px h V hV hW
    unfold sp_X6_register at h
    split at h
    · rename_i x1
      obtain ⟨hp0, hpo⟩ := h
      refine hV [] 47 0 _ _ _ _ ?_
      refine z_brn (fun (h1 : (f_X1_isClaim S P x1) = true) => ?_) (fun (h1 : (f_X1_isClaim S P x1) = false) => ?_)
      · refine ⟨(show vp_in x1 12 by first | exact t_isClaim hp0 (by assumption) | exact t_isNotice hp0 (by assumption)), ?_⟩
        refine ⟨fun (h2 : (S 77921 x1.toNatClampNeg) = 0) => ?_, fun (h2 : ¬ ((S 77921 x1.toNatClampNeg) = 0)) => ?_⟩
        · refine ⟨(show vp_in x1 12 by first | exact t_isClaim hp0 (by assumption) | exact t_isNotice hp0 (by assumption)), (show vp_in (S 71777 x1.toNatClampNeg) 6 by exact z_J_clp hp0 _), (show z_le (S 4112 7) 30 by exact z_J_persons hp0), (show z_le (S 8216 7) 60 by exact z_J_marks hp0), (show z_le (S 49201 (S 71777 x1.toNatClampNeg).toNatClampNeg) 8 by exact z_J_expl hp0 _), (show z_le (S 12296 8) 12 by exact z_J_claims hp0), ?_⟩
          refine ⟨fun (h3 : ¬ ((f_X6_firstFailed S P x1) = 0)) => ?_, fun (h3 : (f_X6_firstFailed S P x1) = 0) => ?_⟩
          · have he : e_X6_register S P x1 = 0 := (if_pos h1).trans ((if_pos h2).trans ((if_neg h3).trans rfl))
            rw [he] at hpo
            exact z_pi hpo ((if_pos h1).trans ((if_pos h2).trans ((if_neg h3).trans rfl))) ((if_pos h1).trans ((if_pos h2).trans ((if_neg h3).trans rfl))) (rfl)
          · refine ⟨(show vp_in x1 12 by first | exact t_isClaim hp0 (by assumption) | exact t_isNotice hp0 (by assumption)), ?_⟩
            refine ⟨(show vp_in x1 12 by first | exact t_isClaim hp0 (by assumption) | exact t_isNotice hp0 (by assumption)), ?_⟩
            have he : e_X6_register S P x1 = 0 := (if_pos h1).trans ((if_pos h2).trans ((if_pos h3).trans rfl))
            rw [he] at hpo
            exact z_pi hpo ((if_pos h1).trans ((if_pos h2).trans ((if_pos h3).trans rfl))) ((if_pos h1).trans ((if_pos h2).trans ((if_pos h3).trans rfl))) (rfl)
        · have he : e_X6_register S P x1 = 3 := (if_pos h1).trans ((if_neg h2).trans rfl)
          rw [he] at hpo
          exact hpo
      · have he : e_X6_register S P x1 = 1 := (if_neg (z_nt h1)).trans rfl
        rw [he] at hpo
        exact hpo
    · exact h.elim
def f_X6_determine (S : z_MI) (P : z_ML) (x1 : Int32) : Int32 :=
  if (f_X1_isClaim S P x1) = true then
    if (S 77921 x1.toNatClampNeg) = (nI 1) then
      (u_X1_grant S P x1 (f_X6_provedOf S P x1)) 79969 x1.toNatClampNeg
    else
      0
  else
    0
def u_X6_determine (S : z_MI) (P : z_ML) (x1 : Int32) : z_MI :=
  if (f_X1_isClaim S P x1) = true then
    if (S 77921 x1.toNatClampNeg) = (nI 1) then
      u_X1_grant S P x1 (f_X6_provedOf S P x1)
    else
      S
  else
    S
def e_X6_determine (S : z_MI) (P : z_ML) (x1 : Int32) : Nat :=
  if (f_X1_isClaim S P x1) = true then
    if (S 77921 x1.toNatClampNeg) = (nI 1) then
      0
    else
      3
  else
    1
def sp_X6_determine : z_SX := fun as S P k kx => match as with
  | [.ref 2096, .int x1] => z_J S ∧ (match e_X6_determine S P x1 with
      | 0 => k (some (.int (f_X6_determine S P x1))) (u_X6_determine S P x1) P
      | 1 => kx "java/lang/IndexOutOfBoundsException" S P
      | 2 => kx "java/lang/IllegalArgumentException" S P
      | _ => kx "java/lang/IllegalStateException" S P)
  | _ => False
def G_X6_determine : z_G := ([(0, .aload_n 0, 1, 0), (1, .getfield 40, 4, 0), (4, .iload_n 1, 5, 0), (5, .invokevirtual 268, 8, 0), (8, .ifCond .ne 14, 11, 22), (11, .new 86, 14, 0), (14, .dup, 15, 0), (15, .ldc_w 285, 18, 0), (18, .invokespecial 90, 21, 0), (21, .athrow, 22, 0), (22, .aload_n 0, 23, 0), (23, .getfield 40, 26, 0), (26, .getfield 273, 29, 0), (29, .iload_n 1, 30, 0), (30, .iaload, 31, 0), (31, .iconst 1, 32, 0), (32, .if_icmp .eq 14, 35, 46), (35, .new 73, 38, 0), (38, .dup, 39, 0), (39, .ldc_w 293, 42, 0), (42, .invokespecial 77, 45, 0), (45, .athrow, 46, 0), (46, .aload_n 0, 47, 0), (47, .getfield 40, 50, 0), (50, .iload_n 1, 51, 0), (51, .aload_n 0, 52, 0), (52, .iload_n 1, 53, 0), (53, .invokevirtual 295, 56, 0), (56, .invokevirtual 298, 59, 0), (59, .aload_n 0, 60, 0), (60, .getfield 40, 63, 0), (63, .getfield 302, 66, 0), (66, .iload_n 1, 67, 0), (67, .iaload, 68, 0), (68, .ireturn, 69, 0)], [(40, 2096, 4, some 12296), (273, 12296, 3, some 77921), (302, 12296, 4, some 79969)], [(268, 2, (z_rc 12296 sp_X1_isClaim)), (295, 2, (z_rc 2096 sp_X6_provedOf)), (298, 3, (z_rc 12296 sp_X1_grant))], [], [], [(11, "java/lang/IndexOutOfBoundsException"), (35, "java/lang/IllegalStateException")], [], some .int)
def ss_X6_determine : List z_ST := [(11, "java/lang/IndexOutOfBoundsException", 86, 285, 90, "no such claim", true), (35, "java/lang/IllegalStateException", 73, 293, 77, "the claim is not REGISTERED", true)]
set_option maxRecDepth 20000 in
set_option maxHeartbeats 4000000 in
theorem ct_X6_determine (l : Launch) (hl9 : l.stackTraces = false) : z_CX l yX6_determine cX6_determine 2 (some .int) sp_X6_determine 6 := by
  refine z_CX_of G_X6_determine ss_X6_determine hl9 (by decide) (by decide) (by decide +kernel) (z_pok_of ft_X6 ci_X6 cL_X6_L fo_X6 co_X6 lo_X6 (by decide +kernel)) rfl rfl (by decide +kernel) ?_ ?_ ?_
  · intro as S P Po Px h
    unfold sp_X6_determine at h
    split at h
    · exact Nat.le_of_ble_eq_true rfl
    · exact h.elim
  · exact List.forall_mem_cons.mpr ⟨z_coV (ct_X1_isClaim l) kb_X1_isClaim kv_X6_268 ko_X1 (by decide) (by decide) (by decide), List.forall_mem_cons.mpr ⟨z_coV (ct_X6_provedOf l) kb_X6_provedOf kv_X6_295 ko_X6 (by decide) (by decide) (by decide), List.forall_mem_cons.mpr ⟨z_coV (ct_X1_grant l) kb_X1_grant kv_X6_298 ko_X1 (by decide) (by decide) (by decide), fun _ h => absurd h List.not_mem_nil⟩⟩⟩
  · intro as S P Po Px h V hV hW
    unfold sp_X6_determine at h
    split at h
    · rename_i x1
      obtain ⟨hp0, hpo⟩ := h
      refine hV [] 40 0 _ _ _ _ ?_
      refine z_brn (fun (h1 : (f_X1_isClaim S P x1) = true) => ?_) (fun (h1 : (f_X1_isClaim S P x1) = false) => ?_)
      · refine ⟨(show vp_in x1 12 by first | exact t_isClaim hp0 (by assumption) | exact t_isNotice hp0 (by assumption)), ?_⟩
        refine ⟨fun (h2 : (S 77921 x1.toNatClampNeg) = (nI 1)) => ?_, fun (h2 : ¬ ((S 77921 x1.toNatClampNeg) = (nI 1))) => ?_⟩
        · refine ⟨(show vp_in x1 12 by first | exact t_isClaim hp0 (by assumption) | exact t_isNotice hp0 (by assumption)), (show z_le (S 8216 7) 60 by exact z_J_marks hp0), (show z_le (S 49201 (S 71777 x1.toNatClampNeg).toNatClampNeg) 8 by exact z_J_expl hp0 _), (show vp_in (S 71777 x1.toNatClampNeg) 6 by exact z_J_clp hp0 _), ?_⟩
          refine ⟨(show vp_in x1 12 by first | exact t_isClaim hp0 (by assumption) | exact t_isNotice hp0 (by assumption)), ?_⟩
          refine ⟨(show vp_in x1 12 by first | exact t_isClaim hp0 (by assumption) | exact t_isNotice hp0 (by assumption)), ?_⟩
          have he : e_X6_determine S P x1 = 0 := (if_pos h1).trans ((if_pos h2).trans rfl)
          rw [he] at hpo
          exact z_pi hpo ((if_pos h1).trans ((if_pos h2).trans rfl)) ((if_pos h1).trans ((if_pos h2).trans rfl)) (rfl)
        · have he : e_X6_determine S P x1 = 3 := (if_pos h1).trans ((if_neg h2).trans rfl)
          rw [he] at hpo
          exact hpo
      · have he : e_X6_determine S P x1 = 1 := (if_neg (z_nt h1)).trans rfl
        rw [he] at hpo
        exact hpo
    · exact h.elim
def f_X6_revise (S : z_MI) (P : z_ML) (x1 : Int32) : Int32 :=
  if (f_X1_isClaim S P x1) = true then
    if (S 77921 x1.toNatClampNeg) = (nI 2) then
      f_J6_bitCount_0f7a4 (u_X1_grant S P x1 (f_X6_provedOf S P x1)) P ((S 79969 x1.toNatClampNeg) ^^^ ((u_X1_grant S P x1 (f_X6_provedOf S P x1)) 79969 x1.toNatClampNeg))
    else
      0
  else
    0
def u_X6_revise (S : z_MI) (P : z_ML) (x1 : Int32) : z_MI :=
  if (f_X1_isClaim S P x1) = true then
    if (S 77921 x1.toNatClampNeg) = (nI 2) then
      u_X1_grant S P x1 (f_X6_provedOf S P x1)
    else
      S
  else
    S
def e_X6_revise (S : z_MI) (P : z_ML) (x1 : Int32) : Nat :=
  if (f_X1_isClaim S P x1) = true then
    if (S 77921 x1.toNatClampNeg) = (nI 2) then
      0
    else
      3
  else
    1
def sp_X6_revise : z_SX := fun as S P k kx => match as with
  | [.ref 2096, .int x1] => z_J S ∧ (match e_X6_revise S P x1 with
      | 0 => k (some (.int (f_X6_revise S P x1))) (u_X6_revise S P x1) P
      | 1 => kx "java/lang/IndexOutOfBoundsException" S P
      | 2 => kx "java/lang/IllegalArgumentException" S P
      | _ => kx "java/lang/IllegalStateException" S P)
  | _ => False
def G_X6_revise : z_G := ([(0, .aload_n 0, 1, 0), (1, .getfield 40, 4, 0), (4, .iload_n 1, 5, 0), (5, .invokevirtual 268, 8, 0), (8, .ifCond .ne 14, 11, 22), (11, .new 86, 14, 0), (14, .dup, 15, 0), (15, .ldc_w 285, 18, 0), (18, .invokespecial 90, 21, 0), (21, .athrow, 22, 0), (22, .aload_n 0, 23, 0), (23, .getfield 40, 26, 0), (26, .getfield 273, 29, 0), (29, .iload_n 1, 30, 0), (30, .iaload, 31, 0), (31, .iconst 2, 32, 0), (32, .if_icmp .eq 14, 35, 46), (35, .new 73, 38, 0), (38, .dup, 39, 0), (39, .ldc_w 305, 42, 0), (42, .invokespecial 77, 45, 0), (45, .athrow, 46, 0), (46, .aload_n 0, 47, 0), (47, .getfield 40, 50, 0), (50, .getfield 302, 53, 0), (53, .iload_n 1, 54, 0), (54, .iaload, 55, 0), (55, .istore_n 2, 56, 0), (56, .aload_n 0, 57, 0), (57, .getfield 40, 60, 0), (60, .iload_n 1, 61, 0), (61, .aload_n 0, 62, 0), (62, .iload_n 1, 63, 0), (63, .invokevirtual 295, 66, 0), (66, .invokevirtual 298, 69, 0), (69, .iload_n 2, 70, 0), (70, .aload_n 0, 71, 0), (71, .getfield 40, 74, 0), (74, .getfield 302, 77, 0), (77, .iload_n 1, 78, 0), (78, .iaload, 79, 0), (79, .ixor, 80, 0), (80, .invokestatic 120, 83, 0), (83, .ireturn, 84, 0)], [(40, 2096, 4, some 12296), (273, 12296, 3, some 77921), (302, 12296, 4, some 79969)], [(100120, 1, sp_J6_bitCount_0f7a4), (268, 2, (z_rc 12296 sp_X1_isClaim)), (295, 2, (z_rc 2096 sp_X6_provedOf)), (298, 3, (z_rc 12296 sp_X1_grant))], [], [], [(11, "java/lang/IndexOutOfBoundsException"), (35, "java/lang/IllegalStateException")], [], some .int)
def ss_X6_revise : List z_ST := [(11, "java/lang/IndexOutOfBoundsException", 86, 285, 90, "no such claim", true), (35, "java/lang/IllegalStateException", 73, 305, 77, "the claim is not DETERMINED", true)]
set_option maxRecDepth 20000 in
set_option maxHeartbeats 4000000 in
theorem ct_X6_revise (l : Launch) (hl9 : l.stackTraces = false) : z_CX l yX6_revise cX6_revise 3 (some .int) sp_X6_revise 6 := by
  refine z_CX_of G_X6_revise ss_X6_revise hl9 (by decide) (by decide) (by decide +kernel) (z_pok_of ft_X6 ci_X6 cL_X6_L fo_X6 co_X6 lo_X6 (by decide +kernel)) rfl rfl (by decide +kernel) ?_ ?_ ?_
  · intro as S P Po Px h
    unfold sp_X6_revise at h
    split at h
    · exact Nat.le_of_ble_eq_true rfl
    · exact h.elim
  · exact List.forall_mem_cons.mpr ⟨z_coS (ct_J6_bitCount_0f7a4 l) kb_J6_bitCount_0f7a4 ks_X6_120 (by decide) (by decide), List.forall_mem_cons.mpr ⟨z_coV (ct_X1_isClaim l) kb_X1_isClaim kv_X6_268 ko_X1 (by decide) (by decide) (by decide), List.forall_mem_cons.mpr ⟨z_coV (ct_X6_provedOf l) kb_X6_provedOf kv_X6_295 ko_X6 (by decide) (by decide) (by decide), List.forall_mem_cons.mpr ⟨z_coV (ct_X1_grant l) kb_X1_grant kv_X6_298 ko_X1 (by decide) (by decide) (by decide), fun _ h => absurd h List.not_mem_nil⟩⟩⟩⟩
  · intro as S P Po Px h V hV hW
    unfold sp_X6_revise at h
    split at h
    · rename_i x1
      obtain ⟨hp0, hpo⟩ := h
      refine hV [] 49 0 _ _ _ _ ?_
      refine z_brn (fun (h1 : (f_X1_isClaim S P x1) = true) => ?_) (fun (h1 : (f_X1_isClaim S P x1) = false) => ?_)
      · refine ⟨(show vp_in x1 12 by first | exact t_isClaim hp0 (by assumption) | exact t_isNotice hp0 (by assumption)), ?_⟩
        refine ⟨fun (h2 : (S 77921 x1.toNatClampNeg) = (nI 2)) => ?_, fun (h2 : ¬ ((S 77921 x1.toNatClampNeg) = (nI 2))) => ?_⟩
        · refine ⟨(show vp_in x1 12 by first | exact t_isClaim hp0 (by assumption) | exact t_isNotice hp0 (by assumption)), ?_⟩
          refine ⟨(show vp_in x1 12 by first | exact t_isClaim hp0 (by assumption) | exact t_isNotice hp0 (by assumption)), (show z_le (S 8216 7) 60 by exact z_J_marks hp0), (show z_le (S 49201 (S 71777 x1.toNatClampNeg).toNatClampNeg) 8 by exact z_J_expl hp0 _), (show vp_in (S 71777 x1.toNatClampNeg) 6 by exact z_J_clp hp0 _), ?_⟩
          refine ⟨(show vp_in x1 12 by first | exact t_isClaim hp0 (by assumption) | exact t_isNotice hp0 (by assumption)), ?_⟩
          refine ⟨(show vp_in x1 12 by first | exact t_isClaim hp0 (by assumption) | exact t_isNotice hp0 (by assumption)), ?_⟩
          have he : e_X6_revise S P x1 = 0 := (if_pos h1).trans ((if_pos h2).trans rfl)
          rw [he] at hpo
          exact z_pi hpo ((if_pos h1).trans ((if_pos h2).trans rfl)) ((if_pos h1).trans ((if_pos h2).trans rfl)) (rfl)
        · have he : e_X6_revise S P x1 = 3 := (if_pos h1).trans ((if_neg h2).trans rfl)
          rw [he] at hpo
          exact hpo
      · have he : e_X6_revise S P x1 = 1 := (if_neg (z_nt h1)).trans rfl
        rw [he] at hpo
        exact hpo
    · exact h.elim
def f_X6_ofClaim (S : z_MI) (P : z_ML) (x1 : Int32) (x2 : Int32) : Int32 :=
  if (f_X1_isClaim S P x1) = true then
    if x2 < 0 then
      0
    else
      if x2 ≤ (nI 3) then
        if x2 = nI 0 then
          S 77921 x1.toNatClampNeg
        else
        if x2 = nI 1 then
          S 79969 x1.toNatClampNeg
        else
        if x2 = nI 2 then
          f_X1_rivalsOf S P x1
        else
          S 82017 x1.toNatClampNeg
      else
        0
  else
    0
def e_X6_ofClaim (S : z_MI) (P : z_ML) (x1 : Int32) (x2 : Int32) : Nat :=
  if (f_X1_isClaim S P x1) = true then
    if x2 < 0 then
      2
    else
      if x2 ≤ (nI 3) then
        if x2 = nI 0 then
          0
        else
        if x2 = nI 1 then
          0
        else
        if x2 = nI 2 then
          0
        else
          0
      else
        2
  else
    1
def sp_X6_ofClaim : z_SX := fun as S P k kx => match as with
  | [.ref 2096, .int x1, .int x2] => z_J S ∧ (match e_X6_ofClaim S P x1 x2 with
      | 0 => k (some (.int (f_X6_ofClaim S P x1 x2))) S P
      | 1 => kx "java/lang/IndexOutOfBoundsException" S P
      | 2 => kx "java/lang/IllegalArgumentException" S P
      | _ => kx "java/lang/IllegalStateException" S P)
  | _ => False
def G_X6_ofClaim : z_G := ([(0, .aload_n 0, 1, 0), (1, .getfield 40, 4, 0), (4, .iload_n 1, 5, 0), (5, .invokevirtual 268, 8, 0), (8, .ifCond .ne 14, 11, 22), (11, .new 86, 14, 0), (14, .dup, 15, 0), (15, .ldc_w 285, 18, 0), (18, .invokespecial 90, 21, 0), (21, .athrow, 22, 0), (22, .iload_n 2, 23, 0), (23, .ifCond .lt 8, 26, 31), (26, .iload_n 2, 27, 0), (27, .iconst 3, 28, 0), (28, .if_icmp .le 14, 31, 42), (31, .new 63, 34, 0), (34, .dup, 35, 0), (35, .ldc_w 307, 38, 0), (38, .invokespecial 67, 41, 0), (41, .athrow, 42, 0), (42, .iload_n 2, 43, 0), (43, .tableswitch 54 0 2 #[25, 35, 45], 68, 97), (68, .aload_n 0, 69, 0), (69, .getfield 40, 72, 0), (72, .getfield 273, 75, 0), (75, .iload_n 1, 76, 0), (76, .iaload, 77, 0), (77, .ireturn, 78, 0), (78, .aload_n 0, 79, 0), (79, .getfield 40, 82, 0), (82, .getfield 302, 85, 0), (85, .iload_n 1, 86, 0), (86, .iaload, 87, 0), (87, .ireturn, 88, 0), (88, .aload_n 0, 89, 0), (89, .getfield 40, 92, 0), (92, .iload_n 1, 93, 0), (93, .invokevirtual 309, 96, 0), (96, .ireturn, 97, 0), (97, .aload_n 0, 98, 0), (98, .getfield 40, 101, 0), (101, .getfield 292, 104, 0), (104, .iload_n 1, 105, 0), (105, .iaload, 106, 0), (106, .ireturn, 107, 0)], [(40, 2096, 4, some 12296), (273, 12296, 3, some 77921), (292, 12296, 5, some 82017), (302, 12296, 4, some 79969)], [(268, 2, (z_rc 12296 sp_X1_isClaim)), (309, 2, (z_rc 12296 sp_X1_rivalsOf))], [], [], [(11, "java/lang/IndexOutOfBoundsException"), (31, "java/lang/IllegalArgumentException")], [68, 78, 88], some .int)
def ss_X6_ofClaim : List z_ST := [(11, "java/lang/IndexOutOfBoundsException", 86, 285, 90, "no such claim", true), (31, "java/lang/IllegalArgumentException", 63, 307, 67, "what is out of range", true)]
set_option maxRecDepth 20000 in
set_option maxHeartbeats 4000000 in
theorem ct_X6_ofClaim (l : Launch) (hl9 : l.stackTraces = false) : z_CX l yX6_ofClaim cX6_ofClaim 3 (some .int) sp_X6_ofClaim 6 := by
  refine z_CX_of G_X6_ofClaim ss_X6_ofClaim hl9 (by decide) (by decide) (by decide +kernel) (z_pok_of ft_X6 ci_X6 cL_X6_L fo_X6 co_X6 lo_X6 (by decide +kernel)) rfl rfl (by decide +kernel) ?_ ?_ ?_
  · intro as S P Po Px h
    unfold sp_X6_ofClaim at h
    split at h
    · exact Nat.le_of_ble_eq_true rfl
    · exact h.elim
  · exact List.forall_mem_cons.mpr ⟨z_coV (ct_X1_isClaim l) kb_X1_isClaim kv_X6_268 ko_X1 (by decide) (by decide) (by decide), List.forall_mem_cons.mpr ⟨z_coV (ct_X1_rivalsOf l) kb_X1_rivalsOf kv_X6_309 ko_X1 (by decide) (by decide) (by decide), fun _ h => absurd h List.not_mem_nil⟩⟩
  · intro as S P Po Px h V hV hW
    unfold sp_X6_ofClaim at h
    split at h
    · rename_i x1 x2
      obtain ⟨hp0, hpo⟩ := h
      refine hV [] 50 0 _ _ _ _ ?_
      refine z_brn (fun (h1 : (f_X1_isClaim S P x1) = true) => ?_) (fun (h1 : (f_X1_isClaim S P x1) = false) => ?_)
      · refine ⟨fun (h2 : x2 < 0) => ?_, fun (h2 : ¬ (x2 < 0)) => ?_⟩
        · have he : e_X6_ofClaim S P x1 x2 = 2 := (if_pos h1).trans ((if_pos h2).trans rfl)
          rw [he] at hpo
          exact hpo
        · refine ⟨fun (h3 : x2 ≤ (nI 3)) => ?_, fun (h3 : ¬ (x2 ≤ (nI 3))) => ?_⟩
          · refine ⟨fun (h4 : x2 = nI 0) => ?_, fun (h5 : x2 = nI 1) => ?_, fun (h6 : x2 = nI 2) => ?_, fun h7 => ?_⟩
            · refine ⟨(show vp_in x1 12 by first | exact t_isClaim hp0 (by assumption) | exact t_isNotice hp0 (by assumption)), ?_⟩
              have he : e_X6_ofClaim S P x1 x2 = 0 := (if_pos h1).trans ((if_neg h2).trans ((if_pos h3).trans ((if_pos h4).trans rfl)))
              rw [he] at hpo
              exact z_pi hpo ((if_pos h1).trans ((if_neg h2).trans ((if_pos h3).trans ((if_pos h4).trans rfl)))) (rfl) (rfl)
            · refine ⟨(show vp_in x1 12 by first | exact t_isClaim hp0 (by assumption) | exact t_isNotice hp0 (by assumption)), ?_⟩
              have he : e_X6_ofClaim S P x1 x2 = 0 := (if_pos h1).trans ((if_neg h2).trans ((if_pos h3).trans ((if_neg (show ¬ x2 = nI 0 by rw [h5]; decide)).trans ((if_pos h5).trans rfl))))
              rw [he] at hpo
              exact z_pi hpo ((if_pos h1).trans ((if_neg h2).trans ((if_pos h3).trans ((if_neg (show ¬ x2 = nI 0 by rw [h5]; decide)).trans ((if_pos h5).trans rfl))))) (rfl) (rfl)
            · refine ⟨(show z_le (S 12296 8) 12 by exact z_J_claims hp0), (show vp_in x1 12 by first | exact t_isClaim hp0 (by assumption) | exact t_isNotice hp0 (by assumption)), ?_⟩
              have he : e_X6_ofClaim S P x1 x2 = 0 := (if_pos h1).trans ((if_neg h2).trans ((if_pos h3).trans ((if_neg (show ¬ x2 = nI 0 by rw [h6]; decide)).trans ((if_neg (show ¬ x2 = nI 1 by rw [h6]; decide)).trans ((if_pos h6).trans rfl)))))
              rw [he] at hpo
              exact z_pi hpo ((if_pos h1).trans ((if_neg h2).trans ((if_pos h3).trans ((if_neg (show ¬ x2 = nI 0 by rw [h6]; decide)).trans ((if_neg (show ¬ x2 = nI 1 by rw [h6]; decide)).trans ((if_pos h6).trans rfl)))))) (rfl) (rfl)
            · refine ⟨(show vp_in x1 12 by first | exact t_isClaim hp0 (by assumption) | exact t_isNotice hp0 (by assumption)), ?_⟩
              have he : e_X6_ofClaim S P x1 x2 = 0 := (if_pos h1).trans ((if_neg h2).trans ((if_pos h3).trans ((if_neg (h7 0 (by decide))).trans ((if_neg (h7 1 (by decide))).trans ((if_neg (h7 2 (by decide))).trans rfl)))))
              rw [he] at hpo
              exact z_pi hpo ((if_pos h1).trans ((if_neg h2).trans ((if_pos h3).trans ((if_neg (h7 0 (by decide))).trans ((if_neg (h7 1 (by decide))).trans ((if_neg (h7 2 (by decide))).trans rfl)))))) (rfl) (rfl)
          · have he : e_X6_ofClaim S P x1 x2 = 2 := (if_pos h1).trans ((if_neg h2).trans ((if_neg h3).trans rfl))
            rw [he] at hpo
            exact hpo
      · have he : e_X6_ofClaim S P x1 x2 = 1 := (if_neg (z_nt h1)).trans rfl
        rw [he] at hpo
        exact hpo
    · exact h.elim
def f_X6_holders (S : z_MI) (P : z_ML) (x1 : Int32) : Int32 :=
  if (f_X6_isPlace S P x1) = true then
    f_X1_holdersOf S P x1
  else
    0
def e_X6_holders (S : z_MI) (P : z_ML) (x1 : Int32) : Nat :=
  if (f_X6_isPlace S P x1) = true then
    0
  else
    1
def sp_X6_holders : z_SX := fun as S P k kx => match as with
  | [.ref 2096, .int x1] => z_J S ∧ (match e_X6_holders S P x1 with
      | 0 => k (some (.int (f_X6_holders S P x1))) S P
      | 1 => kx "java/lang/IndexOutOfBoundsException" S P
      | 2 => kx "java/lang/IllegalArgumentException" S P
      | _ => kx "java/lang/IllegalStateException" S P)
  | _ => False
def G_X6_holders : z_G := ([(0, .iload_n 1, 1, 0), (1, .invokestatic 150, 4, 0), (4, .ifCond .ne 13, 7, 17), (7, .new 86, 10, 0), (10, .dup, 11, 0), (11, .ldc 242, 13, 0), (13, .invokespecial 90, 16, 0), (16, .athrow, 17, 0), (17, .aload_n 0, 18, 0), (18, .getfield 40, 21, 0), (21, .iload_n 1, 22, 0), (22, .invokevirtual 312, 25, 0), (25, .ireturn, 26, 0)], [(40, 2096, 4, some 12296)], [(100150, 1, sp_X6_isPlace), (312, 2, (z_rc 12296 sp_X1_holdersOf))], [], [], [(7, "java/lang/IndexOutOfBoundsException")], [], some .int)
def ss_X6_holders : List z_ST := [(7, "java/lang/IndexOutOfBoundsException", 86, 242, 90, "no such place", false)]
set_option maxRecDepth 20000 in
set_option maxHeartbeats 4000000 in
theorem ct_X6_holders (l : Launch) (hl9 : l.stackTraces = false) : z_CX l yX6_holders cX6_holders 2 (some .int) sp_X6_holders 6 := by
  refine z_CX_of G_X6_holders ss_X6_holders hl9 (by decide) (by decide) (by decide +kernel) (z_pok_of ft_X6 ci_X6 cL_X6_L fo_X6 co_X6 lo_X6 (by decide +kernel)) rfl rfl (by decide +kernel) ?_ ?_ ?_
  · intro as S P Po Px h
    unfold sp_X6_holders at h
    split at h
    · exact Nat.le_of_ble_eq_true rfl
    · exact h.elim
  · exact List.forall_mem_cons.mpr ⟨z_coS (ct_X6_isPlace l) kb_X6_isPlace ks_X6_150 (by decide) (by decide), List.forall_mem_cons.mpr ⟨z_coV (ct_X1_holdersOf l) kb_X1_holdersOf kv_X6_312 ko_X1 (by decide) (by decide) (by decide), fun _ h => absurd h List.not_mem_nil⟩⟩
  · intro as S P Po Px h V hV hW
    unfold sp_X6_holders at h
    split at h
    · rename_i x1
      obtain ⟨hp0, hpo⟩ := h
      refine hV [] 18 0 _ _ _ _ ?_
      refine z_brn (fun (h1 : (f_X6_isPlace S P x1) = true) => ?_) (fun (h1 : (f_X6_isPlace S P x1) = false) => ?_)
      · refine ⟨(show z_le (S 12296 8) 12 by exact z_J_claims hp0), ?_⟩
        have he : e_X6_holders S P x1 = 0 := (if_pos h1).trans rfl
        rw [he] at hpo
        exact z_pi hpo ((if_pos h1).trans rfl) (rfl) (rfl)
      · have he : e_X6_holders S P x1 = 1 := (if_neg (z_nt h1)).trans rfl
        rw [he] at hpo
        exact hpo
    · exact h.elim
def f_X6_may (S : z_MI) (P : z_ML) (x1 : Int32) (x2 : Int32) (x3 : Int32) : Int32 :=
  if (f_X2_isPeople S P x1) = true then
    if (f_X6_isPlace S P x2) = true then
      if x3 < 0 then
        0
      else
        if x3 ≤ (nI 4) then
          if (f_X6_isIn S P (f_X6_rightsOf S P x1 x2) x3) = true then
            if (f_X6_isIn S P (f_X0_yieldingAt S P x2 (S 2096 8)) x3) = true then
              nI 1
            else
              nI 2
          else
            nI 0
        else
          0
    else
      0
  else
    0
def e_X6_may (S : z_MI) (P : z_ML) (x1 : Int32) (x2 : Int32) (x3 : Int32) : Nat :=
  if (f_X2_isPeople S P x1) = true then
    if (f_X6_isPlace S P x2) = true then
      if x3 < 0 then
        1
      else
        if x3 ≤ (nI 4) then
          if (f_X6_isIn S P (f_X6_rightsOf S P x1 x2) x3) = true then
            if (f_X6_isIn S P (f_X0_yieldingAt S P x2 (S 2096 8)) x3) = true then
              0
            else
              0
          else
            0
        else
          1
    else
      1
  else
    1
def sp_X6_may : z_SX := fun as S P k kx => match as with
  | [.ref 2096, .int x1, .int x2, .int x3] => z_J S ∧ (match e_X6_may S P x1 x2 x3 with
      | 0 => k (some (.int (f_X6_may S P x1 x2 x3))) S P
      | 1 => kx "java/lang/IndexOutOfBoundsException" S P
      | 2 => kx "java/lang/IllegalArgumentException" S P
      | _ => kx "java/lang/IllegalStateException" S P)
  | _ => False
def G_X6_may : z_G := ([(0, .aload_n 0, 1, 0), (1, .getfield 10, 4, 0), (4, .iload_n 1, 5, 0), (5, .invokevirtual 102, 8, 0), (8, .ifCond .eq 19, 11, 27), (11, .iload_n 2, 12, 0), (12, .invokestatic 150, 15, 0), (15, .ifCond .eq 12, 18, 27), (18, .iload_n 3, 19, 0), (19, .ifCond .lt 8, 22, 27), (22, .iload_n 3, 23, 0), (23, .iconst 4, 24, 0), (24, .if_icmp .le 14, 27, 38), (27, .new 86, 30, 0), (30, .dup, 31, 0), (31, .ldc_w 315, 34, 0), (34, .invokespecial 90, 37, 0), (37, .athrow, 38, 0), (38, .aload_n 0, 39, 0), (39, .iload_n 1, 40, 0), (40, .iload_n 2, 41, 0), (41, .invokevirtual 317, 44, 0), (44, .iload_n 3, 45, 0), (45, .invokestatic 184, 48, 0), (48, .ifCond .ne 5, 51, 53), (51, .iconst 0, 52, 0), (52, .ireturn, 53, 0), (53, .aload_n 0, 54, 0), (54, .getfield 33, 57, 0), (57, .iload_n 2, 58, 0), (58, .aload_n 0, 59, 0), (59, .getfield 59, 62, 0), (62, .invokevirtual 320, 65, 0), (65, .iload_n 3, 66, 0), (66, .invokestatic 184, 69, 0), (69, .ifCond .eq 7, 72, 76), (72, .iconst 1, 73, 0), (73, .goto 4, 76, 77), (76, .iconst 2, 77, 0), (77, .ireturn, 78, 0)], [(10, 2096, 0, some 4112), (33, 2096, 3, some 10240), (59, 2096, 8, none)], [(100150, 1, sp_X6_isPlace), (100184, 2, sp_X6_isIn), (102, 2, (z_rc 4112 sp_X2_isPeople)), (317, 3, (z_rc 2096 sp_X6_rightsOf)), (320, 3, (z_rc 10240 sp_X0_yieldingAt))], [], [], [(27, "java/lang/IndexOutOfBoundsException")], [], some .int)
def ss_X6_may : List z_ST := [(27, "java/lang/IndexOutOfBoundsException", 86, 315, 90, "no such people, place or right", true)]
set_option maxRecDepth 20000 in
set_option maxHeartbeats 4000000 in
theorem ct_X6_may (l : Launch) (hl9 : l.stackTraces = false) : z_CX l yX6_may cX6_may 4 (some .int) sp_X6_may 6 := by
  refine z_CX_of G_X6_may ss_X6_may hl9 (by decide) (by decide) (by decide +kernel) (z_pok_of ft_X6 ci_X6 cL_X6_L fo_X6 co_X6 lo_X6 (by decide +kernel)) rfl rfl (by decide +kernel) ?_ ?_ ?_
  · intro as S P Po Px h
    unfold sp_X6_may at h
    split at h
    · exact Nat.le_of_ble_eq_true rfl
    · exact h.elim
  · exact List.forall_mem_cons.mpr ⟨z_coS (ct_X6_isPlace l) kb_X6_isPlace ks_X6_150 (by decide) (by decide), List.forall_mem_cons.mpr ⟨z_coS (ct_X6_isIn l) kb_X6_isIn ks_X6_184 (by decide) (by decide), List.forall_mem_cons.mpr ⟨z_coV (ct_X2_isPeople l) kb_X2_isPeople kv_X6_102 ko_X2 (by decide) (by decide) (by decide), List.forall_mem_cons.mpr ⟨z_coV (ct_X6_rightsOf l) kb_X6_rightsOf kv_X6_317 ko_X6 (by decide) (by decide) (by decide), List.forall_mem_cons.mpr ⟨z_coV (ct_X0_yieldingAt l) kb_X0_yieldingAt kv_X6_320 ko_X0 (by decide) (by decide) (by decide), fun _ h => absurd h List.not_mem_nil⟩⟩⟩⟩⟩
  · intro as S P Po Px h V hV hW
    unfold sp_X6_may at h
    split at h
    · rename_i x1 x2 x3
      obtain ⟨hp0, hpo⟩ := h
      refine hV [] 45 0 _ _ _ _ ?_
      refine z_br (fun (h1 : (f_X2_isPeople S P x1) = false) => ?_) (fun (h1 : (f_X2_isPeople S P x1) = true) => ?_)
      · have he : e_X6_may S P x1 x2 x3 = 1 := (if_neg (z_nt h1)).trans rfl
        rw [he] at hpo
        exact hpo
      · refine z_br (fun (h2 : (f_X6_isPlace S P x2) = false) => ?_) (fun (h2 : (f_X6_isPlace S P x2) = true) => ?_)
        · have he : e_X6_may S P x1 x2 x3 = 1 := (if_pos h1).trans ((if_neg (z_nt h2)).trans rfl)
          rw [he] at hpo
          exact hpo
        · refine ⟨fun (h3 : x3 < 0) => ?_, fun (h3 : ¬ (x3 < 0)) => ?_⟩
          · have he : e_X6_may S P x1 x2 x3 = 1 := (if_pos h1).trans ((if_pos h2).trans ((if_pos h3).trans rfl))
            rw [he] at hpo
            exact hpo
          · refine ⟨fun (h4 : x3 ≤ (nI 4)) => ?_, fun (h4 : ¬ (x3 ≤ (nI 4))) => ?_⟩
            · refine ⟨(show z_le (S 12296 8) 12 by exact z_J_claims hp0), (show z_le (S 10240 8) 40 by exact z_J_acts hp0), ?_⟩
              refine z_brn (fun (h5 : (f_X6_isIn S P (f_X6_rightsOf S P x1 x2) x3) = true) => ?_) (fun (h5 : (f_X6_isIn S P (f_X6_rightsOf S P x1 x2) x3) = false) => ?_)
              · refine ⟨(show z_le (S 10240 8) 40 by exact z_J_acts hp0), ?_⟩
                refine z_br (fun (h6 : (f_X6_isIn S P (f_X0_yieldingAt S P x2 (S 2096 8)) x3) = false) => ?_) (fun (h6 : (f_X6_isIn S P (f_X0_yieldingAt S P x2 (S 2096 8)) x3) = true) => ?_)
                · have he : e_X6_may S P x1 x2 x3 = 0 := (if_pos h1).trans ((if_pos h2).trans ((if_neg h3).trans ((if_pos h4).trans ((if_pos h5).trans ((if_neg (z_nt h6)).trans rfl)))))
                  rw [he] at hpo
                  exact z_pi hpo ((if_pos h1).trans ((if_pos h2).trans ((if_neg h3).trans ((if_pos h4).trans ((if_pos h5).trans ((if_neg (z_nt h6)).trans rfl)))))) (rfl) (rfl)
                · have he : e_X6_may S P x1 x2 x3 = 0 := (if_pos h1).trans ((if_pos h2).trans ((if_neg h3).trans ((if_pos h4).trans ((if_pos h5).trans ((if_pos h6).trans rfl)))))
                  rw [he] at hpo
                  exact z_pi hpo ((if_pos h1).trans ((if_pos h2).trans ((if_neg h3).trans ((if_pos h4).trans ((if_pos h5).trans ((if_pos h6).trans rfl)))))) (rfl) (rfl)
              · have he : e_X6_may S P x1 x2 x3 = 0 := (if_pos h1).trans ((if_pos h2).trans ((if_neg h3).trans ((if_pos h4).trans ((if_neg (z_nt h5)).trans rfl))))
                rw [he] at hpo
                exact z_pi hpo ((if_pos h1).trans ((if_pos h2).trans ((if_neg h3).trans ((if_pos h4).trans ((if_neg (z_nt h5)).trans rfl))))) (rfl) (rfl)
            · have he : e_X6_may S P x1 x2 x3 = 1 := (if_pos h1).trans ((if_pos h2).trans ((if_neg h3).trans ((if_neg h4).trans rfl)))
              rw [he] at hpo
              exact hpo
    · exact h.elim
