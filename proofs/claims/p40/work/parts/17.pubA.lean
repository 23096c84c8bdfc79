def f_X6_people (S : z_MI) (P : z_ML) (x1 : Int32) : Int32 :=
  if x1 < 0 then
    0
  else
    if x1 ≤ (nI 2) then
      if (S 4112 6) < (nI 6) then
        f_X2_addPeople S P x1
      else
        0
    else
      0
def u_X6_people (S : z_MI) (P : z_ML) (x1 : Int32) : z_MI :=
  if x1 < 0 then
    S
  else
    if x1 ≤ (nI 2) then
      if (S 4112 6) < (nI 6) then
        u_X2_addPeople S P x1
      else
        S
    else
      S
def e_X6_people (S : z_MI) (P : z_ML) (x1 : Int32) : Nat :=
  if x1 < 0 then
    2
  else
    if x1 ≤ (nI 2) then
      if (S 4112 6) < (nI 6) then
        0
      else
        3
    else
      2
def sp_X6_people : z_SX := fun as S P k kx => match as with
  | [.ref 2096, .int x1] => z_J S ∧ (match e_X6_people S P x1 with
      | 0 => k (some (.int (f_X6_people S P x1))) (u_X6_people S P x1) P
      | 1 => kx "java/lang/IndexOutOfBoundsException" S P
      | 2 => kx "java/lang/IllegalArgumentException" S P
      | _ => kx "java/lang/IllegalStateException" S P)
  | _ => False
def G_X6_people : z_G := ([(0, .iload_n 1, 1, 0), (1, .ifCond .lt 8, 4, 9), (4, .iload_n 1, 5, 0), (5, .iconst 2, 6, 0), (6, .if_icmp .le 13, 9, 19), (9, .new 63, 12, 0), (12, .dup, 13, 0), (13, .ldc 65, 15, 0), (15, .invokespecial 67, 18, 0), (18, .athrow, 19, 0), (19, .aload_n 0, 20, 0), (20, .getfield 10, 23, 0), (23, .getfield 70, 26, 0), (26, .bipush 6, 28, 0), (28, .if_icmp .lt 13, 31, 41), (31, .new 73, 34, 0), (34, .dup, 35, 0), (35, .ldc 75, 37, 0), (37, .invokespecial 77, 40, 0), (40, .athrow, 41, 0), (41, .aload_n 0, 42, 0), (42, .getfield 10, 45, 0), (45, .iload_n 1, 46, 0), (46, .invokevirtual 78, 49, 0), (49, .ireturn, 50, 0)], [(10, 2096, 0, some 4112), (70, 4112, 6, none)], [(78, 2, (z_rc 4112 sp_X2_addPeople))], [], [], [(9, "java/lang/IllegalArgumentException"), (31, "java/lang/IllegalStateException")], [], some .int)
def ss_X6_people : List z_ST := [(9, "java/lang/IllegalArgumentException", 63, 65, 67, "rule is out of range", false), (31, "java/lang/IllegalStateException", 73, 75, 77, "there are 6 peoples", false)]
set_option maxRecDepth 20000 in
set_option maxHeartbeats 4000000 in
theorem ct_X6_people (l : Launch) (hl9 : l.stackTraces = false) : z_CX l yX6_people cX6_people 2 (some .int) sp_X6_people 6 := by
  refine z_CX_of G_X6_people ss_X6_people hl9 (by decide) (by decide) (by decide +kernel) (z_pok_of ft_X6 ci_X6 cL_X6_L fo_X6 co_X6 lo_X6 (by decide +kernel)) rfl rfl (by decide +kernel) ?_ ?_ ?_
  · intro as S P Po Px h
    unfold sp_X6_people at h
    split at h
    · exact Nat.le_of_ble_eq_true rfl
    · exact h.elim
  · exact List.forall_mem_cons.mpr ⟨z_coV (ct_X2_addPeople l) kb_X2_addPeople kv_X6_78 ko_X2 (by decide) (by decide) (by decide), fun _ h => absurd h List.not_mem_nil⟩
  · intro as S P Po Px h V hV hW
    unfold sp_X6_people at h
    split at h
    · rename_i x1
      obtain ⟨hp0, hpo⟩ := h
      refine hV [] 30 0 _ _ _ _ ?_
      refine ⟨fun (h1 : x1 < 0) => ?_, fun (h1 : ¬ (x1 < 0)) => ?_⟩
      · have he : e_X6_people S P x1 = 2 := (if_pos h1).trans rfl
        rw [he] at hpo
        exact hpo
      · refine ⟨fun (h2 : x1 ≤ (nI 2)) => ?_, fun (h2 : ¬ (x1 ≤ (nI 2))) => ?_⟩
        · refine ⟨fun (h3 : (S 4112 6) < (nI 6)) => ?_, fun (h3 : ¬ ((S 4112 6) < (nI 6))) => ?_⟩
          · refine ⟨(show vp_in (S 4112 6) 6 by first | exact z_room (by assumption) (z_J_peoples hp0) (by decide) (by decide) | exact z_roomL (by assumption) (z_J_peoples hp0) (by decide) (by decide)), ?_⟩
            have he : e_X6_people S P x1 = 0 := (if_neg h1).trans ((if_pos h2).trans ((if_pos h3).trans rfl))
            rw [he] at hpo
            exact z_pi hpo ((if_neg h1).trans ((if_pos h2).trans ((if_pos h3).trans rfl))) ((if_neg h1).trans ((if_pos h2).trans ((if_pos h3).trans rfl))) (rfl)
          · have he : e_X6_people S P x1 = 3 := (if_neg h1).trans ((if_pos h2).trans ((if_neg h3).trans rfl))
            rw [he] at hpo
            exact hpo
        · have he : e_X6_people S P x1 = 2 := (if_neg h1).trans ((if_neg h2).trans rfl)
          rw [he] at hpo
          exact hpo
    · exact h.elim
def f_X6_person (S : z_MI) (P : z_ML) (x1 : Int32) (x2 : Int32) : Int32 :=
  if (f_X2_isPersonOrNone S P x1) = true then
    if (f_X2_isPersonOrNone S P x2) = true then
      if x1 = x2 then
        if x1 = (-1) then
          if (S 4112 7) < (nI 30) then
            f_X2_addPerson S P x1 x2
          else
            0
        else
          0
      else
        if (S 4112 7) < (nI 30) then
          f_X2_addPerson S P x1 x2
        else
          0
    else
      0
  else
    0
def u_X6_person (S : z_MI) (P : z_ML) (x1 : Int32) (x2 : Int32) : z_MI :=
  if (f_X2_isPersonOrNone S P x1) = true then
    if (f_X2_isPersonOrNone S P x2) = true then
      if x1 = x2 then
        if x1 = (-1) then
          if (S 4112 7) < (nI 30) then
            u_X2_addPerson S P x1 x2
          else
            S
        else
          S
      else
        if (S 4112 7) < (nI 30) then
          u_X2_addPerson S P x1 x2
        else
          S
    else
      S
  else
    S
def e_X6_person (S : z_MI) (P : z_ML) (x1 : Int32) (x2 : Int32) : Nat :=
  if (f_X2_isPersonOrNone S P x1) = true then
    if (f_X2_isPersonOrNone S P x2) = true then
      if x1 = x2 then
        if x1 = (-1) then
          if (S 4112 7) < (nI 30) then
            0
          else
            3
        else
          2
      else
        if (S 4112 7) < (nI 30) then
          0
        else
          3
    else
      1
  else
    1
def sp_X6_person : z_SX := fun as S P k kx => match as with
  | [.ref 2096, .int x1, .int x2] => z_J S ∧ (match e_X6_person S P x1 x2 with
      | 0 => k (some (.int (f_X6_person S P x1 x2))) (u_X6_person S P x1 x2) P
      | 1 => kx "java/lang/IndexOutOfBoundsException" S P
      | 2 => kx "java/lang/IllegalArgumentException" S P
      | _ => kx "java/lang/IllegalStateException" S P)
  | _ => False
def G_X6_person : z_G := ([(0, .aload_n 0, 1, 0), (1, .getfield 10, 4, 0), (4, .iload_n 1, 5, 0), (5, .invokevirtual 82, 8, 0), (8, .ifCond .eq 14, 11, 22), (11, .aload_n 0, 12, 0), (12, .getfield 10, 15, 0), (15, .iload_n 2, 16, 0), (16, .invokevirtual 82, 19, 0), (19, .ifCond .ne 13, 22, 32), (22, .new 86, 25, 0), (25, .dup, 26, 0), (26, .ldc 88, 28, 0), (28, .invokespecial 90, 31, 0), (31, .athrow, 32, 0), (32, .iload_n 1, 33, 0), (33, .iload_n 2, 34, 0), (34, .if_icmp .ne 18, 37, 52), (37, .iload_n 1, 38, 0), (38, .iconst (-1), 39, 0), (39, .if_icmp .eq 13, 42, 52), (42, .new 63, 45, 0), (45, .dup, 46, 0), (46, .ldc 91, 48, 0), (48, .invokespecial 67, 51, 0), (51, .athrow, 52, 0), (52, .aload_n 0, 53, 0), (53, .getfield 10, 56, 0), (56, .getfield 93, 59, 0), (59, .bipush 30, 61, 0), (61, .if_icmp .lt 13, 64, 74), (64, .new 73, 67, 0), (67, .dup, 68, 0), (68, .ldc 96, 70, 0), (70, .invokespecial 77, 73, 0), (73, .athrow, 74, 0), (74, .aload_n 0, 75, 0), (75, .getfield 10, 78, 0), (78, .iload_n 1, 79, 0), (79, .iload_n 2, 80, 0), (80, .invokevirtual 98, 83, 0), (83, .ireturn, 84, 0)], [(10, 2096, 0, some 4112), (93, 4112, 7, none)], [(82, 2, (z_rc 4112 sp_X2_isPersonOrNone)), (98, 3, (z_rc 4112 sp_X2_addPerson))], [], [], [(22, "java/lang/IndexOutOfBoundsException"), (42, "java/lang/IllegalArgumentException"), (64, "java/lang/IllegalStateException")], [], some .int)
def ss_X6_person : List z_ST := [(22, "java/lang/IndexOutOfBoundsException", 86, 88, 90, "no such mother or father", false), (42, "java/lang/IllegalArgumentException", 63, 91, 67, "mother and father are the same person", false), (64, "java/lang/IllegalStateException", 73, 96, 77, "there are 30 persons", false)]
set_option maxRecDepth 20000 in
set_option maxHeartbeats 4000000 in
theorem ct_X6_person (l : Launch) (hl9 : l.stackTraces = false) : z_CX l yX6_person cX6_person 3 (some .int) sp_X6_person 6 := by
  refine z_CX_of G_X6_person ss_X6_person hl9 (by decide) (by decide) (by decide +kernel) (z_pok_of ft_X6 ci_X6 cL_X6_L fo_X6 co_X6 lo_X6 (by decide +kernel)) rfl rfl (by decide +kernel) ?_ ?_ ?_
  · intro as S P Po Px h
    unfold sp_X6_person at h
    split at h
    · exact Nat.le_of_ble_eq_true rfl
    · exact h.elim
  · exact List.forall_mem_cons.mpr ⟨z_coV (ct_X2_isPersonOrNone l) kb_X2_isPersonOrNone kv_X6_82 ko_X2 (by decide) (by decide) (by decide), List.forall_mem_cons.mpr ⟨z_coV (ct_X2_addPerson l) kb_X2_addPerson kv_X6_98 ko_X2 (by decide) (by decide) (by decide), fun _ h => absurd h List.not_mem_nil⟩⟩
  · intro as S P Po Px h V hV hW
    unfold sp_X6_person at h
    split at h
    · rename_i x1 x2
      obtain ⟨hp0, hpo⟩ := h
      refine hV [] 47 0 _ _ _ _ ?_
      refine z_br (fun (h1 : (f_X2_isPersonOrNone S P x1) = false) => ?_) (fun (h1 : (f_X2_isPersonOrNone S P x1) = true) => ?_)
      · have he : e_X6_person S P x1 x2 = 1 := (if_neg (z_nt h1)).trans rfl
        rw [he] at hpo
        exact hpo
      · refine z_brn (fun (h2 : (f_X2_isPersonOrNone S P x2) = true) => ?_) (fun (h2 : (f_X2_isPersonOrNone S P x2) = false) => ?_)
        · refine ⟨fun (h3 : ¬ (x1 = x2)) => ?_, fun (h3 : x1 = x2) => ?_⟩
          · refine ⟨fun (h4 : (S 4112 7) < (nI 30)) => ?_, fun (h4 : ¬ ((S 4112 7) < (nI 30))) => ?_⟩
            · refine ⟨(show vp_in (S 4112 7) 30 by first | exact z_room (by assumption) (z_J_persons hp0) (by decide) (by decide) | exact z_roomL (by assumption) (z_J_persons hp0) (by decide) (by decide)), ?_⟩
              have he : e_X6_person S P x1 x2 = 0 := (if_pos h1).trans ((if_pos h2).trans ((if_neg h3).trans ((if_pos h4).trans rfl)))
              rw [he] at hpo
              exact z_pi hpo ((if_pos h1).trans ((if_pos h2).trans ((if_neg h3).trans ((if_pos h4).trans rfl)))) ((if_pos h1).trans ((if_pos h2).trans ((if_neg h3).trans ((if_pos h4).trans rfl)))) (rfl)
            · have he : e_X6_person S P x1 x2 = 3 := (if_pos h1).trans ((if_pos h2).trans ((if_neg h3).trans ((if_neg h4).trans rfl)))
              rw [he] at hpo
              exact hpo
          · refine ⟨fun (h5 : x1 = (-1)) => ?_, fun (h5 : ¬ (x1 = (-1))) => ?_⟩
            · refine ⟨fun (h6 : (S 4112 7) < (nI 30)) => ?_, fun (h6 : ¬ ((S 4112 7) < (nI 30))) => ?_⟩
              · refine ⟨(show vp_in (S 4112 7) 30 by first | exact z_room (by assumption) (z_J_persons hp0) (by decide) (by decide) | exact z_roomL (by assumption) (z_J_persons hp0) (by decide) (by decide)), ?_⟩
                have he : e_X6_person S P x1 x2 = 0 := (if_pos h1).trans ((if_pos h2).trans ((if_pos h3).trans ((if_pos h5).trans ((if_pos h6).trans rfl))))
                rw [he] at hpo
                exact z_pi hpo ((if_pos h1).trans ((if_pos h2).trans ((if_pos h3).trans ((if_pos h5).trans ((if_pos h6).trans rfl))))) ((if_pos h1).trans ((if_pos h2).trans ((if_pos h3).trans ((if_pos h5).trans ((if_pos h6).trans rfl))))) (rfl)
              · have he : e_X6_person S P x1 x2 = 3 := (if_pos h1).trans ((if_pos h2).trans ((if_pos h3).trans ((if_pos h5).trans ((if_neg h6).trans rfl))))
                rw [he] at hpo
                exact hpo
            · have he : e_X6_person S P x1 x2 = 2 := (if_pos h1).trans ((if_pos h2).trans ((if_pos h3).trans ((if_neg h5).trans rfl)))
              rw [he] at hpo
              exact hpo
        · have he : e_X6_person S P x1 x2 = 1 := (if_pos h1).trans ((if_neg (z_nt h2)).trans rfl)
          rw [he] at hpo
          exact hpo
    · exact h.elim
def f_X6_root (S : z_MI) (P : z_ML) (x1 : Int32) (x2 : Int32) (x3 : Int32) : Int32 :=
  if (f_X2_isPeople S P x1) = true then
    if (f_X2_isPerson S P x2) = true then
      f_J6_bitCount_0f7a4 (va_up S 22577 (upd (S 22577) x1.toNatClampNeg (f_X6_with S P (S 22577 x1.toNatClampNeg) x2 x3))) P (f_X2_membersOf (va_up S 22577 (upd (S 22577) x1.toNatClampNeg (f_X6_with S P (S 22577 x1.toNatClampNeg) x2 x3))) P x1)
    else
      0
  else
    0
def u_X6_root (S : z_MI) (P : z_ML) (x1 : Int32) (x2 : Int32) (x3 : Int32) : z_MI :=
  if (f_X2_isPeople S P x1) = true then
    if (f_X2_isPerson S P x2) = true then
      va_up S 22577 (upd (S 22577) x1.toNatClampNeg (f_X6_with S P (S 22577 x1.toNatClampNeg) x2 x3))
    else
      S
  else
    S
def e_X6_root (S : z_MI) (P : z_ML) (x1 : Int32) (x2 : Int32) (x3 : Int32) : Nat :=
  if (f_X2_isPeople S P x1) = true then
    if (f_X2_isPerson S P x2) = true then
      0
    else
      1
  else
    1
def sp_X6_root : z_SX := fun as S P k kx => match as with
  | [.ref 2096, .int x1, .int x2, .int x3] => z_J S ∧ (match e_X6_root S P x1 x2 x3 with
      | 0 => k (some (.int (f_X6_root S P x1 x2 x3))) (u_X6_root S P x1 x2 x3) P
      | 1 => kx "java/lang/IndexOutOfBoundsException" S P
      | 2 => kx "java/lang/IllegalArgumentException" S P
      | _ => kx "java/lang/IllegalStateException" S P)
  | _ => False
def G_X6_root : z_G := ([(0, .aload_n 0, 1, 0), (1, .getfield 10, 4, 0), (4, .iload_n 1, 5, 0), (5, .invokevirtual 102, 8, 0), (8, .ifCond .eq 14, 11, 22), (11, .aload_n 0, 12, 0), (12, .getfield 10, 15, 0), (15, .iload_n 2, 16, 0), (16, .invokevirtual 105, 19, 0), (19, .ifCond .ne 13, 22, 32), (22, .new 86, 25, 0), (25, .dup, 26, 0), (26, .ldc 108, 28, 0), (28, .invokespecial 90, 31, 0), (31, .athrow, 32, 0), (32, .aload_n 0, 33, 0), (33, .getfield 10, 36, 0), (36, .getfield 110, 39, 0), (39, .iload_n 1, 40, 0), (40, .aload_n 0, 41, 0), (41, .getfield 10, 44, 0), (44, .getfield 110, 47, 0), (47, .iload_n 1, 48, 0), (48, .iaload, 49, 0), (49, .iload_n 2, 50, 0), (50, .iload_n 3, 51, 0), (51, .invokestatic 113, 54, 0), (54, .iastore, 55, 0), (55, .aload_n 0, 56, 0), (56, .getfield 10, 59, 0), (59, .iload_n 1, 60, 0), (60, .invokevirtual 117, 63, 0), (63, .invokestatic 120, 66, 0), (66, .ireturn, 67, 0)], [(10, 2096, 0, some 4112), (110, 4112, 1, some 22577)], [(100113, 3, sp_X6_with), (100120, 1, sp_J6_bitCount_0f7a4), (102, 2, (z_rc 4112 sp_X2_isPeople)), (105, 2, (z_rc 4112 sp_X2_isPerson)), (117, 2, (z_rc 4112 sp_X2_membersOf))], [], [], [(22, "java/lang/IndexOutOfBoundsException")], [], some .int)
def ss_X6_root : List z_ST := [(22, "java/lang/IndexOutOfBoundsException", 86, 108, 90, "no such people or person", false)]
set_option maxRecDepth 20000 in
set_option maxHeartbeats 4000000 in
theorem ct_X6_root (l : Launch) (hl9 : l.stackTraces = false) : z_CX l yX6_root cX6_root 4 (some .int) sp_X6_root 6 := by
  refine z_CX_of G_X6_root ss_X6_root hl9 (by decide) (by decide) (by decide +kernel) (z_pok_of ft_X6 ci_X6 cL_X6_L fo_X6 co_X6 lo_X6 (by decide +kernel)) rfl rfl (by decide +kernel) ?_ ?_ ?_
  · intro as S P Po Px h
    unfold sp_X6_root at h
    split at h
    · exact Nat.le_of_ble_eq_true rfl
    · exact h.elim
  · exact List.forall_mem_cons.mpr ⟨z_coS (ct_X6_with l) kb_X6_with ks_X6_113 (by decide) (by decide), List.forall_mem_cons.mpr ⟨z_coS (ct_J6_bitCount_0f7a4 l) kb_J6_bitCount_0f7a4 ks_X6_120 (by decide) (by decide), List.forall_mem_cons.mpr ⟨z_coV (ct_X2_isPeople l) kb_X2_isPeople kv_X6_102 ko_X2 (by decide) (by decide) (by decide), List.forall_mem_cons.mpr ⟨z_coV (ct_X2_isPerson l) kb_X2_isPerson kv_X6_105 ko_X2 (by decide) (by decide) (by decide), List.forall_mem_cons.mpr ⟨z_coV (ct_X2_membersOf l) kb_X2_membersOf kv_X6_117 ko_X2 (by decide) (by decide) (by decide), fun _ h => absurd h List.not_mem_nil⟩⟩⟩⟩⟩
  · intro as S P Po Px h V hV hW
    unfold sp_X6_root at h
    split at h
    · rename_i x1 x2 x3
      obtain ⟨hp0, hpo⟩ := h
      refine hV [] 39 0 _ _ _ _ ?_
      refine z_br (fun (h1 : (f_X2_isPeople S P x1) = false) => ?_) (fun (h1 : (f_X2_isPeople S P x1) = true) => ?_)
      · have he : e_X6_root S P x1 x2 x3 = 1 := (if_neg (z_nt h1)).trans rfl
        rw [he] at hpo
        exact hpo
      · refine z_brn (fun (h2 : (f_X2_isPerson S P x2) = true) => ?_) (fun (h2 : (f_X2_isPerson S P x2) = false) => ?_)
        · refine ⟨(show vp_in x1 6 by first | exact t_isPeople hp0 (by assumption)), ?_⟩
          refine ⟨(show vp_in x1 6 by first | exact t_isPeople hp0 (by assumption)), ?_⟩
          refine ⟨(show vp_in x1 6 by first | exact t_isPeople hp0 (by assumption)), (show z_le ((va_up S 22577 (upd (S 22577) x1.toNatClampNeg (f_X6_with S P (S 22577 x1.toNatClampNeg) x2 x3))) 4112 7) 30 by exact z_J_persons hp0), ?_⟩
          have he : e_X6_root S P x1 x2 x3 = 0 := (if_pos h1).trans ((if_pos h2).trans rfl)
          rw [he] at hpo
          exact z_pi hpo ((if_pos h1).trans ((if_pos h2).trans rfl)) ((if_pos h1).trans ((if_pos h2).trans rfl)) (rfl)
        · have he : e_X6_root S P x1 x2 x3 = 1 := (if_pos h1).trans ((if_neg (z_nt h2)).trans rfl)
          rw [he] at hpo
          exact hpo
    · exact h.elim
def f_X6_adopt (S : z_MI) (P : z_ML) (x1 : Int32) (x2 : Int32) : Int32 :=
  if (f_X2_isPerson S P x1) = true then
    if (f_X2_isPersonOrNone S P x2) = true then
      if x1 = x2 then
        0
      else
        S 28913 x1.toNatClampNeg
    else
      0
  else
    0
def u_X6_adopt (S : z_MI) (P : z_ML) (x1 : Int32) (x2 : Int32) : z_MI :=
  if (f_X2_isPerson S P x1) = true then
    if (f_X2_isPersonOrNone S P x2) = true then
      if x1 = x2 then
        S
      else
        va_up S 28913 (upd (S 28913) x1.toNatClampNeg x2)
    else
      S
  else
    S
def e_X6_adopt (S : z_MI) (P : z_ML) (x1 : Int32) (x2 : Int32) : Nat :=
  if (f_X2_isPerson S P x1) = true then
    if (f_X2_isPersonOrNone S P x2) = true then
      if x1 = x2 then
        2
      else
        0
    else
      1
  else
    1
def sp_X6_adopt : z_SX := fun as S P k kx => match as with
  | [.ref 2096, .int x1, .int x2] => z_J S ∧ (match e_X6_adopt S P x1 x2 with
      | 0 => k (some (.int (f_X6_adopt S P x1 x2))) (u_X6_adopt S P x1 x2) P
      | 1 => kx "java/lang/IndexOutOfBoundsException" S P
      | 2 => kx "java/lang/IllegalArgumentException" S P
      | _ => kx "java/lang/IllegalStateException" S P)
  | _ => False
def G_X6_adopt : z_G := ([(0, .aload_n 0, 1, 0), (1, .getfield 10, 4, 0), (4, .iload_n 1, 5, 0), (5, .invokevirtual 105, 8, 0), (8, .ifCond .eq 14, 11, 22), (11, .aload_n 0, 12, 0), (12, .getfield 10, 15, 0), (15, .iload_n 2, 16, 0), (16, .invokevirtual 82, 19, 0), (19, .ifCond .ne 13, 22, 32), (22, .new 86, 25, 0), (25, .dup, 26, 0), (26, .ldc 125, 28, 0), (28, .invokespecial 90, 31, 0), (31, .athrow, 32, 0), (32, .iload_n 1, 33, 0), (33, .iload_n 2, 34, 0), (34, .if_icmp .ne 13, 37, 47), (37, .new 63, 40, 0), (40, .dup, 41, 0), (41, .ldc 127, 43, 0), (43, .invokespecial 67, 46, 0), (46, .athrow, 47, 0), (47, .aload_n 0, 48, 0), (48, .getfield 10, 51, 0), (51, .getfield 129, 54, 0), (54, .iload_n 1, 55, 0), (55, .iaload, 56, 0), (56, .istore_n 3, 57, 0), (57, .aload_n 0, 58, 0), (58, .getfield 10, 61, 0), (61, .getfield 129, 64, 0), (64, .iload_n 1, 65, 0), (65, .iload_n 2, 66, 0), (66, .iastore, 67, 0), (67, .iload_n 3, 68, 0), (68, .ireturn, 69, 0)], [(10, 2096, 0, some 4112), (129, 4112, 4, some 28913)], [(82, 2, (z_rc 4112 sp_X2_isPersonOrNone)), (105, 2, (z_rc 4112 sp_X2_isPerson))], [], [], [(22, "java/lang/IndexOutOfBoundsException"), (37, "java/lang/IllegalArgumentException")], [], some .int)
def ss_X6_adopt : List z_ST := [(22, "java/lang/IndexOutOfBoundsException", 86, 125, 90, "no such person", false), (37, "java/lang/IllegalArgumentException", 63, 127, 67, "nobody adopts oneself", false)]
set_option maxRecDepth 20000 in
set_option maxHeartbeats 4000000 in
theorem ct_X6_adopt (l : Launch) (hl9 : l.stackTraces = false) : z_CX l yX6_adopt cX6_adopt 4 (some .int) sp_X6_adopt 6 := by
  refine z_CX_of G_X6_adopt ss_X6_adopt hl9 (by decide) (by decide) (by decide +kernel) (z_pok_of ft_X6 ci_X6 cL_X6_L fo_X6 co_X6 lo_X6 (by decide +kernel)) rfl rfl (by decide +kernel) ?_ ?_ ?_
  · intro as S P Po Px h
    unfold sp_X6_adopt at h
    split at h
    · exact Nat.le_of_ble_eq_true rfl
    · exact h.elim
  · exact List.forall_mem_cons.mpr ⟨z_coV (ct_X2_isPersonOrNone l) kb_X2_isPersonOrNone kv_X6_82 ko_X2 (by decide) (by decide) (by decide), List.forall_mem_cons.mpr ⟨z_coV (ct_X2_isPerson l) kb_X2_isPerson kv_X6_105 ko_X2 (by decide) (by decide) (by decide), fun _ h => absurd h List.not_mem_nil⟩⟩
  · intro as S P Po Px h V hV hW
    unfold sp_X6_adopt at h
    split at h
    · rename_i x1 x2
      obtain ⟨hp0, hpo⟩ := h
      refine hV [] 42 0 _ _ _ _ ?_
      refine z_br (fun (h1 : (f_X2_isPerson S P x1) = false) => ?_) (fun (h1 : (f_X2_isPerson S P x1) = true) => ?_)
      · have he : e_X6_adopt S P x1 x2 = 1 := (if_neg (z_nt h1)).trans rfl
        rw [he] at hpo
        exact hpo
      · refine z_brn (fun (h2 : (f_X2_isPersonOrNone S P x2) = true) => ?_) (fun (h2 : (f_X2_isPersonOrNone S P x2) = false) => ?_)
        · refine ⟨fun (h3 : ¬ (x1 = x2)) => ?_, fun (h3 : x1 = x2) => ?_⟩
          · refine ⟨(show vp_in x1 30 by first | exact t_isPerson hp0 (by assumption)), ?_⟩
            refine ⟨(show vp_in x1 30 by first | exact t_isPerson hp0 (by assumption)), ?_⟩
            have he : e_X6_adopt S P x1 x2 = 0 := (if_pos h1).trans ((if_pos h2).trans ((if_neg h3).trans rfl))
            rw [he] at hpo
            exact z_pi hpo ((if_pos h1).trans ((if_pos h2).trans ((if_neg h3).trans rfl))) ((if_pos h1).trans ((if_pos h2).trans ((if_neg h3).trans rfl))) (rfl)
          · have he : e_X6_adopt S P x1 x2 = 2 := (if_pos h1).trans ((if_pos h2).trans ((if_pos h3).trans rfl))
            rw [he] at hpo
            exact hpo
        · have he : e_X6_adopt S P x1 x2 = 1 := (if_pos h1).trans ((if_neg (z_nt h2)).trans rfl)
          rw [he] at hpo
          exact hpo
    · exact h.elim
def f_X6_raise (S : z_MI) (P : z_ML) (x1 : Int32) : Int32 :=
  if (f_X2_isPerson S P x1) = true then
    if (S 30961 x1.toNatClampNeg) < (nI 3) then
      (upd (S 30961) x1.toNatClampNeg ((S 30961 x1.toNatClampNeg) + (nI 1))) x1.toNatClampNeg
    else
      0
  else
    0
def u_X6_raise (S : z_MI) (P : z_ML) (x1 : Int32) : z_MI :=
  if (f_X2_isPerson S P x1) = true then
    if (S 30961 x1.toNatClampNeg) < (nI 3) then
      va_up S 30961 (upd (S 30961) x1.toNatClampNeg ((S 30961 x1.toNatClampNeg) + (nI 1)))
    else
      S
  else
    S
def e_X6_raise (S : z_MI) (P : z_ML) (x1 : Int32) : Nat :=
  if (f_X2_isPerson S P x1) = true then
    if (S 30961 x1.toNatClampNeg) < (nI 3) then
      0
    else
      3
  else
    1
def sp_X6_raise : z_SX := fun as S P k kx => match as with
  | [.ref 2096, .int x1] => z_J S ∧ (match e_X6_raise S P x1 with
      | 0 => k (some (.int (f_X6_raise S P x1))) (u_X6_raise S P x1) P
      | 1 => kx "java/lang/IndexOutOfBoundsException" S P
      | 2 => kx "java/lang/IllegalArgumentException" S P
      | _ => kx "java/lang/IllegalStateException" S P)
  | _ => False
def G_X6_raise : z_G := ([(0, .aload_n 0, 1, 0), (1, .getfield 10, 4, 0), (4, .iload_n 1, 5, 0), (5, .invokevirtual 105, 8, 0), (8, .ifCond .ne 13, 11, 21), (11, .new 86, 14, 0), (14, .dup, 15, 0), (15, .ldc 125, 17, 0), (17, .invokespecial 90, 20, 0), (20, .athrow, 21, 0), (21, .aload_n 0, 22, 0), (22, .getfield 10, 25, 0), (25, .getfield 132, 28, 0), (28, .iload_n 1, 29, 0), (29, .iaload, 30, 0), (30, .iconst 3, 31, 0), (31, .if_icmp .lt 13, 34, 44), (34, .new 73, 37, 0), (37, .dup, 38, 0), (38, .ldc 135, 40, 0), (40, .invokespecial 77, 43, 0), (43, .athrow, 44, 0), (44, .aload_n 0, 45, 0), (45, .getfield 10, 48, 0), (48, .getfield 132, 51, 0), (51, .iload_n 1, 52, 0), (52, .dup2, 53, 0), (53, .iaload, 54, 0), (54, .iconst 1, 55, 0), (55, .iadd, 56, 0), (56, .iastore, 57, 0), (57, .aload_n 0, 58, 0), (58, .getfield 10, 61, 0), (61, .getfield 132, 64, 0), (64, .iload_n 1, 65, 0), (65, .iaload, 66, 0), (66, .ireturn, 67, 0)], [(10, 2096, 0, some 4112), (132, 4112, 5, some 30961)], [(105, 2, (z_rc 4112 sp_X2_isPerson))], [], [], [(11, "java/lang/IndexOutOfBoundsException"), (34, "java/lang/IllegalStateException")], [], some .int)
def ss_X6_raise : List z_ST := [(11, "java/lang/IndexOutOfBoundsException", 86, 125, 90, "no such person", false), (34, "java/lang/IllegalStateException", 73, 135, 77, "the rank is 3", false)]
set_option maxRecDepth 20000 in
set_option maxHeartbeats 4000000 in
theorem ct_X6_raise (l : Launch) (hl9 : l.stackTraces = false) : z_CX l yX6_raise cX6_raise 2 (some .int) sp_X6_raise 6 := by
  refine z_CX_of G_X6_raise ss_X6_raise hl9 (by decide) (by decide) (by decide +kernel) (z_pok_of ft_X6 ci_X6 cL_X6_L fo_X6 co_X6 lo_X6 (by decide +kernel)) rfl rfl (by decide +kernel) ?_ ?_ ?_
  · intro as S P Po Px h
    unfold sp_X6_raise at h
    split at h
    · exact Nat.le_of_ble_eq_true rfl
    · exact h.elim
  · exact List.forall_mem_cons.mpr ⟨z_coV (ct_X2_isPerson l) kb_X2_isPerson kv_X6_105 ko_X2 (by decide) (by decide) (by decide), fun _ h => absurd h List.not_mem_nil⟩
  · intro as S P Po Px h V hV hW
    unfold sp_X6_raise at h
    split at h
    · rename_i x1
      obtain ⟨hp0, hpo⟩ := h
      refine hV [] 42 0 _ _ _ _ ?_
      refine z_brn (fun (h1 : (f_X2_isPerson S P x1) = true) => ?_) (fun (h1 : (f_X2_isPerson S P x1) = false) => ?_)
      · refine ⟨(show vp_in x1 30 by first | exact t_isPerson hp0 (by assumption)), ?_⟩
        refine ⟨fun (h2 : (S 30961 x1.toNatClampNeg) < (nI 3)) => ?_, fun (h2 : ¬ ((S 30961 x1.toNatClampNeg) < (nI 3))) => ?_⟩
        · refine ⟨(show vp_in x1 30 by first | exact t_isPerson hp0 (by assumption)), ?_⟩
          refine ⟨(show vp_in x1 30 by first | exact t_isPerson hp0 (by assumption)), ?_⟩
          refine ⟨(show vp_in x1 30 by first | exact t_isPerson hp0 (by assumption)), ?_⟩
          have he : e_X6_raise S P x1 = 0 := (if_pos h1).trans ((if_pos h2).trans rfl)
          rw [he] at hpo
          exact z_pi hpo ((if_pos h1).trans ((if_pos h2).trans rfl)) ((if_pos h1).trans ((if_pos h2).trans rfl)) (rfl)
        · have he : e_X6_raise S P x1 = 3 := (if_pos h1).trans ((if_neg h2).trans rfl)
          rw [he] at hpo
          exact hpo
      · have he : e_X6_raise S P x1 = 1 := (if_neg (z_nt h1)).trans rfl
        rw [he] at hpo
        exact hpo
    · exact h.elim
def f_X6_members (S : z_MI) (P : z_ML) (x1 : Int32) : Int32 :=
  if (f_X2_isPeople S P x1) = true then
    f_X2_membersOf S P x1
  else
    0
def e_X6_members (S : z_MI) (P : z_ML) (x1 : Int32) : Nat :=
  if (f_X2_isPeople S P x1) = true then
    0
  else
    1
def sp_X6_members : z_SX := fun as S P k kx => match as with
  | [.ref 2096, .int x1] => z_J S ∧ (match e_X6_members S P x1 with
      | 0 => k (some (.int (f_X6_members S P x1))) S P
      | 1 => kx "java/lang/IndexOutOfBoundsException" S P
      | 2 => kx "java/lang/IllegalArgumentException" S P
      | _ => kx "java/lang/IllegalStateException" S P)
  | _ => False
def G_X6_members : z_G := ([(0, .aload_n 0, 1, 0), (1, .getfield 10, 4, 0), (4, .iload_n 1, 5, 0), (5, .invokevirtual 102, 8, 0), (8, .ifCond .ne 13, 11, 21), (11, .new 86, 14, 0), (14, .dup, 15, 0), (15, .ldc 137, 17, 0), (17, .invokespecial 90, 20, 0), (20, .athrow, 21, 0), (21, .aload_n 0, 22, 0), (22, .getfield 10, 25, 0), (25, .iload_n 1, 26, 0), (26, .invokevirtual 117, 29, 0), (29, .ireturn, 30, 0)], [(10, 2096, 0, some 4112)], [(102, 2, (z_rc 4112 sp_X2_isPeople)), (117, 2, (z_rc 4112 sp_X2_membersOf))], [], [], [(11, "java/lang/IndexOutOfBoundsException")], [], some .int)
def ss_X6_members : List z_ST := [(11, "java/lang/IndexOutOfBoundsException", 86, 137, 90, "no such people", false)]
set_option maxRecDepth 20000 in
set_option maxHeartbeats 4000000 in
theorem ct_X6_members (l : Launch) (hl9 : l.stackTraces = false) : z_CX l yX6_members cX6_members 2 (some .int) sp_X6_members 6 := by
  refine z_CX_of G_X6_members ss_X6_members hl9 (by decide) (by decide) (by decide +kernel) (z_pok_of ft_X6 ci_X6 cL_X6_L fo_X6 co_X6 lo_X6 (by decide +kernel)) rfl rfl (by decide +kernel) ?_ ?_ ?_
  · intro as S P Po Px h
    unfold sp_X6_members at h
    split at h
    · exact Nat.le_of_ble_eq_true rfl
    · exact h.elim
  · exact List.forall_mem_cons.mpr ⟨z_coV (ct_X2_isPeople l) kb_X2_isPeople kv_X6_102 ko_X2 (by decide) (by decide) (by decide), List.forall_mem_cons.mpr ⟨z_coV (ct_X2_membersOf l) kb_X2_membersOf kv_X6_117 ko_X2 (by decide) (by decide) (by decide), fun _ h => absurd h List.not_mem_nil⟩⟩
  · intro as S P Po Px h V hV hW
    unfold sp_X6_members at h
    split at h
    · rename_i x1
      obtain ⟨hp0, hpo⟩ := h
      refine hV [] 20 0 _ _ _ _ ?_
      refine z_brn (fun (h1 : (f_X2_isPeople S P x1) = true) => ?_) (fun (h1 : (f_X2_isPeople S P x1) = false) => ?_)
      · refine ⟨(show vp_in x1 6 by first | exact t_isPeople hp0 (by assumption)), (show z_le (S 4112 7) 30 by exact z_J_persons hp0), ?_⟩
        have he : e_X6_members S P x1 = 0 := (if_pos h1).trans rfl
        rw [he] at hpo
        exact z_pi hpo ((if_pos h1).trans rfl) (rfl) (rfl)
      · have he : e_X6_members S P x1 = 1 := (if_neg (z_nt h1)).trans rfl
        rw [he] at hpo
        exact hpo
    · exact h.elim
def f_X6_story (S : z_MI) (P : z_ML) (x1 : Int32) : Int32 :=
  if (f_X2_isPeople S P x1) = true then
    if (S 6184 4) < (nI 10) then
      f_X5_add S P x1
    else
      0
  else
    0
def u_X6_story (S : z_MI) (P : z_ML) (x1 : Int32) : z_MI :=
  if (f_X2_isPeople S P x1) = true then
    if (S 6184 4) < (nI 10) then
      u_X5_add S P x1
    else
      S
  else
    S
def e_X6_story (S : z_MI) (P : z_ML) (x1 : Int32) : Nat :=
  if (f_X2_isPeople S P x1) = true then
    if (S 6184 4) < (nI 10) then
      0
    else
      3
  else
    1
def sp_X6_story : z_SX := fun as S P k kx => match as with
  | [.ref 2096, .int x1] => z_J S ∧ (match e_X6_story S P x1 with
      | 0 => k (some (.int (f_X6_story S P x1))) (u_X6_story S P x1) P
      | 1 => kx "java/lang/IndexOutOfBoundsException" S P
      | 2 => kx "java/lang/IllegalArgumentException" S P
      | _ => kx "java/lang/IllegalStateException" S P)
  | _ => False
def G_X6_story : z_G := ([(0, .aload_n 0, 1, 0), (1, .getfield 10, 4, 0), (4, .iload_n 1, 5, 0), (5, .invokevirtual 102, 8, 0), (8, .ifCond .ne 13, 11, 21), (11, .new 86, 14, 0), (14, .dup, 15, 0), (15, .ldc 137, 17, 0), (17, .invokespecial 90, 20, 0), (20, .athrow, 21, 0), (21, .aload_n 0, 22, 0), (22, .getfield 19, 25, 0), (25, .getfield 139, 28, 0), (28, .bipush 10, 30, 0), (30, .if_icmp .lt 13, 33, 43), (33, .new 73, 36, 0), (36, .dup, 37, 0), (37, .ldc 142, 39, 0), (39, .invokespecial 77, 42, 0), (42, .athrow, 43, 0), (43, .aload_n 0, 44, 0), (44, .getfield 19, 47, 0), (47, .iload_n 1, 48, 0), (48, .invokevirtual 144, 51, 0), (51, .ireturn, 52, 0)], [(10, 2096, 0, some 4112), (19, 2096, 1, some 6184), (139, 6184, 4, none)], [(102, 2, (z_rc 4112 sp_X2_isPeople)), (144, 2, (z_rc 6184 sp_X5_add))], [], [], [(11, "java/lang/IndexOutOfBoundsException"), (33, "java/lang/IllegalStateException")], [], some .int)
def ss_X6_story : List z_ST := [(11, "java/lang/IndexOutOfBoundsException", 86, 137, 90, "no such people", false), (33, "java/lang/IllegalStateException", 73, 142, 77, "there are 10 stories", false)]
set_option maxRecDepth 20000 in
set_option maxHeartbeats 4000000 in
theorem ct_X6_story (l : Launch) (hl9 : l.stackTraces = false) : z_CX l yX6_story cX6_story 2 (some .int) sp_X6_story 6 := by
  refine z_CX_of G_X6_story ss_X6_story hl9 (by decide) (by decide) (by decide +kernel) (z_pok_of ft_X6 ci_X6 cL_X6_L fo_X6 co_X6 lo_X6 (by decide +kernel)) rfl rfl (by decide +kernel) ?_ ?_ ?_
  · intro as S P Po Px h
    unfold sp_X6_story at h
    split at h
    · exact Nat.le_of_ble_eq_true rfl
    · exact h.elim
  · exact List.forall_mem_cons.mpr ⟨z_coV (ct_X2_isPeople l) kb_X2_isPeople kv_X6_102 ko_X2 (by decide) (by decide) (by decide), List.forall_mem_cons.mpr ⟨z_coV (ct_X5_add l) kb_X5_add kv_X6_144 ko_X5 (by decide) (by decide) (by decide), fun _ h => absurd h List.not_mem_nil⟩⟩
  · intro as S P Po Px h V hV hW
    unfold sp_X6_story at h
    split at h
    · rename_i x1
      obtain ⟨hp0, hpo⟩ := h
      refine hV [] 30 0 _ _ _ _ ?_
      refine z_brn (fun (h1 : (f_X2_isPeople S P x1) = true) => ?_) (fun (h1 : (f_X2_isPeople S P x1) = false) => ?_)
      · refine ⟨fun (h2 : (S 6184 4) < (nI 10)) => ?_, fun (h2 : ¬ ((S 6184 4) < (nI 10))) => ?_⟩
        · refine ⟨(show vp_in (S 6184 4) 10 by first | exact z_room (by assumption) (z_J_stories hp0) (by decide) (by decide) | exact z_roomL (by assumption) (z_J_stories hp0) (by decide) (by decide)), ?_⟩
          have he : e_X6_story S P x1 = 0 := (if_pos h1).trans ((if_pos h2).trans rfl)
          rw [he] at hpo
          exact z_pi hpo ((if_pos h1).trans ((if_pos h2).trans rfl)) ((if_pos h1).trans ((if_pos h2).trans rfl)) (rfl)
        · have he : e_X6_story S P x1 = 3 := (if_pos h1).trans ((if_neg h2).trans rfl)
          rw [he] at hpo
          exact hpo
      · have he : e_X6_story S P x1 = 1 := (if_neg (z_nt h1)).trans rfl
        rw [he] at hpo
        exact hpo
    · exact h.elim
def f_X6_part (S : z_MI) (P : z_ML) (x1 : Int32) (x2 : Int32) (x3 : Int32) : Int32 :=
  if (f_X5_isStory S P x1) = true then
    if (f_X6_isPlace S P x2) = true then
      if x3 < 0 then
        0
      else
        if x3 ≤ (nI 3) then
          if (S 34897 x1.toNatClampNeg) < (nI 12) then
            f_X5_addPart S P x1 x2 x3
          else
            0
        else
          0
    else
      0
  else
    0
def u_X6_part (S : z_MI) (P : z_ML) (x1 : Int32) (x2 : Int32) (x3 : Int32) : z_MI :=
  if (f_X5_isStory S P x1) = true then
    if (f_X6_isPlace S P x2) = true then
      if x3 < 0 then
        S
      else
        if x3 ≤ (nI 3) then
          if (S 34897 x1.toNatClampNeg) < (nI 12) then
            u_X5_addPart S P x1 x2 x3
          else
            S
        else
          S
    else
      S
  else
    S
def e_X6_part (S : z_MI) (P : z_ML) (x1 : Int32) (x2 : Int32) (x3 : Int32) : Nat :=
  if (f_X5_isStory S P x1) = true then
    if (f_X6_isPlace S P x2) = true then
      if x3 < 0 then
        2
      else
        if x3 ≤ (nI 3) then
          if (S 34897 x1.toNatClampNeg) < (nI 12) then
            0
          else
            3
        else
          2
    else
      1
  else
    1
def sp_X6_part : z_SX := fun as S P k kx => match as with
  | [.ref 2096, .int x1, .int x2, .int x3] => z_J S ∧ (match e_X6_part S P x1 x2 x3 with
      | 0 => k (some (.int (f_X6_part S P x1 x2 x3))) (u_X6_part S P x1 x2 x3) P
      | 1 => kx "java/lang/IndexOutOfBoundsException" S P
      | 2 => kx "java/lang/IllegalArgumentException" S P
      | _ => kx "java/lang/IllegalStateException" S P)
  | _ => False
def G_X6_part : z_G := ([(0, .aload_n 0, 1, 0), (1, .getfield 19, 4, 0), (4, .iload_n 1, 5, 0), (5, .invokevirtual 147, 8, 0), (8, .ifCond .eq 10, 11, 18), (11, .iload_n 2, 12, 0), (12, .invokestatic 150, 15, 0), (15, .ifCond .ne 13, 18, 28), (18, .new 86, 21, 0), (21, .dup, 22, 0), (22, .ldc 153, 24, 0), (24, .invokespecial 90, 27, 0), (27, .athrow, 28, 0), (28, .iload_n 3, 29, 0), (29, .ifCond .lt 8, 32, 37), (32, .iload_n 3, 33, 0), (33, .iconst 3, 34, 0), (34, .if_icmp .le 13, 37, 47), (37, .new 63, 40, 0), (40, .dup, 41, 0), (41, .ldc 155, 43, 0), (43, .invokespecial 67, 46, 0), (46, .athrow, 47, 0), (47, .aload_n 0, 48, 0), (48, .getfield 19, 51, 0), (51, .getfield 157, 54, 0), (54, .iload_n 1, 55, 0), (55, .iaload, 56, 0), (56, .bipush 12, 58, 0), (58, .if_icmp .lt 13, 61, 71), (61, .new 73, 64, 0), (64, .dup, 65, 0), (65, .ldc 160, 67, 0), (67, .invokespecial 77, 70, 0), (70, .athrow, 71, 0), (71, .aload_n 0, 72, 0), (72, .getfield 19, 75, 0), (75, .iload_n 1, 76, 0), (76, .iload_n 2, 77, 0), (77, .iload_n 3, 78, 0), (78, .invokevirtual 162, 81, 0), (81, .ireturn, 82, 0)], [(19, 2096, 1, some 6184), (157, 6184, 1, some 34897)], [(100150, 1, sp_X6_isPlace), (147, 2, (z_rc 6184 sp_X5_isStory)), (162, 4, (z_rc 6184 sp_X5_addPart))], [], [], [(18, "java/lang/IndexOutOfBoundsException"), (37, "java/lang/IllegalArgumentException"), (61, "java/lang/IllegalStateException")], [], some .int)
def ss_X6_part : List z_ST := [(18, "java/lang/IndexOutOfBoundsException", 86, 153, 90, "no such story or place", false), (37, "java/lang/IllegalArgumentException", 63, 155, 67, "level is out of range", false), (61, "java/lang/IllegalStateException", 73, 160, 77, "the story has 12 parts", false)]
set_option maxRecDepth 20000 in
set_option maxHeartbeats 4000000 in
theorem ct_X6_part (l : Launch) (hl9 : l.stackTraces = false) : z_CX l yX6_part cX6_part 4 (some .int) sp_X6_part 6 := by
  refine z_CX_of G_X6_part ss_X6_part hl9 (by decide) (by decide) (by decide +kernel) (z_pok_of ft_X6 ci_X6 cL_X6_L fo_X6 co_X6 lo_X6 (by decide +kernel)) rfl rfl (by decide +kernel) ?_ ?_ ?_
  · intro as S P Po Px h
    unfold sp_X6_part at h
    split at h
    · exact Nat.le_of_ble_eq_true rfl
    · exact h.elim
  · exact List.forall_mem_cons.mpr ⟨z_coS (ct_X6_isPlace l) kb_X6_isPlace ks_X6_150 (by decide) (by decide), List.forall_mem_cons.mpr ⟨z_coV (ct_X5_isStory l) kb_X5_isStory kv_X6_147 ko_X5 (by decide) (by decide) (by decide), List.forall_mem_cons.mpr ⟨z_coV (ct_X5_addPart l) kb_X5_addPart kv_X6_162 ko_X5 (by decide) (by decide) (by decide), fun _ h => absurd h List.not_mem_nil⟩⟩⟩
  · intro as S P Po Px h V hV hW
    unfold sp_X6_part at h
    split at h
    · rename_i x1 x2 x3
      obtain ⟨hp0, hpo⟩ := h
      refine hV [] 47 0 _ _ _ _ ?_
      refine z_br (fun (h1 : (f_X5_isStory S P x1) = false) => ?_) (fun (h1 : (f_X5_isStory S P x1) = true) => ?_)
      · have he : e_X6_part S P x1 x2 x3 = 1 := (if_neg (z_nt h1)).trans rfl
        rw [he] at hpo
        exact hpo
      · refine z_brn (fun (h2 : (f_X6_isPlace S P x2) = true) => ?_) (fun (h2 : (f_X6_isPlace S P x2) = false) => ?_)
        · refine ⟨fun (h3 : x3 < 0) => ?_, fun (h3 : ¬ (x3 < 0)) => ?_⟩
          · have he : e_X6_part S P x1 x2 x3 = 2 := (if_pos h1).trans ((if_pos h2).trans ((if_pos h3).trans rfl))
            rw [he] at hpo
            exact hpo
          · refine ⟨fun (h4 : x3 ≤ (nI 3)) => ?_, fun (h4 : ¬ (x3 ≤ (nI 3))) => ?_⟩
            · refine ⟨(show vp_in x1 10 by first | exact t_isStory hp0 (by assumption) | exact t_isPartS hp0 (by assumption)), ?_⟩
              refine ⟨fun (h5 : (S 34897 x1.toNatClampNeg) < (nI 12)) => ?_, fun (h5 : ¬ ((S 34897 x1.toNatClampNeg) < (nI 12))) => ?_⟩
              · refine ⟨(show vp_in x1 10 by first | exact t_isStory hp0 (by assumption) | exact t_isPartS hp0 (by assumption)), (show vp_in ((x1 * (nI 12)) + (S 34897 x1.toNatClampNeg)) 120 by first | exact z_room1 (by assumption) (z_J_parts hp0 _) (t_isStory hp0 (by assumption)) | exact z_room1L (by assumption) (z_J_parts hp0 _) (t_isStory hp0 (by assumption))), ?_⟩
                have he : e_X6_part S P x1 x2 x3 = 0 := (if_pos h1).trans ((if_pos h2).trans ((if_neg h3).trans ((if_pos h4).trans ((if_pos h5).trans rfl))))
                rw [he] at hpo
                exact z_pi hpo ((if_pos h1).trans ((if_pos h2).trans ((if_neg h3).trans ((if_pos h4).trans ((if_pos h5).trans rfl))))) ((if_pos h1).trans ((if_pos h2).trans ((if_neg h3).trans ((if_pos h4).trans ((if_pos h5).trans rfl))))) (rfl)
              · have he : e_X6_part S P x1 x2 x3 = 3 := (if_pos h1).trans ((if_pos h2).trans ((if_neg h3).trans ((if_pos h4).trans ((if_neg h5).trans rfl))))
                rw [he] at hpo
                exact hpo
            · have he : e_X6_part S P x1 x2 x3 = 2 := (if_pos h1).trans ((if_pos h2).trans ((if_neg h3).trans ((if_neg h4).trans rfl)))
              rw [he] at hpo
              exact hpo
        · have he : e_X6_part S P x1 x2 x3 = 1 := (if_pos h1).trans ((if_neg (z_nt h2)).trans rfl)
          rw [he] at hpo
          exact hpo
    · exact h.elim
def f_X6_hears (S : z_MI) (P : z_ML) (x1 : Int32) (x2 : Int32) (x3 : Int32) : Int32 :=
  if (f_X2_isPerson S P x1) = true then
    if (f_X5_isPart S P x2 x3) = true then
      f_X5_placeUpTo S P x2 x3 (f_X6_levelHeard S P x1 x2)
    else
      0
  else
    0
def e_X6_hears (S : z_MI) (P : z_ML) (x1 : Int32) (x2 : Int32) (x3 : Int32) : Nat :=
  if (f_X2_isPerson S P x1) = true then
    if (f_X5_isPart S P x2 x3) = true then
      0
    else
      1
  else
    1
def sp_X6_hears : z_SX := fun as S P k kx => match as with
  | [.ref 2096, .int x1, .int x2, .int x3] => z_J S ∧ (match e_X6_hears S P x1 x2 x3 with
      | 0 => k (some (.int (f_X6_hears S P x1 x2 x3))) S P
      | 1 => kx "java/lang/IndexOutOfBoundsException" S P
      | 2 => kx "java/lang/IllegalArgumentException" S P
      | _ => kx "java/lang/IllegalStateException" S P)
  | _ => False
def G_X6_hears : z_G := ([(0, .aload_n 0, 1, 0), (1, .getfield 10, 4, 0), (4, .iload_n 1, 5, 0), (5, .invokevirtual 105, 8, 0), (8, .ifCond .eq 15, 11, 23), (11, .aload_n 0, 12, 0), (12, .getfield 19, 15, 0), (15, .iload_n 2, 16, 0), (16, .iload_n 3, 17, 0), (17, .invokevirtual 166, 20, 0), (20, .ifCond .ne 13, 23, 33), (23, .new 86, 26, 0), (26, .dup, 27, 0), (27, .ldc 170, 29, 0), (29, .invokespecial 90, 32, 0), (32, .athrow, 33, 0), (33, .aload_n 0, 34, 0), (34, .getfield 19, 37, 0), (37, .iload_n 2, 38, 0), (38, .iload_n 3, 39, 0), (39, .aload_n 0, 40, 0), (40, .iload_n 1, 41, 0), (41, .iload_n 2, 42, 0), (42, .invokevirtual 172, 45, 0), (45, .invokevirtual 175, 48, 0), (48, .ireturn, 49, 0)], [(10, 2096, 0, some 4112), (19, 2096, 1, some 6184)], [(105, 2, (z_rc 4112 sp_X2_isPerson)), (166, 3, (z_rc 6184 sp_X5_isPart)), (172, 3, (z_rc 2096 sp_X6_levelHeard)), (175, 4, (z_rc 6184 sp_X5_placeUpTo))], [], [], [(23, "java/lang/IndexOutOfBoundsException")], [], some .int)
def ss_X6_hears : List z_ST := [(23, "java/lang/IndexOutOfBoundsException", 86, 170, 90, "no such person, story or part", false)]
set_option maxRecDepth 20000 in
set_option maxHeartbeats 4000000 in
theorem ct_X6_hears (l : Launch) (hl9 : l.stackTraces = false) : z_CX l yX6_hears cX6_hears 4 (some .int) sp_X6_hears 6 := by
  refine z_CX_of G_X6_hears ss_X6_hears hl9 (by decide) (by decide) (by decide +kernel) (z_pok_of ft_X6 ci_X6 cL_X6_L fo_X6 co_X6 lo_X6 (by decide +kernel)) rfl rfl (by decide +kernel) ?_ ?_ ?_
  · intro as S P Po Px h
    unfold sp_X6_hears at h
    split at h
    · exact Nat.le_of_ble_eq_true rfl
    · exact h.elim
  · exact List.forall_mem_cons.mpr ⟨z_coV (ct_X2_isPerson l) kb_X2_isPerson kv_X6_105 ko_X2 (by decide) (by decide) (by decide), List.forall_mem_cons.mpr ⟨z_coV (ct_X5_isPart l) kb_X5_isPart kv_X6_166 ko_X5 (by decide) (by decide) (by decide), List.forall_mem_cons.mpr ⟨z_coV (ct_X6_levelHeard l) kb_X6_levelHeard kv_X6_172 ko_X6 (by decide) (by decide) (by decide), List.forall_mem_cons.mpr ⟨z_coV (ct_X5_placeUpTo l) kb_X5_placeUpTo kv_X6_175 ko_X5 (by decide) (by decide) (by decide), fun _ h => absurd h List.not_mem_nil⟩⟩⟩⟩
  · intro as S P Po Px h V hV hW
    unfold sp_X6_hears at h
    split at h
    · rename_i x1 x2 x3
      obtain ⟨hp0, hpo⟩ := h
      refine hV [] 31 0 _ _ _ _ ?_
      refine z_br (fun (h1 : (f_X2_isPerson S P x1) = false) => ?_) (fun (h1 : (f_X2_isPerson S P x1) = true) => ?_)
      · have he : e_X6_hears S P x1 x2 x3 = 1 := (if_neg (z_nt h1)).trans rfl
        rw [he] at hpo
        exact hpo
      · refine ⟨(show z_le (S 6184 4) 10 by exact z_J_stories hp0), ?_⟩
        refine z_brn (fun (h2 : (f_X5_isPart S P x2 x3) = true) => ?_) (fun (h2 : (f_X5_isPart S P x2 x3) = false) => ?_)
        · refine ⟨(show vp_in x2 10 by first | exact t_isStory hp0 (by assumption) | exact t_isPartS hp0 (by assumption)), (show vp_in (S 32849 x2.toNatClampNeg) 6 by exact z_J_stp hp0 _), (show z_le (S 4112 7) 30 by exact z_J_persons hp0), (show vp_in x1 30 by first | exact t_isPerson hp0 (by assumption)), ?_⟩
          refine ⟨(show vp_in ((x2 * (nI 12)) + x3) 120 by exact t_isPart hp0 (by assumption)), ?_⟩
          have he : e_X6_hears S P x1 x2 x3 = 0 := (if_pos h1).trans ((if_pos h2).trans rfl)
          rw [he] at hpo
          exact z_pi hpo ((if_pos h1).trans ((if_pos h2).trans rfl)) (rfl) (rfl)
        · have he : e_X6_hears S P x1 x2 x3 = 1 := (if_pos h1).trans ((if_neg (z_nt h2)).trans rfl)
          rw [he] at hpo
          exact hpo
    · exact h.elim
def l_X6_told_25 (S : z_MI) (P : z_ML) (x1 : Int32) (k25 : Nat) (a25 : Int32) : Int32 :=
  a25 ||| (f_X5_placesUpTo S P (nI k25) (f_X6_levelHeard S P x1 (nI k25)))
def f_X6_told (S : z_MI) (P : z_ML) (x1 : Int32) : Int32 :=
  if (f_X2_isPerson S P x1) = true then
    (z_fo (fun k25 a25 => l_X6_told_25 S P x1 k25 a25) (nI 0) (S 6184 4).toNatClampNeg)
  else
    0
def e_X6_told (S : z_MI) (P : z_ML) (x1 : Int32) : Nat :=
  if (f_X2_isPerson S P x1) = true then
    0
  else
    1
def sp_X6_told : z_SX := fun as S P k kx => match as with
  | [.ref 2096, .int x1] => z_J S ∧ (match e_X6_told S P x1 with
      | 0 => k (some (.int (f_X6_told S P x1))) S P
      | 1 => kx "java/lang/IndexOutOfBoundsException" S P
      | 2 => kx "java/lang/IllegalArgumentException" S P
      | _ => kx "java/lang/IllegalStateException" S P)
  | _ => False
def G_X6_told : z_G := ([(0, .aload_n 0, 1, 0), (1, .getfield 10, 4, 0), (4, .iload_n 1, 5, 0), (5, .invokevirtual 105, 8, 0), (8, .ifCond .ne 13, 11, 21), (11, .new 86, 14, 0), (14, .dup, 15, 0), (15, .ldc 125, 17, 0), (17, .invokespecial 90, 20, 0), (20, .athrow, 21, 0), (21, .iconst 0, 22, 0), (22, .istore_n 2, 23, 0), (23, .iconst 0, 24, 0), (24, .istore_n 3, 25, 0), (25, .iload_n 3, 26, 0), (26, .aload_n 0, 27, 0), (27, .getfield 19, 30, 0), (30, .getfield 139, 33, 0), (33, .if_icmp .ge 26, 36, 59), (36, .iload_n 2, 37, 0), (37, .aload_n 0, 38, 0), (38, .getfield 19, 41, 0), (41, .iload_n 3, 42, 0), (42, .aload_n 0, 43, 0), (43, .iload_n 1, 44, 0), (44, .iload_n 3, 45, 0), (45, .invokevirtual 172, 48, 0), (48, .invokevirtual 178, 51, 0), (51, .ior, 52, 0), (52, .istore_n 2, 53, 0), (53, .iinc 3 1, 56, 0), (56, .goto (-31), 59, 25), (59, .iload_n 2, 60, 0), (60, .ireturn, 61, 0)], [(10, 2096, 0, some 4112), (19, 2096, 1, some 6184), (139, 6184, 4, none)], [(105, 2, (z_rc 4112 sp_X2_isPerson)), (172, 3, (z_rc 2096 sp_X6_levelHeard)), (178, 3, (z_rc 6184 sp_X5_placesUpTo))], [], [], [(11, "java/lang/IndexOutOfBoundsException")], [], some .int)
def ss_X6_told : List z_ST := [(11, "java/lang/IndexOutOfBoundsException", 86, 125, 90, "no such person", false)]
set_option maxRecDepth 20000 in
set_option maxHeartbeats 4000000 in
theorem ct_X6_told (l : Launch) (hl9 : l.stackTraces = false) : z_CX l yX6_told cX6_told 4 (some .int) sp_X6_told 6 := by
  refine z_CX_of G_X6_told ss_X6_told hl9 (by decide) (by decide) (by decide +kernel) (z_pok_of ft_X6 ci_X6 cL_X6_L fo_X6 co_X6 lo_X6 (by decide +kernel)) rfl rfl (by decide +kernel) ?_ ?_ ?_
  · intro as S P Po Px h
    unfold sp_X6_told at h
    split at h
    · exact Nat.le_of_ble_eq_true rfl
    · exact h.elim
  · exact List.forall_mem_cons.mpr ⟨z_coV (ct_X2_isPerson l) kb_X2_isPerson kv_X6_105 ko_X2 (by decide) (by decide) (by decide), List.forall_mem_cons.mpr ⟨z_coV (ct_X6_levelHeard l) kb_X6_levelHeard kv_X6_172 ko_X6 (by decide) (by decide) (by decide), List.forall_mem_cons.mpr ⟨z_coV (ct_X5_placesUpTo l) kb_X5_placesUpTo kv_X6_178 ko_X5 (by decide) (by decide) (by decide), fun _ h => absurd h List.not_mem_nil⟩⟩⟩
  · intro as S P Po Px h V hV hW
    unfold sp_X6_told at h
    split at h
    · rename_i x1
      obtain ⟨hp0, hpo⟩ := h
      refine hV [25] 39 0 _ _ _ _ ?_
      refine z_brn (fun (h1 : (f_X2_isPerson S P x1) = true) => ?_) (fun (h1 : (f_X2_isPerson S P x1) = false) => ?_)
      · obtain ⟨hb25, hN25⟩ := z_le_cl (show z_le (S 6184 4) 10 by exact z_J_stories hp0) (by decide)
        have hL25 : ∀ (j k25 : Nat) (x900 : Int32) (a25 : Int32), k25 + j = (S 6184 4).toNatClampNeg → x900 = nI k25 → a25 = z_fo (fun k25 a25 => l_X6_told_25 S P x1 k25 a25) (nI 0) k25 → V 25 [(0, .ref 2096), (1, .int x1), (2, .int a25), (3, .int x900)] [] S P := by
          intro j
          induction j with
          | zero =>
            intro k25 x900 a25 hk25 hx25 ha25
            subst hx25
            have hk9 : k25 = (S 6184 4).toNatClampNeg := by omega
            subst hk9
            subst ha25
            refine hV [25] 39 25 _ _ _ _ ?_
            refine ⟨fun _ => ?_, fun h => absurd ((z_brge hb25 (by omega) (by omega)).mpr (Nat.le_refl _)) h⟩
            have he : e_X6_told S P x1 = 0 := (if_pos h1).trans rfl
            rw [he] at hpo
            exact z_pi hpo ((if_pos h1).trans rfl) (rfl) (rfl)
          | succ j ih =>
            intro k25 x900 a25 hk25 hx25 ha25
            subst hx25
            have hk9 : k25 < (S 6184 4).toNatClampNeg := by omega
            subst ha25
            refine hV [25] 39 25 _ _ _ _ ?_
            refine ⟨fun h => absurd ((z_brge hb25 (by omega) (by omega)).mp h) (by omega), fun _ => ?_⟩
            refine ⟨(show vp_in (nI k25) 10 by exact vp_in_nI (by omega) (by omega)), (show vp_in (S 32849 (nI k25).toNatClampNeg) 6 by exact z_J_stp hp0 _), (show z_le (S 4112 7) 30 by exact z_J_persons hp0), (show vp_in x1 30 by first | exact t_isPerson hp0 (by assumption)), ?_⟩
            refine ⟨(show z_le (S 34897 (nI k25).toNatClampNeg) 12 by exact z_J_parts hp0 _), (show vp_in (nI k25) 10 by exact vp_in_nI (by omega) (by omega)), ?_⟩
            exact hW [0, 1, 2, 3] _ _ _ _ _ (ih (k25 + 1) _ ((z_fo (fun k25 a25 => l_X6_told_25 S P x1 k25 a25) (nI 0) k25) ||| (f_X5_placesUpTo S P (nI k25) (f_X6_levelHeard S P x1 (nI k25)))) (by omega) (nI_add k25 1) ((rfl).symm))
        exact hW [0, 1, 2, 3] _ _ _ _ _ (hL25 (S 6184 4).toNatClampNeg 0 _ (nI 0) (Nat.zero_add _) rfl rfl)
      · have he : e_X6_told S P x1 = 1 := (if_neg (z_nt h1)).trans rfl
        rw [he] at hpo
        exact hpo
    · exact h.elim
def f_X6_explain (S : z_MI) (P : z_ML) (x1 : Int32) (x2 : Int32) (x3 : Int32) : Int32 :=
  if (f_X2_isPeople S P x1) = true then
    if x2 < 0 then
      0
    else
      if x3 < x2 then
        0
      else
        if x3 ≤ (nI 5000) then
          if (S 49201 x1.toNatClampNeg) < (nI 8) then
            f_X3_addExplained S P x1 x2 x3
          else
            0
        else
          0
  else
    0
def u_X6_explain (S : z_MI) (P : z_ML) (x1 : Int32) (x2 : Int32) (x3 : Int32) : z_MI :=
  if (f_X2_isPeople S P x1) = true then
    if x2 < 0 then
      S
    else
      if x3 < x2 then
        S
      else
        if x3 ≤ (nI 5000) then
          if (S 49201 x1.toNatClampNeg) < (nI 8) then
            u_X3_addExplained S P x1 x2 x3
          else
            S
        else
          S
  else
    S
def e_X6_explain (S : z_MI) (P : z_ML) (x1 : Int32) (x2 : Int32) (x3 : Int32) : Nat :=
  if (f_X2_isPeople S P x1) = true then
    if x2 < 0 then
      2
    else
      if x3 < x2 then
        2
      else
        if x3 ≤ (nI 5000) then
          if (S 49201 x1.toNatClampNeg) < (nI 8) then
            0
          else
            3
        else
          2
  else
    1
def sp_X6_explain : z_SX := fun as S P k kx => match as with
  | [.ref 2096, .int x1, .int x2, .int x3] => z_J S ∧ (match e_X6_explain S P x1 x2 x3 with
      | 0 => k (some (.int (f_X6_explain S P x1 x2 x3))) (u_X6_explain S P x1 x2 x3) P
      | 1 => kx "java/lang/IndexOutOfBoundsException" S P
      | 2 => kx "java/lang/IllegalArgumentException" S P
      | _ => kx "java/lang/IllegalStateException" S P)
  | _ => False
def G_X6_explain : z_G := ([(0, .aload_n 0, 1, 0), (1, .getfield 10, 4, 0), (4, .iload_n 1, 5, 0), (5, .invokevirtual 102, 8, 0), (8, .ifCond .ne 13, 11, 21), (11, .new 86, 14, 0), (14, .dup, 15, 0), (15, .ldc 137, 17, 0), (17, .invokespecial 90, 20, 0), (20, .athrow, 21, 0), (21, .iload_n 2, 22, 0), (22, .ifCond .lt 15, 25, 37), (25, .iload_n 3, 26, 0), (26, .iload_n 2, 27, 0), (27, .if_icmp .lt 10, 30, 37), (30, .iload_n 3, 31, 0), (31, .sipush 5000, 34, 0), (34, .if_icmp .le 13, 37, 47), (37, .new 63, 40, 0), (40, .dup, 41, 0), (41, .ldc 197, 43, 0), (43, .invokespecial 67, 46, 0), (46, .athrow, 47, 0), (47, .aload_n 0, 48, 0), (48, .getfield 26, 51, 0), (51, .getfield 199, 54, 0), (54, .iload_n 1, 55, 0), (55, .iaload, 56, 0), (56, .bipush 8, 58, 0), (58, .if_icmp .lt 13, 61, 71), (61, .new 73, 64, 0), (64, .dup, 65, 0), (65, .ldc 202, 67, 0), (67, .invokespecial 77, 70, 0), (70, .athrow, 71, 0), (71, .aload_n 0, 72, 0), (72, .getfield 26, 75, 0), (75, .iload_n 1, 76, 0), (76, .iload_n 2, 77, 0), (77, .iload_n 3, 78, 0), (78, .invokevirtual 204, 81, 0), (81, .ireturn, 82, 0)], [(10, 2096, 0, some 4112), (26, 2096, 2, some 8216), (199, 8216, 4, some 49201)], [(102, 2, (z_rc 4112 sp_X2_isPeople)), (204, 4, (z_rc 8216 sp_X3_addExplained))], [], [], [(11, "java/lang/IndexOutOfBoundsException"), (37, "java/lang/IllegalArgumentException"), (61, "java/lang/IllegalStateException")], [], some .int)
def ss_X6_explain : List z_ST := [(11, "java/lang/IndexOutOfBoundsException", 86, 137, 90, "no such people", false), (37, "java/lang/IllegalArgumentException", 63, 197, 67, "from or to is out of range", false), (61, "java/lang/IllegalStateException", 73, 202, 77, "the people has explained months 8 times", false)]
set_option maxRecDepth 20000 in
set_option maxHeartbeats 4000000 in
theorem ct_X6_explain (l : Launch) (hl9 : l.stackTraces = false) : z_CX l yX6_explain cX6_explain 4 (some .int) sp_X6_explain 6 := by
  refine z_CX_of G_X6_explain ss_X6_explain hl9 (by decide) (by decide) (by decide +kernel) (z_pok_of ft_X6 ci_X6 cL_X6_L fo_X6 co_X6 lo_X6 (by decide +kernel)) rfl rfl (by decide +kernel) ?_ ?_ ?_
  · intro as S P Po Px h
    unfold sp_X6_explain at h
    split at h
    · exact Nat.le_of_ble_eq_true rfl
    · exact h.elim
  · exact List.forall_mem_cons.mpr ⟨z_coV (ct_X2_isPeople l) kb_X2_isPeople kv_X6_102 ko_X2 (by decide) (by decide) (by decide), List.forall_mem_cons.mpr ⟨z_coV (ct_X3_addExplained l) kb_X3_addExplained kv_X6_204 ko_X3 (by decide) (by decide) (by decide), fun _ h => absurd h List.not_mem_nil⟩⟩
  · intro as S P Po Px h V hV hW
    unfold sp_X6_explain at h
    split at h
    · rename_i x1 x2 x3
      obtain ⟨hp0, hpo⟩ := h
      refine hV [] 47 0 _ _ _ _ ?_
      refine z_brn (fun (h1 : (f_X2_isPeople S P x1) = true) => ?_) (fun (h1 : (f_X2_isPeople S P x1) = false) => ?_)
      · refine ⟨fun (h2 : x2 < 0) => ?_, fun (h2 : ¬ (x2 < 0)) => ?_⟩
        · have he : e_X6_explain S P x1 x2 x3 = 2 := (if_pos h1).trans ((if_pos h2).trans rfl)
          rw [he] at hpo
          exact hpo
        · refine ⟨fun (h3 : x3 < x2) => ?_, fun (h3 : ¬ (x3 < x2)) => ?_⟩
          · have he : e_X6_explain S P x1 x2 x3 = 2 := (if_pos h1).trans ((if_neg h2).trans ((if_pos h3).trans rfl))
            rw [he] at hpo
            exact hpo
          · refine ⟨fun (h4 : x3 ≤ (nI 5000)) => ?_, fun (h4 : ¬ (x3 ≤ (nI 5000))) => ?_⟩
            · refine ⟨(show vp_in x1 6 by first | exact t_isPeople hp0 (by assumption)), ?_⟩
              refine ⟨fun (h5 : (S 49201 x1.toNatClampNeg) < (nI 8)) => ?_, fun (h5 : ¬ ((S 49201 x1.toNatClampNeg) < (nI 8))) => ?_⟩
              · refine ⟨(show vp_in x1 6 by first | exact t_isPeople hp0 (by assumption)), (show vp_in ((x1 * (nI 8)) + (S 49201 x1.toNatClampNeg)) 48 by first | exact z_room2 (by assumption) (z_J_expl hp0 _) (t_isPeople hp0 (by assumption)) | exact z_room2L (by assumption) (z_J_expl hp0 _) (t_isPeople hp0 (by assumption))), ?_⟩
                have he : e_X6_explain S P x1 x2 x3 = 0 := (if_pos h1).trans ((if_neg h2).trans ((if_neg h3).trans ((if_pos h4).trans ((if_pos h5).trans rfl))))
                rw [he] at hpo
                exact z_pi hpo ((if_pos h1).trans ((if_neg h2).trans ((if_neg h3).trans ((if_pos h4).trans ((if_pos h5).trans rfl))))) ((if_pos h1).trans ((if_neg h2).trans ((if_neg h3).trans ((if_pos h4).trans ((if_pos h5).trans rfl))))) (rfl)
              · have he : e_X6_explain S P x1 x2 x3 = 3 := (if_pos h1).trans ((if_neg h2).trans ((if_neg h3).trans ((if_pos h4).trans ((if_neg h5).trans rfl))))
                rw [he] at hpo
                exact hpo
            · have he : e_X6_explain S P x1 x2 x3 = 2 := (if_pos h1).trans ((if_neg h2).trans ((if_neg h3).trans ((if_neg h4).trans rfl)))
              rw [he] at hpo
              exact hpo
      · have he : e_X6_explain S P x1 x2 x3 = 1 := (if_neg (z_nt h1)).trans rfl
        rw [he] at hpo
        exact hpo
    · exact h.elim
def f_X6_isProved (S : z_MI) (P : z_ML) (x1 : Int32) (x2 : Int32) : Bool :=
  if (f_X2_isPeople S P x1) = true then
    if (f_X6_isPlace S P x2) = true then
      f_X3_prove S P x1 x2 (S 2096 8)
    else
      false
  else
    false
def e_X6_isProved (S : z_MI) (P : z_ML) (x1 : Int32) (x2 : Int32) : Nat :=
  if (f_X2_isPeople S P x1) = true then
    if (f_X6_isPlace S P x2) = true then
      0
    else
      1
  else
    1
def sp_X6_isProved : z_SX := fun as S P k kx => match as with
  | [.ref 2096, .int x1, .int x2] => z_J S ∧ (match e_X6_isProved S P x1 x2 with
      | 0 => k (some (.int (z_b (f_X6_isProved S P x1 x2)))) S P
      | 1 => kx "java/lang/IndexOutOfBoundsException" S P
      | 2 => kx "java/lang/IllegalArgumentException" S P
      | _ => kx "java/lang/IllegalStateException" S P)
  | _ => False
def G_X6_isProved : z_G := ([(0, .aload_n 0, 1, 0), (1, .getfield 10, 4, 0), (4, .iload_n 1, 5, 0), (5, .invokevirtual 102, 8, 0), (8, .ifCond .eq 10, 11, 18), (11, .iload_n 2, 12, 0), (12, .invokestatic 150, 15, 0), (15, .ifCond .ne 13, 18, 28), (18, .new 86, 21, 0), (21, .dup, 22, 0), (22, .ldc 187, 24, 0), (24, .invokespecial 90, 27, 0), (27, .athrow, 28, 0), (28, .aload_n 0, 29, 0), (29, .getfield 26, 32, 0), (32, .iload_n 1, 33, 0), (33, .iload_n 2, 34, 0), (34, .aload_n 0, 35, 0), (35, .getfield 59, 38, 0), (38, .invokevirtual 207, 41, 0), (41, .ireturn, 42, 0)], [(10, 2096, 0, some 4112), (26, 2096, 2, some 8216), (59, 2096, 8, none)], [(100150, 1, sp_X6_isPlace), (102, 2, (z_rc 4112 sp_X2_isPeople)), (207, 4, (z_rc 8216 sp_X3_prove))], [], [], [(18, "java/lang/IndexOutOfBoundsException")], [], some .boolean)
def ss_X6_isProved : List z_ST := [(18, "java/lang/IndexOutOfBoundsException", 86, 187, 90, "no such people or place", false)]
set_option maxRecDepth 20000 in
set_option maxHeartbeats 4000000 in
theorem ct_X6_isProved (l : Launch) (hl9 : l.stackTraces = false) : z_CX l yX6_isProved cX6_isProved 3 (some .boolean) sp_X6_isProved 6 := by
  refine z_CX_of G_X6_isProved ss_X6_isProved hl9 (by decide) (by decide) (by decide +kernel) (z_pok_of ft_X6 ci_X6 cL_X6_L fo_X6 co_X6 lo_X6 (by decide +kernel)) rfl rfl (by decide +kernel) ?_ ?_ ?_
  · intro as S P Po Px h
    unfold sp_X6_isProved at h
    split at h
    · exact Nat.le_of_ble_eq_true rfl
    · exact h.elim
  · exact List.forall_mem_cons.mpr ⟨z_coS (ct_X6_isPlace l) kb_X6_isPlace ks_X6_150 (by decide) (by decide), List.forall_mem_cons.mpr ⟨z_coV (ct_X2_isPeople l) kb_X2_isPeople kv_X6_102 ko_X2 (by decide) (by decide) (by decide), List.forall_mem_cons.mpr ⟨z_coV (ct_X3_prove l) kb_X3_prove kv_X6_207 ko_X3 (by decide) (by decide) (by decide), fun _ h => absurd h List.not_mem_nil⟩⟩⟩
  · intro as S P Po Px h V hV hW
    unfold sp_X6_isProved at h
    split at h
    · rename_i x1 x2
      obtain ⟨hp0, hpo⟩ := h
      refine hV [] 26 0 _ _ _ _ ?_
      refine z_br (fun (h1 : (f_X2_isPeople S P x1) = false) => ?_) (fun (h1 : (f_X2_isPeople S P x1) = true) => ?_)
      · have he : e_X6_isProved S P x1 x2 = 1 := (if_neg (z_nt h1)).trans rfl
        rw [he] at hpo
        exact hpo
      · refine z_brn (fun (h2 : (f_X6_isPlace S P x2) = true) => ?_) (fun (h2 : (f_X6_isPlace S P x2) = false) => ?_)
        · refine ⟨(show z_le (S 8216 7) 60 by exact z_J_marks hp0), (show z_le (S 49201 x1.toNatClampNeg) 8 by exact z_J_expl hp0 _), (show vp_in x1 6 by first | exact t_isPeople hp0 (by assumption)), ?_⟩
          have he : e_X6_isProved S P x1 x2 = 0 := (if_pos h1).trans ((if_pos h2).trans rfl)
          rw [he] at hpo
          exact ⟨(by first | rfl | exact z_nb _), z_pb hpo ((if_pos h1).trans ((if_pos h2).trans rfl)) (rfl) (rfl)⟩
        · have he : e_X6_isProved S P x1 x2 = 1 := (if_pos h1).trans ((if_neg (z_nt h2)).trans rfl)
          rw [he] at hpo
          exact hpo
    · exact h.elim
