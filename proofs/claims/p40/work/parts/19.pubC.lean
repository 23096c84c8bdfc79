def f_X6_notice (S : z_MI) (P : z_ML) (x1 : Int32) (x2 : Int32) (x3 : Int32) (x4 : Int32) (x5 : Int32) : Int32 :=
  if (f_X6_isDeed S P x1 x2 x3) = true then
    if (f_X6_isLast S P x4 x3 (S 2096 8)) = true then
      if (S 14368 11) < (nI 12) then
        f_X4_add S P (S 2096 8) x5
      else
        0
    else
      0
  else
    0
def u_X6_notice (S : z_MI) (P : z_ML) (x1 : Int32) (x2 : Int32) (x3 : Int32) (x4 : Int32) (x5 : Int32) : z_MI :=
  if (f_X6_isDeed S P x1 x2 x3) = true then
    if (f_X6_isLast S P x4 x3 (S 2096 8)) = true then
      if (S 14368 11) < (nI 12) then
        u_X4_tell (u_X4_add S P (S 2096 8) x5) P (f_X4_add S P (S 2096 8) x5) x1 x2 x3 x4
      else
        S
    else
      S
  else
    S
def e_X6_notice (S : z_MI) (P : z_ML) (x1 : Int32) (x2 : Int32) (x3 : Int32) (x4 : Int32) (x5 : Int32) : Nat :=
  if (f_X6_isDeed S P x1 x2 x3) = true then
    if (f_X6_isLast S P x4 x3 (S 2096 8)) = true then
      if (S 14368 11) < (nI 12) then
        0
      else
        3
    else
      2
  else
    2
def sp_X6_notice : z_SX := fun as S P k kx => match as with
  | [.ref 2096, .int x1, .int x2, .int x3, .int x4, .int x5] => z_J S ∧ (match e_X6_notice S P x1 x2 x3 x4 x5 with
      | 0 => k (some (.int (f_X6_notice S P x1 x2 x3 x4 x5))) (u_X6_notice S P x1 x2 x3 x4 x5) P
      | 1 => kx "java/lang/IndexOutOfBoundsException" S P
      | 2 => kx "java/lang/IllegalArgumentException" S P
      | _ => kx "java/lang/IllegalStateException" S P)
  | _ => False
def G_X6_notice : z_G := ([(0, .iload_n 1, 1, 0), (1, .iload_n 2, 2, 0), (2, .iload_n 3, 3, 0), (3, .invokestatic 211, 6, 0), (6, .ifCond .eq 16, 9, 22), (9, .iload 4, 11, 0), (11, .iload_n 3, 12, 0), (12, .aload_n 0, 13, 0), (13, .getfield 59, 16, 0), (16, .invokestatic 214, 19, 0), (19, .ifCond .ne 13, 22, 32), (22, .new 63, 25, 0), (25, .dup, 26, 0), (26, .ldc 217, 28, 0), (28, .invokespecial 67, 31, 0), (31, .athrow, 32, 0), (32, .aload_n 0, 33, 0), (33, .getfield 47, 36, 0), (36, .getfield 335, 39, 0), (39, .bipush 12, 41, 0), (41, .if_icmp .lt 14, 44, 55), (44, .new 73, 47, 0), (47, .dup, 48, 0), (48, .ldc_w 336, 51, 0), (51, .invokespecial 77, 54, 0), (54, .athrow, 55, 0), (55, .aload_n 0, 56, 0), (56, .getfield 47, 59, 0), (59, .aload_n 0, 60, 0), (60, .getfield 59, 63, 0), (63, .iload 5, 65, 0), (65, .invokevirtual 338, 68, 0), (68, .istore 6, 70, 0), (70, .aload_n 0, 71, 0), (71, .getfield 47, 74, 0), (74, .iload 6, 76, 0), (76, .iload_n 1, 77, 0), (77, .iload_n 2, 78, 0), (78, .iload_n 3, 79, 0), (79, .iload 4, 81, 0), (81, .invokevirtual 341, 84, 0), (84, .iload 6, 86, 0), (86, .ireturn, 87, 0)], [(47, 2096, 5, some 14368), (59, 2096, 8, none), (335, 14368, 11, none)], [(100211, 3, sp_X6_isDeed), (100214, 3, sp_X6_isLast), (338, 3, (z_rc 14368 sp_X4_add)), (341, 6, (z_rc 14368 sp_X4_tell))], [], [], [(22, "java/lang/IllegalArgumentException"), (44, "java/lang/IllegalStateException")], [], some .int)
def ss_X6_notice : List z_ST := [(22, "java/lang/IllegalArgumentException", 63, 217, 67, "an argument is out of range", false), (44, "java/lang/IllegalStateException", 73, 336, 77, "there are 12 notices", true)]
set_option maxRecDepth 20000 in
set_option maxHeartbeats 4000000 in
theorem ct_X6_notice (l : Launch) (hl9 : l.stackTraces = false) : z_CX l yX6_notice cX6_notice 7 (some .int) sp_X6_notice 6 := by
  refine z_CX_of G_X6_notice ss_X6_notice hl9 (by decide) (by decide) (by decide +kernel) (z_pok_of ft_X6 ci_X6 cL_X6_L fo_X6 co_X6 lo_X6 (by decide +kernel)) rfl rfl (by decide +kernel) ?_ ?_ ?_
  · intro as S P Po Px h
    unfold sp_X6_notice at h
    split at h
    · exact Nat.le_of_ble_eq_true rfl
    · exact h.elim
  · exact List.forall_mem_cons.mpr ⟨z_coS (ct_X6_isDeed l) kb_X6_isDeed ks_X6_211 (by decide) (by decide), List.forall_mem_cons.mpr ⟨z_coS (ct_X6_isLast l) kb_X6_isLast ks_X6_214 (by decide) (by decide), List.forall_mem_cons.mpr ⟨z_coV (ct_X4_add l) kb_X4_add kv_X6_338 ko_X4 (by decide) (by decide) (by decide), List.forall_mem_cons.mpr ⟨z_coV (ct_X4_tell l) kb_X4_tell kv_X6_341 ko_X4 (by decide) (by decide) (by decide), fun _ h => absurd h List.not_mem_nil⟩⟩⟩⟩
  · intro as S P Po Px h V hV hW
    unfold sp_X6_notice at h
    split at h
    · rename_i x1 x2 x3 x4 x5
      obtain ⟨hp0, hpo⟩ := h
      refine hV [] 48 0 _ _ _ _ ?_
      refine z_br (fun (h1 : (f_X6_isDeed S P x1 x2 x3) = false) => ?_) (fun (h1 : (f_X6_isDeed S P x1 x2 x3) = true) => ?_)
      · have he : e_X6_notice S P x1 x2 x3 x4 x5 = 2 := (if_neg (z_nt h1)).trans rfl
        rw [he] at hpo
        exact hpo
      · refine z_brn (fun (h2 : (f_X6_isLast S P x4 x3 (S 2096 8)) = true) => ?_) (fun (h2 : (f_X6_isLast S P x4 x3 (S 2096 8)) = false) => ?_)
        · refine ⟨fun (h3 : (S 14368 11) < (nI 12)) => ?_, fun (h3 : ¬ ((S 14368 11) < (nI 12))) => ?_⟩
          · refine ⟨(show vp_in (S 14368 11) 12 by first | exact z_room (by assumption) (z_J_notices hp0) (by decide) (by decide) | exact z_roomL (by assumption) (z_J_notices hp0) (by decide) (by decide)), ?_⟩
            refine ⟨(show vp_in (f_X4_add S P (S 2096 8) x5) 12 by exact z_roomL (c := S 14368 11) (by assumption) (z_J_notices hp0) (by decide) (by decide)), ?_⟩
            have he : e_X6_notice S P x1 x2 x3 x4 x5 = 0 := (if_pos h1).trans ((if_pos h2).trans ((if_pos h3).trans rfl))
            rw [he] at hpo
            exact z_pi hpo ((if_pos h1).trans ((if_pos h2).trans ((if_pos h3).trans rfl))) ((if_pos h1).trans ((if_pos h2).trans ((if_pos h3).trans rfl))) (rfl)
          · have he : e_X6_notice S P x1 x2 x3 x4 x5 = 3 := (if_pos h1).trans ((if_pos h2).trans ((if_neg h3).trans rfl))
            rw [he] at hpo
            exact hpo
        · have he : e_X6_notice S P x1 x2 x3 x4 x5 = 2 := (if_pos h1).trans ((if_neg (z_nt h2)).trans rfl)
          rw [he] at hpo
          exact hpo
    · exact h.elim
def f_X6_agree (S : z_MI) (P : z_ML) (x1 : Int32) (x2 : Int32) : Int32 :=
  if (f_X2_isPeople S P x1) = true then
    if (f_X4_isNotice S P x2) = true then
      if (S 98401 x2.toNatClampNeg) = 0 then
        if (f_X6_isIn S P (f_X6_partiesOf S P x2) x1) = true then
          if (f_X6_isIn S P (S 100449 x2.toNatClampNeg) x1) = true then
            0
          else
            f_J6_bitCount_0f7a4 (va_up S 100449 (upd (S 100449) x2.toNatClampNeg (f_X6_with S P (S 100449 x2.toNatClampNeg) x1 (nI 1)))) P ((f_X6_partiesOf S P x2) &&& (((upd (S 100449) x2.toNatClampNeg (f_X6_with S P (S 100449 x2.toNatClampNeg) x1 (nI 1))) x2.toNatClampNeg) ^^^ (-1)))
        else
          0
      else
        0
    else
      0
  else
    0
def u_X6_agree (S : z_MI) (P : z_ML) (x1 : Int32) (x2 : Int32) : z_MI :=
  if (f_X2_isPeople S P x1) = true then
    if (f_X4_isNotice S P x2) = true then
      if (S 98401 x2.toNatClampNeg) = 0 then
        if (f_X6_isIn S P (f_X6_partiesOf S P x2) x1) = true then
          if (f_X6_isIn S P (S 100449 x2.toNatClampNeg) x1) = true then
            S
          else
            va_up S 100449 (upd (S 100449) x2.toNatClampNeg (f_X6_with S P (S 100449 x2.toNatClampNeg) x1 (nI 1)))
        else
          S
      else
        S
    else
      S
  else
    S
def e_X6_agree (S : z_MI) (P : z_ML) (x1 : Int32) (x2 : Int32) : Nat :=
  if (f_X2_isPeople S P x1) = true then
    if (f_X4_isNotice S P x2) = true then
      if (S 98401 x2.toNatClampNeg) = 0 then
        if (f_X6_isIn S P (f_X6_partiesOf S P x2) x1) = true then
          if (f_X6_isIn S P (S 100449 x2.toNatClampNeg) x1) = true then
            3
          else
            0
        else
          3
      else
        3
    else
      1
  else
    1
def sp_X6_agree : z_SX := fun as S P k kx => match as with
  | [.ref 2096, .int x1, .int x2] => z_J S ∧ (match e_X6_agree S P x1 x2 with
      | 0 => k (some (.int (f_X6_agree S P x1 x2))) (u_X6_agree S P x1 x2) P
      | 1 => kx "java/lang/IndexOutOfBoundsException" S P
      | 2 => kx "java/lang/IllegalArgumentException" S P
      | _ => kx "java/lang/IllegalStateException" S P)
  | _ => False
def G_X6_agree : z_G := ([(0, .aload_n 0, 1, 0), (1, .getfield 10, 4, 0), (4, .iload_n 1, 5, 0), (5, .invokevirtual 102, 8, 0), (8, .ifCond .eq 14, 11, 22), (11, .aload_n 0, 12, 0), (12, .getfield 47, 15, 0), (15, .iload_n 2, 16, 0), (16, .invokevirtual 345, 19, 0), (19, .ifCond .ne 14, 22, 33), (22, .new 86, 25, 0), (25, .dup, 26, 0), (26, .ldc_w 348, 29, 0), (29, .invokespecial 90, 32, 0), (32, .athrow, 33, 0), (33, .aload_n 0, 34, 0), (34, .iload_n 2, 35, 0), (35, .invokevirtual 350, 38, 0), (38, .istore_n 3, 39, 0), (39, .aload_n 0, 40, 0), (40, .getfield 47, 43, 0), (43, .getfield 353, 46, 0), (46, .iload_n 2, 47, 0), (47, .iaload, 48, 0), (48, .ifCond .ne 27, 51, 75), (51, .iload_n 3, 52, 0), (52, .iload_n 1, 53, 0), (53, .invokestatic 184, 56, 0), (56, .ifCond .eq 19, 59, 75), (59, .aload_n 0, 60, 0), (60, .getfield 47, 63, 0), (63, .getfield 354, 66, 0), (66, .iload_n 2, 67, 0), (67, .iaload, 68, 0), (68, .iload_n 1, 69, 0), (69, .invokestatic 184, 72, 0), (72, .ifCond .eq 14, 75, 86), (75, .new 73, 78, 0), (78, .dup, 79, 0), (79, .ldc_w 357, 82, 0), (82, .invokespecial 77, 85, 0), (85, .athrow, 86, 0), (86, .aload_n 0, 87, 0), (87, .getfield 47, 90, 0), (90, .getfield 354, 93, 0), (93, .iload_n 2, 94, 0), (94, .aload_n 0, 95, 0), (95, .getfield 47, 98, 0), (98, .getfield 354, 101, 0), (101, .iload_n 2, 102, 0), (102, .iaload, 103, 0), (103, .iload_n 1, 104, 0), (104, .iconst 1, 105, 0), (105, .invokestatic 113, 108, 0), (108, .iastore, 109, 0), (109, .iload_n 3, 110, 0), (110, .aload_n 0, 111, 0), (111, .getfield 47, 114, 0), (114, .getfield 354, 117, 0), (117, .iload_n 2, 118, 0), (118, .iaload, 119, 0), (119, .iconst (-1), 120, 0), (120, .ixor, 121, 0), (121, .iand, 122, 0), (122, .invokestatic 120, 125, 0), (125, .ireturn, 126, 0)], [(10, 2096, 0, some 4112), (47, 2096, 5, some 14368), (353, 14368, 5, some 98401), (354, 14368, 6, some 100449)], [(100113, 3, sp_X6_with), (100120, 1, sp_J6_bitCount_0f7a4), (100184, 2, sp_X6_isIn), (102, 2, (z_rc 4112 sp_X2_isPeople)), (345, 2, (z_rc 14368 sp_X4_isNotice)), (350, 2, (z_rc 2096 sp_X6_partiesOf))], [], [], [(22, "java/lang/IndexOutOfBoundsException"), (75, "java/lang/IllegalStateException")], [], some .int)
def ss_X6_agree : List z_ST := [(22, "java/lang/IndexOutOfBoundsException", 86, 348, 90, "no such people or notice", true), (75, "java/lang/IllegalStateException", 73, 357, 77, "the notice does not WAIT, or the people is no party, or agreed", true)]
set_option maxRecDepth 20000 in
set_option maxHeartbeats 4000000 in
theorem ct_X6_agree (l : Launch) (hl9 : l.stackTraces = false) : z_CX l yX6_agree cX6_agree 4 (some .int) sp_X6_agree 6 := by
  refine z_CX_of G_X6_agree ss_X6_agree hl9 (by decide) (by decide) (by decide +kernel) (z_pok_of ft_X6 ci_X6 cL_X6_L fo_X6 co_X6 lo_X6 (by decide +kernel)) rfl rfl (by decide +kernel) ?_ ?_ ?_
  · intro as S P Po Px h
    unfold sp_X6_agree at h
    split at h
    · exact Nat.le_of_ble_eq_true rfl
    · exact h.elim
  · exact List.forall_mem_cons.mpr ⟨z_coS (ct_X6_with l) kb_X6_with ks_X6_113 (by decide) (by decide), List.forall_mem_cons.mpr ⟨z_coS (ct_J6_bitCount_0f7a4 l) kb_J6_bitCount_0f7a4 ks_X6_120 (by decide) (by decide), List.forall_mem_cons.mpr ⟨z_coS (ct_X6_isIn l) kb_X6_isIn ks_X6_184 (by decide) (by decide), List.forall_mem_cons.mpr ⟨z_coV (ct_X2_isPeople l) kb_X2_isPeople kv_X6_102 ko_X2 (by decide) (by decide) (by decide), List.forall_mem_cons.mpr ⟨z_coV (ct_X4_isNotice l) kb_X4_isNotice kv_X6_345 ko_X4 (by decide) (by decide) (by decide), List.forall_mem_cons.mpr ⟨z_coV (ct_X6_partiesOf l) kb_X6_partiesOf kv_X6_350 ko_X6 (by decide) (by decide) (by decide), fun _ h => absurd h List.not_mem_nil⟩⟩⟩⟩⟩⟩
  · intro as S P Po Px h V hV hW
    unfold sp_X6_agree at h
    split at h
    · rename_i x1 x2
      obtain ⟨hp0, hpo⟩ := h
      refine hV [] 71 0 _ _ _ _ ?_
      refine z_br (fun (h1 : (f_X2_isPeople S P x1) = false) => ?_) (fun (h1 : (f_X2_isPeople S P x1) = true) => ?_)
      · have he : e_X6_agree S P x1 x2 = 1 := (if_neg (z_nt h1)).trans rfl
        rw [he] at hpo
        exact hpo
      · refine z_brn (fun (h2 : (f_X4_isNotice S P x2) = true) => ?_) (fun (h2 : (f_X4_isNotice S P x2) = false) => ?_)
        · refine ⟨(show vp_in x2 12 by first | exact t_isClaim hp0 (by assumption) | exact t_isNotice hp0 (by assumption)), (show z_le (S 12296 8) 12 by exact z_J_claims hp0), ?_⟩
          refine ⟨(show vp_in x2 12 by first | exact t_isClaim hp0 (by assumption) | exact t_isNotice hp0 (by assumption)), ?_⟩
          refine ⟨fun (h3 : ¬ ((S 98401 x2.toNatClampNeg) = 0)) => ?_, fun (h3 : (S 98401 x2.toNatClampNeg) = 0) => ?_⟩
          · have he : e_X6_agree S P x1 x2 = 3 := (if_pos h1).trans ((if_pos h2).trans ((if_neg h3).trans rfl))
            rw [he] at hpo
            exact hpo
          · refine z_br (fun (h4 : (f_X6_isIn S P (f_X6_partiesOf S P x2) x1) = false) => ?_) (fun (h4 : (f_X6_isIn S P (f_X6_partiesOf S P x2) x1) = true) => ?_)
            · have he : e_X6_agree S P x1 x2 = 3 := (if_pos h1).trans ((if_pos h2).trans ((if_pos h3).trans ((if_neg (z_nt h4)).trans rfl)))
              rw [he] at hpo
              exact hpo
            · refine ⟨(show vp_in x2 12 by first | exact t_isClaim hp0 (by assumption) | exact t_isNotice hp0 (by assumption)), ?_⟩
              refine z_br (fun (h5 : (f_X6_isIn S P (S 100449 x2.toNatClampNeg) x1) = false) => ?_) (fun (h5 : (f_X6_isIn S P (S 100449 x2.toNatClampNeg) x1) = true) => ?_)
              · refine ⟨(show vp_in x2 12 by first | exact t_isClaim hp0 (by assumption) | exact t_isNotice hp0 (by assumption)), ?_⟩
                refine ⟨(show vp_in x2 12 by first | exact t_isClaim hp0 (by assumption) | exact t_isNotice hp0 (by assumption)), ?_⟩
                refine ⟨(show vp_in x2 12 by first | exact t_isClaim hp0 (by assumption) | exact t_isNotice hp0 (by assumption)), ?_⟩
                have he : e_X6_agree S P x1 x2 = 0 := (if_pos h1).trans ((if_pos h2).trans ((if_pos h3).trans ((if_pos h4).trans ((if_neg (z_nt h5)).trans rfl))))
                rw [he] at hpo
                exact z_pi hpo ((if_pos h1).trans ((if_pos h2).trans ((if_pos h3).trans ((if_pos h4).trans ((if_neg (z_nt h5)).trans rfl))))) ((if_pos h1).trans ((if_pos h2).trans ((if_pos h3).trans ((if_pos h4).trans ((if_neg (z_nt h5)).trans rfl))))) (rfl)
              · have he : e_X6_agree S P x1 x2 = 3 := (if_pos h1).trans ((if_pos h2).trans ((if_pos h3).trans ((if_pos h4).trans ((if_pos h5).trans rfl))))
                rw [he] at hpo
                exact hpo
        · have he : e_X6_agree S P x1 x2 = 1 := (if_pos h1).trans ((if_neg (z_nt h2)).trans rfl)
          rw [he] at hpo
          exact hpo
    · exact h.elim
def u_X6_object (S : z_MI) (P : z_ML) (x1 : Int32) (x2 : Int32) : z_MI :=
  if (f_X2_isPeople S P x1) = true then
    if (f_X4_isNotice S P x2) = true then
      if (f_X4_isOpenToObject S P x2 (S 2096 8)) = true then
        if (f_X6_isIn S P (f_X6_partiesOf S P x2) x1) = true then
          if (f_X6_isIn S P (S 102497 x2.toNatClampNeg) x1) = true then
            S
          else
            va_up S 102497 (upd (S 102497) x2.toNatClampNeg (f_X6_with S P (S 102497 x2.toNatClampNeg) x1 (nI 1)))
        else
          S
      else
        S
    else
      S
  else
    S
def e_X6_object (S : z_MI) (P : z_ML) (x1 : Int32) (x2 : Int32) : Nat :=
  if (f_X2_isPeople S P x1) = true then
    if (f_X4_isNotice S P x2) = true then
      if (f_X4_isOpenToObject S P x2 (S 2096 8)) = true then
        if (f_X6_isIn S P (f_X6_partiesOf S P x2) x1) = true then
          if (f_X6_isIn S P (S 102497 x2.toNatClampNeg) x1) = true then
            3
          else
            0
        else
          3
      else
        3
    else
      1
  else
    1
def sp_X6_object : z_SX := fun as S P k kx => match as with
  | [.ref 2096, .int x1, .int x2] => z_J S ∧ (match e_X6_object S P x1 x2 with
      | 0 => k (none) (u_X6_object S P x1 x2) P
      | 1 => kx "java/lang/IndexOutOfBoundsException" S P
      | 2 => kx "java/lang/IllegalArgumentException" S P
      | _ => kx "java/lang/IllegalStateException" S P)
  | _ => False
def G_X6_object : z_G := ([(0, .aload_n 0, 1, 0), (1, .getfield 10, 4, 0), (4, .iload_n 1, 5, 0), (5, .invokevirtual 102, 8, 0), (8, .ifCond .eq 14, 11, 22), (11, .aload_n 0, 12, 0), (12, .getfield 47, 15, 0), (15, .iload_n 2, 16, 0), (16, .invokevirtual 345, 19, 0), (19, .ifCond .ne 14, 22, 33), (22, .new 86, 25, 0), (25, .dup, 26, 0), (26, .ldc_w 348, 29, 0), (29, .invokespecial 90, 32, 0), (32, .athrow, 33, 0), (33, .aload_n 0, 34, 0), (34, .getfield 47, 37, 0), (37, .iload_n 2, 38, 0), (38, .aload_n 0, 39, 0), (39, .getfield 59, 42, 0), (42, .invokevirtual 359, 45, 0), (45, .ifCond .ne 14, 48, 59), (48, .new 73, 51, 0), (51, .dup, 52, 0), (52, .ldc_w 362, 55, 0), (55, .invokespecial 77, 58, 0), (58, .athrow, 59, 0), (59, .aload_n 0, 60, 0), (60, .iload_n 2, 61, 0), (61, .invokevirtual 350, 64, 0), (64, .iload_n 1, 65, 0), (65, .invokestatic 184, 68, 0), (68, .ifCond .eq 19, 71, 87), (71, .aload_n 0, 72, 0), (72, .getfield 47, 75, 0), (75, .getfield 364, 78, 0), (78, .iload_n 2, 79, 0), (79, .iaload, 80, 0), (80, .iload_n 1, 81, 0), (81, .invokestatic 184, 84, 0), (84, .ifCond .eq 14, 87, 98), (87, .new 73, 90, 0), (90, .dup, 91, 0), (91, .ldc_w 367, 94, 0), (94, .invokespecial 77, 97, 0), (97, .athrow, 98, 0), (98, .aload_n 0, 99, 0), (99, .getfield 47, 102, 0), (102, .getfield 364, 105, 0), (105, .iload_n 2, 106, 0), (106, .aload_n 0, 107, 0), (107, .getfield 47, 110, 0), (110, .getfield 364, 113, 0), (113, .iload_n 2, 114, 0), (114, .iaload, 115, 0), (115, .iload_n 1, 116, 0), (116, .iconst 1, 117, 0), (117, .invokestatic 113, 120, 0), (120, .iastore, 121, 0), (121, .return_, 122, 0)], [(10, 2096, 0, some 4112), (47, 2096, 5, some 14368), (59, 2096, 8, none), (364, 14368, 7, some 102497)], [(100113, 3, sp_X6_with), (100184, 2, sp_X6_isIn), (102, 2, (z_rc 4112 sp_X2_isPeople)), (345, 2, (z_rc 14368 sp_X4_isNotice)), (350, 2, (z_rc 2096 sp_X6_partiesOf)), (359, 3, (z_rc 14368 sp_X4_isOpenToObject))], [], [], [(22, "java/lang/IndexOutOfBoundsException"), (48, "java/lang/IllegalStateException"), (87, "java/lang/IllegalStateException")], [], none)
def ss_X6_object : List z_ST := [(22, "java/lang/IndexOutOfBoundsException", 86, 348, 90, "no such people or notice", true), (48, "java/lang/IllegalStateException", 73, 362, 77, "the notice does not WAIT, is not quick, or is too old", true), (87, "java/lang/IllegalStateException", 73, 367, 77, "the people is no party, or objected", true)]
set_option maxRecDepth 20000 in
set_option maxHeartbeats 4000000 in
theorem ct_X6_object (l : Launch) (hl9 : l.stackTraces = false) : z_CX l yX6_object cX6_object 3 (none) sp_X6_object 6 := by
  refine z_CX_of G_X6_object ss_X6_object hl9 (by decide) (by decide) (by decide +kernel) (z_pok_of ft_X6 ci_X6 cL_X6_L fo_X6 co_X6 lo_X6 (by decide +kernel)) rfl rfl (by decide +kernel) ?_ ?_ ?_
  · intro as S P Po Px h
    unfold sp_X6_object at h
    split at h
    · exact Nat.le_of_ble_eq_true rfl
    · exact h.elim
  · exact List.forall_mem_cons.mpr ⟨z_coS (ct_X6_with l) kb_X6_with ks_X6_113 (by decide) (by decide), List.forall_mem_cons.mpr ⟨z_coS (ct_X6_isIn l) kb_X6_isIn ks_X6_184 (by decide) (by decide), List.forall_mem_cons.mpr ⟨z_coV (ct_X2_isPeople l) kb_X2_isPeople kv_X6_102 ko_X2 (by decide) (by decide) (by decide), List.forall_mem_cons.mpr ⟨z_coV (ct_X4_isNotice l) kb_X4_isNotice kv_X6_345 ko_X4 (by decide) (by decide) (by decide), List.forall_mem_cons.mpr ⟨z_coV (ct_X6_partiesOf l) kb_X6_partiesOf kv_X6_350 ko_X6 (by decide) (by decide) (by decide), List.forall_mem_cons.mpr ⟨z_coV (ct_X4_isOpenToObject l) kb_X4_isOpenToObject kv_X6_359 ko_X4 (by decide) (by decide) (by decide), fun _ h => absurd h List.not_mem_nil⟩⟩⟩⟩⟩⟩
  · intro as S P Po Px h V hV hW
    unfold sp_X6_object at h
    split at h
    · rename_i x1 x2
      obtain ⟨hp0, hpo⟩ := h
      refine hV [] 65 0 _ _ _ _ ?_
      refine z_br (fun (h1 : (f_X2_isPeople S P x1) = false) => ?_) (fun (h1 : (f_X2_isPeople S P x1) = true) => ?_)
      · have he : e_X6_object S P x1 x2 = 1 := (if_neg (z_nt h1)).trans rfl
        rw [he] at hpo
        exact hpo
      · refine z_brn (fun (h2 : (f_X4_isNotice S P x2) = true) => ?_) (fun (h2 : (f_X4_isNotice S P x2) = false) => ?_)
        · refine ⟨(show vp_in x2 12 by first | exact t_isClaim hp0 (by assumption) | exact t_isNotice hp0 (by assumption)), ?_⟩
          refine z_brn (fun (h3 : (f_X4_isOpenToObject S P x2 (S 2096 8)) = true) => ?_) (fun (h3 : (f_X4_isOpenToObject S P x2 (S 2096 8)) = false) => ?_)
          · refine ⟨(show vp_in x2 12 by first | exact t_isClaim hp0 (by assumption) | exact t_isNotice hp0 (by assumption)), (show z_le (S 12296 8) 12 by exact z_J_claims hp0), ?_⟩
            refine z_br (fun (h4 : (f_X6_isIn S P (f_X6_partiesOf S P x2) x1) = false) => ?_) (fun (h4 : (f_X6_isIn S P (f_X6_partiesOf S P x2) x1) = true) => ?_)
            · have he : e_X6_object S P x1 x2 = 3 := (if_pos h1).trans ((if_pos h2).trans ((if_pos h3).trans ((if_neg (z_nt h4)).trans rfl)))
              rw [he] at hpo
              exact hpo
            · refine ⟨(show vp_in x2 12 by first | exact t_isClaim hp0 (by assumption) | exact t_isNotice hp0 (by assumption)), ?_⟩
              refine z_br (fun (h5 : (f_X6_isIn S P (S 102497 x2.toNatClampNeg) x1) = false) => ?_) (fun (h5 : (f_X6_isIn S P (S 102497 x2.toNatClampNeg) x1) = true) => ?_)
              · refine ⟨(show vp_in x2 12 by first | exact t_isClaim hp0 (by assumption) | exact t_isNotice hp0 (by assumption)), ?_⟩
                refine ⟨(show vp_in x2 12 by first | exact t_isClaim hp0 (by assumption) | exact t_isNotice hp0 (by assumption)), ?_⟩
                have he : e_X6_object S P x1 x2 = 0 := (if_pos h1).trans ((if_pos h2).trans ((if_pos h3).trans ((if_pos h4).trans ((if_neg (z_nt h5)).trans rfl))))
                rw [he] at hpo
                exact z_pv hpo ((if_pos h1).trans ((if_pos h2).trans ((if_pos h3).trans ((if_pos h4).trans ((if_neg (z_nt h5)).trans rfl))))) (rfl)
              · have he : e_X6_object S P x1 x2 = 3 := (if_pos h1).trans ((if_pos h2).trans ((if_pos h3).trans ((if_pos h4).trans ((if_pos h5).trans rfl))))
                rw [he] at hpo
                exact hpo
          · have he : e_X6_object S P x1 x2 = 3 := (if_pos h1).trans ((if_pos h2).trans ((if_neg (z_nt h3)).trans rfl))
            rw [he] at hpo
            exact hpo
        · have he : e_X6_object S P x1 x2 = 1 := (if_pos h1).trans ((if_neg (z_nt h2)).trans rfl)
          rw [he] at hpo
          exact hpo
    · exact h.elim
def f_X6_decide (S : z_MI) (P : z_ML) (x1 : Int32) (x2 : Int32) : Int32 :=
  if (f_X4_isNotice S P x1) = true then
    if (f_X4_isOpenToDecide S P x1 (S 2096 8)) = true then
      if x2 = 0 then
        (upd (S 98401) x1.toNatClampNeg (nI 2)) x1.toNatClampNeg
      else
        (upd (S 98401) x1.toNatClampNeg (nI 0)) x1.toNatClampNeg
    else
      0
  else
    0
def u_X6_decide (S : z_MI) (P : z_ML) (x1 : Int32) (x2 : Int32) : z_MI :=
  if (f_X4_isNotice S P x1) = true then
    if (f_X4_isOpenToDecide S P x1 (S 2096 8)) = true then
      if x2 = 0 then
        va_up (va_up S 108642 (upd (S 108642) x1.toNatClampNeg (vp_nar .boolean x2))) 98401 (upd ((va_up S 108642 (upd (S 108642) x1.toNatClampNeg (vp_nar .boolean x2))) 98401) x1.toNatClampNeg (nI 2))
      else
        va_up (va_up S 108642 (upd (S 108642) x1.toNatClampNeg (vp_nar .boolean x2))) 98401 (upd ((va_up S 108642 (upd (S 108642) x1.toNatClampNeg (vp_nar .boolean x2))) 98401) x1.toNatClampNeg (nI 0))
    else
      S
  else
    S
def e_X6_decide (S : z_MI) (P : z_ML) (x1 : Int32) (x2 : Int32) : Nat :=
  if (f_X4_isNotice S P x1) = true then
    if (f_X4_isOpenToDecide S P x1 (S 2096 8)) = true then
      if x2 = 0 then
        0
      else
        0
    else
      3
  else
    1
def sp_X6_decide : z_SX := fun as S P k kx => match as with
  | [.ref 2096, .int x1, .int x2] => z_J S ∧ (match e_X6_decide S P x1 x2 with
      | 0 => k (some (.int (f_X6_decide S P x1 x2))) (u_X6_decide S P x1 x2) P
      | 1 => kx "java/lang/IndexOutOfBoundsException" S P
      | 2 => kx "java/lang/IllegalArgumentException" S P
      | _ => kx "java/lang/IllegalStateException" S P)
  | _ => False
def G_X6_decide : z_G := ([(0, .aload_n 0, 1, 0), (1, .getfield 47, 4, 0), (4, .iload_n 1, 5, 0), (5, .invokevirtual 345, 8, 0), (8, .ifCond .ne 14, 11, 22), (11, .new 86, 14, 0), (14, .dup, 15, 0), (15, .ldc_w 369, 18, 0), (18, .invokespecial 90, 21, 0), (21, .athrow, 22, 0), (22, .aload_n 0, 23, 0), (23, .getfield 47, 26, 0), (26, .iload_n 1, 27, 0), (27, .aload_n 0, 28, 0), (28, .getfield 59, 31, 0), (31, .invokevirtual 371, 34, 0), (34, .ifCond .ne 14, 37, 48), (37, .new 73, 40, 0), (40, .dup, 41, 0), (41, .ldc_w 374, 44, 0), (44, .invokespecial 77, 47, 0), (47, .athrow, 48, 0), (48, .aload_n 0, 49, 0), (49, .getfield 47, 52, 0), (52, .getfield 376, 55, 0), (55, .iload_n 1, 56, 0), (56, .iload_n 2, 57, 0), (57, .bastore, 58, 0), (58, .aload_n 0, 59, 0), (59, .getfield 47, 62, 0), (62, .getfield 353, 65, 0), (65, .iload_n 1, 66, 0), (66, .iload_n 2, 67, 0), (67, .ifCond .eq 7, 70, 74), (70, .iconst 0, 71, 0), (71, .goto 4, 74, 75), (74, .iconst 2, 75, 0), (75, .iastore, 76, 0), (76, .aload_n 0, 77, 0), (77, .getfield 47, 80, 0), (80, .getfield 353, 83, 0), (83, .iload_n 1, 84, 0), (84, .iaload, 85, 0), (85, .ireturn, 86, 0)], [(47, 2096, 5, some 14368), (59, 2096, 8, none), (353, 14368, 5, some 98401), (376, 14368, 10, some 108642)], [(345, 2, (z_rc 14368 sp_X4_isNotice)), (371, 3, (z_rc 14368 sp_X4_isOpenToDecide))], [], [], [(11, "java/lang/IndexOutOfBoundsException"), (37, "java/lang/IllegalStateException")], [], some .int)
def ss_X6_decide : List z_ST := [(11, "java/lang/IndexOutOfBoundsException", 86, 369, 90, "no such notice", true), (37, "java/lang/IllegalStateException", 73, 374, 77, "the notice does not WAIT, is not old enough, or was allowed", true)]
set_option maxRecDepth 20000 in
set_option maxHeartbeats 4000000 in
theorem ct_X6_decide (l : Launch) (hl9 : l.stackTraces = false) : z_CX l yX6_decide cX6_decide 3 (some .int) sp_X6_decide 6 := by
  refine z_CX_of G_X6_decide ss_X6_decide hl9 (by decide) (by decide) (by decide +kernel) (z_pok_of ft_X6 ci_X6 cL_X6_L fo_X6 co_X6 lo_X6 (by decide +kernel)) rfl rfl (by decide +kernel) ?_ ?_ ?_
  · intro as S P Po Px h
    unfold sp_X6_decide at h
    split at h
    · exact Nat.le_of_ble_eq_true rfl
    · exact h.elim
  · exact List.forall_mem_cons.mpr ⟨z_coV (ct_X4_isNotice l) kb_X4_isNotice kv_X6_345 ko_X4 (by decide) (by decide) (by decide), List.forall_mem_cons.mpr ⟨z_coV (ct_X4_isOpenToDecide l) kb_X4_isOpenToDecide kv_X6_371 ko_X4 (by decide) (by decide) (by decide), fun _ h => absurd h List.not_mem_nil⟩⟩
  · intro as S P Po Px h V hV hW
    unfold sp_X6_decide at h
    split at h
    · rename_i x1 x2
      obtain ⟨hp0, hpo⟩ := h
      refine hV [] 49 0 _ _ _ _ ?_
      refine z_brn (fun (h1 : (f_X4_isNotice S P x1) = true) => ?_) (fun (h1 : (f_X4_isNotice S P x1) = false) => ?_)
      · refine ⟨(show vp_in x1 12 by first | exact t_isClaim hp0 (by assumption) | exact t_isNotice hp0 (by assumption)), ?_⟩
        refine z_brn (fun (h2 : (f_X4_isOpenToDecide S P x1 (S 2096 8)) = true) => ?_) (fun (h2 : (f_X4_isOpenToDecide S P x1 (S 2096 8)) = false) => ?_)
        · refine ⟨(show vp_in x1 12 by first | exact t_isClaim hp0 (by assumption) | exact t_isNotice hp0 (by assumption)), ?_⟩
          refine ⟨fun (h3 : x2 = 0) => ?_, fun (h3 : ¬ (x2 = 0)) => ?_⟩
          · refine ⟨(show vp_in x1 12 by first | exact t_isClaim hp0 (by assumption) | exact t_isNotice hp0 (by assumption)), ?_⟩
            refine ⟨(show vp_in x1 12 by first | exact t_isClaim hp0 (by assumption) | exact t_isNotice hp0 (by assumption)), ?_⟩
            have he : e_X6_decide S P x1 x2 = 0 := (if_pos h1).trans ((if_pos h2).trans ((if_pos h3).trans rfl))
            rw [he] at hpo
            exact z_pi hpo ((if_pos h1).trans ((if_pos h2).trans ((if_pos h3).trans rfl))) ((if_pos h1).trans ((if_pos h2).trans ((if_pos h3).trans rfl))) (rfl)
          · refine ⟨(show vp_in x1 12 by first | exact t_isClaim hp0 (by assumption) | exact t_isNotice hp0 (by assumption)), ?_⟩
            refine ⟨(show vp_in x1 12 by first | exact t_isClaim hp0 (by assumption) | exact t_isNotice hp0 (by assumption)), ?_⟩
            have he : e_X6_decide S P x1 x2 = 0 := (if_pos h1).trans ((if_pos h2).trans ((if_neg h3).trans rfl))
            rw [he] at hpo
            exact z_pi hpo ((if_pos h1).trans ((if_pos h2).trans ((if_neg h3).trans rfl))) ((if_pos h1).trans ((if_pos h2).trans ((if_neg h3).trans rfl))) (rfl)
        · have he : e_X6_decide S P x1 x2 = 3 := (if_pos h1).trans ((if_neg (z_nt h2)).trans rfl)
          rw [he] at hpo
          exact hpo
      · have he : e_X6_decide S P x1 x2 = 1 := (if_neg (z_nt h1)).trans rfl
        rw [he] at hpo
        exact hpo
    · exact h.elim
def f_X6_proceed (S : z_MI) (P : z_ML) (x1 : Int32) : Int32 :=
  if (f_X4_isNotice S P x1) = true then
    if (f_X4_isRipe S P x1 (S 2096 8) (f_X6_partiesOf S P x1)) = true then
      if (f_X4_isPast S P x1 (S 2096 8)) = true then
        0
      else
        if (S 10240 8) < (nI 40) then
          f_X0_add S P (S 2096 8) (S 90209 x1.toNatClampNeg) (S 92257 x1.toNatClampNeg) (S 94305 x1.toNatClampNeg) (S 96353 x1.toNatClampNeg)
        else
          0
    else
      0
  else
    0
def u_X6_proceed (S : z_MI) (P : z_ML) (x1 : Int32) : z_MI :=
  if (f_X4_isNotice S P x1) = true then
    if (f_X4_isRipe S P x1 (S 2096 8) (f_X6_partiesOf S P x1)) = true then
      if (f_X4_isPast S P x1 (S 2096 8)) = true then
        S
      else
        if (S 10240 8) < (nI 40) then
          va_up (va_up (u_X0_add S P (S 2096 8) (S 90209 x1.toNatClampNeg) (S 92257 x1.toNatClampNeg) (S 94305 x1.toNatClampNeg) (S 96353 x1.toNatClampNeg)) 98401 (upd ((u_X0_add S P (S 2096 8) (S 90209 x1.toNatClampNeg) (S 92257 x1.toNatClampNeg) (S 94305 x1.toNatClampNeg) (S 96353 x1.toNatClampNeg)) 98401) x1.toNatClampNeg (nI 1))) 104545 (upd ((va_up (u_X0_add S P (S 2096 8) (S 90209 x1.toNatClampNeg) (S 92257 x1.toNatClampNeg) (S 94305 x1.toNatClampNeg) (S 96353 x1.toNatClampNeg)) 98401 (upd ((u_X0_add S P (S 2096 8) (S 90209 x1.toNatClampNeg) (S 92257 x1.toNatClampNeg) (S 94305 x1.toNatClampNeg) (S 96353 x1.toNatClampNeg)) 98401) x1.toNatClampNeg (nI 1))) 104545) x1.toNatClampNeg (f_X0_add S P (S 2096 8) (S 90209 x1.toNatClampNeg) (S 92257 x1.toNatClampNeg) (S 94305 x1.toNatClampNeg) (S 96353 x1.toNatClampNeg)))
        else
          S
    else
      S
  else
    S
def e_X6_proceed (S : z_MI) (P : z_ML) (x1 : Int32) : Nat :=
  if (f_X4_isNotice S P x1) = true then
    if (f_X4_isRipe S P x1 (S 2096 8) (f_X6_partiesOf S P x1)) = true then
      if (f_X4_isPast S P x1 (S 2096 8)) = true then
        3
      else
        if (S 10240 8) < (nI 40) then
          0
        else
          3
    else
      3
  else
    1
def sp_X6_proceed : z_SX := fun as S P k kx => match as with
  | [.ref 2096, .int x1] => z_J S ∧ (match e_X6_proceed S P x1 with
      | 0 => k (some (.int (f_X6_proceed S P x1))) (u_X6_proceed S P x1) P
      | 1 => kx "java/lang/IndexOutOfBoundsException" S P
      | 2 => kx "java/lang/IllegalArgumentException" S P
      | _ => kx "java/lang/IllegalStateException" S P)
  | _ => False
def G_X6_proceed : z_G := ([(0, .aload_n 0, 1, 0), (1, .getfield 47, 4, 0), (4, .iload_n 1, 5, 0), (5, .invokevirtual 345, 8, 0), (8, .ifCond .ne 14, 11, 22), (11, .new 86, 14, 0), (14, .dup, 15, 0), (15, .ldc_w 369, 18, 0), (18, .invokespecial 90, 21, 0), (21, .athrow, 22, 0), (22, .aload_n 0, 23, 0), (23, .getfield 47, 26, 0), (26, .iload_n 1, 27, 0), (27, .aload_n 0, 28, 0), (28, .getfield 59, 31, 0), (31, .aload_n 0, 32, 0), (32, .iload_n 1, 33, 0), (33, .invokevirtual 350, 36, 0), (36, .invokevirtual 379, 39, 0), (39, .ifCond .ne 14, 42, 53), (42, .new 73, 45, 0), (45, .dup, 46, 0), (46, .ldc_w 382, 49, 0), (49, .invokespecial 77, 52, 0), (52, .athrow, 53, 0), (53, .aload_n 0, 54, 0), (54, .getfield 47, 57, 0), (57, .iload_n 1, 58, 0), (58, .aload_n 0, 59, 0), (59, .getfield 59, 62, 0), (62, .invokevirtual 384, 65, 0), (65, .ifCond .eq 14, 68, 79), (68, .new 73, 71, 0), (71, .dup, 72, 0), (72, .ldc_w 387, 75, 0), (75, .invokespecial 77, 78, 0), (78, .athrow, 79, 0), (79, .aload_n 0, 80, 0), (80, .getfield 33, 83, 0), (83, .getfield 219, 86, 0), (86, .bipush 40, 88, 0), (88, .if_icmp .lt 13, 91, 101), (91, .new 73, 94, 0), (94, .dup, 95, 0), (95, .ldc 220, 97, 0), (97, .invokespecial 77, 100, 0), (100, .athrow, 101, 0), (101, .aload_n 0, 102, 0), (102, .getfield 33, 105, 0), (105, .aload_n 0, 106, 0), (106, .getfield 59, 109, 0), (109, .aload_n 0, 110, 0), (110, .getfield 47, 113, 0), (113, .getfield 389, 116, 0), (116, .iload_n 1, 117, 0), (117, .iaload, 118, 0), (118, .aload_n 0, 119, 0), (119, .getfield 47, 122, 0), (122, .getfield 390, 125, 0), (125, .iload_n 1, 126, 0), (126, .iaload, 127, 0), (127, .aload_n 0, 128, 0), (128, .getfield 47, 131, 0), (131, .getfield 393, 134, 0), (134, .iload_n 1, 135, 0), (135, .iaload, 136, 0), (136, .aload_n 0, 137, 0), (137, .getfield 47, 140, 0), (140, .getfield 396, 143, 0), (143, .iload_n 1, 144, 0), (144, .iaload, 145, 0), (145, .invokevirtual 222, 148, 0), (148, .istore_n 2, 149, 0), (149, .aload_n 0, 150, 0), (150, .getfield 47, 153, 0), (153, .getfield 353, 156, 0), (156, .iload_n 1, 157, 0), (157, .iconst 1, 158, 0), (158, .iastore, 159, 0), (159, .aload_n 0, 160, 0), (160, .getfield 47, 163, 0), (163, .getfield 399, 166, 0), (166, .iload_n 1, 167, 0), (167, .iload_n 2, 168, 0), (168, .iastore, 169, 0), (169, .iload_n 2, 170, 0), (170, .ireturn, 171, 0)], [(33, 2096, 3, some 10240), (47, 2096, 5, some 14368), (59, 2096, 8, none), (219, 10240, 8, none), (353, 14368, 5, some 98401), (389, 14368, 1, some 90209), (390, 14368, 2, some 92257), (393, 14368, 3, some 94305), (396, 14368, 4, some 96353), (399, 14368, 8, some 104545)], [(222, 6, (z_rc 10240 sp_X0_add)), (345, 2, (z_rc 14368 sp_X4_isNotice)), (350, 2, (z_rc 2096 sp_X6_partiesOf)), (379, 4, (z_rc 14368 sp_X4_isRipe)), (384, 3, (z_rc 14368 sp_X4_isPast))], [], [], [(11, "java/lang/IndexOutOfBoundsException"), (42, "java/lang/IllegalStateException"), (68, "java/lang/IllegalStateException"), (91, "java/lang/IllegalStateException")], [], some .int)
def ss_X6_proceed : List z_ST := [(11, "java/lang/IndexOutOfBoundsException", 86, 369, 90, "no such notice", true), (42, "java/lang/IllegalStateException", 73, 382, 77, "the notice cannot be done now", true), (68, "java/lang/IllegalStateException", 73, 387, 77, "the last month is gone", true), (91, "java/lang/IllegalStateException", 73, 220, 77, "there are 40 acts", false)]
set_option maxRecDepth 20000 in
set_option maxHeartbeats 4000000 in
theorem ct_X6_proceed (l : Launch) (hl9 : l.stackTraces = false) : z_CX l yX6_proceed cX6_proceed 3 (some .int) sp_X6_proceed 6 := by
  refine z_CX_of G_X6_proceed ss_X6_proceed hl9 (by decide) (by decide) (by decide +kernel) (z_pok_of ft_X6 ci_X6 cL_X6_L fo_X6 co_X6 lo_X6 (by decide +kernel)) rfl rfl (by decide +kernel) ?_ ?_ ?_
  · intro as S P Po Px h
    unfold sp_X6_proceed at h
    split at h
    · exact Nat.le_of_ble_eq_true rfl
    · exact h.elim
  · exact List.forall_mem_cons.mpr ⟨z_coV (ct_X0_add l) kb_X0_add kv_X6_222 ko_X0 (by decide) (by decide) (by decide), List.forall_mem_cons.mpr ⟨z_coV (ct_X4_isNotice l) kb_X4_isNotice kv_X6_345 ko_X4 (by decide) (by decide) (by decide), List.forall_mem_cons.mpr ⟨z_coV (ct_X6_partiesOf l) kb_X6_partiesOf kv_X6_350 ko_X6 (by decide) (by decide) (by decide), List.forall_mem_cons.mpr ⟨z_coV (ct_X4_isRipe l) kb_X4_isRipe kv_X6_379 ko_X4 (by decide) (by decide) (by decide), List.forall_mem_cons.mpr ⟨z_coV (ct_X4_isPast l) kb_X4_isPast kv_X6_384 ko_X4 (by decide) (by decide) (by decide), fun _ h => absurd h List.not_mem_nil⟩⟩⟩⟩⟩
  · intro as S P Po Px h V hV hW
    unfold sp_X6_proceed at h
    split at h
    · rename_i x1
      obtain ⟨hp0, hpo⟩ := h
      refine hV [] 92 0 _ _ _ _ ?_
      refine z_brn (fun (h1 : (f_X4_isNotice S P x1) = true) => ?_) (fun (h1 : (f_X4_isNotice S P x1) = false) => ?_)
      · refine ⟨(show vp_in x1 12 by first | exact t_isClaim hp0 (by assumption) | exact t_isNotice hp0 (by assumption)), (show z_le (S 12296 8) 12 by exact z_J_claims hp0), ?_⟩
        refine ⟨(show vp_in x1 12 by first | exact t_isClaim hp0 (by assumption) | exact t_isNotice hp0 (by assumption)), ?_⟩
        refine z_brn (fun (h2 : (f_X4_isRipe S P x1 (S 2096 8) (f_X6_partiesOf S P x1)) = true) => ?_) (fun (h2 : (f_X4_isRipe S P x1 (S 2096 8) (f_X6_partiesOf S P x1)) = false) => ?_)
        · refine ⟨(show vp_in x1 12 by first | exact t_isClaim hp0 (by assumption) | exact t_isNotice hp0 (by assumption)), ?_⟩
          refine z_br (fun (h3 : (f_X4_isPast S P x1 (S 2096 8)) = false) => ?_) (fun (h3 : (f_X4_isPast S P x1 (S 2096 8)) = true) => ?_)
          · refine ⟨fun (h4 : (S 10240 8) < (nI 40)) => ?_, fun (h4 : ¬ ((S 10240 8) < (nI 40))) => ?_⟩
            · refine ⟨(show vp_in x1 12 by first | exact t_isClaim hp0 (by assumption) | exact t_isNotice hp0 (by assumption)), ?_⟩
              refine ⟨(show vp_in x1 12 by first | exact t_isClaim hp0 (by assumption) | exact t_isNotice hp0 (by assumption)), ?_⟩
              refine ⟨(show vp_in x1 12 by first | exact t_isClaim hp0 (by assumption) | exact t_isNotice hp0 (by assumption)), ?_⟩
              refine ⟨(show vp_in x1 12 by first | exact t_isClaim hp0 (by assumption) | exact t_isNotice hp0 (by assumption)), ?_⟩
              refine ⟨(show vp_in (S 10240 8) 40 by first | exact z_room (by assumption) (z_J_acts hp0) (by decide) (by decide) | exact z_roomL (by assumption) (z_J_acts hp0) (by decide) (by decide)), ?_⟩
              refine ⟨(show vp_in x1 12 by first | exact t_isClaim hp0 (by assumption) | exact t_isNotice hp0 (by assumption)), ?_⟩
              refine ⟨(show vp_in x1 12 by first | exact t_isClaim hp0 (by assumption) | exact t_isNotice hp0 (by assumption)), ?_⟩
              have he : e_X6_proceed S P x1 = 0 := (if_pos h1).trans ((if_pos h2).trans ((if_neg (z_nt h3)).trans ((if_pos h4).trans rfl)))
              rw [he] at hpo
              exact z_pi hpo ((if_pos h1).trans ((if_pos h2).trans ((if_neg (z_nt h3)).trans ((if_pos h4).trans rfl)))) ((if_pos h1).trans ((if_pos h2).trans ((if_neg (z_nt h3)).trans ((if_pos h4).trans rfl)))) (rfl)
            · have he : e_X6_proceed S P x1 = 3 := (if_pos h1).trans ((if_pos h2).trans ((if_neg (z_nt h3)).trans ((if_neg h4).trans rfl)))
              rw [he] at hpo
              exact hpo
          · have he : e_X6_proceed S P x1 = 3 := (if_pos h1).trans ((if_pos h2).trans ((if_pos h3).trans rfl))
            rw [he] at hpo
            exact hpo
        · have he : e_X6_proceed S P x1 = 3 := (if_pos h1).trans ((if_neg (z_nt h2)).trans rfl)
          rw [he] at hpo
          exact hpo
      · have he : e_X6_proceed S P x1 = 1 := (if_neg (z_nt h1)).trans rfl
        rw [he] at hpo
        exact hpo
    · exact h.elim
def f_X6_ofNotice (S : z_MI) (P : z_ML) (x1 : Int32) (x2 : Int32) : Int32 :=
  if (f_X4_isNotice S P x1) = true then
    if x2 < 0 then
      0
    else
      if x2 ≤ (nI 5) then
        if x2 = nI 0 then
          S 98401 x1.toNatClampNeg
        else
        if x2 = nI 1 then
          f_X6_partiesOf S P x1
        else
        if x2 = nI 2 then
          S 100449 x1.toNatClampNeg
        else
        if x2 = nI 3 then
          S 102497 x1.toNatClampNeg
        else
        if x2 = nI 4 then
          S 88161 x1.toNatClampNeg
        else
          S 104545 x1.toNatClampNeg
      else
        0
  else
    0
def e_X6_ofNotice (S : z_MI) (P : z_ML) (x1 : Int32) (x2 : Int32) : Nat :=
  if (f_X4_isNotice S P x1) = true then
    if x2 < 0 then
      2
    else
      if x2 ≤ (nI 5) then
        if x2 = nI 0 then
          0
        else
        if x2 = nI 1 then
          0
        else
        if x2 = nI 2 then
          0
        else
        if x2 = nI 3 then
          0
        else
        if x2 = nI 4 then
          0
        else
          0
      else
        2
  else
    1
def sp_X6_ofNotice : z_SX := fun as S P k kx => match as with
  | [.ref 2096, .int x1, .int x2] => z_J S ∧ (match e_X6_ofNotice S P x1 x2 with
      | 0 => k (some (.int (f_X6_ofNotice S P x1 x2))) S P
      | 1 => kx "java/lang/IndexOutOfBoundsException" S P
      | 2 => kx "java/lang/IllegalArgumentException" S P
      | _ => kx "java/lang/IllegalStateException" S P)
  | _ => False
def G_X6_ofNotice : z_G := ([(0, .aload_n 0, 1, 0), (1, .getfield 47, 4, 0), (4, .iload_n 1, 5, 0), (5, .invokevirtual 345, 8, 0), (8, .ifCond .ne 14, 11, 22), (11, .new 86, 14, 0), (14, .dup, 15, 0), (15, .ldc_w 369, 18, 0), (18, .invokespecial 90, 21, 0), (21, .athrow, 22, 0), (22, .iload_n 2, 23, 0), (23, .ifCond .lt 8, 26, 31), (26, .iload_n 2, 27, 0), (27, .iconst 5, 28, 0), (28, .if_icmp .le 14, 31, 42), (31, .new 63, 34, 0), (34, .dup, 35, 0), (35, .ldc_w 307, 38, 0), (38, .invokespecial 67, 41, 0), (41, .athrow, 42, 0), (42, .iload_n 2, 43, 0), (43, .tableswitch 79 0 4 #[33, 43, 49, 59, 69], 76, 122), (76, .aload_n 0, 77, 0), (77, .getfield 47, 80, 0), (80, .getfield 353, 83, 0), (83, .iload_n 1, 84, 0), (84, .iaload, 85, 0), (85, .ireturn, 86, 0), (86, .aload_n 0, 87, 0), (87, .iload_n 1, 88, 0), (88, .invokevirtual 350, 91, 0), (91, .ireturn, 92, 0), (92, .aload_n 0, 93, 0), (93, .getfield 47, 96, 0), (96, .getfield 354, 99, 0), (99, .iload_n 1, 100, 0), (100, .iaload, 101, 0), (101, .ireturn, 102, 0), (102, .aload_n 0, 103, 0), (103, .getfield 47, 106, 0), (106, .getfield 364, 109, 0), (109, .iload_n 1, 110, 0), (110, .iaload, 111, 0), (111, .ireturn, 112, 0), (112, .aload_n 0, 113, 0), (113, .getfield 47, 116, 0), (116, .getfield 402, 119, 0), (119, .iload_n 1, 120, 0), (120, .iaload, 121, 0), (121, .ireturn, 122, 0), (122, .aload_n 0, 123, 0), (123, .getfield 47, 126, 0), (126, .getfield 399, 129, 0), (129, .iload_n 1, 130, 0), (130, .iaload, 131, 0), (131, .ireturn, 132, 0)], [(47, 2096, 5, some 14368), (353, 14368, 5, some 98401), (354, 14368, 6, some 100449), (364, 14368, 7, some 102497), (399, 14368, 8, some 104545), (402, 14368, 0, some 88161)], [(345, 2, (z_rc 14368 sp_X4_isNotice)), (350, 2, (z_rc 2096 sp_X6_partiesOf))], [], [], [(11, "java/lang/IndexOutOfBoundsException"), (31, "java/lang/IllegalArgumentException")], [76, 86, 92, 102, 112], some .int)
def ss_X6_ofNotice : List z_ST := [(11, "java/lang/IndexOutOfBoundsException", 86, 369, 90, "no such notice", true), (31, "java/lang/IllegalArgumentException", 63, 307, 67, "what is out of range", true)]
set_option maxRecDepth 20000 in
set_option maxHeartbeats 4000000 in
theorem ct_X6_ofNotice (l : Launch) (hl9 : l.stackTraces = false) : z_CX l yX6_ofNotice cX6_ofNotice 3 (some .int) sp_X6_ofNotice 6 := by
  refine z_CX_of G_X6_ofNotice ss_X6_ofNotice hl9 (by decide) (by decide) (by decide +kernel) (z_pok_of ft_X6 ci_X6 cL_X6_L fo_X6 co_X6 lo_X6 (by decide +kernel)) rfl rfl (by decide +kernel) ?_ ?_ ?_
  · intro as S P Po Px h
    unfold sp_X6_ofNotice at h
    split at h
    · exact Nat.le_of_ble_eq_true rfl
    · exact h.elim
  · exact List.forall_mem_cons.mpr ⟨z_coV (ct_X4_isNotice l) kb_X4_isNotice kv_X6_345 ko_X4 (by decide) (by decide) (by decide), List.forall_mem_cons.mpr ⟨z_coV (ct_X6_partiesOf l) kb_X6_partiesOf kv_X6_350 ko_X6 (by decide) (by decide) (by decide), fun _ h => absurd h List.not_mem_nil⟩⟩
  · intro as S P Po Px h V hV hW
    unfold sp_X6_ofNotice at h
    split at h
    · rename_i x1 x2
      obtain ⟨hp0, hpo⟩ := h
      refine hV [] 61 0 _ _ _ _ ?_
      refine z_brn (fun (h1 : (f_X4_isNotice S P x1) = true) => ?_) (fun (h1 : (f_X4_isNotice S P x1) = false) => ?_)
      · refine ⟨fun (h2 : x2 < 0) => ?_, fun (h2 : ¬ (x2 < 0)) => ?_⟩
        · have he : e_X6_ofNotice S P x1 x2 = 2 := (if_pos h1).trans ((if_pos h2).trans rfl)
          rw [he] at hpo
          exact hpo
        · refine ⟨fun (h3 : x2 ≤ (nI 5)) => ?_, fun (h3 : ¬ (x2 ≤ (nI 5))) => ?_⟩
          · refine ⟨fun (h4 : x2 = nI 0) => ?_, fun (h5 : x2 = nI 1) => ?_, fun (h6 : x2 = nI 2) => ?_, fun (h7 : x2 = nI 3) => ?_, fun (h8 : x2 = nI 4) => ?_, fun h9 => ?_⟩
            · refine ⟨(show vp_in x1 12 by first | exact t_isClaim hp0 (by assumption) | exact t_isNotice hp0 (by assumption)), ?_⟩
              have he : e_X6_ofNotice S P x1 x2 = 0 := (if_pos h1).trans ((if_neg h2).trans ((if_pos h3).trans ((if_pos h4).trans rfl)))
              rw [he] at hpo
              exact z_pi hpo ((if_pos h1).trans ((if_neg h2).trans ((if_pos h3).trans ((if_pos h4).trans rfl)))) (rfl) (rfl)
            · refine ⟨(show vp_in x1 12 by first | exact t_isClaim hp0 (by assumption) | exact t_isNotice hp0 (by assumption)), (show z_le (S 12296 8) 12 by exact z_J_claims hp0), ?_⟩
              have he : e_X6_ofNotice S P x1 x2 = 0 := (if_pos h1).trans ((if_neg h2).trans ((if_pos h3).trans ((if_neg (show ¬ x2 = nI 0 by rw [h5]; decide)).trans ((if_pos h5).trans rfl))))
              rw [he] at hpo
              exact z_pi hpo ((if_pos h1).trans ((if_neg h2).trans ((if_pos h3).trans ((if_neg (show ¬ x2 = nI 0 by rw [h5]; decide)).trans ((if_pos h5).trans rfl))))) (rfl) (rfl)
            · refine ⟨(show vp_in x1 12 by first | exact t_isClaim hp0 (by assumption) | exact t_isNotice hp0 (by assumption)), ?_⟩
              have he : e_X6_ofNotice S P x1 x2 = 0 := (if_pos h1).trans ((if_neg h2).trans ((if_pos h3).trans ((if_neg (show ¬ x2 = nI 0 by rw [h6]; decide)).trans ((if_neg (show ¬ x2 = nI 1 by rw [h6]; decide)).trans ((if_pos h6).trans rfl)))))
              rw [he] at hpo
              exact z_pi hpo ((if_pos h1).trans ((if_neg h2).trans ((if_pos h3).trans ((if_neg (show ¬ x2 = nI 0 by rw [h6]; decide)).trans ((if_neg (show ¬ x2 = nI 1 by rw [h6]; decide)).trans ((if_pos h6).trans rfl)))))) (rfl) (rfl)
            · refine ⟨(show vp_in x1 12 by first | exact t_isClaim hp0 (by assumption) | exact t_isNotice hp0 (by assumption)), ?_⟩
              have he : e_X6_ofNotice S P x1 x2 = 0 := (if_pos h1).trans ((if_neg h2).trans ((if_pos h3).trans ((if_neg (show ¬ x2 = nI 0 by rw [h7]; decide)).trans ((if_neg (show ¬ x2 = nI 1 by rw [h7]; decide)).trans ((if_neg (show ¬ x2 = nI 2 by rw [h7]; decide)).trans ((if_pos h7).trans rfl))))))
              rw [he] at hpo
              exact z_pi hpo ((if_pos h1).trans ((if_neg h2).trans ((if_pos h3).trans ((if_neg (show ¬ x2 = nI 0 by rw [h7]; decide)).trans ((if_neg (show ¬ x2 = nI 1 by rw [h7]; decide)).trans ((if_neg (show ¬ x2 = nI 2 by rw [h7]; decide)).trans ((if_pos h7).trans rfl))))))) (rfl) (rfl)
            · refine ⟨(show vp_in x1 12 by first | exact t_isClaim hp0 (by assumption) | exact t_isNotice hp0 (by assumption)), ?_⟩
              have he : e_X6_ofNotice S P x1 x2 = 0 := (if_pos h1).trans ((if_neg h2).trans ((if_pos h3).trans ((if_neg (show ¬ x2 = nI 0 by rw [h8]; decide)).trans ((if_neg (show ¬ x2 = nI 1 by rw [h8]; decide)).trans ((if_neg (show ¬ x2 = nI 2 by rw [h8]; decide)).trans ((if_neg (show ¬ x2 = nI 3 by rw [h8]; decide)).trans ((if_pos h8).trans rfl)))))))
              rw [he] at hpo
              exact z_pi hpo ((if_pos h1).trans ((if_neg h2).trans ((if_pos h3).trans ((if_neg (show ¬ x2 = nI 0 by rw [h8]; decide)).trans ((if_neg (show ¬ x2 = nI 1 by rw [h8]; decide)).trans ((if_neg (show ¬ x2 = nI 2 by rw [h8]; decide)).trans ((if_neg (show ¬ x2 = nI 3 by rw [h8]; decide)).trans ((if_pos h8).trans rfl)))))))) (rfl) (rfl)
            · refine ⟨(show vp_in x1 12 by first | exact t_isClaim hp0 (by assumption) | exact t_isNotice hp0 (by assumption)), ?_⟩
              have he : e_X6_ofNotice S P x1 x2 = 0 := (if_pos h1).trans ((if_neg h2).trans ((if_pos h3).trans ((if_neg (h9 0 (by decide))).trans ((if_neg (h9 1 (by decide))).trans ((if_neg (h9 2 (by decide))).trans ((if_neg (h9 3 (by decide))).trans ((if_neg (h9 4 (by decide))).trans rfl)))))))
              rw [he] at hpo
              exact z_pi hpo ((if_pos h1).trans ((if_neg h2).trans ((if_pos h3).trans ((if_neg (h9 0 (by decide))).trans ((if_neg (h9 1 (by decide))).trans ((if_neg (h9 2 (by decide))).trans ((if_neg (h9 3 (by decide))).trans ((if_neg (h9 4 (by decide))).trans rfl)))))))) (rfl) (rfl)
          · have he : e_X6_ofNotice S P x1 x2 = 2 := (if_pos h1).trans ((if_neg h2).trans ((if_neg h3).trans rfl))
            rw [he] at hpo
            exact hpo
      · have he : e_X6_ofNotice S P x1 x2 = 1 := (if_neg (z_nt h1)).trans rfl
        rw [he] at hpo
        exact hpo
    · exact h.elim
def f_X6_value (S : z_MI) (P : z_ML) (x1 : Int32) (x2 : Int32) : Int32 :=
  if (f_X6_isPlace S P x1) = true then
    if x2 < 0 then
      0
    else
      if x2 ≤ (nI 1000000) then
        S 16513 x1.toNatClampNeg
      else
        0
  else
    0
def u_X6_value (S : z_MI) (P : z_ML) (x1 : Int32) (x2 : Int32) : z_MI :=
  if (f_X6_isPlace S P x1) = true then
    if x2 < 0 then
      S
    else
      if x2 ≤ (nI 1000000) then
        va_up S 16513 (upd (S 16513) x1.toNatClampNeg x2)
      else
        S
  else
    S
def e_X6_value (S : z_MI) (P : z_ML) (x1 : Int32) (x2 : Int32) : Nat :=
  if (f_X6_isPlace S P x1) = true then
    if x2 < 0 then
      2
    else
      if x2 ≤ (nI 1000000) then
        0
      else
        2
  else
    1
def sp_X6_value : z_SX := fun as S P k kx => match as with
  | [.ref 2096, .int x1, .int x2] => z_J S ∧ (match e_X6_value S P x1 x2 with
      | 0 => k (some (.int (f_X6_value S P x1 x2))) (u_X6_value S P x1 x2) P
      | 1 => kx "java/lang/IndexOutOfBoundsException" S P
      | 2 => kx "java/lang/IllegalArgumentException" S P
      | _ => kx "java/lang/IllegalStateException" S P)
  | _ => False
def G_X6_value : z_G := ([(0, .iload_n 1, 1, 0), (1, .invokestatic 150, 4, 0), (4, .ifCond .ne 13, 7, 17), (7, .new 86, 10, 0), (10, .dup, 11, 0), (11, .ldc 242, 13, 0), (13, .invokespecial 90, 16, 0), (16, .athrow, 17, 0), (17, .iload_n 2, 18, 0), (18, .ifCond .lt 10, 21, 28), (21, .iload_n 2, 22, 0), (22, .ldc_w 406, 25, 0), (25, .if_icmp .le 14, 28, 39), (28, .new 63, 31, 0), (31, .dup, 32, 0), (32, .ldc_w 407, 35, 0), (35, .invokespecial 67, 38, 0), (38, .athrow, 39, 0), (39, .aload_n 0, 40, 0), (40, .getfield 51, 43, 0), (43, .iload_n 1, 44, 0), (44, .iaload, 45, 0), (45, .istore_n 3, 46, 0), (46, .aload_n 0, 47, 0), (47, .getfield 51, 50, 0), (50, .iload_n 1, 51, 0), (51, .iload_n 2, 52, 0), (52, .iastore, 53, 0), (53, .iload_n 3, 54, 0), (54, .ireturn, 55, 0)], [(51, 2096, 6, some 16513)], [(100150, 1, sp_X6_isPlace)], [(406, 1000000)], [], [(7, "java/lang/IndexOutOfBoundsException"), (28, "java/lang/IllegalArgumentException")], [], some .int)
def ss_X6_value : List z_ST := [(7, "java/lang/IndexOutOfBoundsException", 86, 242, 90, "no such place", false), (28, "java/lang/IllegalArgumentException", 63, 407, 67, "value is out of range", true)]
set_option maxRecDepth 20000 in
set_option maxHeartbeats 4000000 in
theorem ct_X6_value (l : Launch) (hl9 : l.stackTraces = false) : z_CX l yX6_value cX6_value 4 (some .int) sp_X6_value 6 := by
  refine z_CX_of G_X6_value ss_X6_value hl9 (by decide) (by decide) (by decide +kernel) (z_pok_of ft_X6 ci_X6 cL_X6_L fo_X6 co_X6 lo_X6 (by decide +kernel)) rfl rfl (by decide +kernel) ?_ ?_ ?_
  · intro as S P Po Px h
    unfold sp_X6_value at h
    split at h
    · exact Nat.le_of_ble_eq_true rfl
    · exact h.elim
  · exact List.forall_mem_cons.mpr ⟨z_coS (ct_X6_isPlace l) kb_X6_isPlace ks_X6_150 (by decide) (by decide), fun _ h => absurd h List.not_mem_nil⟩
  · intro as S P Po Px h V hV hW
    unfold sp_X6_value at h
    split at h
    · rename_i x1 x2
      obtain ⟨hp0, hpo⟩ := h
      refine hV [] 35 0 _ _ _ _ ?_
      refine z_brn (fun (h1 : (f_X6_isPlace S P x1) = true) => ?_) (fun (h1 : (f_X6_isPlace S P x1) = false) => ?_)
      · refine ⟨fun (h2 : x2 < 0) => ?_, fun (h2 : ¬ (x2 < 0)) => ?_⟩
        · have he : e_X6_value S P x1 x2 = 2 := (if_pos h1).trans ((if_pos h2).trans rfl)
          rw [he] at hpo
          exact hpo
        · refine ⟨fun (h3 : x2 ≤ (nI 1000000)) => ?_, fun (h3 : ¬ (x2 ≤ (nI 1000000))) => ?_⟩
          · refine ⟨(show vp_in x1 16 by first | exact t_isPlace (by assumption)), ?_⟩
            refine ⟨(show vp_in x1 16 by first | exact t_isPlace (by assumption)), ?_⟩
            have he : e_X6_value S P x1 x2 = 0 := (if_pos h1).trans ((if_neg h2).trans ((if_pos h3).trans rfl))
            rw [he] at hpo
            exact z_pi hpo ((if_pos h1).trans ((if_neg h2).trans ((if_pos h3).trans rfl))) ((if_pos h1).trans ((if_neg h2).trans ((if_pos h3).trans rfl))) (rfl)
          · have he : e_X6_value S P x1 x2 = 2 := (if_pos h1).trans ((if_neg h2).trans ((if_neg h3).trans rfl))
            rw [he] at hpo
            exact hpo
      · have he : e_X6_value S P x1 x2 = 1 := (if_neg (z_nt h1)).trans rfl
        rw [he] at hpo
        exact hpo
    · exact h.elim
def f_X6_owed (S : z_MI) (P : z_ML) (x1 : Int32) : Int64 :=
  if (f_X0_isAct S P x1) = true then
    f_X6_owedFor S P x1
  else
    0
def e_X6_owed (S : z_MI) (P : z_ML) (x1 : Int32) : Nat :=
  if (f_X0_isAct S P x1) = true then
    0
  else
    1
def sp_X6_owed : z_SX := fun as S P k kx => match as with
  | [.ref 2096, .int x1] => z_J S ∧ (match e_X6_owed S P x1 with
      | 0 => k (some (.long (f_X6_owed S P x1))) S P
      | 1 => kx "java/lang/IndexOutOfBoundsException" S P
      | 2 => kx "java/lang/IllegalArgumentException" S P
      | _ => kx "java/lang/IllegalStateException" S P)
  | _ => False
def G_X6_owed : z_G := ([(0, .aload_n 0, 1, 0), (1, .getfield 33, 4, 0), (4, .iload_n 1, 5, 0), (5, .invokevirtual 225, 8, 0), (8, .ifCond .ne 13, 11, 21), (11, .new 86, 14, 0), (14, .dup, 15, 0), (15, .ldc 228, 17, 0), (17, .invokespecial 90, 20, 0), (20, .athrow, 21, 0), (21, .aload_n 0, 22, 0), (22, .iload_n 1, 23, 0), (23, .invokevirtual 409, 26, 0), (26, .lreturn, 27, 0)], [(33, 2096, 3, some 10240)], [(225, 2, (z_rc 10240 sp_X0_isAct)), (409, 2, (z_rc 2096 sp_X6_owedFor))], [], [], [(11, "java/lang/IndexOutOfBoundsException")], [], some .long)
def ss_X6_owed : List z_ST := [(11, "java/lang/IndexOutOfBoundsException", 86, 228, 90, "no such act", false)]
set_option maxRecDepth 20000 in
set_option maxHeartbeats 4000000 in
theorem ct_X6_owed (l : Launch) (hl9 : l.stackTraces = false) : z_CX l yX6_owed cX6_owed 2 (some .long) sp_X6_owed 6 := by
  refine z_CX_of G_X6_owed ss_X6_owed hl9 (by decide) (by decide) (by decide +kernel) (z_pok_of ft_X6 ci_X6 cL_X6_L fo_X6 co_X6 lo_X6 (by decide +kernel)) rfl rfl (by decide +kernel) ?_ ?_ ?_
  · intro as S P Po Px h
    unfold sp_X6_owed at h
    split at h
    · exact Nat.le_of_ble_eq_true rfl
    · exact h.elim
  · exact List.forall_mem_cons.mpr ⟨z_coV (ct_X0_isAct l) kb_X0_isAct kv_X6_225 ko_X0 (by decide) (by decide) (by decide), List.forall_mem_cons.mpr ⟨z_coV (ct_X6_owedFor l) kb_X6_owedFor kv_X6_409 ko_X6 (by decide) (by decide) (by decide), fun _ h => absurd h List.not_mem_nil⟩⟩
  · intro as S P Po Px h V hV hW
    unfold sp_X6_owed at h
    split at h
    · rename_i x1
      obtain ⟨hp0, hpo⟩ := h
      refine hV [] 19 0 _ _ _ _ ?_
      refine z_brn (fun (h1 : (f_X0_isAct S P x1) = true) => ?_) (fun (h1 : (f_X0_isAct S P x1) = false) => ?_)
      · refine ⟨(show vp_in x1 40 by first | exact t_isAct hp0 (by assumption)), (show z_le (S 12296 8) 12 by exact z_J_claims hp0), (show z_le (S 10240 8) 40 by exact z_J_acts hp0), ?_⟩
        have he : e_X6_owed S P x1 = 0 := (if_pos h1).trans rfl
        rw [he] at hpo
        exact z_pl hpo ((if_pos h1).trans rfl) (rfl) (rfl)
      · have he : e_X6_owed S P x1 = 1 := (if_neg (z_nt h1)).trans rfl
        rw [he] at hpo
        exact hpo
    · exact h.elim
def f_X6_paid (S : z_MI) (P : z_ML) (x1 : Int32) : Int64 :=
  if (f_X2_isPeople S P x1) = true then
    P 18483 x1.toNatClampNeg
  else
    0
def e_X6_paid (S : z_MI) (P : z_ML) (x1 : Int32) : Nat :=
  if (f_X2_isPeople S P x1) = true then
    0
  else
    1
def sp_X6_paid : z_SX := fun as S P k kx => match as with
  | [.ref 2096, .int x1] => z_J S ∧ (match e_X6_paid S P x1 with
      | 0 => k (some (.long (f_X6_paid S P x1))) S P
      | 1 => kx "java/lang/IndexOutOfBoundsException" S P
      | 2 => kx "java/lang/IllegalArgumentException" S P
      | _ => kx "java/lang/IllegalStateException" S P)
  | _ => False
def G_X6_paid : z_G := ([(0, .aload_n 0, 1, 0), (1, .getfield 10, 4, 0), (4, .iload_n 1, 5, 0), (5, .invokevirtual 102, 8, 0), (8, .ifCond .ne 13, 11, 21), (11, .new 86, 14, 0), (14, .dup, 15, 0), (15, .ldc 137, 17, 0), (17, .invokespecial 90, 20, 0), (20, .athrow, 21, 0), (21, .aload_n 0, 22, 0), (22, .getfield 55, 25, 0), (25, .iload_n 1, 26, 0), (26, .laload, 27, 0), (27, .lreturn, 28, 0)], [(10, 2096, 0, some 4112), (55, 2096, 7, some 18483)], [(102, 2, (z_rc 4112 sp_X2_isPeople))], [], [], [(11, "java/lang/IndexOutOfBoundsException")], [], some .long)
def ss_X6_paid : List z_ST := [(11, "java/lang/IndexOutOfBoundsException", 86, 137, 90, "no such people", false)]
set_option maxRecDepth 20000 in
set_option maxHeartbeats 4000000 in
theorem ct_X6_paid (l : Launch) (hl9 : l.stackTraces = false) : z_CX l yX6_paid cX6_paid 2 (some .long) sp_X6_paid 6 := by
  refine z_CX_of G_X6_paid ss_X6_paid hl9 (by decide) (by decide) (by decide +kernel) (z_pok_of ft_X6 ci_X6 cL_X6_L fo_X6 co_X6 lo_X6 (by decide +kernel)) rfl rfl (by decide +kernel) ?_ ?_ ?_
  · intro as S P Po Px h
    unfold sp_X6_paid at h
    split at h
    · exact Nat.le_of_ble_eq_true rfl
    · exact h.elim
  · exact List.forall_mem_cons.mpr ⟨z_coV (ct_X2_isPeople l) kb_X2_isPeople kv_X6_102 ko_X2 (by decide) (by decide) (by decide), fun _ h => absurd h List.not_mem_nil⟩
  · intro as S P Po Px h V hV hW
    unfold sp_X6_paid at h
    split at h
    · rename_i x1
      obtain ⟨hp0, hpo⟩ := h
      refine hV [] 20 0 _ _ _ _ ?_
      refine z_brn (fun (h1 : (f_X2_isPeople S P x1) = true) => ?_) (fun (h1 : (f_X2_isPeople S P x1) = false) => ?_)
      · refine ⟨(show vp_in x1 6 by first | exact t_isPeople hp0 (by assumption)), ?_⟩
        have he : e_X6_paid S P x1 = 0 := (if_pos h1).trans rfl
        rw [he] at hpo
        exact z_pl hpo ((if_pos h1).trans rfl) (rfl) (rfl)
      · have he : e_X6_paid S P x1 = 1 := (if_neg (z_nt h1)).trans rfl
        rw [he] at hpo
        exact hpo
    · exact h.elim
def f_X6_pass (S : z_MI) (P : z_ML) (x1 : Int32) : Int32 :=
  if x1 < (nI 1) then
    0
  else
    if x1 ≤ (nI 600) then
      if ((S 2096 8) + x1) ≤ (nI 5000) then
        (upd (S 2096) 8 ((S 2096 8) + x1)) 8
      else
        0
    else
      0
def u_X6_pass (S : z_MI) (P : z_ML) (x1 : Int32) : z_MI :=
  if x1 < (nI 1) then
    S
  else
    if x1 ≤ (nI 600) then
      if ((S 2096 8) + x1) ≤ (nI 5000) then
        va_up S 2096 (upd (S 2096) 8 ((S 2096 8) + x1))
      else
        S
    else
      S
def e_X6_pass (S : z_MI) (P : z_ML) (x1 : Int32) : Nat :=
  if x1 < (nI 1) then
    2
  else
    if x1 ≤ (nI 600) then
      if ((S 2096 8) + x1) ≤ (nI 5000) then
        0
      else
        3
    else
      2
def sp_X6_pass : z_SX := fun as S P k kx => match as with
  | [.ref 2096, .int x1] => z_J S ∧ (match e_X6_pass S P x1 with
      | 0 => k (some (.int (f_X6_pass S P x1))) (u_X6_pass S P x1) P
      | 1 => kx "java/lang/IndexOutOfBoundsException" S P
      | 2 => kx "java/lang/IllegalArgumentException" S P
      | _ => kx "java/lang/IllegalStateException" S P)
  | _ => False
def G_X6_pass : z_G := ([(0, .iload_n 1, 1, 0), (1, .iconst 1, 2, 0), (2, .if_icmp .lt 10, 5, 12), (5, .iload_n 1, 6, 0), (6, .sipush 600, 9, 0), (9, .if_icmp .le 14, 12, 23), (12, .new 63, 15, 0), (15, .dup, 16, 0), (16, .ldc_w 426, 19, 0), (19, .invokespecial 67, 22, 0), (22, .athrow, 23, 0), (23, .aload_n 0, 24, 0), (24, .getfield 59, 27, 0), (27, .iload_n 1, 28, 0), (28, .iadd, 29, 0), (29, .sipush 5000, 32, 0), (32, .if_icmp .le 14, 35, 46), (35, .new 73, 38, 0), (38, .dup, 39, 0), (39, .ldc_w 428, 42, 0), (42, .invokespecial 77, 45, 0), (45, .athrow, 46, 0), (46, .aload_n 0, 47, 0), (47, .dup, 48, 0), (48, .getfield 59, 51, 0), (51, .iload_n 1, 52, 0), (52, .iadd, 53, 0), (53, .putfield 59, 56, 0), (56, .aload_n 0, 57, 0), (57, .getfield 59, 60, 0), (60, .ireturn, 61, 0)], [(59, 2096, 8, none)], [], [], [], [(12, "java/lang/IllegalArgumentException"), (35, "java/lang/IllegalStateException")], [], some .int)
def ss_X6_pass : List z_ST := [(12, "java/lang/IllegalArgumentException", 63, 426, 67, "months is out of range", true), (35, "java/lang/IllegalStateException", 73, 428, 77, "the month would be above 5000", true)]
set_option maxRecDepth 20000 in
set_option maxHeartbeats 4000000 in
theorem ct_X6_pass (l : Launch) (hl9 : l.stackTraces = false) : z_CX l yX6_pass cX6_pass 2 (some .int) sp_X6_pass 6 := by
  refine z_CX_of G_X6_pass ss_X6_pass hl9 (by decide) (by decide) (by decide +kernel) (z_pok_of ft_X6 ci_X6 cL_X6_L fo_X6 co_X6 lo_X6 (by decide +kernel)) rfl rfl (by decide +kernel) ?_ ?_ ?_
  · intro as S P Po Px h
    unfold sp_X6_pass at h
    split at h
    · exact Nat.le_of_ble_eq_true rfl
    · exact h.elim
  · exact fun _ h => absurd h List.not_mem_nil
  · intro as S P Po Px h V hV hW
    unfold sp_X6_pass at h
    split at h
    · rename_i x1
      obtain ⟨hp0, hpo⟩ := h
      refine hV [] 36 0 _ _ _ _ ?_
      refine ⟨fun (h1 : x1 < (nI 1)) => ?_, fun (h1 : ¬ (x1 < (nI 1))) => ?_⟩
      · have he : e_X6_pass S P x1 = 2 := (if_pos h1).trans rfl
        rw [he] at hpo
        exact hpo
      · refine ⟨fun (h2 : x1 ≤ (nI 600)) => ?_, fun (h2 : ¬ (x1 ≤ (nI 600))) => ?_⟩
        · refine ⟨fun (h3 : ((S 2096 8) + x1) ≤ (nI 5000)) => ?_, fun (h3 : ¬ (((S 2096 8) + x1) ≤ (nI 5000))) => ?_⟩
          · have he : e_X6_pass S P x1 = 0 := (if_neg h1).trans ((if_pos h2).trans ((if_pos h3).trans rfl))
            rw [he] at hpo
            exact z_pi hpo ((if_neg h1).trans ((if_pos h2).trans ((if_pos h3).trans rfl))) ((if_neg h1).trans ((if_pos h2).trans ((if_pos h3).trans rfl))) (rfl)
          · have he : e_X6_pass S P x1 = 3 := (if_neg h1).trans ((if_pos h2).trans ((if_neg h3).trans rfl))
            rw [he] at hpo
            exact hpo
        · have he : e_X6_pass S P x1 = 2 := (if_neg h1).trans ((if_neg h2).trans rfl)
          rw [he] at hpo
          exact hpo
    · exact h.elim
def l_X6_pay_47 (S : z_MI) (P : z_ML) (x1 : Int32) (k47 : Nat) (a47 : z_ML) : z_ML :=
  v_X6_share S a47 (f_X6_owedAt S a47 x1 (nI k47)) (f_X1_holdersOf S a47 (nI k47))
def f_X6_pay (S : z_MI) (P : z_ML) (x1 : Int32) : Int64 :=
  if (f_X0_isAct S P x1) = true then
    if (lg_cmp (f_X6_owedFor S P x1) (lN 0)) = 0 then
      0
    else
      f_X6_owedFor S P x1
  else
    0
def u_X6_pay (S : z_MI) (P : z_ML) (x1 : Int32) : z_MI :=
  if (f_X0_isAct S P x1) = true then
    if (lg_cmp (f_X6_owedFor S P x1) (lN 0)) = 0 then
      S
    else
      va_up S 69954 (upd (S 69954) x1.toNatClampNeg (vp_nar .boolean (nI 1)))
  else
    S
def v_X6_pay (S : z_MI) (P : z_ML) (x1 : Int32) : z_ML :=
  if (f_X0_isAct S P x1) = true then
    if (lg_cmp (f_X6_owedFor S P x1) (lN 0)) = 0 then
      P
    else
      (z_fo (fun k47 a47 => l_X6_pay_47 S P x1 k47 a47) P 16)
  else
    P
def e_X6_pay (S : z_MI) (P : z_ML) (x1 : Int32) : Nat :=
  if (f_X0_isAct S P x1) = true then
    if (lg_cmp (f_X6_owedFor S P x1) (lN 0)) = 0 then
      3
    else
      0
  else
    1
def sp_X6_pay : z_SX := fun as S P k kx => match as with
  | [.ref 2096, .int x1] => z_J S ∧ (match e_X6_pay S P x1 with
      | 0 => k (some (.long (f_X6_pay S P x1))) (u_X6_pay S P x1) (v_X6_pay S P x1)
      | 1 => kx "java/lang/IndexOutOfBoundsException" S P
      | 2 => kx "java/lang/IllegalArgumentException" S P
      | _ => kx "java/lang/IllegalStateException" S P)
  | _ => False
def G_X6_pay : z_G := ([(0, .aload_n 0, 1, 0), (1, .getfield 33, 4, 0), (4, .iload_n 1, 5, 0), (5, .invokevirtual 225, 8, 0), (8, .ifCond .ne 13, 11, 21), (11, .new 86, 14, 0), (14, .dup, 15, 0), (15, .ldc 228, 17, 0), (17, .invokespecial 90, 20, 0), (20, .athrow, 21, 0), (21, .aload_n 0, 22, 0), (22, .iload_n 1, 23, 0), (23, .invokevirtual 409, 26, 0), (26, .lstore_n 2, 27, 0), (27, .lload_n 2, 28, 0), (28, .lconst 0, 29, 0), (29, .lcmp, 30, 0), (30, .ifCond .ne 14, 33, 44), (33, .new 73, 36, 0), (36, .dup, 37, 0), (37, .ldc_w 413, 40, 0), (40, .invokespecial 77, 43, 0), (43, .athrow, 44, 0), (44, .iconst 0, 45, 0), (45, .istore 4, 47, 0), (47, .iload 4, 49, 0), (49, .bipush 16, 51, 0), (51, .if_icmp .ge 29, 54, 80), (54, .aload_n 0, 55, 0), (55, .aload_n 0, 56, 0), (56, .iload_n 1, 57, 0), (57, .iload 4, 59, 0), (59, .invokevirtual 415, 62, 0), (62, .aload_n 0, 63, 0), (63, .getfield 40, 66, 0), (66, .iload 4, 68, 0), (68, .invokevirtual 312, 71, 0), (71, .invokevirtual 419, 74, 0), (74, .iinc 4 1, 77, 0), (77, .goto (-30), 80, 47), (80, .aload_n 0, 81, 0), (81, .getfield 33, 84, 0), (84, .getfield 423, 87, 0), (87, .iload_n 1, 88, 0), (88, .iconst 1, 89, 0), (89, .bastore, 90, 0), (90, .lload_n 2, 91, 0), (91, .lreturn, 92, 0)], [(33, 2096, 3, some 10240), (40, 2096, 4, some 12296), (423, 10240, 7, some 69954)], [(225, 2, (z_rc 10240 sp_X0_isAct)), (312, 2, (z_rc 12296 sp_X1_holdersOf)), (409, 2, (z_rc 2096 sp_X6_owedFor)), (415, 3, (z_rc 2096 sp_X6_owedAt)), (419, 3, (z_rc 2096 sp_X6_share))], [], [], [(11, "java/lang/IndexOutOfBoundsException"), (33, "java/lang/IllegalStateException")], [], some .long)
def ss_X6_pay : List z_ST := [(11, "java/lang/IndexOutOfBoundsException", 86, 228, 90, "no such act", false), (33, "java/lang/IllegalStateException", 73, 413, 77, "the act cannot be paid for, or nothing is owed", true)]
set_option maxRecDepth 20000 in
set_option maxHeartbeats 4000000 in
theorem ct_X6_pay (l : Launch) (hl9 : l.stackTraces = false) : z_CX l yX6_pay cX6_pay 5 (some .long) sp_X6_pay 6 := by
  refine z_CX_of G_X6_pay ss_X6_pay hl9 (by decide) (by decide) (by decide +kernel) (z_pok_of ft_X6 ci_X6 cL_X6_L fo_X6 co_X6 lo_X6 (by decide +kernel)) rfl rfl (by decide +kernel) ?_ ?_ ?_
  · intro as S P Po Px h
    unfold sp_X6_pay at h
    split at h
    · exact Nat.le_of_ble_eq_true rfl
    · exact h.elim
  · exact List.forall_mem_cons.mpr ⟨z_coV (ct_X0_isAct l) kb_X0_isAct kv_X6_225 ko_X0 (by decide) (by decide) (by decide), List.forall_mem_cons.mpr ⟨z_coV (ct_X1_holdersOf l) kb_X1_holdersOf kv_X6_312 ko_X1 (by decide) (by decide) (by decide), List.forall_mem_cons.mpr ⟨z_coV (ct_X6_owedFor l) kb_X6_owedFor kv_X6_409 ko_X6 (by decide) (by decide) (by decide), List.forall_mem_cons.mpr ⟨z_coV (ct_X6_owedAt l) kb_X6_owedAt kv_X6_415 ko_X6 (by decide) (by decide) (by decide), List.forall_mem_cons.mpr ⟨z_coV (ct_X6_share l) kb_X6_share kv_X6_419 ko_X6 (by decide) (by decide) (by decide), fun _ h => absurd h List.not_mem_nil⟩⟩⟩⟩⟩
  · intro as S P Po Px h V hV hW
    unfold sp_X6_pay at h
    split at h
    · rename_i x1
      obtain ⟨hp0, hpo⟩ := h
      refine hV [47] 53 0 _ _ _ _ ?_
      refine z_brn (fun (h1 : (f_X0_isAct S P x1) = true) => ?_) (fun (h1 : (f_X0_isAct S P x1) = false) => ?_)
      · refine ⟨(show vp_in x1 40 by first | exact t_isAct hp0 (by assumption)), (show z_le (S 12296 8) 12 by exact z_J_claims hp0), (show z_le (S 10240 8) 40 by exact z_J_acts hp0), ?_⟩
        refine ⟨fun (h2 : ¬ ((lg_cmp (f_X6_owedFor S P x1) (lN 0)) = 0)) => ?_, fun (h2 : (lg_cmp (f_X6_owedFor S P x1) (lN 0)) = 0) => ?_⟩
        · have hb47 : ((nI 16) : Int32) = (nI 16) := rfl
          have hL47 : ∀ (j k47 : Nat) (x900 : Int32) (a47 : z_ML), k47 + j = 16 → x900 = nI k47 → a47 = z_fo (fun k47 a47 => l_X6_pay_47 S P x1 k47 a47) P k47 → V 47 [(0, .ref 2096), (1, .int x1), (2, .long (f_X6_owedFor S P x1)), (4, .int x900)] [] S a47 := by
            intro j
            induction j with
            | zero =>
              intro k47 x900 a47 hk47 hx47 ha47
              subst hx47
              have hk9 : k47 = 16 := by omega
              subst hk9
              subst ha47
              refine hV [47] 53 47 _ _ _ _ ?_
              refine ⟨fun _ => ?_, fun h => absurd ((z_brge hb47 (by omega) (by omega)).mpr (Nat.le_refl _)) h⟩
              refine ⟨(show vp_in x1 40 by first | exact t_isAct hp0 (by assumption)), ?_⟩
              have he : e_X6_pay S P x1 = 0 := (if_pos h1).trans ((if_neg h2).trans rfl)
              rw [he] at hpo
              exact z_pl hpo ((if_pos h1).trans ((if_neg h2).trans rfl)) ((if_pos h1).trans ((if_neg h2).trans rfl)) ((if_pos h1).trans ((if_neg h2).trans rfl))
            | succ j ih =>
              intro k47 x900 a47 hk47 hx47 ha47
              subst hx47
              have hk9 : k47 < 16 := by omega
              subst ha47
              refine hV [47] 53 47 _ _ _ _ ?_
              refine ⟨fun h => absurd ((z_brge hb47 (by omega) (by omega)).mp h) (by omega), fun _ => ?_⟩
              refine ⟨(show vp_in x1 40 by first | exact t_isAct hp0 (by assumption)), (show z_le (S 12296 8) 12 by exact z_J_claims hp0), (show vp_in (nI k47) 16 by exact vp_in_nI (by omega) (by omega)), (show z_le (S 10240 8) 40 by exact z_J_acts hp0), ?_⟩
              refine ⟨(show z_le (S 12296 8) 12 by exact z_J_claims hp0), ?_⟩
              exact hW [0, 1, 2, 4] _ _ _ _ _ (ih (k47 + 1) _ (v_X6_share S (z_fo (fun k47 a47 => l_X6_pay_47 S P x1 k47 a47) P k47) (f_X6_owedAt S (z_fo (fun k47 a47 => l_X6_pay_47 S P x1 k47 a47) P k47) x1 (nI k47)) (f_X1_holdersOf S (z_fo (fun k47 a47 => l_X6_pay_47 S P x1 k47 a47) P k47) (nI k47))) (by omega) (nI_add k47 1) ((rfl).symm))
          exact hW [0, 1, 2, 4] _ _ _ _ _ (hL47 16 0 _ P (Nat.zero_add _) rfl rfl)
        · have he : e_X6_pay S P x1 = 3 := (if_pos h1).trans ((if_pos h2).trans rfl)
          rw [he] at hpo
          exact hpo
      · have he : e_X6_pay S P x1 = 1 := (if_neg (z_nt h1)).trans rfl
        rw [he] at hpo
        exact hpo
    · exact h.elim
