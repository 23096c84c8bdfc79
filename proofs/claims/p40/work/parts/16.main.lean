def f_X6_isPlace (S : z_MI) (P : z_ML) (x0 : Int32) : Bool :=
  if x0 < 0 then
    false
  else
    if (nI 16) ≤ x0 then
      false
    else
      true
def sp_X6_isPlace : z_SP := fun as S P k => match as with
  | [.int x0] => k (some (.int (z_b (f_X6_isPlace S P x0)))) S P
  | _ => False
def G_X6_isPlace : z_G := ([(0, .iload_n 0, 1, 0), (1, .ifCond .lt 13, 4, 14), (4, .iload_n 0, 5, 0), (5, .bipush 16, 7, 0), (7, .if_icmp .ge 7, 10, 14), (10, .iconst 1, 11, 0), (11, .goto 4, 14, 15), (14, .iconst 0, 15, 0), (15, .ireturn, 16, 0)], [], [], [], [], [], [], some .boolean)
set_option maxRecDepth 20000 in
set_option maxHeartbeats 4000000 in
theorem ct_X6_isPlace (l : Launch) : z_CT l yX6_isPlace cX6_isPlace 1 (some .boolean) sp_X6_isPlace 0 := by
  refine z_CT_of G_X6_isPlace (by decide) (by decide +kernel) (z_pok_of ft_X6 ci_X6 cL_X6_L fo_X6 co_X6 lo_X6 (by decide +kernel)) rfl rfl ?_ ?_ ?_
  · intro as S P Po h
    unfold sp_X6_isPlace at h
    split at h
    · exact Nat.le_of_ble_eq_true rfl
    · exact h.elim
  · exact fun _ h => absurd h List.not_mem_nil
  · intro as S P Po h V hV hW
    unfold sp_X6_isPlace at h
    split at h
    · rename_i x0
      have hpo := h
      refine hV [] 14 0 _ _ _ _ ?_
      refine ⟨fun (h1 : x0 < 0) => ?_, fun (h1 : ¬ (x0 < 0)) => ?_⟩
      · exact ⟨(by first | rfl | exact z_nb _), z_pb hpo ((if_pos h1).trans rfl) (rfl) (rfl)⟩
      · refine ⟨fun (h2 : (nI 16) ≤ x0) => ?_, fun (h2 : ¬ ((nI 16) ≤ x0)) => ?_⟩
        · exact ⟨(by first | rfl | exact z_nb _), z_pb hpo ((if_neg h1).trans ((if_pos h2).trans rfl)) (rfl) (rfl)⟩
        · exact ⟨(by first | rfl | exact z_nb _), z_pb hpo ((if_neg h1).trans ((if_neg h2).trans rfl)) (rfl) (rfl)⟩
    · exact h.elim
def f_X6_isMonth (S : z_MI) (P : z_ML) (x0 : Int32) : Bool :=
  if x0 < 0 then
    false
  else
    if (nI 5000) < x0 then
      false
    else
      true
def sp_X6_isMonth : z_SP := fun as S P k => match as with
  | [.int x0] => k (some (.int (z_b (f_X6_isMonth S P x0)))) S P
  | _ => False
def G_X6_isMonth : z_G := ([(0, .iload_n 0, 1, 0), (1, .ifCond .lt 14, 4, 15), (4, .iload_n 0, 5, 0), (5, .sipush 5000, 8, 0), (8, .if_icmp .gt 7, 11, 15), (11, .iconst 1, 12, 0), (12, .goto 4, 15, 16), (15, .iconst 0, 16, 0), (16, .ireturn, 17, 0)], [], [], [], [], [], [], some .boolean)
set_option maxRecDepth 20000 in
set_option maxHeartbeats 4000000 in
theorem ct_X6_isMonth (l : Launch) : z_CT l yX6_isMonth cX6_isMonth 1 (some .boolean) sp_X6_isMonth 0 := by
  refine z_CT_of G_X6_isMonth (by decide) (by decide +kernel) (z_pok_of ft_X6 ci_X6 cL_X6_L fo_X6 co_X6 lo_X6 (by decide +kernel)) rfl rfl ?_ ?_ ?_
  · intro as S P Po h
    unfold sp_X6_isMonth at h
    split at h
    · exact Nat.le_of_ble_eq_true rfl
    · exact h.elim
  · exact fun _ h => absurd h List.not_mem_nil
  · intro as S P Po h V hV hW
    unfold sp_X6_isMonth at h
    split at h
    · rename_i x0
      have hpo := h
      refine hV [] 14 0 _ _ _ _ ?_
      refine ⟨fun (h1 : x0 < 0) => ?_, fun (h1 : ¬ (x0 < 0)) => ?_⟩
      · exact ⟨(by first | rfl | exact z_nb _), z_pb hpo ((if_pos h1).trans rfl) (rfl) (rfl)⟩
      · refine ⟨fun (h2 : (nI 5000) < x0) => ?_, fun (h2 : ¬ ((nI 5000) < x0)) => ?_⟩
        · exact ⟨(by first | rfl | exact z_nb _), z_pb hpo ((if_neg h1).trans ((if_pos h2).trans rfl)) (rfl) (rfl)⟩
        · exact ⟨(by first | rfl | exact z_nb _), z_pb hpo ((if_neg h1).trans ((if_neg h2).trans rfl)) (rfl) (rfl)⟩
    · exact h.elim
def f_X6_isSomePlaces (S : z_MI) (P : z_ML) (x0 : Int32) : Bool :=
  if x0 < (nI 1) then
    false
  else
    if (nI 65535) < x0 then
      false
    else
      true
def sp_X6_isSomePlaces : z_SP := fun as S P k => match as with
  | [.int x0] => k (some (.int (z_b (f_X6_isSomePlaces S P x0)))) S P
  | _ => False
def G_X6_isSomePlaces : z_G := ([(0, .iload_n 0, 1, 0), (1, .iconst 1, 2, 0), (2, .if_icmp .lt 14, 5, 16), (5, .iload_n 0, 6, 0), (6, .ldc_w 449, 9, 0), (9, .if_icmp .gt 7, 12, 16), (12, .iconst 1, 13, 0), (13, .goto 4, 16, 17), (16, .iconst 0, 17, 0), (17, .ireturn, 18, 0)], [], [], [(449, 65535)], [], [], [], some .boolean)
set_option maxRecDepth 20000 in
set_option maxHeartbeats 4000000 in
theorem ct_X6_isSomePlaces (l : Launch) : z_CT l yX6_isSomePlaces cX6_isSomePlaces 1 (some .boolean) sp_X6_isSomePlaces 0 := by
  refine z_CT_of G_X6_isSomePlaces (by decide) (by decide +kernel) (z_pok_of ft_X6 ci_X6 cL_X6_L fo_X6 co_X6 lo_X6 (by decide +kernel)) rfl rfl ?_ ?_ ?_
  · intro as S P Po h
    unfold sp_X6_isSomePlaces at h
    split at h
    · exact Nat.le_of_ble_eq_true rfl
    · exact h.elim
  · exact fun _ h => absurd h List.not_mem_nil
  · intro as S P Po h V hV hW
    unfold sp_X6_isSomePlaces at h
    split at h
    · rename_i x0
      have hpo := h
      refine hV [] 15 0 _ _ _ _ ?_
      refine ⟨fun (h1 : x0 < (nI 1)) => ?_, fun (h1 : ¬ (x0 < (nI 1))) => ?_⟩
      · exact ⟨(by first | rfl | exact z_nb _), z_pb hpo ((if_pos h1).trans rfl) (rfl) (rfl)⟩
      · refine ⟨fun (h2 : (nI 65535) < x0) => ?_, fun (h2 : ¬ ((nI 65535) < x0)) => ?_⟩
        · exact ⟨(by first | rfl | exact z_nb _), z_pb hpo ((if_neg h1).trans ((if_pos h2).trans rfl)) (rfl) (rfl)⟩
        · exact ⟨(by first | rfl | exact z_nb _), z_pb hpo ((if_neg h1).trans ((if_neg h2).trans rfl)) (rfl) (rfl)⟩
    · exact h.elim
def f_X6_isSomeRights (S : z_MI) (P : z_ML) (x0 : Int32) : Bool :=
  if x0 < (nI 1) then
    false
  else
    if (nI 31) < x0 then
      false
    else
      true
def sp_X6_isSomeRights : z_SP := fun as S P k => match as with
  | [.int x0] => k (some (.int (z_b (f_X6_isSomeRights S P x0)))) S P
  | _ => False
def G_X6_isSomeRights : z_G := ([(0, .iload_n 0, 1, 0), (1, .iconst 1, 2, 0), (2, .if_icmp .lt 13, 5, 15), (5, .iload_n 0, 6, 0), (6, .bipush 31, 8, 0), (8, .if_icmp .gt 7, 11, 15), (11, .iconst 1, 12, 0), (12, .goto 4, 15, 16), (15, .iconst 0, 16, 0), (16, .ireturn, 17, 0)], [], [], [], [], [], [], some .boolean)
set_option maxRecDepth 20000 in
set_option maxHeartbeats 4000000 in
theorem ct_X6_isSomeRights (l : Launch) : z_CT l yX6_isSomeRights cX6_isSomeRights 1 (some .boolean) sp_X6_isSomeRights 0 := by
  refine z_CT_of G_X6_isSomeRights (by decide) (by decide +kernel) (z_pok_of ft_X6 ci_X6 cL_X6_L fo_X6 co_X6 lo_X6 (by decide +kernel)) rfl rfl ?_ ?_ ?_
  · intro as S P Po h
    unfold sp_X6_isSomeRights at h
    split at h
    · exact Nat.le_of_ble_eq_true rfl
    · exact h.elim
  · exact fun _ h => absurd h List.not_mem_nil
  · intro as S P Po h V hV hW
    unfold sp_X6_isSomeRights at h
    split at h
    · rename_i x0
      have hpo := h
      refine hV [] 15 0 _ _ _ _ ?_
      refine ⟨fun (h1 : x0 < (nI 1)) => ?_, fun (h1 : ¬ (x0 < (nI 1))) => ?_⟩
      · exact ⟨(by first | rfl | exact z_nb _), z_pb hpo ((if_pos h1).trans rfl) (rfl) (rfl)⟩
      · refine ⟨fun (h2 : (nI 31) < x0) => ?_, fun (h2 : ¬ ((nI 31) < x0)) => ?_⟩
        · exact ⟨(by first | rfl | exact z_nb _), z_pb hpo ((if_neg h1).trans ((if_pos h2).trans rfl)) (rfl) (rfl)⟩
        · exact ⟨(by first | rfl | exact z_nb _), z_pb hpo ((if_neg h1).trans ((if_neg h2).trans rfl)) (rfl) (rfl)⟩
    · exact h.elim
def f_X6_isDeed (S : z_MI) (P : z_ML) (x0 : Int32) (x1 : Int32) (x2 : Int32) : Bool :=
  if (f_X6_isSomePlaces S P x0) = true then
    if (f_X6_isSomeRights S P x1) = true then
      if x2 < 0 then
        false
      else
        if (nI 2) < x2 then
          false
        else
          true
    else
      false
  else
    false
def sp_X6_isDeed : z_SP := fun as S P k => match as with
  | [.int x0, .int x1, .int x2] => k (some (.int (z_b (f_X6_isDeed S P x0 x1 x2)))) S P
  | _ => False
def G_X6_isDeed : z_G := ([(0, .iload_n 0, 1, 0), (1, .invokestatic 255, 4, 0), (4, .ifCond .eq 23, 7, 27), (7, .iload_n 1, 8, 0), (8, .invokestatic 258, 11, 0), (11, .ifCond .eq 16, 14, 27), (14, .iload_n 2, 15, 0), (15, .ifCond .lt 12, 18, 27), (18, .iload_n 2, 19, 0), (19, .iconst 2, 20, 0), (20, .if_icmp .gt 7, 23, 27), (23, .iconst 1, 24, 0), (24, .goto 4, 27, 28), (27, .iconst 0, 28, 0), (28, .ireturn, 29, 0)], [], [(100255, 1, sp_X6_isSomePlaces), (100258, 1, sp_X6_isSomeRights)], [], [], [], [], some .boolean)
set_option maxRecDepth 20000 in
set_option maxHeartbeats 4000000 in
theorem ct_X6_isDeed (l : Launch) : z_CT l yX6_isDeed cX6_isDeed 3 (some .boolean) sp_X6_isDeed 1 := by
  refine z_CT_of G_X6_isDeed (by decide) (by decide +kernel) (z_pok_of ft_X6 ci_X6 cL_X6_L fo_X6 co_X6 lo_X6 (by decide +kernel)) rfl rfl ?_ ?_ ?_
  · intro as S P Po h
    unfold sp_X6_isDeed at h
    split at h
    · exact Nat.le_of_ble_eq_true rfl
    · exact h.elim
  · exact List.forall_mem_cons.mpr ⟨z_coS (ct_X6_isSomePlaces l) kb_X6_isSomePlaces ks_X6_255 (by decide) (by decide), List.forall_mem_cons.mpr ⟨z_coS (ct_X6_isSomeRights l) kb_X6_isSomeRights ks_X6_258 (by decide) (by decide), fun _ h => absurd h List.not_mem_nil⟩⟩
  · intro as S P Po h V hV hW
    unfold sp_X6_isDeed at h
    split at h
    · rename_i x0 x1 x2
      have hpo := h
      refine hV [] 20 0 _ _ _ _ ?_
      refine z_br (fun (h1 : (f_X6_isSomePlaces S P x0) = false) => ?_) (fun (h1 : (f_X6_isSomePlaces S P x0) = true) => ?_)
      · exact ⟨(by first | rfl | exact z_nb _), z_pb hpo ((if_neg (z_nt h1)).trans rfl) (rfl) (rfl)⟩
      · refine z_br (fun (h2 : (f_X6_isSomeRights S P x1) = false) => ?_) (fun (h2 : (f_X6_isSomeRights S P x1) = true) => ?_)
        · exact ⟨(by first | rfl | exact z_nb _), z_pb hpo ((if_pos h1).trans ((if_neg (z_nt h2)).trans rfl)) (rfl) (rfl)⟩
        · refine ⟨fun (h3 : x2 < 0) => ?_, fun (h3 : ¬ (x2 < 0)) => ?_⟩
          · exact ⟨(by first | rfl | exact z_nb _), z_pb hpo ((if_pos h1).trans ((if_pos h2).trans ((if_pos h3).trans rfl))) (rfl) (rfl)⟩
          · refine ⟨fun (h4 : (nI 2) < x2) => ?_, fun (h4 : ¬ ((nI 2) < x2)) => ?_⟩
            · exact ⟨(by first | rfl | exact z_nb _), z_pb hpo ((if_pos h1).trans ((if_pos h2).trans ((if_neg h3).trans ((if_pos h4).trans rfl)))) (rfl) (rfl)⟩
            · exact ⟨(by first | rfl | exact z_nb _), z_pb hpo ((if_pos h1).trans ((if_pos h2).trans ((if_neg h3).trans ((if_neg h4).trans rfl)))) (rfl) (rfl)⟩
    · exact h.elim
def f_X6_isLast (S : z_MI) (P : z_ML) (x0 : Int32) (x1 : Int32) (x2 : Int32) : Bool :=
  if x1 = (nI 1) then
    if x0 < x2 then
      false
    else
      if (nI 5000) < x0 then
        false
      else
        true
  else
    if x0 = (-1) then
      true
    else
      false
def sp_X6_isLast : z_SP := fun as S P k => match as with
  | [.int x0, .int x1, .int x2] => k (some (.int (z_b (f_X6_isLast S P x0 x1 x2)))) S P
  | _ => False
def G_X6_isLast : z_G := ([(0, .iload_n 1, 1, 0), (1, .iconst 1, 2, 0), (2, .if_icmp .ne 23, 5, 25), (5, .iload_n 0, 6, 0), (6, .iload_n 2, 7, 0), (7, .if_icmp .lt 14, 10, 21), (10, .iload_n 0, 11, 0), (11, .sipush 5000, 14, 0), (14, .if_icmp .gt 7, 17, 21), (17, .iconst 1, 18, 0), (18, .goto 17, 21, 35), (21, .iconst 0, 22, 0), (22, .goto 13, 25, 35), (25, .iload_n 0, 26, 0), (26, .iconst (-1), 27, 0), (27, .if_icmp .ne 7, 30, 34), (30, .iconst 1, 31, 0), (31, .goto 4, 34, 35), (34, .iconst 0, 35, 0), (35, .ireturn, 36, 0)], [], [], [], [], [], [], some .boolean)
set_option maxRecDepth 20000 in
set_option maxHeartbeats 4000000 in
theorem ct_X6_isLast (l : Launch) : z_CT l yX6_isLast cX6_isLast 3 (some .boolean) sp_X6_isLast 0 := by
  refine z_CT_of G_X6_isLast (by decide) (by decide +kernel) (z_pok_of ft_X6 ci_X6 cL_X6_L fo_X6 co_X6 lo_X6 (by decide +kernel)) rfl rfl ?_ ?_ ?_
  · intro as S P Po h
    unfold sp_X6_isLast at h
    split at h
    · exact Nat.le_of_ble_eq_true rfl
    · exact h.elim
  · exact fun _ h => absurd h List.not_mem_nil
  · intro as S P Po h V hV hW
    unfold sp_X6_isLast at h
    split at h
    · rename_i x0 x1 x2
      have hpo := h
      refine hV [] 25 0 _ _ _ _ ?_
      refine ⟨fun (h1 : ¬ (x1 = (nI 1))) => ?_, fun (h1 : x1 = (nI 1)) => ?_⟩
      · refine ⟨fun (h2 : ¬ (x0 = (-1))) => ?_, fun (h2 : x0 = (-1)) => ?_⟩
        · exact ⟨(by first | rfl | exact z_nb _), z_pb hpo ((if_neg h1).trans ((if_neg h2).trans rfl)) (rfl) (rfl)⟩
        · exact ⟨(by first | rfl | exact z_nb _), z_pb hpo ((if_neg h1).trans ((if_pos h2).trans rfl)) (rfl) (rfl)⟩
      · refine ⟨fun (h3 : x0 < x2) => ?_, fun (h3 : ¬ (x0 < x2)) => ?_⟩
        · exact ⟨(by first | rfl | exact z_nb _), z_pb hpo ((if_pos h1).trans ((if_pos h3).trans rfl)) (rfl) (rfl)⟩
        · refine ⟨fun (h4 : (nI 5000) < x0) => ?_, fun (h4 : ¬ ((nI 5000) < x0)) => ?_⟩
          · exact ⟨(by first | rfl | exact z_nb _), z_pb hpo ((if_pos h1).trans ((if_neg h3).trans ((if_pos h4).trans rfl))) (rfl) (rfl)⟩
          · exact ⟨(by first | rfl | exact z_nb _), z_pb hpo ((if_pos h1).trans ((if_neg h3).trans ((if_neg h4).trans rfl))) (rfl) (rfl)⟩
    · exact h.elim
def f_X6_levelHeard (S : z_MI) (P : z_ML) (x1 : Int32) (x2 : Int32) : Int32 :=
  if (f_X6_isIn S P (f_X2_membersOf S P (S 32849 x2.toNatClampNeg)) x1) = true then
    S 30961 x1.toNatClampNeg
  else
    nI 0
def sp_X6_levelHeard : z_SP := fun as S P k => match as with
  | [.int x1, .int x2] => vp_in x2 10 ∧ vp_in (S 32849 x2.toNatClampNeg) 6 ∧ z_le (S 4112 7) 30 ∧ vp_in x1 30 ∧ k (some (.int (f_X6_levelHeard S P x1 x2))) S P
  | _ => False
def G_X6_levelHeard : z_G := ([(0, .aload_n 0, 1, 0), (1, .getfield 10, 4, 0), (4, .aload_n 0, 5, 0), (5, .getfield 19, 8, 0), (8, .getfield 181, 11, 0), (11, .iload_n 2, 12, 0), (12, .iaload, 13, 0), (13, .invokevirtual 117, 16, 0), (16, .iload_n 1, 17, 0), (17, .invokestatic 184, 20, 0), (20, .ifCond .eq 15, 23, 35), (23, .aload_n 0, 24, 0), (24, .getfield 10, 27, 0), (27, .getfield 132, 30, 0), (30, .iload_n 1, 31, 0), (31, .iaload, 32, 0), (32, .goto 4, 35, 36), (35, .iconst 0, 36, 0), (36, .ireturn, 37, 0)], [(10, 2096, 0, some 4112), (19, 2096, 1, some 6184), (132, 4112, 5, some 30961), (181, 6184, 0, some 32849)], [(100184, 2, sp_X6_isIn), (117, 2, (z_rc 4112 sp_X2_membersOf))], [], [], [], [], some .int)
set_option maxRecDepth 20000 in
set_option maxHeartbeats 4000000 in
theorem ct_X6_levelHeard (l : Launch) : z_CT l yX6_levelHeard cX6_levelHeard 3 (some .int) (z_rc 2096 sp_X6_levelHeard) 4 := by
  refine z_CT_of G_X6_levelHeard (by decide) (by decide +kernel) (z_pok_of ft_X6 ci_X6 cL_X6_L fo_X6 co_X6 lo_X6 (by decide +kernel)) rfl rfl ?_ ?_ ?_
  · intro as S P Po h0
    obtain ⟨as, rfl, h⟩ := z_rc_of h0
    unfold sp_X6_levelHeard at h
    split at h
    · exact Nat.le_of_ble_eq_true rfl
    · exact h.elim
  · exact List.forall_mem_cons.mpr ⟨z_coS (ct_X6_isIn l) kb_X6_isIn ks_X6_184 (by decide) (by decide), List.forall_mem_cons.mpr ⟨z_coV (ct_X2_membersOf l) kb_X2_membersOf kv_X6_117 ko_X2 (by decide) (by decide) (by decide), fun _ h => absurd h List.not_mem_nil⟩⟩
  · intro as S P Po h0 V hV hW
    obtain ⟨as, rfl, h⟩ := z_rc_of h0
    unfold sp_X6_levelHeard at h
    split at h
    · rename_i x1 x2
      obtain ⟨hp0, hp1, hp2, hp3, hpo⟩ := h
      refine hV [] 24 0 _ _ _ _ ?_
      refine ⟨(show vp_in x2 10 by assumption), ?_⟩
      refine ⟨(show vp_in (S 32849 x2.toNatClampNeg) 6 by assumption), (show z_le (S 4112 7) 30 by assumption), ?_⟩
      refine z_br (fun (h1 : (f_X6_isIn S P (f_X2_membersOf S P (S 32849 x2.toNatClampNeg)) x1) = false) => ?_) (fun (h1 : (f_X6_isIn S P (f_X2_membersOf S P (S 32849 x2.toNatClampNeg)) x1) = true) => ?_)
      · exact z_pi hpo ((if_neg (z_nt h1)).trans rfl) (rfl) (rfl)
      · refine ⟨(show vp_in x1 30 by assumption), ?_⟩
        exact z_pi hpo ((if_pos h1).trans rfl) (rfl) (rfl)
    · exact h.elim
def f_X6_isVotedFor (S : z_MI) (P : z_ML) (x1 : Int32) : Bool :=
  if ((f_J6_bitCount_0f7a4 S P ((S 86113 x1.toNatClampNeg) &&& (f_X2_membersOf S P (S 71777 x1.toNatClampNeg)))) * (nI 2)) ≤ (f_J6_bitCount_0f7a4 S P ((S 84065 x1.toNatClampNeg) &&& (f_X2_membersOf S P (S 71777 x1.toNatClampNeg)))) then
    false
  else
    true
def sp_X6_isVotedFor : z_SP := fun as S P k => match as with
  | [.int x1] => vp_in x1 12 ∧ vp_in (S 71777 x1.toNatClampNeg) 6 ∧ z_le (S 4112 7) 30 ∧ k (some (.int (z_b (f_X6_isVotedFor S P x1)))) S P
  | _ => False
def G_X6_isVotedFor : z_G := ([(0, .aload_n 0, 1, 0), (1, .getfield 10, 4, 0), (4, .aload_n 0, 5, 0), (5, .getfield 40, 8, 0), (8, .getfield 276, 11, 0), (11, .iload_n 1, 12, 0), (12, .iaload, 13, 0), (13, .invokevirtual 117, 16, 0), (16, .istore_n 2, 17, 0), (17, .aload_n 0, 18, 0), (18, .getfield 40, 21, 0), (21, .getfield 279, 24, 0), (24, .iload_n 1, 25, 0), (25, .iaload, 26, 0), (26, .iload_n 2, 27, 0), (27, .iand, 28, 0), (28, .invokestatic 120, 31, 0), (31, .istore_n 3, 32, 0), (32, .aload_n 0, 33, 0), (33, .getfield 40, 36, 0), (36, .getfield 282, 39, 0), (39, .iload_n 1, 40, 0), (40, .iaload, 41, 0), (41, .iload_n 2, 42, 0), (42, .iand, 43, 0), (43, .invokestatic 120, 46, 0), (46, .iconst 2, 47, 0), (47, .imul, 48, 0), (48, .iload_n 3, 49, 0), (49, .if_icmp .le 7, 52, 56), (52, .iconst 1, 53, 0), (53, .goto 4, 56, 57), (56, .iconst 0, 57, 0), (57, .ireturn, 58, 0)], [(10, 2096, 0, some 4112), (40, 2096, 4, some 12296), (276, 12296, 0, some 71777), (279, 12296, 6, some 84065), (282, 12296, 7, some 86113)], [(100120, 1, sp_J6_bitCount_0f7a4), (117, 2, (z_rc 4112 sp_X2_membersOf))], [], [], [], [], some .boolean)
set_option maxRecDepth 20000 in
set_option maxHeartbeats 4000000 in
theorem ct_X6_isVotedFor (l : Launch) : z_CT l yX6_isVotedFor cX6_isVotedFor 4 (some .boolean) (z_rc 2096 sp_X6_isVotedFor) 4 := by
  refine z_CT_of G_X6_isVotedFor (by decide) (by decide +kernel) (z_pok_of ft_X6 ci_X6 cL_X6_L fo_X6 co_X6 lo_X6 (by decide +kernel)) rfl rfl ?_ ?_ ?_
  · intro as S P Po h0
    obtain ⟨as, rfl, h⟩ := z_rc_of h0
    unfold sp_X6_isVotedFor at h
    split at h
    · exact Nat.le_of_ble_eq_true rfl
    · exact h.elim
  · exact List.forall_mem_cons.mpr ⟨z_coS (ct_J6_bitCount_0f7a4 l) kb_J6_bitCount_0f7a4 ks_X6_120 (by decide) (by decide), List.forall_mem_cons.mpr ⟨z_coV (ct_X2_membersOf l) kb_X2_membersOf kv_X6_117 ko_X2 (by decide) (by decide) (by decide), fun _ h => absurd h List.not_mem_nil⟩⟩
  · intro as S P Po h0 V hV hW
    obtain ⟨as, rfl, h⟩ := z_rc_of h0
    unfold sp_X6_isVotedFor at h
    split at h
    · rename_i x1
      obtain ⟨hp0, hp1, hp2, hpo⟩ := h
      refine hV [] 39 0 _ _ _ _ ?_
      refine ⟨(show vp_in x1 12 by assumption), ?_⟩
      refine ⟨(show vp_in (S 71777 x1.toNatClampNeg) 6 by assumption), (show z_le (S 4112 7) 30 by assumption), ?_⟩
      refine ⟨(show vp_in x1 12 by assumption), ?_⟩
      refine ⟨(show vp_in x1 12 by assumption), ?_⟩
      refine ⟨fun (h1 : ((f_J6_bitCount_0f7a4 S P ((S 86113 x1.toNatClampNeg) &&& (f_X2_membersOf S P (S 71777 x1.toNatClampNeg)))) * (nI 2)) ≤ (f_J6_bitCount_0f7a4 S P ((S 84065 x1.toNatClampNeg) &&& (f_X2_membersOf S P (S 71777 x1.toNatClampNeg))))) => ?_, fun (h1 : ¬ (((f_J6_bitCount_0f7a4 S P ((S 86113 x1.toNatClampNeg) &&& (f_X2_membersOf S P (S 71777 x1.toNatClampNeg)))) * (nI 2)) ≤ (f_J6_bitCount_0f7a4 S P ((S 84065 x1.toNatClampNeg) &&& (f_X2_membersOf S P (S 71777 x1.toNatClampNeg)))))) => ?_⟩
      · exact ⟨(by first | rfl | exact z_nb _), z_pb hpo ((if_pos h1).trans rfl) (rfl) (rfl)⟩
      · exact ⟨(by first | rfl | exact z_nb _), z_pb hpo ((if_neg h1).trans rfl) (rfl) (rfl)⟩
    · exact h.elim
def l_X6_provedOf_4 (S : z_MI) (P : z_ML) (x1 : Int32) (k4 : Nat) (a4 : Int32) : Int32 :=
  if (f_X6_isIn S P (S 73825 x1.toNatClampNeg) (nI k4)) = true then
    if (f_X3_prove S P (S 71777 x1.toNatClampNeg) (nI k4) (S 2096 8)) = true then
      f_X6_with S P a4 (nI k4) (nI 1)
    else
      a4
  else
    a4
def f_X6_provedOf (S : z_MI) (P : z_ML) (x1 : Int32) : Int32 :=
  (z_fo (fun k4 a4 => l_X6_provedOf_4 S P x1 k4 a4) (nI 0) 16)
def sp_X6_provedOf : z_SP := fun as S P k => match as with
  | [.int x1] => vp_in x1 12 ∧ z_le (S 8216 7) 60 ∧ z_le (S 49201 (S 71777 x1.toNatClampNeg).toNatClampNeg) 8 ∧ vp_in (S 71777 x1.toNatClampNeg) 6 ∧ k (some (.int (f_X6_provedOf S P x1))) S P
  | _ => False
def G_X6_provedOf : z_G := ([(0, .iconst 0, 1, 0), (1, .istore_n 2, 2, 0), (2, .iconst 0, 3, 0), (3, .istore_n 3, 4, 0), (4, .iload_n 3, 5, 0), (5, .bipush 16, 7, 0), (7, .if_icmp .ge 56, 10, 63), (10, .aload_n 0, 11, 0), (11, .getfield 40, 14, 0), (14, .getfield 329, 17, 0), (17, .iload_n 1, 18, 0), (18, .iaload, 19, 0), (19, .iload_n 3, 20, 0), (20, .invokestatic 184, 23, 0), (23, .ifCond .eq 34, 26, 57), (26, .aload_n 0, 27, 0), (27, .getfield 26, 30, 0), (30, .aload_n 0, 31, 0), (31, .getfield 40, 34, 0), (34, .getfield 276, 37, 0), (37, .iload_n 1, 38, 0), (38, .iaload, 39, 0), (39, .iload_n 3, 40, 0), (40, .aload_n 0, 41, 0), (41, .getfield 59, 44, 0), (44, .invokevirtual 207, 47, 0), (47, .ifCond .eq 10, 50, 57), (50, .iload_n 2, 51, 0), (51, .iload_n 3, 52, 0), (52, .iconst 1, 53, 0), (53, .invokestatic 113, 56, 0), (56, .istore_n 2, 57, 0), (57, .iinc 3 1, 60, 0), (60, .goto (-56), 63, 4), (63, .iload_n 2, 64, 0), (64, .ireturn, 65, 0)], [(26, 2096, 2, some 8216), (40, 2096, 4, some 12296), (59, 2096, 8, none), (276, 12296, 0, some 71777), (329, 12296, 1, some 73825)], [(100113, 3, sp_X6_with), (100184, 2, sp_X6_isIn), (207, 4, (z_rc 8216 sp_X3_prove))], [], [], [], [], some .int)
set_option maxRecDepth 20000 in
set_option maxHeartbeats 4000000 in
theorem ct_X6_provedOf (l : Launch) : z_CT l yX6_provedOf cX6_provedOf 4 (some .int) (z_rc 2096 sp_X6_provedOf) 3 := by
  refine z_CT_of G_X6_provedOf (by decide) (by decide +kernel) (z_pok_of ft_X6 ci_X6 cL_X6_L fo_X6 co_X6 lo_X6 (by decide +kernel)) rfl rfl ?_ ?_ ?_
  · intro as S P Po h0
    obtain ⟨as, rfl, h⟩ := z_rc_of h0
    unfold sp_X6_provedOf at h
    split at h
    · exact Nat.le_of_ble_eq_true rfl
    · exact h.elim
  · exact List.forall_mem_cons.mpr ⟨z_coS (ct_X6_with l) kb_X6_with ks_X6_113 (by decide) (by decide), List.forall_mem_cons.mpr ⟨z_coS (ct_X6_isIn l) kb_X6_isIn ks_X6_184 (by decide) (by decide), List.forall_mem_cons.mpr ⟨z_coV (ct_X3_prove l) kb_X3_prove kv_X6_207 ko_X3 (by decide) (by decide) (by decide), fun _ h => absurd h List.not_mem_nil⟩⟩⟩
  · intro as S P Po h0 V hV hW
    obtain ⟨as, rfl, h⟩ := z_rc_of h0
    unfold sp_X6_provedOf at h
    split at h
    · rename_i x1
      obtain ⟨hp0, hp1, hp2, hp3, hpo⟩ := h
      refine hV [4] 41 0 _ _ _ _ ?_
      have hb4 : ((nI 16) : Int32) = (nI 16) := rfl
      have hL4 : ∀ (j k4 : Nat) (x900 : Int32) (a4 : Int32), k4 + j = 16 → x900 = nI k4 → a4 = z_fo (fun k4 a4 => l_X6_provedOf_4 S P x1 k4 a4) (nI 0) k4 → V 4 [(0, .ref 2096), (1, .int x1), (2, .int a4), (3, .int x900)] [] S P := by
        intro j
        induction j with
        | zero =>
          intro k4 x900 a4 hk4 hx4 ha4
          subst hx4
          have hk9 : k4 = 16 := by omega
          subst hk9
          subst ha4
          refine hV [4] 41 4 _ _ _ _ ?_
          refine ⟨fun _ => ?_, fun h => absurd ((z_brge hb4 (by omega) (by omega)).mpr (Nat.le_refl _)) h⟩
          exact z_pi hpo (rfl) (rfl) (rfl)
        | succ j ih =>
          intro k4 x900 a4 hk4 hx4 ha4
          subst hx4
          have hk9 : k4 < 16 := by omega
          subst ha4
          refine hV [4] 41 4 _ _ _ _ ?_
          refine ⟨fun h => absurd ((z_brge hb4 (by omega) (by omega)).mp h) (by omega), fun _ => ?_⟩
          refine ⟨(show vp_in x1 12 by assumption), ?_⟩
          refine z_br (fun (h2 : (f_X6_isIn S P (S 73825 x1.toNatClampNeg) (nI k4)) = false) => ?_) (fun (h2 : (f_X6_isIn S P (S 73825 x1.toNatClampNeg) (nI k4)) = true) => ?_)
          · exact hW [0, 1, 2, 3] _ _ _ _ _ (ih (k4 + 1) _ (z_fo (fun k4 a4 => l_X6_provedOf_4 S P x1 k4 a4) (nI 0) k4) (by omega) (nI_add k4 1) (((if_neg (z_nt h2)).trans rfl).symm))
          · refine ⟨(show vp_in x1 12 by assumption), ?_⟩
            refine ⟨(show z_le (S 8216 7) 60 by assumption), (show z_le (S 49201 (S 71777 x1.toNatClampNeg).toNatClampNeg) 8 by assumption), (show vp_in (S 71777 x1.toNatClampNeg) 6 by assumption), ?_⟩
            refine z_br (fun (h3 : (f_X3_prove S P (S 71777 x1.toNatClampNeg) (nI k4) (S 2096 8)) = false) => ?_) (fun (h3 : (f_X3_prove S P (S 71777 x1.toNatClampNeg) (nI k4) (S 2096 8)) = true) => ?_)
            · exact hW [0, 1, 2, 3] _ _ _ _ _ (ih (k4 + 1) _ (z_fo (fun k4 a4 => l_X6_provedOf_4 S P x1 k4 a4) (nI 0) k4) (by omega) (nI_add k4 1) (((if_pos h2).trans ((if_neg (z_nt h3)).trans rfl)).symm))
            · exact hW [0, 1, 2, 3] _ _ _ _ _ (ih (k4 + 1) _ (f_X6_with S P (z_fo (fun k4 a4 => l_X6_provedOf_4 S P x1 k4 a4) (nI 0) k4) (nI k4) (nI 1)) (by omega) (nI_add k4 1) (((if_pos h2).trans ((if_pos h3).trans rfl)).symm))
      exact hW [0, 1, 2, 3] _ _ _ _ _ (hL4 16 0 _ (nI 0) (Nat.zero_add _) rfl rfl)
    · exact h.elim
def f_X6_firstFailed (S : z_MI) (P : z_ML) (x1 : Int32) : Int32 :=
  if (f_X6_isVotedFor S P x1) = true then
    if (f_X6_provedOf S P x1) = 0 then
      nI 2
    else
      if (f_X1_isBarred S P x1) = true then
        nI 3
      else
        nI 0
  else
    nI 1
def sp_X6_firstFailed : z_SP := fun as S P k => match as with
  | [.int x1] => vp_in x1 12 ∧ vp_in (S 71777 x1.toNatClampNeg) 6 ∧ z_le (S 4112 7) 30 ∧ z_le (S 8216 7) 60 ∧ z_le (S 49201 (S 71777 x1.toNatClampNeg).toNatClampNeg) 8 ∧ z_le (S 12296 8) 12 ∧ k (some (.int (f_X6_firstFailed S P x1))) S P
  | _ => False
def G_X6_firstFailed : z_G := ([(0, .aload_n 0, 1, 0), (1, .iload_n 1, 2, 0), (2, .invokevirtual 323, 5, 0), (5, .ifCond .ne 5, 8, 10), (8, .iconst 1, 9, 0), (9, .ireturn, 10, 0), (10, .aload_n 0, 11, 0), (11, .iload_n 1, 12, 0), (12, .invokevirtual 295, 15, 0), (15, .ifCond .ne 5, 18, 20), (18, .iconst 2, 19, 0), (19, .ireturn, 20, 0), (20, .aload_n 0, 21, 0), (21, .getfield 40, 24, 0), (24, .iload_n 1, 25, 0), (25, .invokevirtual 326, 28, 0), (28, .ifCond .eq 7, 31, 35), (31, .iconst 3, 32, 0), (32, .goto 4, 35, 36), (35, .iconst 0, 36, 0), (36, .ireturn, 37, 0)], [(40, 2096, 4, some 12296)], [(295, 2, (z_rc 2096 sp_X6_provedOf)), (323, 2, (z_rc 2096 sp_X6_isVotedFor)), (326, 2, (z_rc 12296 sp_X1_isBarred))], [], [], [], [], some .int)
set_option maxRecDepth 20000 in
set_option maxHeartbeats 4000000 in
theorem ct_X6_firstFailed (l : Launch) : z_CT l yX6_firstFailed cX6_firstFailed 2 (some .int) (z_rc 2096 sp_X6_firstFailed) 5 := by
  refine z_CT_of G_X6_firstFailed (by decide) (by decide +kernel) (z_pok_of ft_X6 ci_X6 cL_X6_L fo_X6 co_X6 lo_X6 (by decide +kernel)) rfl rfl ?_ ?_ ?_
  · intro as S P Po h0
    obtain ⟨as, rfl, h⟩ := z_rc_of h0
    unfold sp_X6_firstFailed at h
    split at h
    · exact Nat.le_of_ble_eq_true rfl
    · exact h.elim
  · exact List.forall_mem_cons.mpr ⟨z_coV (ct_X6_provedOf l) kb_X6_provedOf kv_X6_295 ko_X6 (by decide) (by decide) (by decide), List.forall_mem_cons.mpr ⟨z_coV (ct_X6_isVotedFor l) kb_X6_isVotedFor kv_X6_323 ko_X6 (by decide) (by decide) (by decide), List.forall_mem_cons.mpr ⟨z_coV (ct_X1_isBarred l) kb_X1_isBarred kv_X6_326 ko_X1 (by decide) (by decide) (by decide), fun _ h => absurd h List.not_mem_nil⟩⟩⟩
  · intro as S P Po h0 V hV hW
    obtain ⟨as, rfl, h⟩ := z_rc_of h0
    unfold sp_X6_firstFailed at h
    split at h
    · rename_i x1
      obtain ⟨hp0, hp1, hp2, hp3, hp4, hp5, hpo⟩ := h
      refine hV [] 26 0 _ _ _ _ ?_
      refine ⟨(show vp_in x1 12 by assumption), (show vp_in (S 71777 x1.toNatClampNeg) 6 by assumption), (show z_le (S 4112 7) 30 by assumption), ?_⟩
      refine z_brn (fun (h1 : (f_X6_isVotedFor S P x1) = true) => ?_) (fun (h1 : (f_X6_isVotedFor S P x1) = false) => ?_)
      · refine ⟨(show vp_in x1 12 by assumption), (show z_le (S 8216 7) 60 by assumption), (show z_le (S 49201 (S 71777 x1.toNatClampNeg).toNatClampNeg) 8 by assumption), (show vp_in (S 71777 x1.toNatClampNeg) 6 by assumption), ?_⟩
        refine ⟨fun (h2 : ¬ ((f_X6_provedOf S P x1) = 0)) => ?_, fun (h2 : (f_X6_provedOf S P x1) = 0) => ?_⟩
        · refine ⟨(show z_le (S 12296 8) 12 by assumption), (show vp_in x1 12 by assumption), ?_⟩
          refine z_br (fun (h3 : (f_X1_isBarred S P x1) = false) => ?_) (fun (h3 : (f_X1_isBarred S P x1) = true) => ?_)
          · exact z_pi hpo ((if_pos h1).trans ((if_neg h2).trans ((if_neg (z_nt h3)).trans rfl))) (rfl) (rfl)
          · exact z_pi hpo ((if_pos h1).trans ((if_neg h2).trans ((if_pos h3).trans rfl))) (rfl) (rfl)
        · exact z_pi hpo ((if_pos h1).trans ((if_pos h2).trans rfl)) (rfl) (rfl)
      · exact z_pi hpo ((if_neg (z_nt h1)).trans rfl) (rfl) (rfl)
    · exact h.elim
def f_X6_rightsOf (S : z_MI) (P : z_ML) (x1 : Int32) (x2 : Int32) : Int32 :=
  if (f_X6_with S P (f_X1_holdersOf S P x2) x1 (nI 0)) = 0 then
    (f_X1_grantedTo S P x1 x2) &&& (f_X0_leftAt S P x2 (S 2096 8))
  else
    f_X6_with S P ((f_X1_grantedTo S P x1 x2) &&& (f_X0_leftAt S P x2 (S 2096 8))) (nI 4) (nI 0)
def sp_X6_rightsOf : z_SP := fun as S P k => match as with
  | [.int x1, .int x2] => z_le (S 12296 8) 12 ∧ z_le (S 10240 8) 40 ∧ k (some (.int (f_X6_rightsOf S P x1 x2))) S P
  | _ => False
def G_X6_rightsOf : z_G := ([(0, .aload_n 0, 1, 0), (1, .getfield 40, 4, 0), (4, .iload_n 1, 5, 0), (5, .iload_n 2, 6, 0), (6, .invokevirtual 332, 9, 0), (9, .aload_n 0, 10, 0), (10, .getfield 33, 13, 0), (13, .iload_n 2, 14, 0), (14, .aload_n 0, 15, 0), (15, .getfield 59, 18, 0), (18, .invokevirtual 249, 21, 0), (21, .iand, 22, 0), (22, .istore_n 3, 23, 0), (23, .aload_n 0, 24, 0), (24, .getfield 40, 27, 0), (27, .iload_n 2, 28, 0), (28, .invokevirtual 312, 31, 0), (31, .iload_n 1, 32, 0), (32, .iconst 0, 33, 0), (33, .invokestatic 113, 36, 0), (36, .ifCond .eq 7, 39, 43), (39, .iconst 1, 40, 0), (40, .goto 4, 43, 44), (43, .iconst 0, 44, 0), (44, .istore 4, 46, 0), (46, .iload 4, 48, 0), (48, .ifCond .eq 12, 51, 60), (51, .iload_n 3, 52, 0), (52, .iconst 4, 53, 0), (53, .iconst 0, 54, 0), (54, .invokestatic 113, 57, 0), (57, .goto 4, 60, 61), (60, .iload_n 3, 61, 0), (61, .ireturn, 62, 0)], [(33, 2096, 3, some 10240), (40, 2096, 4, some 12296), (59, 2096, 8, none)], [(100113, 3, sp_X6_with), (249, 3, (z_rc 10240 sp_X0_leftAt)), (312, 2, (z_rc 12296 sp_X1_holdersOf)), (332, 3, (z_rc 12296 sp_X1_grantedTo))], [], [], [], [], some .int)
set_option maxRecDepth 20000 in
set_option maxHeartbeats 4000000 in
theorem ct_X6_rightsOf (l : Launch) : z_CT l yX6_rightsOf cX6_rightsOf 5 (some .int) (z_rc 2096 sp_X6_rightsOf) 3 := by
  refine z_CT_of G_X6_rightsOf (by decide) (by decide +kernel) (z_pok_of ft_X6 ci_X6 cL_X6_L fo_X6 co_X6 lo_X6 (by decide +kernel)) rfl rfl ?_ ?_ ?_
  · intro as S P Po h0
    obtain ⟨as, rfl, h⟩ := z_rc_of h0
    unfold sp_X6_rightsOf at h
    split at h
    · exact Nat.le_of_ble_eq_true rfl
    · exact h.elim
  · exact List.forall_mem_cons.mpr ⟨z_coS (ct_X6_with l) kb_X6_with ks_X6_113 (by decide) (by decide), List.forall_mem_cons.mpr ⟨z_coV (ct_X0_leftAt l) kb_X0_leftAt kv_X6_249 ko_X0 (by decide) (by decide) (by decide), List.forall_mem_cons.mpr ⟨z_coV (ct_X1_holdersOf l) kb_X1_holdersOf kv_X6_312 ko_X1 (by decide) (by decide) (by decide), List.forall_mem_cons.mpr ⟨z_coV (ct_X1_grantedTo l) kb_X1_grantedTo kv_X6_332 ko_X1 (by decide) (by decide) (by decide), fun _ h => absurd h List.not_mem_nil⟩⟩⟩⟩
  · intro as S P Po h0 V hV hW
    obtain ⟨as, rfl, h⟩ := z_rc_of h0
    unfold sp_X6_rightsOf at h
    split at h
    · rename_i x1 x2
      obtain ⟨hp0, hp1, hpo⟩ := h
      refine hV [] 39 0 _ _ _ _ ?_
      refine ⟨(show z_le (S 12296 8) 12 by assumption), ?_⟩
      refine ⟨(show z_le (S 10240 8) 40 by assumption), ?_⟩
      refine ⟨(show z_le (S 12296 8) 12 by assumption), ?_⟩
      refine ⟨fun (h1 : (f_X6_with S P (f_X1_holdersOf S P x2) x1 (nI 0)) = 0) => ?_, fun (h1 : ¬ ((f_X6_with S P (f_X1_holdersOf S P x2) x1 (nI 0)) = 0)) => ?_⟩
      · refine ⟨fun _ => ?_, fun h => absurd (by decide) h⟩
        exact z_pi hpo ((if_pos h1).trans rfl) (rfl) (rfl)
      · refine ⟨fun h => absurd h (by decide), fun _ => ?_⟩
        exact z_pi hpo ((if_neg h1).trans rfl) (rfl) (rfl)
    · exact h.elim
def f_X6_partiesOf (S : z_MI) (P : z_ML) (x1 : Int32) : Int32 :=
  f_X1_partiesAt S P (S 90209 x1.toNatClampNeg) ((S 88161 x1.toNatClampNeg) + (nI 3))
def sp_X6_partiesOf : z_SP := fun as S P k => match as with
  | [.int x1] => vp_in x1 12 ∧ z_le (S 12296 8) 12 ∧ k (some (.int (f_X6_partiesOf S P x1))) S P
  | _ => False
def G_X6_partiesOf : z_G := ([(0, .aload_n 0, 1, 0), (1, .getfield 40, 4, 0), (4, .aload_n 0, 5, 0), (5, .getfield 47, 8, 0), (8, .getfield 389, 11, 0), (11, .iload_n 1, 12, 0), (12, .iaload, 13, 0), (13, .aload_n 0, 14, 0), (14, .getfield 47, 17, 0), (17, .getfield 402, 20, 0), (20, .iload_n 1, 21, 0), (21, .iaload, 22, 0), (22, .iconst 3, 23, 0), (23, .iadd, 24, 0), (24, .invokevirtual 403, 27, 0), (27, .ireturn, 28, 0)], [(40, 2096, 4, some 12296), (47, 2096, 5, some 14368), (389, 14368, 1, some 90209), (402, 14368, 0, some 88161)], [(403, 3, (z_rc 12296 sp_X1_partiesAt))], [], [], [], [], some .int)
set_option maxRecDepth 20000 in
set_option maxHeartbeats 4000000 in
theorem ct_X6_partiesOf (l : Launch) : z_CT l yX6_partiesOf cX6_partiesOf 2 (some .int) (z_rc 2096 sp_X6_partiesOf) 2 := by
  refine z_CT_of G_X6_partiesOf (by decide) (by decide +kernel) (z_pok_of ft_X6 ci_X6 cL_X6_L fo_X6 co_X6 lo_X6 (by decide +kernel)) rfl rfl ?_ ?_ ?_
  · intro as S P Po h0
    obtain ⟨as, rfl, h⟩ := z_rc_of h0
    unfold sp_X6_partiesOf at h
    split at h
    · exact Nat.le_of_ble_eq_true rfl
    · exact h.elim
  · exact List.forall_mem_cons.mpr ⟨z_coV (ct_X1_partiesAt l) kb_X1_partiesAt kv_X6_403 ko_X1 (by decide) (by decide) (by decide), fun _ h => absurd h List.not_mem_nil⟩
  · intro as S P Po h0 V hV hW
    obtain ⟨as, rfl, h⟩ := z_rc_of h0
    unfold sp_X6_partiesOf at h
    split at h
    · rename_i x1
      obtain ⟨hp0, hp1, hpo⟩ := h
      refine hV [] 21 0 _ _ _ _ ?_
      refine ⟨(show vp_in x1 12 by assumption), ?_⟩
      refine ⟨(show vp_in x1 12 by assumption), ?_⟩
      refine ⟨(show z_le (S 12296 8) 12 by assumption), ?_⟩
      exact z_pi hpo (rfl) (rfl) (rfl)
    · exact h.elim
def l_X6_weightOf_4 (S : z_MI) (P : z_ML) (x0 : Int32) (k4 : Nat) (a4 : Int32) : Int32 :=
  if (f_X6_isIn S P x0 (nI k4)) = true then
    a4 + (z_wt (nI k4).toNatClampNeg)
  else
    a4 + (nI 0)
def f_X6_weightOf (S : z_MI) (P : z_ML) (x0 : Int32) : Int32 :=
  (z_fo (fun k4 a4 => l_X6_weightOf_4 S P x0 k4 a4) (nI 0) 5)
def sp_X6_weightOf : z_SP := fun as S P k => match as with
  | [.int x0] => k (some (.int (f_X6_weightOf S P x0))) S P
  | _ => False
def G_X6_weightOf : z_G := ([(0, .iconst 0, 1, 0), (1, .istore_n 1, 2, 0), (2, .iconst 0, 3, 0), (3, .istore_n 2, 4, 0), (4, .iload_n 2, 5, 0), (5, .getstatic 446, 8, 0), (8, .arraylength, 9, 0), (9, .if_icmp .ge 29, 12, 38), (12, .iload_n 1, 13, 0), (13, .iload_n 0, 14, 0), (14, .iload_n 2, 15, 0), (15, .invokestatic 184, 18, 0), (18, .ifCond .eq 11, 21, 29), (21, .getstatic 446, 24, 0), (24, .iload_n 2, 25, 0), (25, .iaload, 26, 0), (26, .goto 4, 29, 30), (29, .iconst 0, 30, 0), (30, .iadd, 31, 0), (31, .istore_n 1, 32, 0), (32, .iinc 2 1, 35, 0), (35, .goto (-31), 38, 4), (38, .iload_n 1, 39, 0), (39, .ireturn, 40, 0)], [(446, 2050093, 0, none)], [(100184, 2, sp_X6_isIn)], [], [], [], [], some .int)
set_option maxRecDepth 20000 in
set_option maxHeartbeats 4000000 in
theorem ct_X6_weightOf (l : Launch) : z_CT l yX6_weightOf cX6_weightOf 3 (some .int) sp_X6_weightOf 1 := by
  refine z_CT_of G_X6_weightOf (by decide) (by decide +kernel) (z_pok_of ft_X6 ci_X6 cL_X6_L fo_X6 co_X6 lo_X6 (by decide +kernel)) rfl rfl ?_ ?_ ?_
  · intro as S P Po h
    unfold sp_X6_weightOf at h
    split at h
    · exact Nat.le_of_ble_eq_true rfl
    · exact h.elim
  · exact List.forall_mem_cons.mpr ⟨z_coS (ct_X6_isIn l) kb_X6_isIn ks_X6_184 (by decide) (by decide), fun _ h => absurd h List.not_mem_nil⟩
  · intro as S P Po h V hV hW
    unfold sp_X6_weightOf at h
    split at h
    · rename_i x0
      have hpo := h
      refine hV [4] 29 0 _ _ _ _ ?_
      have hb4 : ((nI 5) : Int32) = (nI 5) := rfl
      have hL4 : ∀ (j k4 : Nat) (x900 : Int32) (a4 : Int32), k4 + j = 5 → x900 = nI k4 → a4 = z_fo (fun k4 a4 => l_X6_weightOf_4 S P x0 k4 a4) (nI 0) k4 → V 4 [(0, .int x0), (1, .int a4), (2, .int x900)] [] S P := by
        intro j
        induction j with
        | zero =>
          intro k4 x900 a4 hk4 hx4 ha4
          subst hx4
          have hk9 : k4 = 5 := by omega
          subst hk9
          subst ha4
          refine hV [4] 29 4 _ _ _ _ ?_
          refine ⟨fun _ => ?_, fun h => absurd ((z_brge hb4 (by omega) (by omega)).mpr (Nat.le_refl _)) h⟩
          exact z_pi hpo (rfl) (rfl) (rfl)
        | succ j ih =>
          intro k4 x900 a4 hk4 hx4 ha4
          subst hx4
          have hk9 : k4 < 5 := by omega
          subst ha4
          refine hV [4] 29 4 _ _ _ _ ?_
          refine ⟨fun h => absurd ((z_brge hb4 (by omega) (by omega)).mp h) (by omega), fun _ => ?_⟩
          refine z_br (fun (h2 : (f_X6_isIn S P x0 (nI k4)) = false) => ?_) (fun (h2 : (f_X6_isIn S P x0 (nI k4)) = true) => ?_)
          · exact hW [0, 1, 2] _ _ _ _ _ (ih (k4 + 1) _ ((z_fo (fun k4 a4 => l_X6_weightOf_4 S P x0 k4 a4) (nI 0) k4) + (nI 0)) (by omega) (nI_add k4 1) (((if_neg (z_nt h2)).trans rfl).symm))
          · refine ⟨(show vp_in (nI k4) 5 by exact vp_in_nI (by omega) (by omega)), ?_⟩
            exact hW [0, 1, 2] _ _ _ _ _ (ih (k4 + 1) _ ((z_fo (fun k4 a4 => l_X6_weightOf_4 S P x0 k4 a4) (nI 0) k4) + (z_wt (nI k4).toNatClampNeg)) (by omega) (nI_add k4 1) (((if_pos h2).trans rfl).symm))
      exact hW [0, 1, 2] _ _ _ _ _ (hL4 5 0 _ (nI 0) (Nat.zero_add _) rfl rfl)
    · exact h.elim
def f_X6_owedAt (S : z_MI) (P : z_ML) (x1 : Int32) (x2 : Int32) : Int64 :=
  if (f_X6_isIn S P (S 57665 x1.toNatClampNeg) x2) = true then
    if (f_X1_holdersOf S P x2) = 0 then
      lN 0
    else
      (((((S 16513 x2.toNatClampNeg).toInt64) * ((f_X6_weightOf S P (f_X0_takenBy S P x1 x2)).toInt64)) / (lN 100)) + (((((((S 16513 x2.toNatClampNeg).toInt64) * ((f_X6_weightOf S P (f_X0_takenBy S P x1 x2)).toInt64)) / (lN 100)) * (lN 2)) * (((S 2096 8) - (S 55617 x1.toNatClampNeg)).toInt64)) / (lN 1000))) + (((((S 16513 x2.toNatClampNeg).toInt64) * ((f_X6_weightOf S P (f_X0_takenBy S P x1 x2)).toInt64)) / (lN 100)) / (lN 2))
  else
    lN 0
def sp_X6_owedAt : z_SP := fun as S P k => match as with
  | [.int x1, .int x2] => vp_in x1 40 ∧ z_le (S 12296 8) 12 ∧ vp_in x2 16 ∧ z_le (S 10240 8) 40 ∧ k (some (.long (f_X6_owedAt S P x1 x2))) S P
  | _ => False
def G_X6_owedAt : z_G := ([(0, .aload_n 0, 1, 0), (1, .getfield 33, 4, 0), (4, .getfield 433, 7, 0), (7, .iload_n 1, 8, 0), (8, .iaload, 9, 0), (9, .iload_n 2, 10, 0), (10, .invokestatic 184, 13, 0), (13, .ifCond .eq 14, 16, 27), (16, .aload_n 0, 17, 0), (17, .getfield 40, 20, 0), (20, .iload_n 2, 21, 0), (21, .invokevirtual 312, 24, 0), (24, .ifCond .ne 5, 27, 29), (27, .lconst 0, 28, 0), (28, .lreturn, 29, 0), (29, .aload_n 0, 30, 0), (30, .getfield 51, 33, 0), (33, .iload_n 2, 34, 0), (34, .iaload, 35, 0), (35, .i2l, 36, 0), (36, .aload_n 0, 37, 0), (37, .getfield 33, 40, 0), (40, .iload_n 1, 41, 0), (41, .iload_n 2, 42, 0), (42, .invokevirtual 434, 45, 0), (45, .invokestatic 437, 48, 0), (48, .i2l, 49, 0), (49, .lmul, 50, 0), (50, .ldc2_w 440, 53, 0), (53, .ldiv, 54, 0), (54, .lstore_n 3, 55, 0), (55, .aload_n 0, 56, 0), (56, .getfield 59, 59, 0), (59, .aload_n 0, 60, 0), (60, .getfield 33, 63, 0), (63, .getfield 239, 66, 0), (66, .iload_n 1, 67, 0), (67, .iaload, 68, 0), (68, .isub, 69, 0), (69, .i2l, 70, 0), (70, .lstore 5, 72, 0), (72, .lload_n 3, 73, 0), (73, .lload_n 3, 74, 0), (74, .ldc2_w 442, 77, 0), (77, .lmul, 78, 0), (78, .lload 5, 80, 0), (80, .lmul, 81, 0), (81, .ldc2_w 444, 84, 0), (84, .ldiv, 85, 0), (85, .ladd, 86, 0), (86, .lload_n 3, 87, 0), (87, .ldc2_w 442, 90, 0), (90, .ldiv, 91, 0), (91, .ladd, 92, 0), (92, .lreturn, 93, 0)], [(33, 2096, 3, some 10240), (40, 2096, 4, some 12296), (51, 2096, 6, some 16513), (59, 2096, 8, none), (239, 10240, 0, some 55617), (433, 10240, 1, some 57665)], [(100184, 2, sp_X6_isIn), (100437, 1, sp_X6_weightOf), (312, 2, (z_rc 12296 sp_X1_holdersOf)), (434, 3, (z_rc 10240 sp_X0_takenBy))], [], [(440, 100), (442, 2), (444, 1000)], [], [], some .long)
set_option maxRecDepth 20000 in
set_option maxHeartbeats 4000000 in
theorem ct_X6_owedAt (l : Launch) : z_CT l yX6_owedAt cX6_owedAt 7 (some .long) (z_rc 2096 sp_X6_owedAt) 3 := by
  refine z_CT_of G_X6_owedAt (by decide) (by decide +kernel) (z_pok_of ft_X6 ci_X6 cL_X6_L fo_X6 co_X6 lo_X6 (by decide +kernel)) rfl rfl ?_ ?_ ?_
  · intro as S P Po h0
    obtain ⟨as, rfl, h⟩ := z_rc_of h0
    unfold sp_X6_owedAt at h
    split at h
    · exact Nat.le_of_ble_eq_true rfl
    · exact h.elim
  · exact List.forall_mem_cons.mpr ⟨z_coS (ct_X6_isIn l) kb_X6_isIn ks_X6_184 (by decide) (by decide), List.forall_mem_cons.mpr ⟨z_coS (ct_X6_weightOf l) kb_X6_weightOf ks_X6_437 (by decide) (by decide), List.forall_mem_cons.mpr ⟨z_coV (ct_X1_holdersOf l) kb_X1_holdersOf kv_X6_312 ko_X1 (by decide) (by decide) (by decide), List.forall_mem_cons.mpr ⟨z_coV (ct_X0_takenBy l) kb_X0_takenBy kv_X6_434 ko_X0 (by decide) (by decide) (by decide), fun _ h => absurd h List.not_mem_nil⟩⟩⟩⟩
  · intro as S P Po h0 V hV hW
    obtain ⟨as, rfl, h⟩ := z_rc_of h0
    unfold sp_X6_owedAt at h
    split at h
    · rename_i x1 x2
      obtain ⟨hp0, hp1, hp2, hp3, hpo⟩ := h
      refine hV [] 60 0 _ _ _ _ ?_
      refine ⟨(show vp_in x1 40 by assumption), ?_⟩
      refine z_br (fun (h1 : (f_X6_isIn S P (S 57665 x1.toNatClampNeg) x2) = false) => ?_) (fun (h1 : (f_X6_isIn S P (S 57665 x1.toNatClampNeg) x2) = true) => ?_)
      · exact z_pl hpo ((if_neg (z_nt h1)).trans rfl) (rfl) (rfl)
      · refine ⟨(show z_le (S 12296 8) 12 by assumption), ?_⟩
        refine ⟨fun (h2 : ¬ ((f_X1_holdersOf S P x2) = 0)) => ?_, fun (h2 : (f_X1_holdersOf S P x2) = 0) => ?_⟩
        · refine ⟨(show vp_in x2 16 by assumption), ?_⟩
          refine ⟨(show vp_in x1 40 by assumption), (show z_le (S 10240 8) 40 by assumption), ?_⟩
          refine ⟨(show ¬ (lN 100) = 0 by decide), ?_⟩
          refine ⟨(show vp_in x1 40 by assumption), ?_⟩
          refine ⟨(show ¬ (lN 1000) = 0 by decide), ?_⟩
          refine ⟨(show ¬ (lN 2) = 0 by decide), ?_⟩
          exact z_pl hpo ((if_pos h1).trans ((if_neg h2).trans rfl)) (rfl) (rfl)
        · exact z_pl hpo ((if_pos h1).trans ((if_pos h2).trans rfl)) (rfl) (rfl)
    · exact h.elim
def l_X6_owedFor_18 (S : z_MI) (P : z_ML) (x1 : Int32) (k18 : Nat) (a18 : Int64) : Int64 :=
  a18 + (f_X6_owedAt S P x1 (nI k18))
def f_X6_owedFor (S : z_MI) (P : z_ML) (x1 : Int32) : Int64 :=
  if (f_X0_isPayable S P x1) = true then
    (z_fo (fun k18 a18 => l_X6_owedFor_18 S P x1 k18 a18) (lN 0) 16)
  else
    lN 0
def sp_X6_owedFor : z_SP := fun as S P k => match as with
  | [.int x1] => vp_in x1 40 ∧ z_le (S 12296 8) 12 ∧ z_le (S 10240 8) 40 ∧ k (some (.long (f_X6_owedFor S P x1))) S P
  | _ => False
def G_X6_owedFor : z_G := ([(0, .aload_n 0, 1, 0), (1, .getfield 33, 4, 0), (4, .iload_n 1, 5, 0), (5, .invokevirtual 430, 8, 0), (8, .ifCond .ne 5, 11, 13), (11, .lconst 0, 12, 0), (12, .lreturn, 13, 0), (13, .lconst 0, 14, 0), (14, .lstore_n 2, 15, 0), (15, .iconst 0, 16, 0), (16, .istore 4, 18, 0), (18, .iload 4, 20, 0), (20, .bipush 16, 22, 0), (22, .if_icmp .ge 19, 25, 41), (25, .lload_n 2, 26, 0), (26, .aload_n 0, 27, 0), (27, .iload_n 1, 28, 0), (28, .iload 4, 30, 0), (30, .invokevirtual 415, 33, 0), (33, .ladd, 34, 0), (34, .lstore_n 2, 35, 0), (35, .iinc 4 1, 38, 0), (38, .goto (-20), 41, 18), (41, .lload_n 2, 42, 0), (42, .lreturn, 43, 0)], [(33, 2096, 3, some 10240)], [(415, 3, (z_rc 2096 sp_X6_owedAt)), (430, 2, (z_rc 10240 sp_X0_isPayable))], [], [], [], [], some .long)
set_option maxRecDepth 20000 in
set_option maxHeartbeats 4000000 in
theorem ct_X6_owedFor (l : Launch) : z_CT l yX6_owedFor cX6_owedFor 5 (some .long) (z_rc 2096 sp_X6_owedFor) 4 := by
  refine z_CT_of G_X6_owedFor (by decide) (by decide +kernel) (z_pok_of ft_X6 ci_X6 cL_X6_L fo_X6 co_X6 lo_X6 (by decide +kernel)) rfl rfl ?_ ?_ ?_
  · intro as S P Po h0
    obtain ⟨as, rfl, h⟩ := z_rc_of h0
    unfold sp_X6_owedFor at h
    split at h
    · exact Nat.le_of_ble_eq_true rfl
    · exact h.elim
  · exact List.forall_mem_cons.mpr ⟨z_coV (ct_X6_owedAt l) kb_X6_owedAt kv_X6_415 ko_X6 (by decide) (by decide) (by decide), List.forall_mem_cons.mpr ⟨z_coV (ct_X0_isPayable l) kb_X0_isPayable kv_X6_430 ko_X0 (by decide) (by decide) (by decide), fun _ h => absurd h List.not_mem_nil⟩⟩
  · intro as S P Po h0 V hV hW
    obtain ⟨as, rfl, h⟩ := z_rc_of h0
    unfold sp_X6_owedFor at h
    split at h
    · rename_i x1
      obtain ⟨hp0, hp1, hp2, hpo⟩ := h
      refine hV [18] 30 0 _ _ _ _ ?_
      refine ⟨(show vp_in x1 40 by assumption), ?_⟩
      refine z_brn (fun (h1 : (f_X0_isPayable S P x1) = true) => ?_) (fun (h1 : (f_X0_isPayable S P x1) = false) => ?_)
      · have hb18 : ((nI 16) : Int32) = (nI 16) := rfl
        have hL18 : ∀ (j k18 : Nat) (x900 : Int32) (a18 : Int64), k18 + j = 16 → x900 = nI k18 → a18 = z_fo (fun k18 a18 => l_X6_owedFor_18 S P x1 k18 a18) (lN 0) k18 → V 18 [(0, .ref 2096), (1, .int x1), (2, .long a18), (4, .int x900)] [] S P := by
          intro j
          induction j with
          | zero =>
            intro k18 x900 a18 hk18 hx18 ha18
            subst hx18
            have hk9 : k18 = 16 := by omega
            subst hk9
            subst ha18
            refine hV [18] 30 18 _ _ _ _ ?_
            refine ⟨fun _ => ?_, fun h => absurd ((z_brge hb18 (by omega) (by omega)).mpr (Nat.le_refl _)) h⟩
            exact z_pl hpo ((if_pos h1).trans rfl) (rfl) (rfl)
          | succ j ih =>
            intro k18 x900 a18 hk18 hx18 ha18
            subst hx18
            have hk9 : k18 < 16 := by omega
            subst ha18
            refine hV [18] 30 18 _ _ _ _ ?_
            refine ⟨fun h => absurd ((z_brge hb18 (by omega) (by omega)).mp h) (by omega), fun _ => ?_⟩
            refine ⟨(show vp_in x1 40 by assumption), (show z_le (S 12296 8) 12 by assumption), (show vp_in (nI k18) 16 by exact vp_in_nI (by omega) (by omega)), (show z_le (S 10240 8) 40 by assumption), ?_⟩
            exact hW [0, 1, 2, 4] _ _ _ _ _ (ih (k18 + 1) _ ((z_fo (fun k18 a18 => l_X6_owedFor_18 S P x1 k18 a18) (lN 0) k18) + (f_X6_owedAt S P x1 (nI k18))) (by omega) (nI_add k18 1) ((rfl).symm))
        exact hW [0, 1, 2, 4] _ _ _ _ _ (hL18 16 0 _ (lN 0) (Nat.zero_add _) rfl rfl)
      · exact z_pl hpo ((if_neg (z_nt h1)).trans rfl) (rfl) (rfl)
    · exact h.elim
def l_X6_share_22 (S : z_MI) (P : z_ML) (x1 : Int64) (x3 : Int32) (k22 : Nat) (a22 : Int64 × z_ML) : Int64 × z_ML :=
  if (f_X6_isIn S a22.2 x3 (nI k22)) = true then
    (lN 0, va_up a22.2 18483 (vp_updL (a22.2 18483) ((nI k22).toNatClampNeg) ((a22.2 18483 ((nI k22).toNatClampNeg)) + ((x1 / ((f_J6_bitCount_0f7a4 S P x3).toInt64)) + a22.1))))
  else
    (a22.1, a22.2)
def v_X6_share (S : z_MI) (P : z_ML) (x1 : Int64) (x3 : Int32) : z_ML :=
  if (f_J6_bitCount_0f7a4 S P x3) = 0 then
    P
  else
    (z_fo (fun k22 a22 => l_X6_share_22 S P x1 x3 k22 a22) (x1 - x1 / ((f_J6_bitCount_0f7a4 S P x3).toInt64) * ((f_J6_bitCount_0f7a4 S P x3).toInt64), P) 6).2
def sp_X6_share : z_SP := fun as S P k => match as with
  | [.long x1, .int x3] => k (none) S (v_X6_share S P x1 x3)
  | _ => False
def G_X6_share : z_G := ([(0, .iload_n 3, 1, 0), (1, .invokestatic 120, 4, 0), (4, .istore 4, 6, 0), (6, .iload 4, 8, 0), (8, .ifCond .ne 4, 11, 12), (11, .return_, 12, 0), (12, .lload_n 1, 13, 0), (13, .iload 4, 15, 0), (15, .i2l, 16, 0), (16, .lrem, 17, 0), (17, .lstore 5, 19, 0), (19, .iconst 0, 20, 0), (20, .istore 7, 22, 0), (22, .iload 7, 24, 0), (24, .aload_n 0, 25, 0), (25, .getfield 55, 28, 0), (28, .arraylength, 29, 0), (29, .if_icmp .ge 39, 32, 68), (32, .iload_n 3, 33, 0), (33, .iload 7, 35, 0), (35, .invokestatic 184, 38, 0), (38, .ifCond .eq 24, 41, 62), (41, .aload_n 0, 42, 0), (42, .getfield 55, 45, 0), (45, .iload 7, 47, 0), (47, .dup2, 48, 0), (48, .laload, 49, 0), (49, .lload_n 1, 50, 0), (50, .iload 4, 52, 0), (52, .i2l, 53, 0), (53, .ldiv, 54, 0), (54, .lload 5, 56, 0), (56, .ladd, 57, 0), (57, .ladd, 58, 0), (58, .lastore, 59, 0), (59, .lconst 0, 60, 0), (60, .lstore 5, 62, 0), (62, .iinc 7 1, 65, 0), (65, .goto (-43), 68, 22), (68, .return_, 69, 0)], [(55, 2096, 7, some 18483)], [(100120, 1, sp_J6_bitCount_0f7a4), (100184, 2, sp_X6_isIn)], [], [], [], [], none)
set_option maxRecDepth 20000 in
set_option maxHeartbeats 4000000 in
theorem ct_X6_share (l : Launch) : z_CT l yX6_share cX6_share 8 (none) (z_rc 2096 sp_X6_share) 1 := by
  refine z_CT_of G_X6_share (by decide) (by decide +kernel) (z_pok_of ft_X6 ci_X6 cL_X6_L fo_X6 co_X6 lo_X6 (by decide +kernel)) rfl rfl ?_ ?_ ?_
  · intro as S P Po h0
    obtain ⟨as, rfl, h⟩ := z_rc_of h0
    unfold sp_X6_share at h
    split at h
    · exact Nat.le_of_ble_eq_true rfl
    · exact h.elim
  · exact List.forall_mem_cons.mpr ⟨z_coS (ct_J6_bitCount_0f7a4 l) kb_J6_bitCount_0f7a4 ks_X6_120 (by decide) (by decide), List.forall_mem_cons.mpr ⟨z_coS (ct_X6_isIn l) kb_X6_isIn ks_X6_184 (by decide) (by decide), fun _ h => absurd h List.not_mem_nil⟩⟩
  · intro as S P Po h0 V hV hW
    obtain ⟨as, rfl, h⟩ := z_rc_of h0
    unfold sp_X6_share at h
    split at h
    · rename_i x1 x3
      have hpo := h
      refine hV [22] 45 0 _ _ _ _ ?_
      refine ⟨fun (h1 : ¬ ((f_J6_bitCount_0f7a4 S P x3) = 0)) => ?_, fun (h1 : (f_J6_bitCount_0f7a4 S P x3) = 0) => ?_⟩
      · refine ⟨(show ¬ ((f_J6_bitCount_0f7a4 S P x3).toInt64) = 0 by exact z_i64 (by assumption)), ?_⟩
        have hb22 : ((nI 6) : Int32) = (nI 6) := rfl
        have hL22 : ∀ (j k22 : Nat) (x900 : Int32) (a22 : Int64 × z_ML), k22 + j = 6 → x900 = nI k22 → a22 = z_fo (fun k22 a22 => l_X6_share_22 S P x1 x3 k22 a22) (x1 - x1 / ((f_J6_bitCount_0f7a4 S P x3).toInt64) * ((f_J6_bitCount_0f7a4 S P x3).toInt64), P) k22 → V 22 [(0, .ref 2096), (1, .long x1), (3, .int x3), (4, .int (f_J6_bitCount_0f7a4 S P x3)), (5, .long a22.1), (7, .int x900)] [] S a22.2 := by
          intro j
          induction j with
          | zero =>
            intro k22 x900 a22 hk22 hx22 ha22
            subst hx22
            have hk9 : k22 = 6 := by omega
            subst hk9
            subst ha22
            refine hV [22] 45 22 _ _ _ _ ?_
            refine ⟨fun _ => ?_, fun h => absurd ((z_brge hb22 (by omega) (by omega)).mpr (Nat.le_refl _)) h⟩
            exact z_pv hpo (rfl) ((if_neg h1).trans rfl)
          | succ j ih =>
            intro k22 x900 a22 hk22 hx22 ha22
            subst hx22
            have hk9 : k22 < 6 := by omega
            subst ha22
            refine hV [22] 45 22 _ _ _ _ ?_
            refine ⟨fun h => absurd ((z_brge hb22 (by omega) (by omega)).mp h) (by omega), fun _ => ?_⟩
            refine z_br (fun (h3 : (f_X6_isIn S (z_fo (fun k22 a22 => l_X6_share_22 S P x1 x3 k22 a22) (x1 - x1 / ((f_J6_bitCount_0f7a4 S P x3).toInt64) * ((f_J6_bitCount_0f7a4 S P x3).toInt64), P) k22).2 x3 (nI k22)) = false) => ?_) (fun (h3 : (f_X6_isIn S (z_fo (fun k22 a22 => l_X6_share_22 S P x1 x3 k22 a22) (x1 - x1 / ((f_J6_bitCount_0f7a4 S P x3).toInt64) * ((f_J6_bitCount_0f7a4 S P x3).toInt64), P) k22).2 x3 (nI k22)) = true) => ?_)
            · exact hW [0, 1, 3, 4, 5, 7] _ _ _ _ _ (ih (k22 + 1) _ ((z_fo (fun k22 a22 => l_X6_share_22 S P x1 x3 k22 a22) (x1 - x1 / ((f_J6_bitCount_0f7a4 S P x3).toInt64) * ((f_J6_bitCount_0f7a4 S P x3).toInt64), P) k22).1, (z_fo (fun k22 a22 => l_X6_share_22 S P x1 x3 k22 a22) (x1 - x1 / ((f_J6_bitCount_0f7a4 S P x3).toInt64) * ((f_J6_bitCount_0f7a4 S P x3).toInt64), P) k22).2) (by omega) (nI_add k22 1) (((if_neg (z_nt h3)).trans rfl).symm))
            · refine ⟨(show vp_in (nI k22) 6 by exact vp_in_nI (by omega) (by omega)), ?_⟩
              refine ⟨(show ¬ ((f_J6_bitCount_0f7a4 S P x3).toInt64) = 0 by exact z_i64 (by assumption)), ?_⟩
              refine ⟨(show vp_in (nI k22) 6 by exact vp_in_nI (by omega) (by omega)), ?_⟩
              exact hW [0, 1, 3, 4, 5, 7] _ _ _ _ _ (ih (k22 + 1) _ (lN 0, va_up (z_fo (fun k22 a22 => l_X6_share_22 S P x1 x3 k22 a22) (x1 - x1 / ((f_J6_bitCount_0f7a4 S P x3).toInt64) * ((f_J6_bitCount_0f7a4 S P x3).toInt64), P) k22).2 18483 (vp_updL ((z_fo (fun k22 a22 => l_X6_share_22 S P x1 x3 k22 a22) (x1 - x1 / ((f_J6_bitCount_0f7a4 S P x3).toInt64) * ((f_J6_bitCount_0f7a4 S P x3).toInt64), P) k22).2 18483) ((nI k22).toNatClampNeg) (((z_fo (fun k22 a22 => l_X6_share_22 S P x1 x3 k22 a22) (x1 - x1 / ((f_J6_bitCount_0f7a4 S P x3).toInt64) * ((f_J6_bitCount_0f7a4 S P x3).toInt64), P) k22).2 18483 ((nI k22).toNatClampNeg)) + ((x1 / ((f_J6_bitCount_0f7a4 S P x3).toInt64)) + (z_fo (fun k22 a22 => l_X6_share_22 S P x1 x3 k22 a22) (x1 - x1 / ((f_J6_bitCount_0f7a4 S P x3).toInt64) * ((f_J6_bitCount_0f7a4 S P x3).toInt64), P) k22).1)))) (by omega) (nI_add k22 1) (((if_pos h3).trans rfl).symm))
        exact hW [0, 1, 3, 4, 5, 7] _ _ _ _ _ (hL22 6 0 _ (x1 - x1 / ((f_J6_bitCount_0f7a4 S P x3).toInt64) * ((f_J6_bitCount_0f7a4 S P x3).toInt64), P) (Nat.zero_add _) rfl rfl)
      · exact z_pv hpo (rfl) ((if_pos h1).trans rfl)
    · exact h.elim
