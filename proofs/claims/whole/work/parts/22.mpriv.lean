def f_X7_mayHear (S : z_MI) (P : z_ML) (x1 : Int32) (x2 : Int32) (x3 : Int32) : Bool :=
  if (S 134081 ((((nI 12) * x2) + x3).toNatClampNeg)) = 0 then
    true
  else
    if (S 125169 x1.toNatClampNeg) < (S 134081 ((((nI 12) * x2) + x3).toNatClampNeg)) then
      false
    else
      if (f_X7_has S P (f_X7_membersOf S P (S 127057 x2.toNatClampNeg)) x1) = true then
        true
      else
        false
def sp_X7_mayHear : z_SP := fun as S P k => match as with
  | [.int x1, .int x2, .int x3] => vp_in (((nI 12) * x2) + x3) 120 ∧ vp_in x1 30 ∧ vp_in x2 10 ∧ vp_in (S 127057 x2.toNatClampNeg) 6 ∧ z_le (S 110648 6) 30 ∧ k (some (.int (z_b (f_X7_mayHear S P x1 x2 x3)))) S P
  | _ => False
def G_X7_mayHear : z_G := ([(0, .aload_n 0, 1, 0), (1, .getfield 41, 4, 0), (4, .bipush 12, 6, 0), (6, .iload_n 2, 7, 0), (7, .imul, 8, 0), (8, .iload_n 3, 9, 0), (9, .iadd, 10, 0), (10, .iaload, 11, 0), (11, .istore 4, 13, 0), (13, .iload 4, 15, 0), (15, .ifCond .eq 31, 18, 46), (18, .aload_n 0, 19, 0), (19, .getfield 29, 22, 0), (22, .iload_n 1, 23, 0), (23, .iaload, 24, 0), (24, .iload 4, 26, 0), (26, .if_icmp .lt 24, 29, 50), (29, .aload_n 0, 30, 0), (30, .aload_n 0, 31, 0), (31, .getfield 32, 34, 0), (34, .iload_n 2, 35, 0), (35, .iaload, 36, 0), (36, .invokevirtual 190, 39, 0), (39, .iload_n 1, 40, 0), (40, .invokestatic 180, 43, 0), (43, .ifCond .eq 7, 46, 50), (46, .iconst 1, 47, 0), (47, .goto 4, 50, 51), (50, .iconst 0, 51, 0), (51, .ireturn, 52, 0)], [(29, 110648, 10, some 125169), (32, 110648, 12, some 127057), (41, 110648, 15, some 134081)], [(100180, 2, sp_X7_has), (190, 2, (z_rc 110648 sp_X7_membersOf))], [], [], [], [], some .boolean)
set_option maxRecDepth 20000 in
set_option maxHeartbeats 4000000 in
theorem ct_X7_mayHear (l : Launch) : z_CT l yX7_mayHear cX7_mayHear 5 (some .boolean) (z_rc 110648 sp_X7_mayHear) 3 := by
  refine z_CT_of G_X7_mayHear (by decide) (by decide +kernel) (z_pok_of ft_X7 ci_X7 cL_X7_L fo_X7 co_X7 lo_X7 (by decide +kernel)) rfl rfl ?_ ?_ ?_
  · intro as S P Po h0
    obtain ⟨as, rfl, h⟩ := z_rc_of h0
    unfold sp_X7_mayHear at h
    split at h
    · exact Nat.le_of_ble_eq_true rfl
    · exact h.elim
  · exact List.forall_mem_cons.mpr ⟨z_coS (ct_X7_has l) kb_X7_has ks_X7_180 (by decide) (by decide), List.forall_mem_cons.mpr ⟨z_coV (ct_X7_membersOf l) kb_X7_membersOf kv_X7_190 ko_X7 (by decide) (by decide) (by decide), fun _ h => absurd h List.not_mem_nil⟩⟩
  · intro as S P Po h0 V hV hW
    obtain ⟨as, rfl, h⟩ := z_rc_of h0
    unfold sp_X7_mayHear at h
    split at h
    · rename_i x1 x2 x3
      obtain ⟨hp0, hp1, hp2, hp3, hp4, hpo⟩ := h
      refine hV [] 35 0 _ _ _ _ ?_
      refine ⟨(show vp_in (((nI 12) * x2) + x3) 120 by assumption), ?_⟩
      refine ⟨fun (h1 : (S 134081 ((((nI 12) * x2) + x3).toNatClampNeg)) = 0) => ?_, fun (h1 : ¬ ((S 134081 ((((nI 12) * x2) + x3).toNatClampNeg)) = 0)) => ?_⟩
      · exact ⟨(by first | rfl | exact z_nb _), z_pb hpo ((if_pos h1).trans rfl) (rfl) (rfl)⟩
      · refine ⟨(show vp_in x1 30 by assumption), ?_⟩
        refine ⟨fun (h2 : (S 125169 x1.toNatClampNeg) < (S 134081 ((((nI 12) * x2) + x3).toNatClampNeg))) => ?_, fun (h2 : ¬ ((S 125169 x1.toNatClampNeg) < (S 134081 ((((nI 12) * x2) + x3).toNatClampNeg)))) => ?_⟩
        · exact ⟨(by first | rfl | exact z_nb _), z_pb hpo ((if_neg h1).trans ((if_pos h2).trans rfl)) (rfl) (rfl)⟩
        · refine ⟨(show vp_in x2 10 by assumption), ?_⟩
          refine ⟨(show vp_in (S 127057 x2.toNatClampNeg) 6 by assumption), (show z_le (S 110648 6) 30 by assumption), ?_⟩
          refine z_br (fun (h3 : (f_X7_has S P (f_X7_membersOf S P (S 127057 x2.toNatClampNeg)) x1) = false) => ?_) (fun (h3 : (f_X7_has S P (f_X7_membersOf S P (S 127057 x2.toNatClampNeg)) x1) = true) => ?_)
          · exact ⟨(by first | rfl | exact z_nb _), z_pb hpo ((if_neg h1).trans ((if_neg h2).trans ((if_neg (z_nt h3)).trans rfl))) (rfl) (rfl)⟩
          · exact ⟨(by first | rfl | exact z_nb _), z_pb hpo ((if_neg h1).trans ((if_neg h2).trans ((if_pos h3).trans rfl))) (rfl) (rfl)⟩
    · exact h.elim
def l_X7_provedOf_4 (S : z_MI) (P : z_ML) (x1 : Int32) (k4 : Nat) (a4 : Int32) : Int32 :=
  if (f_X7_has S P (S 168033 x1.toNatClampNeg) (nI k4)) = true then
    if (f_X7_proves S P (S 165985 x1.toNatClampNeg) (nI k4)) = true then
      a4 ||| ((nI 1) <<< ((nI k4) &&& 31))
    else
      a4 ||| (nI 0)
  else
    a4 ||| (nI 0)
def f_X7_provedOf (S : z_MI) (P : z_ML) (x1 : Int32) : Int32 :=
  (z_fo (fun k4 a4 => l_X7_provedOf_4 S P x1 k4 a4) (nI 0) 16)
def sp_X7_provedOf : z_SP := fun as S P k => match as with
  | [.int x1] => vp_in x1 12 ∧ z_le (S 110648 16) 60 ∧ vp_in (S 165985 x1.toNatClampNeg) 6 ∧ z_le (S 143409 (S 165985 x1.toNatClampNeg).toNatClampNeg) 8 ∧ z_le (S 110648 1) 5000 ∧ k (some (.int (f_X7_provedOf S P x1))) S P
  | _ => False
def G_X7_provedOf : z_G := ([(0, .iconst 0, 1, 0), (1, .istore_n 2, 2, 0), (2, .iconst 0, 3, 0), (3, .istore_n 3, 4, 0), (4, .iload_n 3, 5, 0), (5, .bipush 16, 7, 0), (7, .if_icmp .ge 46, 10, 53), (10, .iload_n 2, 11, 0), (11, .aload_n 0, 12, 0), (12, .getfield 93, 15, 0), (15, .iload_n 1, 16, 0), (16, .iaload, 17, 0), (17, .iload_n 3, 18, 0), (18, .invokestatic 180, 21, 0), (21, .ifCond .eq 23, 24, 44), (24, .aload_n 0, 25, 0), (25, .aload_n 0, 26, 0), (26, .getfield 90, 29, 0), (29, .iload_n 1, 30, 0), (30, .iaload, 31, 0), (31, .iload_n 3, 32, 0), (32, .invokevirtual 222, 35, 0), (35, .ifCond .eq 9, 38, 44), (38, .iconst 1, 39, 0), (39, .iload_n 3, 40, 0), (40, .ishl, 41, 0), (41, .goto 4, 44, 45), (44, .iconst 0, 45, 0), (45, .ior, 46, 0), (46, .istore_n 2, 47, 0), (47, .iinc 3 1, 50, 0), (50, .goto (-46), 53, 4), (53, .iload_n 2, 54, 0), (54, .ireturn, 55, 0)], [(90, 110648, 34, some 165985), (93, 110648, 35, some 168033)], [(100180, 2, sp_X7_has), (222, 3, (z_rc 110648 sp_X7_proves))], [], [], [], [], some .int)
set_option maxRecDepth 20000 in
set_option maxHeartbeats 4000000 in
theorem ct_X7_provedOf (l : Launch) : z_CT l yX7_provedOf cX7_provedOf 4 (some .int) (z_rc 110648 sp_X7_provedOf) 2 := by
  refine z_CT_of G_X7_provedOf (by decide) (by decide +kernel) (z_pok_of ft_X7 ci_X7 cL_X7_L fo_X7 co_X7 lo_X7 (by decide +kernel)) rfl rfl ?_ ?_ ?_
  · intro as S P Po h0
    obtain ⟨as, rfl, h⟩ := z_rc_of h0
    unfold sp_X7_provedOf at h
    split at h
    · exact Nat.le_of_ble_eq_true rfl
    · exact h.elim
  · exact List.forall_mem_cons.mpr ⟨z_coS (ct_X7_has l) kb_X7_has ks_X7_180 (by decide) (by decide), List.forall_mem_cons.mpr ⟨z_coV (ct_X7_proves l) kb_X7_proves kv_X7_222 ko_X7 (by decide) (by decide) (by decide), fun _ h => absurd h List.not_mem_nil⟩⟩
  · intro as S P Po h0 V hV hW
    obtain ⟨as, rfl, h⟩ := z_rc_of h0
    unfold sp_X7_provedOf at h
    split at h
    · rename_i x1
      obtain ⟨hp0, hp1, hp2, hp3, hp4, hpo⟩ := h
      refine hV [4] 39 0 _ _ _ _ ?_
      have hb4 : ((nI 16) : Int32) = (nI 16) := rfl
      have hL4 : ∀ (j k4 : Nat) (x900 : Int32) (a4 : Int32), k4 + j = 16 → x900 = nI k4 → a4 = z_fo (fun k4 a4 => l_X7_provedOf_4 S P x1 k4 a4) (nI 0) k4 → V 4 [(0, .ref 110648), (1, .int x1), (2, .int a4), (3, .int x900)] [] S P := by
        intro j
        induction j with
        | zero =>
          intro k4 x900 a4 hk4 hx4 ha4
          subst hx4
          have hk9 : k4 = 16 := by omega
          subst hk9
          subst ha4
          refine hV [4] 39 4 _ _ _ _ ?_
          refine ⟨fun _ => ?_, fun h => absurd ((z_brge hb4 (by omega) (by omega)).mpr (Nat.le_refl _)) h⟩
          exact z_pi hpo (rfl) (rfl) (rfl)
        | succ j ih =>
          intro k4 x900 a4 hk4 hx4 ha4
          subst hx4
          have hk9 : k4 < 16 := by omega
          subst ha4
          refine hV [4] 39 4 _ _ _ _ ?_
          refine ⟨fun h => absurd ((z_brge hb4 (by omega) (by omega)).mp h) (by omega), fun _ => ?_⟩
          refine ⟨(show vp_in x1 12 by assumption), ?_⟩
          refine z_br (fun (h2 : (f_X7_has S P (S 168033 x1.toNatClampNeg) (nI k4)) = false) => ?_) (fun (h2 : (f_X7_has S P (S 168033 x1.toNatClampNeg) (nI k4)) = true) => ?_)
          · exact hW [0, 1, 2, 3] _ _ _ _ _ (ih (k4 + 1) _ ((z_fo (fun k4 a4 => l_X7_provedOf_4 S P x1 k4 a4) (nI 0) k4) ||| (nI 0)) (by omega) (nI_add k4 1) (((if_neg (z_nt h2)).trans rfl).symm))
          · refine ⟨(show vp_in x1 12 by assumption), ?_⟩
            refine ⟨(show z_le (S 110648 16) 60 by assumption), (show vp_in (S 165985 x1.toNatClampNeg) 6 by assumption), (show z_le (S 143409 (S 165985 x1.toNatClampNeg).toNatClampNeg) 8 by assumption), (show z_le (S 110648 1) 5000 by assumption), ?_⟩
            refine z_br (fun (h3 : (f_X7_proves S P (S 165985 x1.toNatClampNeg) (nI k4)) = false) => ?_) (fun (h3 : (f_X7_proves S P (S 165985 x1.toNatClampNeg) (nI k4)) = true) => ?_)
            · exact hW [0, 1, 2, 3] _ _ _ _ _ (ih (k4 + 1) _ ((z_fo (fun k4 a4 => l_X7_provedOf_4 S P x1 k4 a4) (nI 0) k4) ||| (nI 0)) (by omega) (nI_add k4 1) (((if_pos h2).trans ((if_neg (z_nt h3)).trans rfl)).symm))
            · exact hW [0, 1, 2, 3] _ _ _ _ _ (ih (k4 + 1) _ ((z_fo (fun k4 a4 => l_X7_provedOf_4 S P x1 k4 a4) (nI 0) k4) ||| ((nI 1) <<< ((nI k4) &&& 31))) (by omega) (nI_add k4 1) (((if_pos h2).trans ((if_pos h3).trans rfl)).symm))
      exact hW [0, 1, 2, 3] _ _ _ _ _ (hL4 16 0 _ (nI 0) (Nat.zero_add _) rfl rfl)
    · exact h.elim
def f_X7_isWhat (S : z_MI) (P : z_ML) (x0 : Int32) (x1 : Int32) (x2 : Int32) (x3 : Int32) (x4 : Int32) : Bool :=
  if (f_X7_in S P x0 (nI 1) (nI 65535)) = true then
    if (f_X7_in S P x1 (nI 1) (nI 31)) = true then
      if (f_X7_in S P x2 (nI 0) (nI 2)) = true then
        if x2 = (nI 1) then
          if (f_X7_in S P x3 x4 (nI 5000)) = true then
            true
          else
            false
        else
          if x3 = (-1) then
            true
          else
            false
      else
        false
    else
      false
  else
    false
def sp_X7_isWhat : z_SP := fun as S P k => match as with
  | [.int x0, .int x1, .int x2, .int x3, .int x4] => k (some (.int (z_b (f_X7_isWhat S P x0 x1 x2 x3 x4)))) S P
  | _ => False
def G_X7_isWhat : z_G := ([(0, .iload_n 0, 1, 0), (1, .iconst 1, 2, 0), (2, .ldc 225, 4, 0), (4, .invokestatic 157, 7, 0), (7, .ifCond .eq 26, 10, 33), (10, .iload_n 1, 11, 0), (11, .iconst 1, 12, 0), (12, .bipush 31, 14, 0), (14, .invokestatic 157, 17, 0), (17, .ifCond .eq 16, 20, 33), (20, .iload_n 2, 21, 0), (21, .iconst 0, 22, 0), (22, .iconst 2, 23, 0), (23, .invokestatic 157, 26, 0), (26, .ifCond .eq 7, 29, 33), (29, .iconst 1, 30, 0), (30, .goto 4, 33, 34), (33, .iconst 0, 34, 0), (34, .istore 5, 36, 0), (36, .iload 5, 38, 0), (38, .ifCond .eq 32, 41, 70), (41, .iload_n 2, 42, 0), (42, .iconst 1, 43, 0), (43, .if_icmp .ne 18, 46, 61), (46, .iload_n 3, 47, 0), (47, .iload 4, 49, 0), (49, .sipush 5000, 52, 0), (52, .invokestatic 157, 55, 0), (55, .ifCond .eq 15, 58, 70), (58, .goto 8, 61, 66), (61, .iload_n 3, 62, 0), (62, .iconst (-1), 63, 0), (63, .if_icmp .ne 7, 66, 70), (66, .iconst 1, 67, 0), (67, .goto 4, 70, 71), (70, .iconst 0, 71, 0), (71, .ireturn, 72, 0)], [], [(100157, 3, sp_X7_in)], [(225, 65535)], [], [], [], some .boolean)
set_option maxRecDepth 20000 in
set_option maxHeartbeats 4000000 in
theorem ct_X7_isWhat (l : Launch) : z_CT l yX7_isWhat cX7_isWhat 6 (some .boolean) sp_X7_isWhat 1 := by
  refine z_CT_of G_X7_isWhat (by decide) (by decide +kernel) (z_pok_of ft_X7 ci_X7 cL_X7_L fo_X7 co_X7 lo_X7 (by decide +kernel)) rfl rfl ?_ ?_ ?_
  · intro as S P Po h
    unfold sp_X7_isWhat at h
    split at h
    · exact Nat.le_of_ble_eq_true rfl
    · exact h.elim
  · exact List.forall_mem_cons.mpr ⟨z_coS (ct_X7_in l) kb_X7_in ks_X7_157 (by decide) (by decide), fun _ h => absurd h List.not_mem_nil⟩
  · intro as S P Po h V hV hW
    unfold sp_X7_isWhat at h
    split at h
    · rename_i x0 x1 x2 x3 x4
      have hpo := h
      refine hV [] 42 0 _ _ _ _ ?_
      refine z_br (fun (h1 : (f_X7_in S P x0 (nI 1) (nI 65535)) = false) => ?_) (fun (h1 : (f_X7_in S P x0 (nI 1) (nI 65535)) = true) => ?_)
      · refine ⟨fun _ => ?_, fun h => absurd (by decide) h⟩
        exact ⟨(by first | rfl | exact z_nb _), z_pb hpo ((if_neg (z_nt h1)).trans rfl) (rfl) (rfl)⟩
      · refine z_br (fun (h2 : (f_X7_in S P x1 (nI 1) (nI 31)) = false) => ?_) (fun (h2 : (f_X7_in S P x1 (nI 1) (nI 31)) = true) => ?_)
        · refine ⟨fun _ => ?_, fun h => absurd (by decide) h⟩
          exact ⟨(by first | rfl | exact z_nb _), z_pb hpo ((if_pos h1).trans ((if_neg (z_nt h2)).trans rfl)) (rfl) (rfl)⟩
        · refine z_br (fun (h3 : (f_X7_in S P x2 (nI 0) (nI 2)) = false) => ?_) (fun (h3 : (f_X7_in S P x2 (nI 0) (nI 2)) = true) => ?_)
          · refine ⟨fun _ => ?_, fun h => absurd (by decide) h⟩
            exact ⟨(by first | rfl | exact z_nb _), z_pb hpo ((if_pos h1).trans ((if_pos h2).trans ((if_neg (z_nt h3)).trans rfl))) (rfl) (rfl)⟩
          · refine ⟨fun h => absurd h (by decide), fun _ => ?_⟩
            refine ⟨fun (h4 : ¬ (x2 = (nI 1))) => ?_, fun (h4 : x2 = (nI 1)) => ?_⟩
            · refine ⟨fun (h5 : ¬ (x3 = (-1))) => ?_, fun (h5 : x3 = (-1)) => ?_⟩
              · exact ⟨(by first | rfl | exact z_nb _), z_pb hpo ((if_pos h1).trans ((if_pos h2).trans ((if_pos h3).trans ((if_neg h4).trans ((if_neg h5).trans rfl))))) (rfl) (rfl)⟩
              · exact ⟨(by first | rfl | exact z_nb _), z_pb hpo ((if_pos h1).trans ((if_pos h2).trans ((if_pos h3).trans ((if_neg h4).trans ((if_pos h5).trans rfl))))) (rfl) (rfl)⟩
            · refine z_br (fun (h6 : (f_X7_in S P x3 x4 (nI 5000)) = false) => ?_) (fun (h6 : (f_X7_in S P x3 x4 (nI 5000)) = true) => ?_)
              · exact ⟨(by first | rfl | exact z_nb _), z_pb hpo ((if_pos h1).trans ((if_pos h2).trans ((if_pos h3).trans ((if_pos h4).trans ((if_neg (z_nt h6)).trans rfl))))) (rfl) (rfl)⟩
              · exact ⟨(by first | rfl | exact z_nb _), z_pb hpo ((if_pos h1).trans ((if_pos h2).trans ((if_pos h3).trans ((if_pos h4).trans ((if_pos h6).trans rfl))))) (rfl) (rfl)⟩
    · exact h.elim
def f_X7_adds (S : z_MI) (P : z_ML) (x1 : Int32) (x2 : Int32) (x3 : Int32) (x4 : Int32) (x5 : Int32) : Int32 :=
  ((S 110648 24) + (nI 1)) - (nI 1)
def u_X7_adds (S : z_MI) (P : z_ML) (x1 : Int32) (x2 : Int32) (x3 : Int32) (x4 : Int32) (x5 : Int32) : z_MI :=
  va_up (va_up (va_up (va_up (va_up (va_up (va_up S 149825 (upd (S 149825) ((S 110648 24).toNatClampNeg) x1)) 151873 (upd ((va_up S 149825 (upd (S 149825) ((S 110648 24).toNatClampNeg) x1)) 151873) ((S 110648 24).toNatClampNeg) x2)) 153921 (upd ((va_up (va_up S 149825 (upd (S 149825) ((S 110648 24).toNatClampNeg) x1)) 151873 (upd ((va_up S 149825 (upd (S 149825) ((S 110648 24).toNatClampNeg) x1)) 151873) ((S 110648 24).toNatClampNeg) x2)) 153921) ((S 110648 24).toNatClampNeg) x3)) 155969 (upd ((va_up (va_up (va_up S 149825 (upd (S 149825) ((S 110648 24).toNatClampNeg) x1)) 151873 (upd ((va_up S 149825 (upd (S 149825) ((S 110648 24).toNatClampNeg) x1)) 151873) ((S 110648 24).toNatClampNeg) x2)) 153921 (upd ((va_up (va_up S 149825 (upd (S 149825) ((S 110648 24).toNatClampNeg) x1)) 151873 (upd ((va_up S 149825 (upd (S 149825) ((S 110648 24).toNatClampNeg) x1)) 151873) ((S 110648 24).toNatClampNeg) x2)) 153921) ((S 110648 24).toNatClampNeg) x3)) 155969) ((S 110648 24).toNatClampNeg) x4)) 158017 (upd ((va_up (va_up (va_up (va_up S 149825 (upd (S 149825) ((S 110648 24).toNatClampNeg) x1)) 151873 (upd ((va_up S 149825 (upd (S 149825) ((S 110648 24).toNatClampNeg) x1)) 151873) ((S 110648 24).toNatClampNeg) x2)) 153921 (upd ((va_up (va_up S 149825 (upd (S 149825) ((S 110648 24).toNatClampNeg) x1)) 151873 (upd ((va_up S 149825 (upd (S 149825) ((S 110648 24).toNatClampNeg) x1)) 151873) ((S 110648 24).toNatClampNeg) x2)) 153921) ((S 110648 24).toNatClampNeg) x3)) 155969 (upd ((va_up (va_up (va_up S 149825 (upd (S 149825) ((S 110648 24).toNatClampNeg) x1)) 151873 (upd ((va_up S 149825 (upd (S 149825) ((S 110648 24).toNatClampNeg) x1)) 151873) ((S 110648 24).toNatClampNeg) x2)) 153921 (upd ((va_up (va_up S 149825 (upd (S 149825) ((S 110648 24).toNatClampNeg) x1)) 151873 (upd ((va_up S 149825 (upd (S 149825) ((S 110648 24).toNatClampNeg) x1)) 151873) ((S 110648 24).toNatClampNeg) x2)) 153921) ((S 110648 24).toNatClampNeg) x3)) 155969) ((S 110648 24).toNatClampNeg) x4)) 158017) ((S 110648 24).toNatClampNeg) x5)) 162113 (upd ((va_up (va_up (va_up (va_up (va_up S 149825 (upd (S 149825) ((S 110648 24).toNatClampNeg) x1)) 151873 (upd ((va_up S 149825 (upd (S 149825) ((S 110648 24).toNatClampNeg) x1)) 151873) ((S 110648 24).toNatClampNeg) x2)) 153921 (upd ((va_up (va_up S 149825 (upd (S 149825) ((S 110648 24).toNatClampNeg) x1)) 151873 (upd ((va_up S 149825 (upd (S 149825) ((S 110648 24).toNatClampNeg) x1)) 151873) ((S 110648 24).toNatClampNeg) x2)) 153921) ((S 110648 24).toNatClampNeg) x3)) 155969 (upd ((va_up (va_up (va_up S 149825 (upd (S 149825) ((S 110648 24).toNatClampNeg) x1)) 151873 (upd ((va_up S 149825 (upd (S 149825) ((S 110648 24).toNatClampNeg) x1)) 151873) ((S 110648 24).toNatClampNeg) x2)) 153921 (upd ((va_up (va_up S 149825 (upd (S 149825) ((S 110648 24).toNatClampNeg) x1)) 151873 (upd ((va_up S 149825 (upd (S 149825) ((S 110648 24).toNatClampNeg) x1)) 151873) ((S 110648 24).toNatClampNeg) x2)) 153921) ((S 110648 24).toNatClampNeg) x3)) 155969) ((S 110648 24).toNatClampNeg) x4)) 158017 (upd ((va_up (va_up (va_up (va_up S 149825 (upd (S 149825) ((S 110648 24).toNatClampNeg) x1)) 151873 (upd ((va_up S 149825 (upd (S 149825) ((S 110648 24).toNatClampNeg) x1)) 151873) ((S 110648 24).toNatClampNeg) x2)) 153921 (upd ((va_up (va_up S 149825 (upd (S 149825) ((S 110648 24).toNatClampNeg) x1)) 151873 (upd ((va_up S 149825 (upd (S 149825) ((S 110648 24).toNatClampNeg) x1)) 151873) ((S 110648 24).toNatClampNeg) x2)) 153921) ((S 110648 24).toNatClampNeg) x3)) 155969 (upd ((va_up (va_up (va_up S 149825 (upd (S 149825) ((S 110648 24).toNatClampNeg) x1)) 151873 (upd ((va_up S 149825 (upd (S 149825) ((S 110648 24).toNatClampNeg) x1)) 151873) ((S 110648 24).toNatClampNeg) x2)) 153921 (upd ((va_up (va_up S 149825 (upd (S 149825) ((S 110648 24).toNatClampNeg) x1)) 151873 (upd ((va_up S 149825 (upd (S 149825) ((S 110648 24).toNatClampNeg) x1)) 151873) ((S 110648 24).toNatClampNeg) x2)) 153921) ((S 110648 24).toNatClampNeg) x3)) 155969) ((S 110648 24).toNatClampNeg) x4)) 158017) ((S 110648 24).toNatClampNeg) x5)) 162113) ((S 110648 24).toNatClampNeg) (-1))) 110648 (upd ((va_up (va_up (va_up (va_up (va_up (va_up S 149825 (upd (S 149825) ((S 110648 24).toNatClampNeg) x1)) 151873 (upd ((va_up S 149825 (upd (S 149825) ((S 110648 24).toNatClampNeg) x1)) 151873) ((S 110648 24).toNatClampNeg) x2)) 153921 (upd ((va_up (va_up S 149825 (upd (S 149825) ((S 110648 24).toNatClampNeg) x1)) 151873 (upd ((va_up S 149825 (upd (S 149825) ((S 110648 24).toNatClampNeg) x1)) 151873) ((S 110648 24).toNatClampNeg) x2)) 153921) ((S 110648 24).toNatClampNeg) x3)) 155969 (upd ((va_up (va_up (va_up S 149825 (upd (S 149825) ((S 110648 24).toNatClampNeg) x1)) 151873 (upd ((va_up S 149825 (upd (S 149825) ((S 110648 24).toNatClampNeg) x1)) 151873) ((S 110648 24).toNatClampNeg) x2)) 153921 (upd ((va_up (va_up S 149825 (upd (S 149825) ((S 110648 24).toNatClampNeg) x1)) 151873 (upd ((va_up S 149825 (upd (S 149825) ((S 110648 24).toNatClampNeg) x1)) 151873) ((S 110648 24).toNatClampNeg) x2)) 153921) ((S 110648 24).toNatClampNeg) x3)) 155969) ((S 110648 24).toNatClampNeg) x4)) 158017 (upd ((va_up (va_up (va_up (va_up S 149825 (upd (S 149825) ((S 110648 24).toNatClampNeg) x1)) 151873 (upd ((va_up S 149825 (upd (S 149825) ((S 110648 24).toNatClampNeg) x1)) 151873) ((S 110648 24).toNatClampNeg) x2)) 153921 (upd ((va_up (va_up S 149825 (upd (S 149825) ((S 110648 24).toNatClampNeg) x1)) 151873 (upd ((va_up S 149825 (upd (S 149825) ((S 110648 24).toNatClampNeg) x1)) 151873) ((S 110648 24).toNatClampNeg) x2)) 153921) ((S 110648 24).toNatClampNeg) x3)) 155969 (upd ((va_up (va_up (va_up S 149825 (upd (S 149825) ((S 110648 24).toNatClampNeg) x1)) 151873 (upd ((va_up S 149825 (upd (S 149825) ((S 110648 24).toNatClampNeg) x1)) 151873) ((S 110648 24).toNatClampNeg) x2)) 153921 (upd ((va_up (va_up S 149825 (upd (S 149825) ((S 110648 24).toNatClampNeg) x1)) 151873 (upd ((va_up S 149825 (upd (S 149825) ((S 110648 24).toNatClampNeg) x1)) 151873) ((S 110648 24).toNatClampNeg) x2)) 153921) ((S 110648 24).toNatClampNeg) x3)) 155969) ((S 110648 24).toNatClampNeg) x4)) 158017) ((S 110648 24).toNatClampNeg) x5)) 162113 (upd ((va_up (va_up (va_up (va_up (va_up S 149825 (upd (S 149825) ((S 110648 24).toNatClampNeg) x1)) 151873 (upd ((va_up S 149825 (upd (S 149825) ((S 110648 24).toNatClampNeg) x1)) 151873) ((S 110648 24).toNatClampNeg) x2)) 153921 (upd ((va_up (va_up S 149825 (upd (S 149825) ((S 110648 24).toNatClampNeg) x1)) 151873 (upd ((va_up S 149825 (upd (S 149825) ((S 110648 24).toNatClampNeg) x1)) 151873) ((S 110648 24).toNatClampNeg) x2)) 153921) ((S 110648 24).toNatClampNeg) x3)) 155969 (upd ((va_up (va_up (va_up S 149825 (upd (S 149825) ((S 110648 24).toNatClampNeg) x1)) 151873 (upd ((va_up S 149825 (upd (S 149825) ((S 110648 24).toNatClampNeg) x1)) 151873) ((S 110648 24).toNatClampNeg) x2)) 153921 (upd ((va_up (va_up S 149825 (upd (S 149825) ((S 110648 24).toNatClampNeg) x1)) 151873 (upd ((va_up S 149825 (upd (S 149825) ((S 110648 24).toNatClampNeg) x1)) 151873) ((S 110648 24).toNatClampNeg) x2)) 153921) ((S 110648 24).toNatClampNeg) x3)) 155969) ((S 110648 24).toNatClampNeg) x4)) 158017 (upd ((va_up (va_up (va_up (va_up S 149825 (upd (S 149825) ((S 110648 24).toNatClampNeg) x1)) 151873 (upd ((va_up S 149825 (upd (S 149825) ((S 110648 24).toNatClampNeg) x1)) 151873) ((S 110648 24).toNatClampNeg) x2)) 153921 (upd ((va_up (va_up S 149825 (upd (S 149825) ((S 110648 24).toNatClampNeg) x1)) 151873 (upd ((va_up S 149825 (upd (S 149825) ((S 110648 24).toNatClampNeg) x1)) 151873) ((S 110648 24).toNatClampNeg) x2)) 153921) ((S 110648 24).toNatClampNeg) x3)) 155969 (upd ((va_up (va_up (va_up S 149825 (upd (S 149825) ((S 110648 24).toNatClampNeg) x1)) 151873 (upd ((va_up S 149825 (upd (S 149825) ((S 110648 24).toNatClampNeg) x1)) 151873) ((S 110648 24).toNatClampNeg) x2)) 153921 (upd ((va_up (va_up S 149825 (upd (S 149825) ((S 110648 24).toNatClampNeg) x1)) 151873 (upd ((va_up S 149825 (upd (S 149825) ((S 110648 24).toNatClampNeg) x1)) 151873) ((S 110648 24).toNatClampNeg) x2)) 153921) ((S 110648 24).toNatClampNeg) x3)) 155969) ((S 110648 24).toNatClampNeg) x4)) 158017) ((S 110648 24).toNatClampNeg) x5)) 162113) ((S 110648 24).toNatClampNeg) (-1))) 110648) 24 ((S 110648 24) + (nI 1)))
def sp_X7_adds : z_SP := fun as S P k => match as with
  | [.int x1, .int x2, .int x3, .int x4, .int x5] => vp_in (S 110648 24) 40 ∧ k (some (.int (f_X7_adds S P x1 x2 x3 x4 x5))) (u_X7_adds S P x1 x2 x3 x4 x5) P
  | _ => False
def G_X7_adds : z_G := ([(0, .aload_n 0, 1, 0), (1, .getfield 65, 4, 0), (4, .aload_n 0, 5, 0), (5, .getfield 164, 8, 0), (8, .iload_n 1, 9, 0), (9, .iastore, 10, 0), (10, .aload_n 0, 11, 0), (11, .getfield 68, 14, 0), (14, .aload_n 0, 15, 0), (15, .getfield 164, 18, 0), (18, .iload_n 2, 19, 0), (19, .iastore, 20, 0), (20, .aload_n 0, 21, 0), (21, .getfield 71, 24, 0), (24, .aload_n 0, 25, 0), (25, .getfield 164, 28, 0), (28, .iload_n 3, 29, 0), (29, .iastore, 30, 0), (30, .aload_n 0, 31, 0), (31, .getfield 74, 34, 0), (34, .aload_n 0, 35, 0), (35, .getfield 164, 38, 0), (38, .iload 4, 40, 0), (40, .iastore, 41, 0), (41, .aload_n 0, 42, 0), (42, .getfield 77, 45, 0), (45, .aload_n 0, 46, 0), (46, .getfield 164, 49, 0), (49, .iload 5, 51, 0), (51, .iastore, 52, 0), (52, .aload_n 0, 53, 0), (53, .getfield 84, 56, 0), (56, .aload_n 0, 57, 0), (57, .getfield 164, 60, 0), (60, .iconst (-1), 61, 0), (61, .iastore, 62, 0), (62, .aload_n 0, 63, 0), (63, .dup, 64, 0), (64, .getfield 164, 67, 0), (67, .iconst 1, 68, 0), (68, .iadd, 69, 0), (69, .putfield 164, 72, 0), (72, .aload_n 0, 73, 0), (73, .getfield 164, 76, 0), (76, .iconst 1, 77, 0), (77, .isub, 78, 0), (78, .ireturn, 79, 0)], [(65, 110648, 25, some 149825), (68, 110648, 26, some 151873), (71, 110648, 27, some 153921), (74, 110648, 28, some 155969), (77, 110648, 29, some 158017), (84, 110648, 31, some 162113), (164, 110648, 24, none)], [], [], [], [], [], some .int)
set_option maxRecDepth 20000 in
set_option maxHeartbeats 4000000 in
theorem ct_X7_adds (l : Launch) : z_CT l yX7_adds cX7_adds 6 (some .int) (z_rc 110648 sp_X7_adds) 0 := by
  refine z_CT_of G_X7_adds (by decide) (by decide +kernel) (z_pok_of ft_X7 ci_X7 cL_X7_L fo_X7 co_X7 lo_X7 (by decide +kernel)) rfl rfl ?_ ?_ ?_
  · intro as S P Po h0
    obtain ⟨as, rfl, h⟩ := z_rc_of h0
    unfold sp_X7_adds at h
    split at h
    · exact Nat.le_of_ble_eq_true rfl
    · exact h.elim
  · exact fun _ h => absurd h List.not_mem_nil
  · intro as S P Po h0 V hV hW
    obtain ⟨as, rfl, h⟩ := z_rc_of h0
    unfold sp_X7_adds at h
    split at h
    · rename_i x1 x2 x3 x4 x5
      obtain ⟨hp0, hpo⟩ := h
      refine hV [] 52 0 _ _ _ _ ?_
      refine ⟨(show vp_in (S 110648 24) 40 by assumption), ?_⟩
      refine ⟨(show vp_in (S 110648 24) 40 by assumption), ?_⟩
      refine ⟨(show vp_in (S 110648 24) 40 by assumption), ?_⟩
      refine ⟨(show vp_in (S 110648 24) 40 by assumption), ?_⟩
      refine ⟨(show vp_in (S 110648 24) 40 by assumption), ?_⟩
      refine ⟨(show vp_in (S 110648 24) 40 by assumption), ?_⟩
      exact z_pi hpo (rfl) (rfl) (rfl)
    · exact h.elim
def f_X7_counts (S : z_MI) (P : z_ML) (x1 : Int32) (x2 : Int32) (x3 : Int32) : Bool :=
  if (f_X7_has S P (S 151873 x1.toNatClampNeg) x2) = true then
    if (S 160066 x1.toNatClampNeg) = 0 then
      if x3 < (S 149825 x1.toNatClampNeg) then
        false
      else
        if (S 162113 x1.toNatClampNeg) = (-1) then
          true
        else
          if (S 162113 x1.toNatClampNeg) ≤ x3 then
            false
          else
            true
    else
      false
  else
    false
def sp_X7_counts : z_SP := fun as S P k => match as with
  | [.int x1, .int x2, .int x3] => vp_in x1 40 ∧ k (some (.int (z_b (f_X7_counts S P x1 x2 x3)))) S P
  | _ => False
def G_X7_counts : z_G := ([(0, .aload_n 0, 1, 0), (1, .getfield 68, 4, 0), (4, .iload_n 1, 5, 0), (5, .iaload, 6, 0), (6, .iload_n 2, 7, 0), (7, .invokestatic 180, 10, 0), (10, .ifCond .eq 46, 13, 56), (13, .aload_n 0, 14, 0), (14, .getfield 80, 17, 0), (17, .iload_n 1, 18, 0), (18, .baload, 19, 0), (19, .ifCond .ne 37, 22, 56), (22, .aload_n 0, 23, 0), (23, .getfield 65, 26, 0), (26, .iload_n 1, 27, 0), (27, .iaload, 28, 0), (28, .iload_n 3, 29, 0), (29, .if_icmp .gt 27, 32, 56), (32, .aload_n 0, 33, 0), (33, .getfield 84, 36, 0), (36, .iload_n 1, 37, 0), (37, .iaload, 38, 0), (38, .iconst (-1), 39, 0), (39, .if_icmp .eq 13, 42, 52), (42, .iload_n 3, 43, 0), (43, .aload_n 0, 44, 0), (44, .getfield 84, 47, 0), (47, .iload_n 1, 48, 0), (48, .iaload, 49, 0), (49, .if_icmp .ge 7, 52, 56), (52, .iconst 1, 53, 0), (53, .goto 4, 56, 57), (56, .iconst 0, 57, 0), (57, .ireturn, 58, 0)], [(65, 110648, 25, some 149825), (68, 110648, 26, some 151873), (80, 110648, 30, some 160066), (84, 110648, 31, some 162113)], [(100180, 2, sp_X7_has)], [], [], [], [], some .boolean)
set_option maxRecDepth 20000 in
set_option maxHeartbeats 4000000 in
theorem ct_X7_counts (l : Launch) : z_CT l yX7_counts cX7_counts 4 (some .boolean) (z_rc 110648 sp_X7_counts) 1 := by
  refine z_CT_of G_X7_counts (by decide) (by decide +kernel) (z_pok_of ft_X7 ci_X7 cL_X7_L fo_X7 co_X7 lo_X7 (by decide +kernel)) rfl rfl ?_ ?_ ?_
  · intro as S P Po h0
    obtain ⟨as, rfl, h⟩ := z_rc_of h0
    unfold sp_X7_counts at h
    split at h
    · exact Nat.le_of_ble_eq_true rfl
    · exact h.elim
  · exact List.forall_mem_cons.mpr ⟨z_coS (ct_X7_has l) kb_X7_has ks_X7_180 (by decide) (by decide), fun _ h => absurd h List.not_mem_nil⟩
  · intro as S P Po h0 V hV hW
    obtain ⟨as, rfl, h⟩ := z_rc_of h0
    unfold sp_X7_counts at h
    split at h
    · rename_i x1 x2 x3
      obtain ⟨hp0, hpo⟩ := h
      refine hV [] 39 0 _ _ _ _ ?_
      refine ⟨(show vp_in x1 40 by assumption), ?_⟩
      refine z_br (fun (h1 : (f_X7_has S P (S 151873 x1.toNatClampNeg) x2) = false) => ?_) (fun (h1 : (f_X7_has S P (S 151873 x1.toNatClampNeg) x2) = true) => ?_)
      · exact ⟨(by first | rfl | exact z_nb _), z_pb hpo ((if_neg (z_nt h1)).trans rfl) (rfl) (rfl)⟩
      · refine ⟨(show vp_in x1 40 by assumption), ?_⟩
        refine ⟨fun (h2 : ¬ ((S 160066 x1.toNatClampNeg) = 0)) => ?_, fun (h2 : (S 160066 x1.toNatClampNeg) = 0) => ?_⟩
        · exact ⟨(by first | rfl | exact z_nb _), z_pb hpo ((if_pos h1).trans ((if_neg h2).trans rfl)) (rfl) (rfl)⟩
        · refine ⟨(show vp_in x1 40 by assumption), ?_⟩
          refine ⟨fun (h3 : x3 < (S 149825 x1.toNatClampNeg)) => ?_, fun (h3 : ¬ (x3 < (S 149825 x1.toNatClampNeg))) => ?_⟩
          · exact ⟨(by first | rfl | exact z_nb _), z_pb hpo ((if_pos h1).trans ((if_pos h2).trans ((if_pos h3).trans rfl))) (rfl) (rfl)⟩
          · refine ⟨(show vp_in x1 40 by assumption), ?_⟩
            refine ⟨fun (h4 : (S 162113 x1.toNatClampNeg) = (-1)) => ?_, fun (h4 : ¬ ((S 162113 x1.toNatClampNeg) = (-1))) => ?_⟩
            · exact ⟨(by first | rfl | exact z_nb _), z_pb hpo ((if_pos h1).trans ((if_pos h2).trans ((if_neg h3).trans ((if_pos h4).trans rfl)))) (rfl) (rfl)⟩
            · refine ⟨(show vp_in x1 40 by assumption), ?_⟩
              refine ⟨fun (h5 : (S 162113 x1.toNatClampNeg) ≤ x3) => ?_, fun (h5 : ¬ ((S 162113 x1.toNatClampNeg) ≤ x3)) => ?_⟩
              · exact ⟨(by first | rfl | exact z_nb _), z_pb hpo ((if_pos h1).trans ((if_pos h2).trans ((if_neg h3).trans ((if_neg h4).trans ((if_pos h5).trans rfl))))) (rfl) (rfl)⟩
              · exact ⟨(by first | rfl | exact z_nb _), z_pb hpo ((if_pos h1).trans ((if_pos h2).trans ((if_neg h3).trans ((if_neg h4).trans ((if_neg h5).trans rfl))))) (rfl) (rfl)⟩
    · exact h.elim
def l_X7_leftIn_6 (S : z_MI) (P : z_ML) (x1 : Int32) (x2 : Int32) (k6 : Nat) (a6 : Int32) : Int32 :=
  if (f_X7_counts S P (nI k6) x1 x2) = true then
    if (S 155969 ((nI k6).toNatClampNeg)) = 0 then
      a6 &&& ((S 153921 ((nI k6).toNatClampNeg)) ^^^ (-1))
    else
      if (S 155969 ((nI k6).toNatClampNeg)) = (nI 1) then
        if (S 158017 ((nI k6).toNatClampNeg)) < x2 then
          a6 &&& (nI 31)
        else
          a6 &&& ((S 153921 ((nI k6).toNatClampNeg)) ^^^ (-1))
      else
        a6 &&& (nI 31)
  else
    a6 &&& (nI 31)
def f_X7_leftIn (S : z_MI) (P : z_ML) (x1 : Int32) (x2 : Int32) : Int32 :=
  (z_fo (fun k6 a6 => l_X7_leftIn_6 S P x1 x2 k6 a6) (nI 31) (S 110648 24).toNatClampNeg)
def sp_X7_leftIn : z_SP := fun as S P k => match as with
  | [.int x1, .int x2] => z_le (S 110648 24) 40 ∧ k (some (.int (f_X7_leftIn S P x1 x2))) S P
  | _ => False
def G_X7_leftIn : z_G := ([(0, .bipush 31, 2, 0), (2, .istore_n 3, 3, 0), (3, .iconst 0, 4, 0), (4, .istore 4, 6, 0), (6, .iload 4, 8, 0), (8, .aload_n 0, 9, 0), (9, .getfield 164, 12, 0), (12, .if_icmp .ge 81, 15, 93), (15, .aload_n 0, 16, 0), (16, .iload 4, 18, 0), (18, .iload_n 1, 19, 0), (19, .iload_n 2, 20, 0), (20, .invokevirtual 237, 23, 0), (23, .ifCond .eq 39, 26, 62), (26, .aload_n 0, 27, 0), (27, .getfield 74, 30, 0), (30, .iload 4, 32, 0), (32, .iaload, 33, 0), (33, .ifCond .eq 25, 36, 58), (36, .aload_n 0, 37, 0), (37, .getfield 74, 40, 0), (40, .iload 4, 42, 0), (42, .iaload, 43, 0), (43, .iconst 1, 44, 0), (44, .if_icmp .ne 18, 47, 62), (47, .aload_n 0, 48, 0), (48, .getfield 77, 51, 0), (51, .iload 4, 53, 0), (53, .iaload, 54, 0), (54, .iload_n 2, 55, 0), (55, .if_icmp .lt 7, 58, 62), (58, .iconst 1, 59, 0), (59, .goto 4, 62, 63), (62, .iconst 0, 63, 0), (63, .istore 5, 65, 0), (65, .iload_n 3, 66, 0), (66, .iload 5, 68, 0), (68, .ifCond .eq 15, 71, 83), (71, .aload_n 0, 72, 0), (72, .getfield 71, 75, 0), (75, .iload 4, 77, 0), (77, .iaload, 78, 0), (78, .iconst (-1), 79, 0), (79, .ixor, 80, 0), (80, .goto 5, 83, 85), (83, .bipush 31, 85, 0), (85, .iand, 86, 0), (86, .istore_n 3, 87, 0), (87, .iinc 4 1, 90, 0), (90, .goto (-84), 93, 6), (93, .iload_n 3, 94, 0), (94, .ireturn, 95, 0)], [(71, 110648, 27, some 153921), (74, 110648, 28, some 155969), (77, 110648, 29, some 158017), (164, 110648, 24, none)], [(237, 4, (z_rc 110648 sp_X7_counts))], [], [], [], [], some .int)
set_option maxRecDepth 20000 in
set_option maxHeartbeats 4000000 in
theorem ct_X7_leftIn (l : Launch) : z_CT l yX7_leftIn cX7_leftIn 6 (some .int) (z_rc 110648 sp_X7_leftIn) 2 := by
  refine z_CT_of G_X7_leftIn (by decide) (by decide +kernel) (z_pok_of ft_X7 ci_X7 cL_X7_L fo_X7 co_X7 lo_X7 (by decide +kernel)) rfl rfl ?_ ?_ ?_
  · intro as S P Po h0
    obtain ⟨as, rfl, h⟩ := z_rc_of h0
    unfold sp_X7_leftIn at h
    split at h
    · exact Nat.le_of_ble_eq_true rfl
    · exact h.elim
  · exact List.forall_mem_cons.mpr ⟨z_coV (ct_X7_counts l) kb_X7_counts kv_X7_237 ko_X7 (by decide) (by decide) (by decide), fun _ h => absurd h List.not_mem_nil⟩
  · intro as S P Po h0 V hV hW
    obtain ⟨as, rfl, h⟩ := z_rc_of h0
    unfold sp_X7_leftIn at h
    split at h
    · rename_i x1 x2
      obtain ⟨hp0, hpo⟩ := h
      refine hV [6] 57 0 _ _ _ _ ?_
      obtain ⟨hb6, hN6⟩ := z_le_cl (show z_le (S 110648 24) 40 by assumption) (by decide)
      have hL6 : ∀ (j k6 : Nat) (x900 : Int32) (a6 : Int32), k6 + j = (S 110648 24).toNatClampNeg → x900 = nI k6 → a6 = z_fo (fun k6 a6 => l_X7_leftIn_6 S P x1 x2 k6 a6) (nI 31) k6 → V 6 [(0, .ref 110648), (1, .int x1), (2, .int x2), (3, .int a6), (4, .int x900)] [] S P := by
        intro j
        induction j with
        | zero =>
          intro k6 x900 a6 hk6 hx6 ha6
          subst hx6
          have hk9 : k6 = (S 110648 24).toNatClampNeg := by omega
          subst hk9
          subst ha6
          refine hV [6] 57 6 _ _ _ _ ?_
          refine ⟨fun _ => ?_, fun h => absurd ((z_brge hb6 (by omega) (by omega)).mpr (Nat.le_refl _)) h⟩
          exact z_pi hpo (rfl) (rfl) (rfl)
        | succ j ih =>
          intro k6 x900 a6 hk6 hx6 ha6
          subst hx6
          have hk9 : k6 < (S 110648 24).toNatClampNeg := by omega
          subst ha6
          refine hV [6] 57 6 _ _ _ _ ?_
          refine ⟨fun h => absurd ((z_brge hb6 (by omega) (by omega)).mp h) (by omega), fun _ => ?_⟩
          refine ⟨(show vp_in (nI k6) 40 by exact vp_in_nI (by omega) (by omega)), ?_⟩
          refine z_br (fun (h2 : (f_X7_counts S P (nI k6) x1 x2) = false) => ?_) (fun (h2 : (f_X7_counts S P (nI k6) x1 x2) = true) => ?_)
          · refine ⟨fun _ => ?_, fun h => absurd (by decide) h⟩
            exact hW [0, 1, 2, 3, 4] _ _ _ _ _ (ih (k6 + 1) _ ((z_fo (fun k6 a6 => l_X7_leftIn_6 S P x1 x2 k6 a6) (nI 31) k6) &&& (nI 31)) (by omega) (nI_add k6 1) (((if_neg (z_nt h2)).trans rfl).symm))
          · refine ⟨(show vp_in (nI k6) 40 by exact vp_in_nI (by omega) (by omega)), ?_⟩
            refine ⟨fun (h3 : (S 155969 ((nI k6).toNatClampNeg)) = 0) => ?_, fun (h3 : ¬ ((S 155969 ((nI k6).toNatClampNeg)) = 0)) => ?_⟩
            · refine ⟨fun h => absurd h (by decide), fun _ => ?_⟩
              refine ⟨(show vp_in (nI k6) 40 by exact vp_in_nI (by omega) (by omega)), ?_⟩
              exact hW [0, 1, 2, 3, 4] _ _ _ _ _ (ih (k6 + 1) _ ((z_fo (fun k6 a6 => l_X7_leftIn_6 S P x1 x2 k6 a6) (nI 31) k6) &&& ((S 153921 ((nI k6).toNatClampNeg)) ^^^ (-1))) (by omega) (nI_add k6 1) (((if_pos h2).trans ((if_pos h3).trans rfl)).symm))
            · refine ⟨(show vp_in (nI k6) 40 by exact vp_in_nI (by omega) (by omega)), ?_⟩
              refine ⟨fun (h4 : ¬ ((S 155969 ((nI k6).toNatClampNeg)) = (nI 1))) => ?_, fun (h4 : (S 155969 ((nI k6).toNatClampNeg)) = (nI 1)) => ?_⟩
              · refine ⟨fun _ => ?_, fun h => absurd (by decide) h⟩
                exact hW [0, 1, 2, 3, 4] _ _ _ _ _ (ih (k6 + 1) _ ((z_fo (fun k6 a6 => l_X7_leftIn_6 S P x1 x2 k6 a6) (nI 31) k6) &&& (nI 31)) (by omega) (nI_add k6 1) (((if_pos h2).trans ((if_neg h3).trans ((if_neg h4).trans rfl))).symm))
              · refine ⟨(show vp_in (nI k6) 40 by exact vp_in_nI (by omega) (by omega)), ?_⟩
                refine ⟨fun (h5 : (S 158017 ((nI k6).toNatClampNeg)) < x2) => ?_, fun (h5 : ¬ ((S 158017 ((nI k6).toNatClampNeg)) < x2)) => ?_⟩
                · refine ⟨fun _ => ?_, fun h => absurd (by decide) h⟩
                  exact hW [0, 1, 2, 3, 4] _ _ _ _ _ (ih (k6 + 1) _ ((z_fo (fun k6 a6 => l_X7_leftIn_6 S P x1 x2 k6 a6) (nI 31) k6) &&& (nI 31)) (by omega) (nI_add k6 1) (((if_pos h2).trans ((if_neg h3).trans ((if_pos h4).trans ((if_pos h5).trans rfl)))).symm))
                · refine ⟨fun h => absurd h (by decide), fun _ => ?_⟩
                  refine ⟨(show vp_in (nI k6) 40 by exact vp_in_nI (by omega) (by omega)), ?_⟩
                  exact hW [0, 1, 2, 3, 4] _ _ _ _ _ (ih (k6 + 1) _ ((z_fo (fun k6 a6 => l_X7_leftIn_6 S P x1 x2 k6 a6) (nI 31) k6) &&& ((S 153921 ((nI k6).toNatClampNeg)) ^^^ (-1))) (by omega) (nI_add k6 1) (((if_pos h2).trans ((if_neg h3).trans ((if_pos h4).trans ((if_neg h5).trans rfl)))).symm))
      exact hW [0, 1, 2, 3, 4] _ _ _ _ _ (hL6 (S 110648 24).toNatClampNeg 0 _ (nI 31) (Nat.zero_add _) rfl rfl)
    · exact h.elim
def l_X7_hasOther_4 (S : z_MI) (P : z_ML) (x1 : Int32) (k4 : Nat) (a4 : Int32) : Int32 :=
  if a4 = 0 then
    if (nI k4) = x1 then
      nI 0
    else
      if (S 165985 ((nI k4).toNatClampNeg)) = (S 165985 x1.toNatClampNeg) then
        if (S 172129 ((nI k4).toNatClampNeg)) = (nI 1) then
          if ((S 168033 ((nI k4).toNatClampNeg)) &&& (S 168033 x1.toNatClampNeg)) = 0 then
            nI 0
          else
            nI 1
        else
          nI 0
      else
        nI 0
  else
    nI 1
def f_X7_hasOther (S : z_MI) (P : z_ML) (x1 : Int32) : Bool :=
  z_i2b (z_fo (fun k4 a4 => l_X7_hasOther_4 S P x1 k4 a4) (nI 0) (S 110648 33).toNatClampNeg)
def sp_X7_hasOther : z_SP := fun as S P k => match as with
  | [.int x1] => z_le (S 110648 33) 12 ∧ vp_in x1 12 ∧ k (some (.int (z_b (f_X7_hasOther S P x1)))) S P
  | _ => False
def G_X7_hasOther : z_G := ([(0, .iconst 0, 1, 0), (1, .istore_n 2, 2, 0), (2, .iconst 0, 3, 0), (3, .istore_n 3, 4, 0), (4, .iload_n 3, 5, 0), (5, .aload_n 0, 6, 0), (6, .getfield 167, 9, 0), (9, .if_icmp .ge 65, 12, 74), (12, .iload_n 2, 13, 0), (13, .ifCond .ne 49, 16, 62), (16, .iload_n 3, 17, 0), (17, .iload_n 1, 18, 0), (18, .if_icmp .eq 48, 21, 66), (21, .aload_n 0, 22, 0), (22, .getfield 90, 25, 0), (25, .iload_n 3, 26, 0), (26, .iaload, 27, 0), (27, .aload_n 0, 28, 0), (28, .getfield 90, 31, 0), (31, .iload_n 1, 32, 0), (32, .iaload, 33, 0), (33, .if_icmp .ne 33, 36, 66), (36, .aload_n 0, 37, 0), (37, .getfield 99, 40, 0), (40, .iload_n 3, 41, 0), (41, .iaload, 42, 0), (42, .iconst 1, 43, 0), (43, .if_icmp .ne 23, 46, 66), (46, .aload_n 0, 47, 0), (47, .getfield 93, 50, 0), (50, .iload_n 3, 51, 0), (51, .iaload, 52, 0), (52, .aload_n 0, 53, 0), (53, .getfield 93, 56, 0), (56, .iload_n 1, 57, 0), (57, .iaload, 58, 0), (58, .iand, 59, 0), (59, .ifCond .eq 7, 62, 66), (62, .iconst 1, 63, 0), (63, .goto 4, 66, 67), (66, .iconst 0, 67, 0), (67, .istore_n 2, 68, 0), (68, .iinc 3 1, 71, 0), (71, .goto (-67), 74, 4), (74, .iload_n 2, 75, 0), (75, .ireturn, 76, 0)], [(90, 110648, 34, some 165985), (93, 110648, 35, some 168033), (99, 110648, 37, some 172129), (167, 110648, 33, none)], [], [], [], [], [], some .boolean)
set_option maxRecDepth 20000 in
set_option maxHeartbeats 4000000 in
theorem ct_X7_hasOther (l : Launch) : z_CT l yX7_hasOther cX7_hasOther 4 (some .boolean) (z_rc 110648 sp_X7_hasOther) 0 := by
  refine z_CT_of G_X7_hasOther (by decide) (by decide +kernel) (z_pok_of ft_X7 ci_X7 cL_X7_L fo_X7 co_X7 lo_X7 (by decide +kernel)) rfl rfl ?_ ?_ ?_
  · intro as S P Po h0
    obtain ⟨as, rfl, h⟩ := z_rc_of h0
    unfold sp_X7_hasOther at h
    split at h
    · exact Nat.le_of_ble_eq_true rfl
    · exact h.elim
  · exact fun _ h => absurd h List.not_mem_nil
  · intro as S P Po h0 V hV hW
    obtain ⟨as, rfl, h⟩ := z_rc_of h0
    unfold sp_X7_hasOther at h
    split at h
    · rename_i x1
      obtain ⟨hp0, hp1, hpo⟩ := h
      refine hV [4] 51 0 _ _ _ _ ?_
      obtain ⟨hb4, hN4⟩ := z_le_cl (show z_le (S 110648 33) 12 by assumption) (by decide)
      have hL4 : ∀ (j k4 : Nat) (x900 : Int32) (a4 : Int32), k4 + j = (S 110648 33).toNatClampNeg → x900 = nI k4 → a4 = z_fo (fun k4 a4 => l_X7_hasOther_4 S P x1 k4 a4) (nI 0) k4 → V 4 [(0, .ref 110648), (1, .int x1), (2, .int a4), (3, .int x900)] [] S P := by
        intro j
        induction j with
        | zero =>
          intro k4 x900 a4 hk4 hx4 ha4
          subst hx4
          have hk9 : k4 = (S 110648 33).toNatClampNeg := by omega
          subst hk9
          subst ha4
          refine hV [4] 51 4 _ _ _ _ ?_
          refine ⟨fun _ => ?_, fun h => absurd ((z_brge hb4 (by omega) (by omega)).mpr (Nat.le_refl _)) h⟩
          exact z_pbi hpo (rfl) (rfl) (rfl) ((z_bi_fo (Or.inl rfl) (fun k b _ => by unfold l_X7_hasOther_4; (repeat' split); all_goals first | exact Or.inl rfl | exact Or.inr rfl)))
        | succ j ih =>
          intro k4 x900 a4 hk4 hx4 ha4
          subst hx4
          have hk9 : k4 < (S 110648 33).toNatClampNeg := by omega
          subst ha4
          refine hV [4] 51 4 _ _ _ _ ?_
          refine ⟨fun h => absurd ((z_brge hb4 (by omega) (by omega)).mp h) (by omega), fun _ => ?_⟩
          refine ⟨fun (h2 : ¬ ((z_fo (fun k4 a4 => l_X7_hasOther_4 S P x1 k4 a4) (nI 0) k4) = 0)) => ?_, fun (h2 : (z_fo (fun k4 a4 => l_X7_hasOther_4 S P x1 k4 a4) (nI 0) k4) = 0) => ?_⟩
          · exact hW [0, 1, 2, 3] _ _ _ _ _ (ih (k4 + 1) _ (nI 1) (by omega) (nI_add k4 1) (((if_neg h2).trans rfl).symm))
          · refine ⟨fun (h3 : (nI k4) = x1) => ?_, fun (h3 : ¬ ((nI k4) = x1)) => ?_⟩
            · exact hW [0, 1, 2, 3] _ _ _ _ _ (ih (k4 + 1) _ (nI 0) (by omega) (nI_add k4 1) (((if_pos h2).trans ((if_pos h3).trans rfl)).symm))
            · refine ⟨(show vp_in (nI k4) 12 by exact vp_in_nI (by omega) (by omega)), ?_⟩
              refine ⟨(show vp_in x1 12 by assumption), ?_⟩
              refine ⟨fun (h4 : ¬ ((S 165985 ((nI k4).toNatClampNeg)) = (S 165985 x1.toNatClampNeg))) => ?_, fun (h4 : (S 165985 ((nI k4).toNatClampNeg)) = (S 165985 x1.toNatClampNeg)) => ?_⟩
              · exact hW [0, 1, 2, 3] _ _ _ _ _ (ih (k4 + 1) _ (nI 0) (by omega) (nI_add k4 1) (((if_pos h2).trans ((if_neg h3).trans ((if_neg h4).trans rfl))).symm))
              · refine ⟨(show vp_in (nI k4) 12 by exact vp_in_nI (by omega) (by omega)), ?_⟩
                refine ⟨fun (h5 : ¬ ((S 172129 ((nI k4).toNatClampNeg)) = (nI 1))) => ?_, fun (h5 : (S 172129 ((nI k4).toNatClampNeg)) = (nI 1)) => ?_⟩
                · exact hW [0, 1, 2, 3] _ _ _ _ _ (ih (k4 + 1) _ (nI 0) (by omega) (nI_add k4 1) (((if_pos h2).trans ((if_neg h3).trans ((if_pos h4).trans ((if_neg h5).trans rfl)))).symm))
                · refine ⟨(show vp_in (nI k4) 12 by exact vp_in_nI (by omega) (by omega)), ?_⟩
                  refine ⟨(show vp_in x1 12 by assumption), ?_⟩
                  refine ⟨fun (h6 : ((S 168033 ((nI k4).toNatClampNeg)) &&& (S 168033 x1.toNatClampNeg)) = 0) => ?_, fun (h6 : ¬ (((S 168033 ((nI k4).toNatClampNeg)) &&& (S 168033 x1.toNatClampNeg)) = 0)) => ?_⟩
                  · exact hW [0, 1, 2, 3] _ _ _ _ _ (ih (k4 + 1) _ (nI 0) (by omega) (nI_add k4 1) (((if_pos h2).trans ((if_neg h3).trans ((if_pos h4).trans ((if_pos h5).trans ((if_pos h6).trans rfl))))).symm))
                  · exact hW [0, 1, 2, 3] _ _ _ _ _ (ih (k4 + 1) _ (nI 1) (by omega) (nI_add k4 1) (((if_pos h2).trans ((if_neg h3).trans ((if_pos h4).trans ((if_pos h5).trans ((if_neg h6).trans rfl))))).symm))
      exact hW [0, 1, 2, 3] _ _ _ _ _ (hL4 (S 110648 33).toNatClampNeg 0 _ (nI 0) (Nat.zero_add _) rfl rfl)
    · exact h.elim
def u_X7_grants (S : z_MI) (P : z_ML) (x1 : Int32) : z_MI :=
  if ((upd (S 174177) x1.toNatClampNeg (f_X7_provedOf S P x1)) x1.toNatClampNeg) = 0 then
    va_up (va_up S 174177 (upd (S 174177) x1.toNatClampNeg (f_X7_provedOf S P x1))) 172129 (upd ((va_up S 174177 (upd (S 174177) x1.toNatClampNeg (f_X7_provedOf S P x1))) 172129) x1.toNatClampNeg (nI 3))
  else
    va_up (va_up S 174177 (upd (S 174177) x1.toNatClampNeg (f_X7_provedOf S P x1))) 172129 (upd ((va_up S 174177 (upd (S 174177) x1.toNatClampNeg (f_X7_provedOf S P x1))) 172129) x1.toNatClampNeg (nI 2))
def sp_X7_grants : z_SP := fun as S P k => match as with
  | [.int x1] => vp_in x1 12 ∧ z_le (S 110648 16) 60 ∧ vp_in (S 165985 x1.toNatClampNeg) 6 ∧ z_le (S 143409 (S 165985 x1.toNatClampNeg).toNatClampNeg) 8 ∧ z_le (S 110648 1) 5000 ∧ k (none) (u_X7_grants S P x1) P
  | _ => False
def G_X7_grants : z_G := ([(0, .aload_n 0, 1, 0), (1, .getfield 102, 4, 0), (4, .iload_n 1, 5, 0), (5, .aload_n 0, 6, 0), (6, .iload_n 1, 7, 0), (7, .invokevirtual 250, 10, 0), (10, .iastore, 11, 0), (11, .aload_n 0, 12, 0), (12, .getfield 99, 15, 0), (15, .iload_n 1, 16, 0), (16, .aload_n 0, 17, 0), (17, .getfield 102, 20, 0), (20, .iload_n 1, 21, 0), (21, .iaload, 22, 0), (22, .ifCond .ne 7, 25, 29), (25, .iconst 3, 26, 0), (26, .goto 4, 29, 30), (29, .iconst 2, 30, 0), (30, .iastore, 31, 0), (31, .return_, 32, 0)], [(99, 110648, 37, some 172129), (102, 110648, 38, some 174177)], [(250, 2, (z_rc 110648 sp_X7_provedOf))], [], [], [], [], none)
set_option maxRecDepth 20000 in
set_option maxHeartbeats 4000000 in
theorem ct_X7_grants (l : Launch) : z_CT l yX7_grants cX7_grants 2 (none) (z_rc 110648 sp_X7_grants) 3 := by
  refine z_CT_of G_X7_grants (by decide) (by decide +kernel) (z_pok_of ft_X7 ci_X7 cL_X7_L fo_X7 co_X7 lo_X7 (by decide +kernel)) rfl rfl ?_ ?_ ?_
  · intro as S P Po h0
    obtain ⟨as, rfl, h⟩ := z_rc_of h0
    unfold sp_X7_grants at h
    split at h
    · exact Nat.le_of_ble_eq_true rfl
    · exact h.elim
  · exact List.forall_mem_cons.mpr ⟨z_coV (ct_X7_provedOf l) kb_X7_provedOf kv_X7_250 ko_X7 (by decide) (by decide) (by decide), fun _ h => absurd h List.not_mem_nil⟩
  · intro as S P Po h0 V hV hW
    obtain ⟨as, rfl, h⟩ := z_rc_of h0
    unfold sp_X7_grants at h
    split at h
    · rename_i x1
      obtain ⟨hp0, hp1, hp2, hp3, hp4, hpo⟩ := h
      refine hV [] 25 0 _ _ _ _ ?_
      refine ⟨(show vp_in x1 12 by assumption), (show z_le (S 110648 16) 60 by assumption), (show vp_in (S 165985 x1.toNatClampNeg) 6 by assumption), (show z_le (S 143409 (S 165985 x1.toNatClampNeg).toNatClampNeg) 8 by assumption), (show z_le (S 110648 1) 5000 by assumption), ?_⟩
      refine ⟨(show vp_in x1 12 by assumption), ?_⟩
      refine ⟨(show vp_in x1 12 by assumption), ?_⟩
      refine ⟨fun (h1 : ¬ (((upd (S 174177) x1.toNatClampNeg (f_X7_provedOf S P x1)) x1.toNatClampNeg) = 0)) => ?_, fun (h1 : ((upd (S 174177) x1.toNatClampNeg (f_X7_provedOf S P x1)) x1.toNatClampNeg) = 0) => ?_⟩
      · refine ⟨(show vp_in x1 12 by assumption), ?_⟩
        exact z_pv hpo ((if_neg h1).trans rfl) (rfl)
      · refine ⟨(show vp_in x1 12 by assumption), ?_⟩
        exact z_pv hpo ((if_pos h1).trans rfl) (rfl)
    · exact h.elim
def f_X7_isStrong (S : z_MI) (P : z_ML) (x1 : Int32) : Bool :=
  if (S 172129 x1.toNatClampNeg) = (nI 1) then
    true
  else
    if (S 172129 x1.toNatClampNeg) = (nI 2) then
      true
    else
      false
def sp_X7_isStrong : z_SP := fun as S P k => match as with
  | [.int x1] => vp_in x1 12 ∧ k (some (.int (z_b (f_X7_isStrong S P x1)))) S P
  | _ => False
def G_X7_isStrong : z_G := ([(0, .aload_n 0, 1, 0), (1, .getfield 99, 4, 0), (4, .iload_n 1, 5, 0), (5, .iaload, 6, 0), (6, .iconst 1, 7, 0), (7, .if_icmp .eq 13, 10, 20), (10, .aload_n 0, 11, 0), (11, .getfield 99, 14, 0), (14, .iload_n 1, 15, 0), (15, .iaload, 16, 0), (16, .iconst 2, 17, 0), (17, .if_icmp .ne 7, 20, 24), (20, .iconst 1, 21, 0), (21, .goto 4, 24, 25), (24, .iconst 0, 25, 0), (25, .ireturn, 26, 0)], [(99, 110648, 37, some 172129)], [], [], [], [], [], some .boolean)
set_option maxRecDepth 20000 in
set_option maxHeartbeats 4000000 in
theorem ct_X7_isStrong (l : Launch) : z_CT l yX7_isStrong cX7_isStrong 2 (some .boolean) (z_rc 110648 sp_X7_isStrong) 0 := by
  refine z_CT_of G_X7_isStrong (by decide) (by decide +kernel) (z_pok_of ft_X7 ci_X7 cL_X7_L fo_X7 co_X7 lo_X7 (by decide +kernel)) rfl rfl ?_ ?_ ?_
  · intro as S P Po h0
    obtain ⟨as, rfl, h⟩ := z_rc_of h0
    unfold sp_X7_isStrong at h
    split at h
    · exact Nat.le_of_ble_eq_true rfl
    · exact h.elim
  · exact fun _ h => absurd h List.not_mem_nil
  · intro as S P Po h0 V hV hW
    obtain ⟨as, rfl, h⟩ := z_rc_of h0
    unfold sp_X7_isStrong at h
    split at h
    · rename_i x1
      obtain ⟨hp0, hpo⟩ := h
      refine hV [] 21 0 _ _ _ _ ?_
      refine ⟨(show vp_in x1 12 by assumption), ?_⟩
      refine ⟨fun (h1 : (S 172129 x1.toNatClampNeg) = (nI 1)) => ?_, fun (h1 : ¬ ((S 172129 x1.toNatClampNeg) = (nI 1))) => ?_⟩
      · exact ⟨(by first | rfl | exact z_nb _), z_pb hpo ((if_pos h1).trans rfl) (rfl) (rfl)⟩
      · refine ⟨(show vp_in x1 12 by assumption), ?_⟩
        refine ⟨fun (h2 : ¬ ((S 172129 x1.toNatClampNeg) = (nI 2))) => ?_, fun (h2 : (S 172129 x1.toNatClampNeg) = (nI 2)) => ?_⟩
        · exact ⟨(by first | rfl | exact z_nb _), z_pb hpo ((if_neg h1).trans ((if_neg h2).trans rfl)) (rfl) (rfl)⟩
        · exact ⟨(by first | rfl | exact z_nb _), z_pb hpo ((if_neg h1).trans ((if_pos h2).trans rfl)) (rfl) (rfl)⟩
    · exact h.elim
def l_X7_rivals_4 (S : z_MI) (P : z_ML) (x1 : Int32) (k4 : Nat) (a4 : Int32) : Int32 :=
  if (S 165985 ((nI k4).toNatClampNeg)) = (S 165985 x1.toNatClampNeg) then
    a4 ||| (nI 0)
  else
    if (f_X7_isStrong S P (nI k4)) = true then
      if ((S 168033 ((nI k4).toNatClampNeg)) &&& (S 168033 x1.toNatClampNeg)) = 0 then
        a4 ||| (nI 0)
      else
        a4 ||| ((nI 1) <<< ((nI k4) &&& 31))
    else
      a4 ||| (nI 0)
def f_X7_rivals (S : z_MI) (P : z_ML) (x1 : Int32) : Int32 :=
  (z_fo (fun k4 a4 => l_X7_rivals_4 S P x1 k4 a4) (nI 0) (S 110648 33).toNatClampNeg)
def sp_X7_rivals : z_SP := fun as S P k => match as with
  | [.int x1] => z_le (S 110648 33) 12 ∧ vp_in x1 12 ∧ k (some (.int (f_X7_rivals S P x1))) S P
  | _ => False
def G_X7_rivals : z_G := ([(0, .iconst 0, 1, 0), (1, .istore_n 2, 2, 0), (2, .iconst 0, 3, 0), (3, .istore_n 3, 4, 0), (4, .iload_n 3, 5, 0), (5, .aload_n 0, 6, 0), (6, .getfield 167, 9, 0), (9, .if_icmp .ge 70, 12, 79), (12, .aload_n 0, 13, 0), (13, .getfield 90, 16, 0), (16, .iload_n 3, 17, 0), (17, .iaload, 18, 0), (18, .aload_n 0, 19, 0), (19, .getfield 90, 22, 0), (22, .iload_n 1, 23, 0), (23, .iaload, 24, 0), (24, .if_icmp .eq 31, 27, 55), (27, .aload_n 0, 28, 0), (28, .iload_n 3, 29, 0), (29, .invokevirtual 260, 32, 0), (32, .ifCond .eq 23, 35, 55), (35, .aload_n 0, 36, 0), (36, .getfield 93, 39, 0), (39, .iload_n 3, 40, 0), (40, .iaload, 41, 0), (41, .aload_n 0, 42, 0), (42, .getfield 93, 45, 0), (45, .iload_n 1, 46, 0), (46, .iaload, 47, 0), (47, .iand, 48, 0), (48, .ifCond .eq 7, 51, 55), (51, .iconst 1, 52, 0), (52, .goto 4, 55, 56), (55, .iconst 0, 56, 0), (56, .istore 4, 58, 0), (58, .iload_n 2, 59, 0), (59, .iload 4, 61, 0), (61, .ifCond .eq 9, 64, 70), (64, .iconst 1, 65, 0), (65, .iload_n 3, 66, 0), (66, .ishl, 67, 0), (67, .goto 4, 70, 71), (70, .iconst 0, 71, 0), (71, .ior, 72, 0), (72, .istore_n 2, 73, 0), (73, .iinc 3 1, 76, 0), (76, .goto (-72), 79, 4), (79, .iload_n 2, 80, 0), (80, .ireturn, 81, 0)], [(90, 110648, 34, some 165985), (93, 110648, 35, some 168033), (167, 110648, 33, none)], [(260, 2, (z_rc 110648 sp_X7_isStrong))], [], [], [], [], some .int)
set_option maxRecDepth 20000 in
set_option maxHeartbeats 4000000 in
theorem ct_X7_rivals (l : Launch) : z_CT l yX7_rivals cX7_rivals 5 (some .int) (z_rc 110648 sp_X7_rivals) 1 := by
  refine z_CT_of G_X7_rivals (by decide) (by decide +kernel) (z_pok_of ft_X7 ci_X7 cL_X7_L fo_X7 co_X7 lo_X7 (by decide +kernel)) rfl rfl ?_ ?_ ?_
  · intro as S P Po h0
    obtain ⟨as, rfl, h⟩ := z_rc_of h0
    unfold sp_X7_rivals at h
    split at h
    · exact Nat.le_of_ble_eq_true rfl
    · exact h.elim
  · exact List.forall_mem_cons.mpr ⟨z_coV (ct_X7_isStrong l) kb_X7_isStrong kv_X7_260 ko_X7 (by decide) (by decide) (by decide), fun _ h => absurd h List.not_mem_nil⟩
  · intro as S P Po h0 V hV hW
    obtain ⟨as, rfl, h⟩ := z_rc_of h0
    unfold sp_X7_rivals at h
    split at h
    · rename_i x1
      obtain ⟨hp0, hp1, hpo⟩ := h
      refine hV [4] 54 0 _ _ _ _ ?_
      obtain ⟨hb4, hN4⟩ := z_le_cl (show z_le (S 110648 33) 12 by assumption) (by decide)
      have hL4 : ∀ (j k4 : Nat) (x900 : Int32) (a4 : Int32), k4 + j = (S 110648 33).toNatClampNeg → x900 = nI k4 → a4 = z_fo (fun k4 a4 => l_X7_rivals_4 S P x1 k4 a4) (nI 0) k4 → V 4 [(0, .ref 110648), (1, .int x1), (2, .int a4), (3, .int x900)] [] S P := by
        intro j
        induction j with
        | zero =>
          intro k4 x900 a4 hk4 hx4 ha4
          subst hx4
          have hk9 : k4 = (S 110648 33).toNatClampNeg := by omega
          subst hk9
          subst ha4
          refine hV [4] 54 4 _ _ _ _ ?_
          refine ⟨fun _ => ?_, fun h => absurd ((z_brge hb4 (by omega) (by omega)).mpr (Nat.le_refl _)) h⟩
          exact z_pi hpo (rfl) (rfl) (rfl)
        | succ j ih =>
          intro k4 x900 a4 hk4 hx4 ha4
          subst hx4
          have hk9 : k4 < (S 110648 33).toNatClampNeg := by omega
          subst ha4
          refine hV [4] 54 4 _ _ _ _ ?_
          refine ⟨fun h => absurd ((z_brge hb4 (by omega) (by omega)).mp h) (by omega), fun _ => ?_⟩
          refine ⟨(show vp_in (nI k4) 12 by exact vp_in_nI (by omega) (by omega)), ?_⟩
          refine ⟨(show vp_in x1 12 by assumption), ?_⟩
          refine ⟨fun (h2 : (S 165985 ((nI k4).toNatClampNeg)) = (S 165985 x1.toNatClampNeg)) => ?_, fun (h2 : ¬ ((S 165985 ((nI k4).toNatClampNeg)) = (S 165985 x1.toNatClampNeg))) => ?_⟩
          · refine ⟨fun _ => ?_, fun h => absurd (by decide) h⟩
            exact hW [0, 1, 2, 3] _ _ _ _ _ (ih (k4 + 1) _ ((z_fo (fun k4 a4 => l_X7_rivals_4 S P x1 k4 a4) (nI 0) k4) ||| (nI 0)) (by omega) (nI_add k4 1) (((if_pos h2).trans rfl).symm))
          · refine ⟨(show vp_in (nI k4) 12 by exact vp_in_nI (by omega) (by omega)), ?_⟩
            refine z_br (fun (h3 : (f_X7_isStrong S P (nI k4)) = false) => ?_) (fun (h3 : (f_X7_isStrong S P (nI k4)) = true) => ?_)
            · refine ⟨fun _ => ?_, fun h => absurd (by decide) h⟩
              exact hW [0, 1, 2, 3] _ _ _ _ _ (ih (k4 + 1) _ ((z_fo (fun k4 a4 => l_X7_rivals_4 S P x1 k4 a4) (nI 0) k4) ||| (nI 0)) (by omega) (nI_add k4 1) (((if_neg h2).trans ((if_neg (z_nt h3)).trans rfl)).symm))
            · refine ⟨(show vp_in (nI k4) 12 by exact vp_in_nI (by omega) (by omega)), ?_⟩
              refine ⟨(show vp_in x1 12 by assumption), ?_⟩
              refine ⟨fun (h4 : ((S 168033 ((nI k4).toNatClampNeg)) &&& (S 168033 x1.toNatClampNeg)) = 0) => ?_, fun (h4 : ¬ (((S 168033 ((nI k4).toNatClampNeg)) &&& (S 168033 x1.toNatClampNeg)) = 0)) => ?_⟩
              · refine ⟨fun _ => ?_, fun h => absurd (by decide) h⟩
                exact hW [0, 1, 2, 3] _ _ _ _ _ (ih (k4 + 1) _ ((z_fo (fun k4 a4 => l_X7_rivals_4 S P x1 k4 a4) (nI 0) k4) ||| (nI 0)) (by omega) (nI_add k4 1) (((if_neg h2).trans ((if_pos h3).trans ((if_pos h4).trans rfl))).symm))
              · refine ⟨fun h => absurd h (by decide), fun _ => ?_⟩
                exact hW [0, 1, 2, 3] _ _ _ _ _ (ih (k4 + 1) _ ((z_fo (fun k4 a4 => l_X7_rivals_4 S P x1 k4 a4) (nI 0) k4) ||| ((nI 1) <<< ((nI k4) &&& 31))) (by omega) (nI_add k4 1) (((if_neg h2).trans ((if_pos h3).trans ((if_neg h4).trans rfl))).symm))
      exact hW [0, 1, 2, 3] _ _ _ _ _ (hL4 (S 110648 33).toNatClampNeg 0 _ (nI 0) (Nat.zero_add _) rfl rfl)
    · exact h.elim
def f_X7_isGranted (S : z_MI) (P : z_ML) (x1 : Int32) (x2 : Int32) : Bool :=
  if (S 172129 x1.toNatClampNeg) = (nI 2) then
    if (f_X7_has S P (S 174177 x1.toNatClampNeg) x2) = true then
      true
    else
      false
  else
    false
def sp_X7_isGranted : z_SP := fun as S P k => match as with
  | [.int x1, .int x2] => vp_in x1 12 ∧ k (some (.int (z_b (f_X7_isGranted S P x1 x2)))) S P
  | _ => False
def G_X7_isGranted : z_G := ([(0, .aload_n 0, 1, 0), (1, .getfield 99, 4, 0), (4, .iload_n 1, 5, 0), (5, .iaload, 6, 0), (6, .iconst 2, 7, 0), (7, .if_icmp .ne 20, 10, 27), (10, .aload_n 0, 11, 0), (11, .getfield 102, 14, 0), (14, .iload_n 1, 15, 0), (15, .iaload, 16, 0), (16, .iload_n 2, 17, 0), (17, .invokestatic 180, 20, 0), (20, .ifCond .eq 7, 23, 27), (23, .iconst 1, 24, 0), (24, .goto 4, 27, 28), (27, .iconst 0, 28, 0), (28, .ireturn, 29, 0)], [(99, 110648, 37, some 172129), (102, 110648, 38, some 174177)], [(100180, 2, sp_X7_has)], [], [], [], [], some .boolean)
set_option maxRecDepth 20000 in
set_option maxHeartbeats 4000000 in
theorem ct_X7_isGranted (l : Launch) : z_CT l yX7_isGranted cX7_isGranted 3 (some .boolean) (z_rc 110648 sp_X7_isGranted) 1 := by
  refine z_CT_of G_X7_isGranted (by decide) (by decide +kernel) (z_pok_of ft_X7 ci_X7 cL_X7_L fo_X7 co_X7 lo_X7 (by decide +kernel)) rfl rfl ?_ ?_ ?_
  · intro as S P Po h0
    obtain ⟨as, rfl, h⟩ := z_rc_of h0
    unfold sp_X7_isGranted at h
    split at h
    · exact Nat.le_of_ble_eq_true rfl
    · exact h.elim
  · exact List.forall_mem_cons.mpr ⟨z_coS (ct_X7_has l) kb_X7_has ks_X7_180 (by decide) (by decide), fun _ h => absurd h List.not_mem_nil⟩
  · intro as S P Po h0 V hV hW
    obtain ⟨as, rfl, h⟩ := z_rc_of h0
    unfold sp_X7_isGranted at h
    split at h
    · rename_i x1 x2
      obtain ⟨hp0, hpo⟩ := h
      refine hV [] 22 0 _ _ _ _ ?_
      refine ⟨(show vp_in x1 12 by assumption), ?_⟩
      refine ⟨fun (h1 : ¬ ((S 172129 x1.toNatClampNeg) = (nI 2))) => ?_, fun (h1 : (S 172129 x1.toNatClampNeg) = (nI 2)) => ?_⟩
      · exact ⟨(by first | rfl | exact z_nb _), z_pb hpo ((if_neg h1).trans rfl) (rfl) (rfl)⟩
      · refine ⟨(show vp_in x1 12 by assumption), ?_⟩
        refine z_br (fun (h2 : (f_X7_has S P (S 174177 x1.toNatClampNeg) x2) = false) => ?_) (fun (h2 : (f_X7_has S P (S 174177 x1.toNatClampNeg) x2) = true) => ?_)
        · exact ⟨(by first | rfl | exact z_nb _), z_pb hpo ((if_pos h1).trans ((if_neg (z_nt h2)).trans rfl)) (rfl) (rfl)⟩
        · exact ⟨(by first | rfl | exact z_nb _), z_pb hpo ((if_pos h1).trans ((if_pos h2).trans rfl)) (rfl) (rfl)⟩
    · exact h.elim
def l_X7_holdersOf_4 (S : z_MI) (P : z_ML) (x1 : Int32) (k4 : Nat) (a4 : Int32) : Int32 :=
  if (f_X7_isGranted S P (nI k4) x1) = true then
    a4 ||| ((nI 1) <<< ((S 165985 ((nI k4).toNatClampNeg)) &&& 31))
  else
    a4 ||| (nI 0)
def f_X7_holdersOf (S : z_MI) (P : z_ML) (x1 : Int32) : Int32 :=
  (z_fo (fun k4 a4 => l_X7_holdersOf_4 S P x1 k4 a4) (nI 0) (S 110648 33).toNatClampNeg)
def sp_X7_holdersOf : z_SP := fun as S P k => match as with
  | [.int x1] => z_le (S 110648 33) 12 ∧ k (some (.int (f_X7_holdersOf S P x1))) S P
  | _ => False
def G_X7_holdersOf : z_G := ([(0, .iconst 0, 1, 0), (1, .istore_n 2, 2, 0), (2, .iconst 0, 3, 0), (3, .istore_n 3, 4, 0), (4, .iload_n 3, 5, 0), (5, .aload_n 0, 6, 0), (6, .getfield 167, 9, 0), (9, .if_icmp .ge 33, 12, 42), (12, .iload_n 2, 13, 0), (13, .aload_n 0, 14, 0), (14, .iload_n 3, 15, 0), (15, .iload_n 1, 16, 0), (16, .invokevirtual 266, 19, 0), (19, .ifCond .eq 14, 22, 33), (22, .iconst 1, 23, 0), (23, .aload_n 0, 24, 0), (24, .getfield 90, 27, 0), (27, .iload_n 3, 28, 0), (28, .iaload, 29, 0), (29, .ishl, 30, 0), (30, .goto 4, 33, 34), (33, .iconst 0, 34, 0), (34, .ior, 35, 0), (35, .istore_n 2, 36, 0), (36, .iinc 3 1, 39, 0), (39, .goto (-35), 42, 4), (42, .iload_n 2, 43, 0), (43, .ireturn, 44, 0)], [(90, 110648, 34, some 165985), (167, 110648, 33, none)], [(266, 3, (z_rc 110648 sp_X7_isGranted))], [], [], [], [], some .int)
set_option maxRecDepth 20000 in
set_option maxHeartbeats 4000000 in
theorem ct_X7_holdersOf (l : Launch) : z_CT l yX7_holdersOf cX7_holdersOf 4 (some .int) (z_rc 110648 sp_X7_holdersOf) 2 := by
  refine z_CT_of G_X7_holdersOf (by decide) (by decide +kernel) (z_pok_of ft_X7 ci_X7 cL_X7_L fo_X7 co_X7 lo_X7 (by decide +kernel)) rfl rfl ?_ ?_ ?_
  · intro as S P Po h0
    obtain ⟨as, rfl, h⟩ := z_rc_of h0
    unfold sp_X7_holdersOf at h
    split at h
    · exact Nat.le_of_ble_eq_true rfl
    · exact h.elim
  · exact List.forall_mem_cons.mpr ⟨z_coV (ct_X7_isGranted l) kb_X7_isGranted kv_X7_266 ko_X7 (by decide) (by decide) (by decide), fun _ h => absurd h List.not_mem_nil⟩
  · intro as S P Po h0 V hV hW
    obtain ⟨as, rfl, h⟩ := z_rc_of h0
    unfold sp_X7_holdersOf at h
    split at h
    · rename_i x1
      obtain ⟨hp0, hpo⟩ := h
      refine hV [4] 33 0 _ _ _ _ ?_
      obtain ⟨hb4, hN4⟩ := z_le_cl (show z_le (S 110648 33) 12 by assumption) (by decide)
      have hL4 : ∀ (j k4 : Nat) (x900 : Int32) (a4 : Int32), k4 + j = (S 110648 33).toNatClampNeg → x900 = nI k4 → a4 = z_fo (fun k4 a4 => l_X7_holdersOf_4 S P x1 k4 a4) (nI 0) k4 → V 4 [(0, .ref 110648), (1, .int x1), (2, .int a4), (3, .int x900)] [] S P := by
        intro j
        induction j with
        | zero =>
          intro k4 x900 a4 hk4 hx4 ha4
          subst hx4
          have hk9 : k4 = (S 110648 33).toNatClampNeg := by omega
          subst hk9
          subst ha4
          refine hV [4] 33 4 _ _ _ _ ?_
          refine ⟨fun _ => ?_, fun h => absurd ((z_brge hb4 (by omega) (by omega)).mpr (Nat.le_refl _)) h⟩
          exact z_pi hpo (rfl) (rfl) (rfl)
        | succ j ih =>
          intro k4 x900 a4 hk4 hx4 ha4
          subst hx4
          have hk9 : k4 < (S 110648 33).toNatClampNeg := by omega
          subst ha4
          refine hV [4] 33 4 _ _ _ _ ?_
          refine ⟨fun h => absurd ((z_brge hb4 (by omega) (by omega)).mp h) (by omega), fun _ => ?_⟩
          refine ⟨(show vp_in (nI k4) 12 by exact vp_in_nI (by omega) (by omega)), ?_⟩
          refine z_br (fun (h2 : (f_X7_isGranted S P (nI k4) x1) = false) => ?_) (fun (h2 : (f_X7_isGranted S P (nI k4) x1) = true) => ?_)
          · exact hW [0, 1, 2, 3] _ _ _ _ _ (ih (k4 + 1) _ ((z_fo (fun k4 a4 => l_X7_holdersOf_4 S P x1 k4 a4) (nI 0) k4) ||| (nI 0)) (by omega) (nI_add k4 1) (((if_neg (z_nt h2)).trans rfl).symm))
          · refine ⟨(show vp_in (nI k4) 12 by exact vp_in_nI (by omega) (by omega)), ?_⟩
            exact hW [0, 1, 2, 3] _ _ _ _ _ (ih (k4 + 1) _ ((z_fo (fun k4 a4 => l_X7_holdersOf_4 S P x1 k4 a4) (nI 0) k4) ||| ((nI 1) <<< ((S 165985 ((nI k4).toNatClampNeg)) &&& 31))) (by omega) (nI_add k4 1) (((if_pos h2).trans rfl).symm))
      exact hW [0, 1, 2, 3] _ _ _ _ _ (hL4 (S 110648 33).toNatClampNeg 0 _ (nI 0) (Nat.zero_add _) rfl rfl)
    · exact h.elim
def l_X7_rightsOf_5 (S : z_MI) (P : z_ML) (x1 : Int32) (x2 : Int32) (k5 : Nat) (a5 : Int32) : Int32 :=
  if (S 165985 ((nI k5).toNatClampNeg)) = x1 then
    if (f_X7_isGranted S P (nI k5) x2) = true then
      a5 ||| (S 170081 ((nI k5).toNatClampNeg))
    else
      a5 ||| (nI 0)
  else
    a5 ||| (nI 0)
def f_X7_rightsOf (S : z_MI) (P : z_ML) (x1 : Int32) (x2 : Int32) : Int32 :=
  if (f_X7_bits S P (f_X7_holdersOf S P x2)) ≤ (nI 1) then
    (z_fo (fun k5 a5 => l_X7_rightsOf_5 S P x1 x2 k5 a5) (nI 0) (S 110648 33).toNatClampNeg) &&& (f_X7_leftIn S P x2 (S 110648 1))
  else
    ((z_fo (fun k5 a5 => l_X7_rightsOf_5 S P x1 x2 k5 a5) (nI 0) (S 110648 33).toNatClampNeg) &&& (f_X7_leftIn S P x2 (S 110648 1))) &&& (nI 15)
def sp_X7_rightsOf : z_SP := fun as S P k => match as with
  | [.int x1, .int x2] => z_le (S 110648 33) 12 ∧ z_le (S 110648 24) 40 ∧ k (some (.int (f_X7_rightsOf S P x1 x2))) S P
  | _ => False
def G_X7_rightsOf : z_G := ([(0, .iconst 0, 1, 0), (1, .istore_n 3, 2, 0), (2, .iconst 0, 3, 0), (3, .istore 4, 5, 0), (5, .iload 4, 7, 0), (7, .aload_n 0, 8, 0), (8, .getfield 167, 11, 0), (11, .if_icmp .ge 44, 14, 55), (14, .iload_n 3, 15, 0), (15, .aload_n 0, 16, 0), (16, .getfield 90, 19, 0), (19, .iload 4, 21, 0), (21, .iaload, 22, 0), (22, .iload_n 1, 23, 0), (23, .if_icmp .ne 23, 26, 46), (26, .aload_n 0, 27, 0), (27, .iload 4, 29, 0), (29, .iload_n 2, 30, 0), (30, .invokevirtual 266, 33, 0), (33, .ifCond .eq 13, 36, 46), (36, .aload_n 0, 37, 0), (37, .getfield 96, 40, 0), (40, .iload 4, 42, 0), (42, .iaload, 43, 0), (43, .goto 4, 46, 47), (46, .iconst 0, 47, 0), (47, .ior, 48, 0), (48, .istore_n 3, 49, 0), (49, .iinc 4 1, 52, 0), (52, .goto (-47), 55, 5), (55, .iload_n 3, 56, 0), (56, .aload_n 0, 57, 0), (57, .iload_n 2, 58, 0), (58, .aload_n 0, 59, 0), (59, .getfield 209, 62, 0), (62, .invokevirtual 240, 65, 0), (65, .iand, 66, 0), (66, .istore_n 3, 67, 0), (67, .aload_n 0, 68, 0), (68, .iload_n 2, 69, 0), (69, .invokevirtual 269, 72, 0), (72, .invokestatic 194, 75, 0), (75, .iconst 1, 76, 0), (76, .if_icmp .le 10, 79, 86), (79, .iload_n 3, 80, 0), (80, .bipush 15, 82, 0), (82, .iand, 83, 0), (83, .goto 4, 86, 87), (86, .iload_n 3, 87, 0), (87, .ireturn, 88, 0)], [(90, 110648, 34, some 165985), (96, 110648, 36, some 170081), (167, 110648, 33, none), (209, 110648, 1, none)], [(100194, 1, sp_X7_bits), (240, 3, (z_rc 110648 sp_X7_leftIn)), (266, 3, (z_rc 110648 sp_X7_isGranted)), (269, 2, (z_rc 110648 sp_X7_holdersOf))], [], [], [], [], some .int)
set_option maxRecDepth 20000 in
set_option maxHeartbeats 4000000 in
theorem ct_X7_rightsOf (l : Launch) : z_CT l yX7_rightsOf cX7_rightsOf 5 (some .int) (z_rc 110648 sp_X7_rightsOf) 3 := by
  refine z_CT_of G_X7_rightsOf (by decide) (by decide +kernel) (z_pok_of ft_X7 ci_X7 cL_X7_L fo_X7 co_X7 lo_X7 (by decide +kernel)) rfl rfl ?_ ?_ ?_
  · intro as S P Po h0
    obtain ⟨as, rfl, h⟩ := z_rc_of h0
    unfold sp_X7_rightsOf at h
    split at h
    · exact Nat.le_of_ble_eq_true rfl
    · exact h.elim
  · exact List.forall_mem_cons.mpr ⟨z_coS (ct_X7_bits l) kb_X7_bits ks_X7_194 (by decide) (by decide), List.forall_mem_cons.mpr ⟨z_coV (ct_X7_leftIn l) kb_X7_leftIn kv_X7_240 ko_X7 (by decide) (by decide) (by decide), List.forall_mem_cons.mpr ⟨z_coV (ct_X7_isGranted l) kb_X7_isGranted kv_X7_266 ko_X7 (by decide) (by decide) (by decide), List.forall_mem_cons.mpr ⟨z_coV (ct_X7_holdersOf l) kb_X7_holdersOf kv_X7_269 ko_X7 (by decide) (by decide) (by decide), fun _ h => absurd h List.not_mem_nil⟩⟩⟩⟩
  · intro as S P Po h0 V hV hW
    obtain ⟨as, rfl, h⟩ := z_rc_of h0
    unfold sp_X7_rightsOf at h
    split at h
    · rename_i x1 x2
      obtain ⟨hp0, hp1, hpo⟩ := h
      refine hV [5] 55 0 _ _ _ _ ?_
      obtain ⟨hb5, hN5⟩ := z_le_cl (show z_le (S 110648 33) 12 by assumption) (by decide)
      have hL5 : ∀ (j k5 : Nat) (x900 : Int32) (a5 : Int32), k5 + j = (S 110648 33).toNatClampNeg → x900 = nI k5 → a5 = z_fo (fun k5 a5 => l_X7_rightsOf_5 S P x1 x2 k5 a5) (nI 0) k5 → V 5 [(0, .ref 110648), (1, .int x1), (2, .int x2), (3, .int a5), (4, .int x900)] [] S P := by
        intro j
        induction j with
        | zero =>
          intro k5 x900 a5 hk5 hx5 ha5
          subst hx5
          have hk9 : k5 = (S 110648 33).toNatClampNeg := by omega
          subst hk9
          subst ha5
          refine hV [5] 55 5 _ _ _ _ ?_
          refine ⟨fun _ => ?_, fun h => absurd ((z_brge hb5 (by omega) (by omega)).mpr (Nat.le_refl _)) h⟩
          refine ⟨(show z_le (S 110648 24) 40 by assumption), ?_⟩
          refine ⟨(show z_le (S 110648 33) 12 by assumption), ?_⟩
          refine ⟨fun (h2 : (f_X7_bits S P (f_X7_holdersOf S P x2)) ≤ (nI 1)) => ?_, fun (h2 : ¬ ((f_X7_bits S P (f_X7_holdersOf S P x2)) ≤ (nI 1))) => ?_⟩
          · exact z_pi hpo ((if_pos h2).trans rfl) (rfl) (rfl)
          · exact z_pi hpo ((if_neg h2).trans rfl) (rfl) (rfl)
        | succ j ih =>
          intro k5 x900 a5 hk5 hx5 ha5
          subst hx5
          have hk9 : k5 < (S 110648 33).toNatClampNeg := by omega
          subst ha5
          refine hV [5] 55 5 _ _ _ _ ?_
          refine ⟨fun h => absurd ((z_brge hb5 (by omega) (by omega)).mp h) (by omega), fun _ => ?_⟩
          refine ⟨(show vp_in (nI k5) 12 by exact vp_in_nI (by omega) (by omega)), ?_⟩
          refine ⟨fun (h3 : ¬ ((S 165985 ((nI k5).toNatClampNeg)) = x1)) => ?_, fun (h3 : (S 165985 ((nI k5).toNatClampNeg)) = x1) => ?_⟩
          · exact hW [0, 1, 2, 3, 4] _ _ _ _ _ (ih (k5 + 1) _ ((z_fo (fun k5 a5 => l_X7_rightsOf_5 S P x1 x2 k5 a5) (nI 0) k5) ||| (nI 0)) (by omega) (nI_add k5 1) (((if_neg h3).trans rfl).symm))
          · refine ⟨(show vp_in (nI k5) 12 by exact vp_in_nI (by omega) (by omega)), ?_⟩
            refine z_br (fun (h4 : (f_X7_isGranted S P (nI k5) x2) = false) => ?_) (fun (h4 : (f_X7_isGranted S P (nI k5) x2) = true) => ?_)
            · exact hW [0, 1, 2, 3, 4] _ _ _ _ _ (ih (k5 + 1) _ ((z_fo (fun k5 a5 => l_X7_rightsOf_5 S P x1 x2 k5 a5) (nI 0) k5) ||| (nI 0)) (by omega) (nI_add k5 1) (((if_pos h3).trans ((if_neg (z_nt h4)).trans rfl)).symm))
            · refine ⟨(show vp_in (nI k5) 12 by exact vp_in_nI (by omega) (by omega)), ?_⟩
              exact hW [0, 1, 2, 3, 4] _ _ _ _ _ (ih (k5 + 1) _ ((z_fo (fun k5 a5 => l_X7_rightsOf_5 S P x1 x2 k5 a5) (nI 0) k5) ||| (S 170081 ((nI k5).toNatClampNeg))) (by omega) (nI_add k5 1) (((if_pos h3).trans ((if_pos h4).trans rfl)).symm))
      exact hW [0, 1, 2, 3, 4] _ _ _ _ _ (hL5 (S 110648 33).toNatClampNeg 0 _ (nI 0) (Nat.zero_add _) rfl rfl)
    · exact h.elim
def l_X7_partiesOf_4 (S : z_MI) (P : z_ML) (x1 : Int32) (k4 : Nat) (a4 : Int32) : Int32 :=
  if (f_X7_isStrong S P (nI k4)) = true then
    if ((S 168033 ((nI k4).toNatClampNeg)) &&& (S 184417 x1.toNatClampNeg)) = 0 then
      a4 ||| (nI 0)
    else
      if ((S 182369 x1.toNatClampNeg) + (nI 3)) < (S 176225 ((nI k4).toNatClampNeg)) then
        a4 ||| (nI 0)
      else
        a4 ||| ((nI 1) <<< ((S 165985 ((nI k4).toNatClampNeg)) &&& 31))
  else
    a4 ||| (nI 0)
def f_X7_partiesOf (S : z_MI) (P : z_ML) (x1 : Int32) : Int32 :=
  (z_fo (fun k4 a4 => l_X7_partiesOf_4 S P x1 k4 a4) (nI 0) (S 110648 33).toNatClampNeg)
def sp_X7_partiesOf : z_SP := fun as S P k => match as with
  | [.int x1] => z_le (S 110648 33) 12 ∧ vp_in x1 12 ∧ k (some (.int (f_X7_partiesOf S P x1))) S P
  | _ => False
def G_X7_partiesOf : z_G := ([(0, .iconst 0, 1, 0), (1, .istore_n 2, 2, 0), (2, .iconst 0, 3, 0), (3, .istore_n 3, 4, 0), (4, .iload_n 3, 5, 0), (5, .aload_n 0, 6, 0), (6, .getfield 167, 9, 0), (9, .if_icmp .ge 77, 12, 86), (12, .aload_n 0, 13, 0), (13, .iload_n 3, 14, 0), (14, .invokevirtual 260, 17, 0), (17, .ifCond .eq 40, 20, 57), (20, .aload_n 0, 21, 0), (21, .getfield 93, 24, 0), (24, .iload_n 3, 25, 0), (25, .iaload, 26, 0), (26, .aload_n 0, 27, 0), (27, .getfield 117, 30, 0), (30, .iload_n 1, 31, 0), (31, .iaload, 32, 0), (32, .iand, 33, 0), (33, .ifCond .eq 24, 36, 57), (36, .aload_n 0, 37, 0), (37, .getfield 105, 40, 0), (40, .iload_n 3, 41, 0), (41, .iaload, 42, 0), (42, .aload_n 0, 43, 0), (43, .getfield 114, 46, 0), (46, .iload_n 1, 47, 0), (47, .iaload, 48, 0), (48, .iconst 3, 49, 0), (49, .iadd, 50, 0), (50, .if_icmp .gt 7, 53, 57), (53, .iconst 1, 54, 0), (54, .goto 4, 57, 58), (57, .iconst 0, 58, 0), (58, .istore 4, 60, 0), (60, .iload_n 2, 61, 0), (61, .iload 4, 63, 0), (63, .ifCond .eq 14, 66, 77), (66, .iconst 1, 67, 0), (67, .aload_n 0, 68, 0), (68, .getfield 90, 71, 0), (71, .iload_n 3, 72, 0), (72, .iaload, 73, 0), (73, .ishl, 74, 0), (74, .goto 4, 77, 78), (77, .iconst 0, 78, 0), (78, .ior, 79, 0), (79, .istore_n 2, 80, 0), (80, .iinc 3 1, 83, 0), (83, .goto (-79), 86, 4), (86, .iload_n 2, 87, 0), (87, .ireturn, 88, 0)], [(90, 110648, 34, some 165985), (93, 110648, 35, some 168033), (105, 110648, 39, some 176225), (114, 110648, 43, some 182369), (117, 110648, 44, some 184417), (167, 110648, 33, none)], [(260, 2, (z_rc 110648 sp_X7_isStrong))], [], [], [], [], some .int)
set_option maxRecDepth 20000 in
set_option maxHeartbeats 4000000 in
theorem ct_X7_partiesOf (l : Launch) : z_CT l yX7_partiesOf cX7_partiesOf 5 (some .int) (z_rc 110648 sp_X7_partiesOf) 1 := by
  refine z_CT_of G_X7_partiesOf (by decide) (by decide +kernel) (z_pok_of ft_X7 ci_X7 cL_X7_L fo_X7 co_X7 lo_X7 (by decide +kernel)) rfl rfl ?_ ?_ ?_
  · intro as S P Po h0
    obtain ⟨as, rfl, h⟩ := z_rc_of h0
    unfold sp_X7_partiesOf at h
    split at h
    · exact Nat.le_of_ble_eq_true rfl
    · exact h.elim
  · exact List.forall_mem_cons.mpr ⟨z_coV (ct_X7_isStrong l) kb_X7_isStrong kv_X7_260 ko_X7 (by decide) (by decide) (by decide), fun _ h => absurd h List.not_mem_nil⟩
  · intro as S P Po h0 V hV hW
    obtain ⟨as, rfl, h⟩ := z_rc_of h0
    unfold sp_X7_partiesOf at h
    split at h
    · rename_i x1
      obtain ⟨hp0, hp1, hpo⟩ := h
      refine hV [4] 59 0 _ _ _ _ ?_
      obtain ⟨hb4, hN4⟩ := z_le_cl (show z_le (S 110648 33) 12 by assumption) (by decide)
      have hL4 : ∀ (j k4 : Nat) (x900 : Int32) (a4 : Int32), k4 + j = (S 110648 33).toNatClampNeg → x900 = nI k4 → a4 = z_fo (fun k4 a4 => l_X7_partiesOf_4 S P x1 k4 a4) (nI 0) k4 → V 4 [(0, .ref 110648), (1, .int x1), (2, .int a4), (3, .int x900)] [] S P := by
        intro j
        induction j with
        | zero =>
          intro k4 x900 a4 hk4 hx4 ha4
          subst hx4
          have hk9 : k4 = (S 110648 33).toNatClampNeg := by omega
          subst hk9
          subst ha4
          refine hV [4] 59 4 _ _ _ _ ?_
          refine ⟨fun _ => ?_, fun h => absurd ((z_brge hb4 (by omega) (by omega)).mpr (Nat.le_refl _)) h⟩
          exact z_pi hpo (rfl) (rfl) (rfl)
        | succ j ih =>
          intro k4 x900 a4 hk4 hx4 ha4
          subst hx4
          have hk9 : k4 < (S 110648 33).toNatClampNeg := by omega
          subst ha4
          refine hV [4] 59 4 _ _ _ _ ?_
          refine ⟨fun h => absurd ((z_brge hb4 (by omega) (by omega)).mp h) (by omega), fun _ => ?_⟩
          refine ⟨(show vp_in (nI k4) 12 by exact vp_in_nI (by omega) (by omega)), ?_⟩
          refine z_br (fun (h2 : (f_X7_isStrong S P (nI k4)) = false) => ?_) (fun (h2 : (f_X7_isStrong S P (nI k4)) = true) => ?_)
          · refine ⟨fun _ => ?_, fun h => absurd (by decide) h⟩
            exact hW [0, 1, 2, 3] _ _ _ _ _ (ih (k4 + 1) _ ((z_fo (fun k4 a4 => l_X7_partiesOf_4 S P x1 k4 a4) (nI 0) k4) ||| (nI 0)) (by omega) (nI_add k4 1) (((if_neg (z_nt h2)).trans rfl).symm))
          · refine ⟨(show vp_in (nI k4) 12 by exact vp_in_nI (by omega) (by omega)), ?_⟩
            refine ⟨(show vp_in x1 12 by assumption), ?_⟩
            refine ⟨fun (h3 : ((S 168033 ((nI k4).toNatClampNeg)) &&& (S 184417 x1.toNatClampNeg)) = 0) => ?_, fun (h3 : ¬ (((S 168033 ((nI k4).toNatClampNeg)) &&& (S 184417 x1.toNatClampNeg)) = 0)) => ?_⟩
            · refine ⟨fun _ => ?_, fun h => absurd (by decide) h⟩
              exact hW [0, 1, 2, 3] _ _ _ _ _ (ih (k4 + 1) _ ((z_fo (fun k4 a4 => l_X7_partiesOf_4 S P x1 k4 a4) (nI 0) k4) ||| (nI 0)) (by omega) (nI_add k4 1) (((if_pos h2).trans ((if_pos h3).trans rfl)).symm))
            · refine ⟨(show vp_in (nI k4) 12 by exact vp_in_nI (by omega) (by omega)), ?_⟩
              refine ⟨(show vp_in x1 12 by assumption), ?_⟩
              refine ⟨fun (h4 : ((S 182369 x1.toNatClampNeg) + (nI 3)) < (S 176225 ((nI k4).toNatClampNeg))) => ?_, fun (h4 : ¬ (((S 182369 x1.toNatClampNeg) + (nI 3)) < (S 176225 ((nI k4).toNatClampNeg)))) => ?_⟩
              · refine ⟨fun _ => ?_, fun h => absurd (by decide) h⟩
                exact hW [0, 1, 2, 3] _ _ _ _ _ (ih (k4 + 1) _ ((z_fo (fun k4 a4 => l_X7_partiesOf_4 S P x1 k4 a4) (nI 0) k4) ||| (nI 0)) (by omega) (nI_add k4 1) (((if_pos h2).trans ((if_neg h3).trans ((if_pos h4).trans rfl))).symm))
              · refine ⟨fun h => absurd h (by decide), fun _ => ?_⟩
                refine ⟨(show vp_in (nI k4) 12 by exact vp_in_nI (by omega) (by omega)), ?_⟩
                exact hW [0, 1, 2, 3] _ _ _ _ _ (ih (k4 + 1) _ ((z_fo (fun k4 a4 => l_X7_partiesOf_4 S P x1 k4 a4) (nI 0) k4) ||| ((nI 1) <<< ((S 165985 ((nI k4).toNatClampNeg)) &&& 31))) (by omega) (nI_add k4 1) (((if_pos h2).trans ((if_neg h3).trans ((if_neg h4).trans rfl))).symm))
      exact hW [0, 1, 2, 3] _ _ _ _ _ (hL4 (S 110648 33).toNatClampNeg 0 _ (nI 0) (Nat.zero_add _) rfl rfl)
    · exact h.elim
def f_X7_canSpeak (S : z_MI) (P : z_ML) (x1 : Int32) (x2 : Int32) : Bool :=
  if (S 194657 x2.toNatClampNeg) = 0 then
    if (f_X7_has S P (f_X7_partiesOf S P x2) x1) = true then
      true
    else
      false
  else
    false
def sp_X7_canSpeak : z_SP := fun as S P k => match as with
  | [.int x1, .int x2] => vp_in x2 12 ∧ z_le (S 110648 33) 12 ∧ k (some (.int (z_b (f_X7_canSpeak S P x1 x2)))) S P
  | _ => False
def G_X7_canSpeak : z_G := ([(0, .aload_n 0, 1, 0), (1, .getfield 132, 4, 0), (4, .iload_n 2, 5, 0), (5, .iaload, 6, 0), (6, .ifCond .ne 19, 9, 25), (9, .aload_n 0, 10, 0), (10, .iload_n 2, 11, 0), (11, .invokevirtual 275, 14, 0), (14, .iload_n 1, 15, 0), (15, .invokestatic 180, 18, 0), (18, .ifCond .eq 7, 21, 25), (21, .iconst 1, 22, 0), (22, .goto 4, 25, 26), (25, .iconst 0, 26, 0), (26, .ireturn, 27, 0)], [(132, 110648, 49, some 194657)], [(100180, 2, sp_X7_has), (275, 2, (z_rc 110648 sp_X7_partiesOf))], [], [], [], [], some .boolean)
set_option maxRecDepth 20000 in
set_option maxHeartbeats 4000000 in
theorem ct_X7_canSpeak (l : Launch) : z_CT l yX7_canSpeak cX7_canSpeak 3 (some .boolean) (z_rc 110648 sp_X7_canSpeak) 2 := by
  refine z_CT_of G_X7_canSpeak (by decide) (by decide +kernel) (z_pok_of ft_X7 ci_X7 cL_X7_L fo_X7 co_X7 lo_X7 (by decide +kernel)) rfl rfl ?_ ?_ ?_
  · intro as S P Po h0
    obtain ⟨as, rfl, h⟩ := z_rc_of h0
    unfold sp_X7_canSpeak at h
    split at h
    · exact Nat.le_of_ble_eq_true rfl
    · exact h.elim
  · exact List.forall_mem_cons.mpr ⟨z_coS (ct_X7_has l) kb_X7_has ks_X7_180 (by decide) (by decide), List.forall_mem_cons.mpr ⟨z_coV (ct_X7_partiesOf l) kb_X7_partiesOf kv_X7_275 ko_X7 (by decide) (by decide) (by decide), fun _ h => absurd h List.not_mem_nil⟩⟩
  · intro as S P Po h0 V hV hW
    obtain ⟨as, rfl, h⟩ := z_rc_of h0
    unfold sp_X7_canSpeak at h
    split at h
    · rename_i x1 x2
      obtain ⟨hp0, hp1, hpo⟩ := h
      refine hV [] 20 0 _ _ _ _ ?_
      refine ⟨(show vp_in x2 12 by assumption), ?_⟩
      refine ⟨fun (h1 : ¬ ((S 194657 x2.toNatClampNeg) = 0)) => ?_, fun (h1 : (S 194657 x2.toNatClampNeg) = 0) => ?_⟩
      · exact ⟨(by first | rfl | exact z_nb _), z_pb hpo ((if_neg h1).trans rfl) (rfl) (rfl)⟩
      · refine ⟨(show z_le (S 110648 33) 12 by assumption), (show vp_in x2 12 by assumption), ?_⟩
        refine z_br (fun (h2 : (f_X7_has S P (f_X7_partiesOf S P x2) x1) = false) => ?_) (fun (h2 : (f_X7_has S P (f_X7_partiesOf S P x2) x1) = true) => ?_)
        · exact ⟨(by first | rfl | exact z_nb _), z_pb hpo ((if_pos h1).trans ((if_neg (z_nt h2)).trans rfl)) (rfl) (rfl)⟩
        · exact ⟨(by first | rfl | exact z_nb _), z_pb hpo ((if_pos h1).trans ((if_pos h2).trans rfl)) (rfl) (rfl)⟩
    · exact h.elim
def f_X7_canBeDone (S : z_MI) (P : z_ML) (x1 : Int32) : Bool :=
  if (f_X7_age S P x1) ≤ (nI 3) then
    if (S 192610 x1.toNatClampNeg) = 0 then
      if (S 188513 x1.toNatClampNeg) = (nI 1) then
        if (S 110648 1) ≤ (S 190561 x1.toNatClampNeg) then
          if (S 194657 x1.toNatClampNeg) = 0 then
            if (S 196706 x1.toNatClampNeg) = 0 then
              false
            else
              true
          else
            false
        else
          if (S 194657 x1.toNatClampNeg) = 0 then
            if (S 196706 x1.toNatClampNeg) = 0 then
              false
            else
              false
          else
            false
      else
        if (S 194657 x1.toNatClampNeg) = 0 then
          if (S 196706 x1.toNatClampNeg) = 0 then
            false
          else
            true
        else
          false
    else
      if (S 200801 x1.toNatClampNeg) = 0 then
        if (f_X7_age S P x1) ≤ (nI 4) then
          if (S 188513 x1.toNatClampNeg) = (nI 1) then
            if (S 110648 1) ≤ (S 190561 x1.toNatClampNeg) then
              if (S 194657 x1.toNatClampNeg) = 0 then
                if (S 196706 x1.toNatClampNeg) = 0 then
                  false
                else
                  true
              else
                false
            else
              if (S 194657 x1.toNatClampNeg) = 0 then
                if (S 196706 x1.toNatClampNeg) = 0 then
                  false
                else
                  false
              else
                false
          else
            if (S 194657 x1.toNatClampNeg) = 0 then
              if (S 196706 x1.toNatClampNeg) = 0 then
                false
              else
                true
            else
              false
        else
          if (S 188513 x1.toNatClampNeg) = (nI 1) then
            if (S 110648 1) ≤ (S 190561 x1.toNatClampNeg) then
              if (S 194657 x1.toNatClampNeg) = 0 then
                true
              else
                false
            else
              if (S 194657 x1.toNatClampNeg) = 0 then
                false
              else
                false
          else
            if (S 194657 x1.toNatClampNeg) = 0 then
              true
            else
              false
      else
        if (S 188513 x1.toNatClampNeg) = (nI 1) then
          if (S 110648 1) ≤ (S 190561 x1.toNatClampNeg) then
            if (S 194657 x1.toNatClampNeg) = 0 then
              if (S 196706 x1.toNatClampNeg) = 0 then
                false
              else
                true
            else
              false
          else
            if (S 194657 x1.toNatClampNeg) = 0 then
              if (S 196706 x1.toNatClampNeg) = 0 then
                false
              else
                false
            else
              false
        else
          if (S 194657 x1.toNatClampNeg) = 0 then
            if (S 196706 x1.toNatClampNeg) = 0 then
              false
            else
              true
          else
            false
  else
    if ((f_X7_partiesOf S P x1) &&& ((S 198753 x1.toNatClampNeg) ^^^ (-1))) = 0 then
      if (S 192610 x1.toNatClampNeg) = 0 then
        if (S 188513 x1.toNatClampNeg) = (nI 1) then
          if (S 110648 1) ≤ (S 190561 x1.toNatClampNeg) then
            if (S 194657 x1.toNatClampNeg) = 0 then
              true
            else
              false
          else
            if (S 194657 x1.toNatClampNeg) = 0 then
              false
            else
              false
        else
          if (S 194657 x1.toNatClampNeg) = 0 then
            true
          else
            false
      else
        if (S 200801 x1.toNatClampNeg) = 0 then
          if (f_X7_age S P x1) ≤ (nI 4) then
            if (S 188513 x1.toNatClampNeg) = (nI 1) then
              if (S 110648 1) ≤ (S 190561 x1.toNatClampNeg) then
                if (S 194657 x1.toNatClampNeg) = 0 then
                  true
                else
                  false
              else
                if (S 194657 x1.toNatClampNeg) = 0 then
                  false
                else
                  false
            else
              if (S 194657 x1.toNatClampNeg) = 0 then
                true
              else
                false
          else
            if (S 188513 x1.toNatClampNeg) = (nI 1) then
              if (S 110648 1) ≤ (S 190561 x1.toNatClampNeg) then
                if (S 194657 x1.toNatClampNeg) = 0 then
                  true
                else
                  false
              else
                if (S 194657 x1.toNatClampNeg) = 0 then
                  false
                else
                  false
            else
              if (S 194657 x1.toNatClampNeg) = 0 then
                true
              else
                false
        else
          if (S 188513 x1.toNatClampNeg) = (nI 1) then
            if (S 110648 1) ≤ (S 190561 x1.toNatClampNeg) then
              if (S 194657 x1.toNatClampNeg) = 0 then
                true
              else
                false
            else
              if (S 194657 x1.toNatClampNeg) = 0 then
                false
              else
                false
          else
            if (S 194657 x1.toNatClampNeg) = 0 then
              true
            else
              false
    else
      if (S 192610 x1.toNatClampNeg) = 0 then
        if (S 188513 x1.toNatClampNeg) = (nI 1) then
          if (S 110648 1) ≤ (S 190561 x1.toNatClampNeg) then
            if (S 194657 x1.toNatClampNeg) = 0 then
              if (S 196706 x1.toNatClampNeg) = 0 then
                false
              else
                true
            else
              false
          else
            if (S 194657 x1.toNatClampNeg) = 0 then
              if (S 196706 x1.toNatClampNeg) = 0 then
                false
              else
                false
            else
              false
        else
          if (S 194657 x1.toNatClampNeg) = 0 then
            if (S 196706 x1.toNatClampNeg) = 0 then
              false
            else
              true
          else
            false
      else
        if (S 200801 x1.toNatClampNeg) = 0 then
          if (f_X7_age S P x1) ≤ (nI 4) then
            if (S 188513 x1.toNatClampNeg) = (nI 1) then
              if (S 110648 1) ≤ (S 190561 x1.toNatClampNeg) then
                if (S 194657 x1.toNatClampNeg) = 0 then
                  if (S 196706 x1.toNatClampNeg) = 0 then
                    false
                  else
                    true
                else
                  false
              else
                if (S 194657 x1.toNatClampNeg) = 0 then
                  if (S 196706 x1.toNatClampNeg) = 0 then
                    false
                  else
                    false
                else
                  false
            else
              if (S 194657 x1.toNatClampNeg) = 0 then
                if (S 196706 x1.toNatClampNeg) = 0 then
                  false
                else
                  true
              else
                false
          else
            if (S 188513 x1.toNatClampNeg) = (nI 1) then
              if (S 110648 1) ≤ (S 190561 x1.toNatClampNeg) then
                if (S 194657 x1.toNatClampNeg) = 0 then
                  true
                else
                  false
              else
                if (S 194657 x1.toNatClampNeg) = 0 then
                  false
                else
                  false
            else
              if (S 194657 x1.toNatClampNeg) = 0 then
                true
              else
                false
        else
          if (S 188513 x1.toNatClampNeg) = (nI 1) then
            if (S 110648 1) ≤ (S 190561 x1.toNatClampNeg) then
              if (S 194657 x1.toNatClampNeg) = 0 then
                if (S 196706 x1.toNatClampNeg) = 0 then
                  false
                else
                  true
              else
                false
            else
              if (S 194657 x1.toNatClampNeg) = 0 then
                if (S 196706 x1.toNatClampNeg) = 0 then
                  false
                else
                  false
              else
                false
          else
            if (S 194657 x1.toNatClampNeg) = 0 then
              if (S 196706 x1.toNatClampNeg) = 0 then
                false
              else
                true
            else
              false
def sp_X7_canBeDone : z_SP := fun as S P k => match as with
  | [.int x1] => vp_in x1 12 ∧ z_le (S 110648 33) 12 ∧ k (some (.int (z_b (f_X7_canBeDone S P x1)))) S P
  | _ => False
def G_X7_canBeDone : z_G := ([(0, .aload_n 0, 1, 0), (1, .iload_n 1, 2, 0), (2, .invokevirtual 284, 5, 0), (5, .iconst 3, 6, 0), (6, .if_icmp .le 24, 9, 30), (9, .aload_n 0, 10, 0), (10, .iload_n 1, 11, 0), (11, .invokevirtual 275, 14, 0), (14, .aload_n 0, 15, 0), (15, .getfield 138, 18, 0), (18, .iload_n 1, 19, 0), (19, .iaload, 20, 0), (20, .iconst (-1), 21, 0), (21, .ixor, 22, 0), (22, .iand, 23, 0), (23, .ifCond .ne 7, 26, 30), (26, .iconst 1, 27, 0), (27, .goto 4, 30, 31), (30, .iconst 0, 31, 0), (31, .istore_n 2, 32, 0), (32, .aload_n 0, 33, 0), (33, .getfield 129, 36, 0), (36, .iload_n 1, 37, 0), (37, .baload, 38, 0), (38, .ifCond .eq 25, 41, 63), (41, .aload_n 0, 42, 0), (42, .getfield 141, 45, 0), (45, .iload_n 1, 46, 0), (46, .iaload, 47, 0), (47, .ifCond .ne 16, 50, 63), (50, .aload_n 0, 51, 0), (51, .iload_n 1, 52, 0), (52, .invokevirtual 284, 55, 0), (55, .iconst 4, 56, 0), (56, .if_icmp .le 7, 59, 63), (59, .iconst 1, 60, 0), (60, .goto 4, 63, 64), (63, .iconst 0, 64, 0), (64, .istore_n 3, 65, 0), (65, .aload_n 0, 66, 0), (66, .getfield 123, 69, 0), (69, .iload_n 1, 70, 0), (70, .iaload, 71, 0), (71, .iconst 1, 72, 0), (72, .if_icmp .ne 20, 75, 92), (75, .aload_n 0, 76, 0), (76, .getfield 126, 79, 0), (79, .iload_n 1, 80, 0), (80, .iaload, 81, 0), (81, .aload_n 0, 82, 0), (82, .getfield 209, 85, 0), (85, .if_icmp .ge 7, 88, 92), (88, .iconst 1, 89, 0), (89, .goto 4, 92, 93), (92, .iconst 0, 93, 0), (93, .istore 4, 95, 0), (95, .aload_n 0, 96, 0), (96, .getfield 132, 99, 0), (99, .iload_n 1, 100, 0), (100, .iaload, 101, 0), (101, .ifCond .ne 29, 104, 130), (104, .iload_n 2, 105, 0), (105, .ifCond .ne 16, 108, 121), (108, .iload_n 3, 109, 0), (109, .ifCond .ne 12, 112, 121), (112, .aload_n 0, 113, 0), (113, .getfield 135, 116, 0), (116, .iload_n 1, 117, 0), (117, .baload, 118, 0), (118, .ifCond .eq 12, 121, 130), (121, .iload 4, 123, 0), (123, .ifCond .ne 7, 126, 130), (126, .iconst 1, 127, 0), (127, .goto 4, 130, 131), (130, .iconst 0, 131, 0), (131, .ireturn, 132, 0)], [(123, 110648, 46, some 188513), (126, 110648, 47, some 190561), (129, 110648, 48, some 192610), (132, 110648, 49, some 194657), (135, 110648, 50, some 196706), (138, 110648, 51, some 198753), (141, 110648, 52, some 200801), (209, 110648, 1, none)], [(275, 2, (z_rc 110648 sp_X7_partiesOf)), (284, 2, (z_rc 110648 sp_X7_age))], [], [], [], [], some .boolean)
set_option maxRecDepth 20000 in
set_option maxHeartbeats 4000000 in
theorem ct_X7_canBeDone (l : Launch) : z_CT l yX7_canBeDone cX7_canBeDone 5 (some .boolean) (z_rc 110648 sp_X7_canBeDone) 2 := by
  refine z_CT_of G_X7_canBeDone (by decide) (by decide +kernel) (z_pok_of ft_X7 ci_X7 cL_X7_L fo_X7 co_X7 lo_X7 (by decide +kernel)) rfl rfl ?_ ?_ ?_
  · intro as S P Po h0
    obtain ⟨as, rfl, h⟩ := z_rc_of h0
    unfold sp_X7_canBeDone at h
    split at h
    · exact Nat.le_of_ble_eq_true rfl
    · exact h.elim
  · exact List.forall_mem_cons.mpr ⟨z_coV (ct_X7_partiesOf l) kb_X7_partiesOf kv_X7_275 ko_X7 (by decide) (by decide) (by decide), List.forall_mem_cons.mpr ⟨z_coV (ct_X7_age l) kb_X7_age kv_X7_284 ko_X7 (by decide) (by decide) (by decide), fun _ h => absurd h List.not_mem_nil⟩⟩
  · intro as S P Po h0 V hV hW
    obtain ⟨as, rfl, h⟩ := z_rc_of h0
    unfold sp_X7_canBeDone at h
    split at h
    · rename_i x1
      obtain ⟨hp0, hp1, hpo⟩ := h
      refine hV [] 81 0 _ _ _ _ ?_
      refine ⟨(show vp_in x1 12 by assumption), ?_⟩
      refine ⟨fun (h1 : (f_X7_age S P x1) ≤ (nI 3)) => ?_, fun (h1 : ¬ ((f_X7_age S P x1) ≤ (nI 3))) => ?_⟩
      · refine ⟨(show vp_in x1 12 by assumption), ?_⟩
        refine ⟨fun (h2 : (S 192610 x1.toNatClampNeg) = 0) => ?_, fun (h2 : ¬ ((S 192610 x1.toNatClampNeg) = 0)) => ?_⟩
        · refine ⟨(show vp_in x1 12 by assumption), ?_⟩
          refine ⟨fun (h3 : ¬ ((S 188513 x1.toNatClampNeg) = (nI 1))) => ?_, fun (h3 : (S 188513 x1.toNatClampNeg) = (nI 1)) => ?_⟩
          · refine ⟨(show vp_in x1 12 by assumption), ?_⟩
            refine ⟨fun (h4 : ¬ ((S 194657 x1.toNatClampNeg) = 0)) => ?_, fun (h4 : (S 194657 x1.toNatClampNeg) = 0) => ?_⟩
            · exact ⟨(by first | rfl | exact z_nb _), z_pb hpo ((if_pos h1).trans ((if_pos h2).trans ((if_neg h3).trans ((if_neg h4).trans rfl)))) (rfl) (rfl)⟩
            · refine ⟨fun h => absurd (by decide) h, fun _ => ?_⟩
              refine ⟨fun h => absurd (by decide) h, fun _ => ?_⟩
              refine ⟨(show vp_in x1 12 by assumption), ?_⟩
              refine ⟨fun (h5 : (S 196706 x1.toNatClampNeg) = 0) => ?_, fun (h5 : ¬ ((S 196706 x1.toNatClampNeg) = 0)) => ?_⟩
              · exact ⟨(by first | rfl | exact z_nb _), z_pb hpo ((if_pos h1).trans ((if_pos h2).trans ((if_neg h3).trans ((if_pos h4).trans ((if_pos h5).trans rfl))))) (rfl) (rfl)⟩
              · refine ⟨fun h => absurd (by decide) h, fun _ => ?_⟩
                exact ⟨(by first | rfl | exact z_nb _), z_pb hpo ((if_pos h1).trans ((if_pos h2).trans ((if_neg h3).trans ((if_pos h4).trans ((if_neg h5).trans rfl))))) (rfl) (rfl)⟩
          · refine ⟨(show vp_in x1 12 by assumption), ?_⟩
            refine ⟨fun (h6 : (S 110648 1) ≤ (S 190561 x1.toNatClampNeg)) => ?_, fun (h6 : ¬ ((S 110648 1) ≤ (S 190561 x1.toNatClampNeg))) => ?_⟩
            · refine ⟨(show vp_in x1 12 by assumption), ?_⟩
              refine ⟨fun (h7 : ¬ ((S 194657 x1.toNatClampNeg) = 0)) => ?_, fun (h7 : (S 194657 x1.toNatClampNeg) = 0) => ?_⟩
              · exact ⟨(by first | rfl | exact z_nb _), z_pb hpo ((if_pos h1).trans ((if_pos h2).trans ((if_pos h3).trans ((if_pos h6).trans ((if_neg h7).trans rfl))))) (rfl) (rfl)⟩
              · refine ⟨fun h => absurd (by decide) h, fun _ => ?_⟩
                refine ⟨fun h => absurd (by decide) h, fun _ => ?_⟩
                refine ⟨(show vp_in x1 12 by assumption), ?_⟩
                refine ⟨fun (h8 : (S 196706 x1.toNatClampNeg) = 0) => ?_, fun (h8 : ¬ ((S 196706 x1.toNatClampNeg) = 0)) => ?_⟩
                · exact ⟨(by first | rfl | exact z_nb _), z_pb hpo ((if_pos h1).trans ((if_pos h2).trans ((if_pos h3).trans ((if_pos h6).trans ((if_pos h7).trans ((if_pos h8).trans rfl)))))) (rfl) (rfl)⟩
                · refine ⟨fun h => absurd (by decide) h, fun _ => ?_⟩
                  exact ⟨(by first | rfl | exact z_nb _), z_pb hpo ((if_pos h1).trans ((if_pos h2).trans ((if_pos h3).trans ((if_pos h6).trans ((if_pos h7).trans ((if_neg h8).trans rfl)))))) (rfl) (rfl)⟩
            · refine ⟨(show vp_in x1 12 by assumption), ?_⟩
              refine ⟨fun (h9 : ¬ ((S 194657 x1.toNatClampNeg) = 0)) => ?_, fun (h9 : (S 194657 x1.toNatClampNeg) = 0) => ?_⟩
              · exact ⟨(by first | rfl | exact z_nb _), z_pb hpo ((if_pos h1).trans ((if_pos h2).trans ((if_pos h3).trans ((if_neg h6).trans ((if_neg h9).trans rfl))))) (rfl) (rfl)⟩
              · refine ⟨fun h => absurd (by decide) h, fun _ => ?_⟩
                refine ⟨fun h => absurd (by decide) h, fun _ => ?_⟩
                refine ⟨(show vp_in x1 12 by assumption), ?_⟩
                refine ⟨fun (h10 : (S 196706 x1.toNatClampNeg) = 0) => ?_, fun (h10 : ¬ ((S 196706 x1.toNatClampNeg) = 0)) => ?_⟩
                · exact ⟨(by first | rfl | exact z_nb _), z_pb hpo ((if_pos h1).trans ((if_pos h2).trans ((if_pos h3).trans ((if_neg h6).trans ((if_pos h9).trans ((if_pos h10).trans rfl)))))) (rfl) (rfl)⟩
                · refine ⟨fun _ => ?_, fun h => absurd h (by decide)⟩
                  exact ⟨(by first | rfl | exact z_nb _), z_pb hpo ((if_pos h1).trans ((if_pos h2).trans ((if_pos h3).trans ((if_neg h6).trans ((if_pos h9).trans ((if_neg h10).trans rfl)))))) (rfl) (rfl)⟩
        · refine ⟨(show vp_in x1 12 by assumption), ?_⟩
          refine ⟨fun (h11 : ¬ ((S 200801 x1.toNatClampNeg) = 0)) => ?_, fun (h11 : (S 200801 x1.toNatClampNeg) = 0) => ?_⟩
          · refine ⟨(show vp_in x1 12 by assumption), ?_⟩
            refine ⟨fun (h12 : ¬ ((S 188513 x1.toNatClampNeg) = (nI 1))) => ?_, fun (h12 : (S 188513 x1.toNatClampNeg) = (nI 1)) => ?_⟩
            · refine ⟨(show vp_in x1 12 by assumption), ?_⟩
              refine ⟨fun (h13 : ¬ ((S 194657 x1.toNatClampNeg) = 0)) => ?_, fun (h13 : (S 194657 x1.toNatClampNeg) = 0) => ?_⟩
              · exact ⟨(by first | rfl | exact z_nb _), z_pb hpo ((if_pos h1).trans ((if_neg h2).trans ((if_neg h11).trans ((if_neg h12).trans ((if_neg h13).trans rfl))))) (rfl) (rfl)⟩
              · refine ⟨fun h => absurd (by decide) h, fun _ => ?_⟩
                refine ⟨fun h => absurd (by decide) h, fun _ => ?_⟩
                refine ⟨(show vp_in x1 12 by assumption), ?_⟩
                refine ⟨fun (h14 : (S 196706 x1.toNatClampNeg) = 0) => ?_, fun (h14 : ¬ ((S 196706 x1.toNatClampNeg) = 0)) => ?_⟩
                · exact ⟨(by first | rfl | exact z_nb _), z_pb hpo ((if_pos h1).trans ((if_neg h2).trans ((if_neg h11).trans ((if_neg h12).trans ((if_pos h13).trans ((if_pos h14).trans rfl)))))) (rfl) (rfl)⟩
                · refine ⟨fun h => absurd (by decide) h, fun _ => ?_⟩
                  exact ⟨(by first | rfl | exact z_nb _), z_pb hpo ((if_pos h1).trans ((if_neg h2).trans ((if_neg h11).trans ((if_neg h12).trans ((if_pos h13).trans ((if_neg h14).trans rfl)))))) (rfl) (rfl)⟩
            · refine ⟨(show vp_in x1 12 by assumption), ?_⟩
              refine ⟨fun (h15 : (S 110648 1) ≤ (S 190561 x1.toNatClampNeg)) => ?_, fun (h15 : ¬ ((S 110648 1) ≤ (S 190561 x1.toNatClampNeg))) => ?_⟩
              · refine ⟨(show vp_in x1 12 by assumption), ?_⟩
                refine ⟨fun (h16 : ¬ ((S 194657 x1.toNatClampNeg) = 0)) => ?_, fun (h16 : (S 194657 x1.toNatClampNeg) = 0) => ?_⟩
                · exact ⟨(by first | rfl | exact z_nb _), z_pb hpo ((if_pos h1).trans ((if_neg h2).trans ((if_neg h11).trans ((if_pos h12).trans ((if_pos h15).trans ((if_neg h16).trans rfl)))))) (rfl) (rfl)⟩
                · refine ⟨fun h => absurd (by decide) h, fun _ => ?_⟩
                  refine ⟨fun h => absurd (by decide) h, fun _ => ?_⟩
                  refine ⟨(show vp_in x1 12 by assumption), ?_⟩
                  refine ⟨fun (h17 : (S 196706 x1.toNatClampNeg) = 0) => ?_, fun (h17 : ¬ ((S 196706 x1.toNatClampNeg) = 0)) => ?_⟩
                  · exact ⟨(by first | rfl | exact z_nb _), z_pb hpo ((if_pos h1).trans ((if_neg h2).trans ((if_neg h11).trans ((if_pos h12).trans ((if_pos h15).trans ((if_pos h16).trans ((if_pos h17).trans rfl))))))) (rfl) (rfl)⟩
                  · refine ⟨fun h => absurd (by decide) h, fun _ => ?_⟩
                    exact ⟨(by first | rfl | exact z_nb _), z_pb hpo ((if_pos h1).trans ((if_neg h2).trans ((if_neg h11).trans ((if_pos h12).trans ((if_pos h15).trans ((if_pos h16).trans ((if_neg h17).trans rfl))))))) (rfl) (rfl)⟩
              · refine ⟨(show vp_in x1 12 by assumption), ?_⟩
                refine ⟨fun (h18 : ¬ ((S 194657 x1.toNatClampNeg) = 0)) => ?_, fun (h18 : (S 194657 x1.toNatClampNeg) = 0) => ?_⟩
                · exact ⟨(by first | rfl | exact z_nb _), z_pb hpo ((if_pos h1).trans ((if_neg h2).trans ((if_neg h11).trans ((if_pos h12).trans ((if_neg h15).trans ((if_neg h18).trans rfl)))))) (rfl) (rfl)⟩
                · refine ⟨fun h => absurd (by decide) h, fun _ => ?_⟩
                  refine ⟨fun h => absurd (by decide) h, fun _ => ?_⟩
                  refine ⟨(show vp_in x1 12 by assumption), ?_⟩
                  refine ⟨fun (h19 : (S 196706 x1.toNatClampNeg) = 0) => ?_, fun (h19 : ¬ ((S 196706 x1.toNatClampNeg) = 0)) => ?_⟩
                  · exact ⟨(by first | rfl | exact z_nb _), z_pb hpo ((if_pos h1).trans ((if_neg h2).trans ((if_neg h11).trans ((if_pos h12).trans ((if_neg h15).trans ((if_pos h18).trans ((if_pos h19).trans rfl))))))) (rfl) (rfl)⟩
                  · refine ⟨fun _ => ?_, fun h => absurd h (by decide)⟩
                    exact ⟨(by first | rfl | exact z_nb _), z_pb hpo ((if_pos h1).trans ((if_neg h2).trans ((if_neg h11).trans ((if_pos h12).trans ((if_neg h15).trans ((if_pos h18).trans ((if_neg h19).trans rfl))))))) (rfl) (rfl)⟩
          · refine ⟨(show vp_in x1 12 by assumption), ?_⟩
            refine ⟨fun (h20 : (f_X7_age S P x1) ≤ (nI 4)) => ?_, fun (h20 : ¬ ((f_X7_age S P x1) ≤ (nI 4))) => ?_⟩
            · refine ⟨(show vp_in x1 12 by assumption), ?_⟩
              refine ⟨fun (h21 : ¬ ((S 188513 x1.toNatClampNeg) = (nI 1))) => ?_, fun (h21 : (S 188513 x1.toNatClampNeg) = (nI 1)) => ?_⟩
              · refine ⟨(show vp_in x1 12 by assumption), ?_⟩
                refine ⟨fun (h22 : ¬ ((S 194657 x1.toNatClampNeg) = 0)) => ?_, fun (h22 : (S 194657 x1.toNatClampNeg) = 0) => ?_⟩
                · exact ⟨(by first | rfl | exact z_nb _), z_pb hpo ((if_pos h1).trans ((if_neg h2).trans ((if_pos h11).trans ((if_pos h20).trans ((if_neg h21).trans ((if_neg h22).trans rfl)))))) (rfl) (rfl)⟩
                · refine ⟨fun h => absurd (by decide) h, fun _ => ?_⟩
                  refine ⟨fun h => absurd (by decide) h, fun _ => ?_⟩
                  refine ⟨(show vp_in x1 12 by assumption), ?_⟩
                  refine ⟨fun (h23 : (S 196706 x1.toNatClampNeg) = 0) => ?_, fun (h23 : ¬ ((S 196706 x1.toNatClampNeg) = 0)) => ?_⟩
                  · exact ⟨(by first | rfl | exact z_nb _), z_pb hpo ((if_pos h1).trans ((if_neg h2).trans ((if_pos h11).trans ((if_pos h20).trans ((if_neg h21).trans ((if_pos h22).trans ((if_pos h23).trans rfl))))))) (rfl) (rfl)⟩
                  · refine ⟨fun h => absurd (by decide) h, fun _ => ?_⟩
                    exact ⟨(by first | rfl | exact z_nb _), z_pb hpo ((if_pos h1).trans ((if_neg h2).trans ((if_pos h11).trans ((if_pos h20).trans ((if_neg h21).trans ((if_pos h22).trans ((if_neg h23).trans rfl))))))) (rfl) (rfl)⟩
              · refine ⟨(show vp_in x1 12 by assumption), ?_⟩
                refine ⟨fun (h24 : (S 110648 1) ≤ (S 190561 x1.toNatClampNeg)) => ?_, fun (h24 : ¬ ((S 110648 1) ≤ (S 190561 x1.toNatClampNeg))) => ?_⟩
                · refine ⟨(show vp_in x1 12 by assumption), ?_⟩
                  refine ⟨fun (h25 : ¬ ((S 194657 x1.toNatClampNeg) = 0)) => ?_, fun (h25 : (S 194657 x1.toNatClampNeg) = 0) => ?_⟩
                  · exact ⟨(by first | rfl | exact z_nb _), z_pb hpo ((if_pos h1).trans ((if_neg h2).trans ((if_pos h11).trans ((if_pos h20).trans ((if_pos h21).trans ((if_pos h24).trans ((if_neg h25).trans rfl))))))) (rfl) (rfl)⟩
                  · refine ⟨fun h => absurd (by decide) h, fun _ => ?_⟩
                    refine ⟨fun h => absurd (by decide) h, fun _ => ?_⟩
                    refine ⟨(show vp_in x1 12 by assumption), ?_⟩
                    refine ⟨fun (h26 : (S 196706 x1.toNatClampNeg) = 0) => ?_, fun (h26 : ¬ ((S 196706 x1.toNatClampNeg) = 0)) => ?_⟩
                    · exact ⟨(by first | rfl | exact z_nb _), z_pb hpo ((if_pos h1).trans ((if_neg h2).trans ((if_pos h11).trans ((if_pos h20).trans ((if_pos h21).trans ((if_pos h24).trans ((if_pos h25).trans ((if_pos h26).trans rfl)))))))) (rfl) (rfl)⟩
                    · refine ⟨fun h => absurd (by decide) h, fun _ => ?_⟩
                      exact ⟨(by first | rfl | exact z_nb _), z_pb hpo ((if_pos h1).trans ((if_neg h2).trans ((if_pos h11).trans ((if_pos h20).trans ((if_pos h21).trans ((if_pos h24).trans ((if_pos h25).trans ((if_neg h26).trans rfl)))))))) (rfl) (rfl)⟩
                · refine ⟨(show vp_in x1 12 by assumption), ?_⟩
                  refine ⟨fun (h27 : ¬ ((S 194657 x1.toNatClampNeg) = 0)) => ?_, fun (h27 : (S 194657 x1.toNatClampNeg) = 0) => ?_⟩
                  · exact ⟨(by first | rfl | exact z_nb _), z_pb hpo ((if_pos h1).trans ((if_neg h2).trans ((if_pos h11).trans ((if_pos h20).trans ((if_pos h21).trans ((if_neg h24).trans ((if_neg h27).trans rfl))))))) (rfl) (rfl)⟩
                  · refine ⟨fun h => absurd (by decide) h, fun _ => ?_⟩
                    refine ⟨fun h => absurd (by decide) h, fun _ => ?_⟩
                    refine ⟨(show vp_in x1 12 by assumption), ?_⟩
                    refine ⟨fun (h28 : (S 196706 x1.toNatClampNeg) = 0) => ?_, fun (h28 : ¬ ((S 196706 x1.toNatClampNeg) = 0)) => ?_⟩
                    · exact ⟨(by first | rfl | exact z_nb _), z_pb hpo ((if_pos h1).trans ((if_neg h2).trans ((if_pos h11).trans ((if_pos h20).trans ((if_pos h21).trans ((if_neg h24).trans ((if_pos h27).trans ((if_pos h28).trans rfl)))))))) (rfl) (rfl)⟩
                    · refine ⟨fun _ => ?_, fun h => absurd h (by decide)⟩
                      exact ⟨(by first | rfl | exact z_nb _), z_pb hpo ((if_pos h1).trans ((if_neg h2).trans ((if_pos h11).trans ((if_pos h20).trans ((if_pos h21).trans ((if_neg h24).trans ((if_pos h27).trans ((if_neg h28).trans rfl)))))))) (rfl) (rfl)⟩
            · refine ⟨(show vp_in x1 12 by assumption), ?_⟩
              refine ⟨fun (h29 : ¬ ((S 188513 x1.toNatClampNeg) = (nI 1))) => ?_, fun (h29 : (S 188513 x1.toNatClampNeg) = (nI 1)) => ?_⟩
              · refine ⟨(show vp_in x1 12 by assumption), ?_⟩
                refine ⟨fun (h30 : ¬ ((S 194657 x1.toNatClampNeg) = 0)) => ?_, fun (h30 : (S 194657 x1.toNatClampNeg) = 0) => ?_⟩
                · exact ⟨(by first | rfl | exact z_nb _), z_pb hpo ((if_pos h1).trans ((if_neg h2).trans ((if_pos h11).trans ((if_neg h20).trans ((if_neg h29).trans ((if_neg h30).trans rfl)))))) (rfl) (rfl)⟩
                · refine ⟨fun h => absurd (by decide) h, fun _ => ?_⟩
                  refine ⟨fun _ => ?_, fun h => absurd h (by decide)⟩
                  refine ⟨fun h => absurd (by decide) h, fun _ => ?_⟩
                  exact ⟨(by first | rfl | exact z_nb _), z_pb hpo ((if_pos h1).trans ((if_neg h2).trans ((if_pos h11).trans ((if_neg h20).trans ((if_neg h29).trans ((if_pos h30).trans rfl)))))) (rfl) (rfl)⟩
              · refine ⟨(show vp_in x1 12 by assumption), ?_⟩
                refine ⟨fun (h31 : (S 110648 1) ≤ (S 190561 x1.toNatClampNeg)) => ?_, fun (h31 : ¬ ((S 110648 1) ≤ (S 190561 x1.toNatClampNeg))) => ?_⟩
                · refine ⟨(show vp_in x1 12 by assumption), ?_⟩
                  refine ⟨fun (h32 : ¬ ((S 194657 x1.toNatClampNeg) = 0)) => ?_, fun (h32 : (S 194657 x1.toNatClampNeg) = 0) => ?_⟩
                  · exact ⟨(by first | rfl | exact z_nb _), z_pb hpo ((if_pos h1).trans ((if_neg h2).trans ((if_pos h11).trans ((if_neg h20).trans ((if_pos h29).trans ((if_pos h31).trans ((if_neg h32).trans rfl))))))) (rfl) (rfl)⟩
                  · refine ⟨fun h => absurd (by decide) h, fun _ => ?_⟩
                    refine ⟨fun _ => ?_, fun h => absurd h (by decide)⟩
                    refine ⟨fun h => absurd (by decide) h, fun _ => ?_⟩
                    exact ⟨(by first | rfl | exact z_nb _), z_pb hpo ((if_pos h1).trans ((if_neg h2).trans ((if_pos h11).trans ((if_neg h20).trans ((if_pos h29).trans ((if_pos h31).trans ((if_pos h32).trans rfl))))))) (rfl) (rfl)⟩
                · refine ⟨(show vp_in x1 12 by assumption), ?_⟩
                  refine ⟨fun (h33 : ¬ ((S 194657 x1.toNatClampNeg) = 0)) => ?_, fun (h33 : (S 194657 x1.toNatClampNeg) = 0) => ?_⟩
                  · exact ⟨(by first | rfl | exact z_nb _), z_pb hpo ((if_pos h1).trans ((if_neg h2).trans ((if_pos h11).trans ((if_neg h20).trans ((if_pos h29).trans ((if_neg h31).trans ((if_neg h33).trans rfl))))))) (rfl) (rfl)⟩
                  · refine ⟨fun h => absurd (by decide) h, fun _ => ?_⟩
                    refine ⟨fun _ => ?_, fun h => absurd h (by decide)⟩
                    refine ⟨fun _ => ?_, fun h => absurd h (by decide)⟩
                    exact ⟨(by first | rfl | exact z_nb _), z_pb hpo ((if_pos h1).trans ((if_neg h2).trans ((if_pos h11).trans ((if_neg h20).trans ((if_pos h29).trans ((if_neg h31).trans ((if_pos h33).trans rfl))))))) (rfl) (rfl)⟩
      · refine ⟨(show z_le (S 110648 33) 12 by assumption), (show vp_in x1 12 by assumption), ?_⟩
        refine ⟨(show vp_in x1 12 by assumption), ?_⟩
        refine ⟨fun (h34 : ¬ (((f_X7_partiesOf S P x1) &&& ((S 198753 x1.toNatClampNeg) ^^^ (-1))) = 0)) => ?_, fun (h34 : ((f_X7_partiesOf S P x1) &&& ((S 198753 x1.toNatClampNeg) ^^^ (-1))) = 0) => ?_⟩
        · refine ⟨(show vp_in x1 12 by assumption), ?_⟩
          refine ⟨fun (h35 : (S 192610 x1.toNatClampNeg) = 0) => ?_, fun (h35 : ¬ ((S 192610 x1.toNatClampNeg) = 0)) => ?_⟩
          · refine ⟨(show vp_in x1 12 by assumption), ?_⟩
            refine ⟨fun (h36 : ¬ ((S 188513 x1.toNatClampNeg) = (nI 1))) => ?_, fun (h36 : (S 188513 x1.toNatClampNeg) = (nI 1)) => ?_⟩
            · refine ⟨(show vp_in x1 12 by assumption), ?_⟩
              refine ⟨fun (h37 : ¬ ((S 194657 x1.toNatClampNeg) = 0)) => ?_, fun (h37 : (S 194657 x1.toNatClampNeg) = 0) => ?_⟩
              · exact ⟨(by first | rfl | exact z_nb _), z_pb hpo ((if_neg h1).trans ((if_neg h34).trans ((if_pos h35).trans ((if_neg h36).trans ((if_neg h37).trans rfl))))) (rfl) (rfl)⟩
              · refine ⟨fun h => absurd (by decide) h, fun _ => ?_⟩
                refine ⟨fun h => absurd (by decide) h, fun _ => ?_⟩
                refine ⟨(show vp_in x1 12 by assumption), ?_⟩
                refine ⟨fun (h38 : (S 196706 x1.toNatClampNeg) = 0) => ?_, fun (h38 : ¬ ((S 196706 x1.toNatClampNeg) = 0)) => ?_⟩
                · exact ⟨(by first | rfl | exact z_nb _), z_pb hpo ((if_neg h1).trans ((if_neg h34).trans ((if_pos h35).trans ((if_neg h36).trans ((if_pos h37).trans ((if_pos h38).trans rfl)))))) (rfl) (rfl)⟩
                · refine ⟨fun h => absurd (by decide) h, fun _ => ?_⟩
                  exact ⟨(by first | rfl | exact z_nb _), z_pb hpo ((if_neg h1).trans ((if_neg h34).trans ((if_pos h35).trans ((if_neg h36).trans ((if_pos h37).trans ((if_neg h38).trans rfl)))))) (rfl) (rfl)⟩
            · refine ⟨(show vp_in x1 12 by assumption), ?_⟩
              refine ⟨fun (h39 : (S 110648 1) ≤ (S 190561 x1.toNatClampNeg)) => ?_, fun (h39 : ¬ ((S 110648 1) ≤ (S 190561 x1.toNatClampNeg))) => ?_⟩
              · refine ⟨(show vp_in x1 12 by assumption), ?_⟩
                refine ⟨fun (h40 : ¬ ((S 194657 x1.toNatClampNeg) = 0)) => ?_, fun (h40 : (S 194657 x1.toNatClampNeg) = 0) => ?_⟩
                · exact ⟨(by first | rfl | exact z_nb _), z_pb hpo ((if_neg h1).trans ((if_neg h34).trans ((if_pos h35).trans ((if_pos h36).trans ((if_pos h39).trans ((if_neg h40).trans rfl)))))) (rfl) (rfl)⟩
                · refine ⟨fun h => absurd (by decide) h, fun _ => ?_⟩
                  refine ⟨fun h => absurd (by decide) h, fun _ => ?_⟩
                  refine ⟨(show vp_in x1 12 by assumption), ?_⟩
                  refine ⟨fun (h41 : (S 196706 x1.toNatClampNeg) = 0) => ?_, fun (h41 : ¬ ((S 196706 x1.toNatClampNeg) = 0)) => ?_⟩
                  · exact ⟨(by first | rfl | exact z_nb _), z_pb hpo ((if_neg h1).trans ((if_neg h34).trans ((if_pos h35).trans ((if_pos h36).trans ((if_pos h39).trans ((if_pos h40).trans ((if_pos h41).trans rfl))))))) (rfl) (rfl)⟩
                  · refine ⟨fun h => absurd (by decide) h, fun _ => ?_⟩
                    exact ⟨(by first | rfl | exact z_nb _), z_pb hpo ((if_neg h1).trans ((if_neg h34).trans ((if_pos h35).trans ((if_pos h36).trans ((if_pos h39).trans ((if_pos h40).trans ((if_neg h41).trans rfl))))))) (rfl) (rfl)⟩
              · refine ⟨(show vp_in x1 12 by assumption), ?_⟩
                refine ⟨fun (h42 : ¬ ((S 194657 x1.toNatClampNeg) = 0)) => ?_, fun (h42 : (S 194657 x1.toNatClampNeg) = 0) => ?_⟩
                · exact ⟨(by first | rfl | exact z_nb _), z_pb hpo ((if_neg h1).trans ((if_neg h34).trans ((if_pos h35).trans ((if_pos h36).trans ((if_neg h39).trans ((if_neg h42).trans rfl)))))) (rfl) (rfl)⟩
                · refine ⟨fun h => absurd (by decide) h, fun _ => ?_⟩
                  refine ⟨fun h => absurd (by decide) h, fun _ => ?_⟩
                  refine ⟨(show vp_in x1 12 by assumption), ?_⟩
                  refine ⟨fun (h43 : (S 196706 x1.toNatClampNeg) = 0) => ?_, fun (h43 : ¬ ((S 196706 x1.toNatClampNeg) = 0)) => ?_⟩
                  · exact ⟨(by first | rfl | exact z_nb _), z_pb hpo ((if_neg h1).trans ((if_neg h34).trans ((if_pos h35).trans ((if_pos h36).trans ((if_neg h39).trans ((if_pos h42).trans ((if_pos h43).trans rfl))))))) (rfl) (rfl)⟩
                  · refine ⟨fun _ => ?_, fun h => absurd h (by decide)⟩
                    exact ⟨(by first | rfl | exact z_nb _), z_pb hpo ((if_neg h1).trans ((if_neg h34).trans ((if_pos h35).trans ((if_pos h36).trans ((if_neg h39).trans ((if_pos h42).trans ((if_neg h43).trans rfl))))))) (rfl) (rfl)⟩
          · refine ⟨(show vp_in x1 12 by assumption), ?_⟩
            refine ⟨fun (h44 : ¬ ((S 200801 x1.toNatClampNeg) = 0)) => ?_, fun (h44 : (S 200801 x1.toNatClampNeg) = 0) => ?_⟩
            · refine ⟨(show vp_in x1 12 by assumption), ?_⟩
              refine ⟨fun (h45 : ¬ ((S 188513 x1.toNatClampNeg) = (nI 1))) => ?_, fun (h45 : (S 188513 x1.toNatClampNeg) = (nI 1)) => ?_⟩
              · refine ⟨(show vp_in x1 12 by assumption), ?_⟩
                refine ⟨fun (h46 : ¬ ((S 194657 x1.toNatClampNeg) = 0)) => ?_, fun (h46 : (S 194657 x1.toNatClampNeg) = 0) => ?_⟩
                · exact ⟨(by first | rfl | exact z_nb _), z_pb hpo ((if_neg h1).trans ((if_neg h34).trans ((if_neg h35).trans ((if_neg h44).trans ((if_neg h45).trans ((if_neg h46).trans rfl)))))) (rfl) (rfl)⟩
                · refine ⟨fun h => absurd (by decide) h, fun _ => ?_⟩
                  refine ⟨fun h => absurd (by decide) h, fun _ => ?_⟩
                  refine ⟨(show vp_in x1 12 by assumption), ?_⟩
                  refine ⟨fun (h47 : (S 196706 x1.toNatClampNeg) = 0) => ?_, fun (h47 : ¬ ((S 196706 x1.toNatClampNeg) = 0)) => ?_⟩
                  · exact ⟨(by first | rfl | exact z_nb _), z_pb hpo ((if_neg h1).trans ((if_neg h34).trans ((if_neg h35).trans ((if_neg h44).trans ((if_neg h45).trans ((if_pos h46).trans ((if_pos h47).trans rfl))))))) (rfl) (rfl)⟩
                  · refine ⟨fun h => absurd (by decide) h, fun _ => ?_⟩
                    exact ⟨(by first | rfl | exact z_nb _), z_pb hpo ((if_neg h1).trans ((if_neg h34).trans ((if_neg h35).trans ((if_neg h44).trans ((if_neg h45).trans ((if_pos h46).trans ((if_neg h47).trans rfl))))))) (rfl) (rfl)⟩
              · refine ⟨(show vp_in x1 12 by assumption), ?_⟩
                refine ⟨fun (h48 : (S 110648 1) ≤ (S 190561 x1.toNatClampNeg)) => ?_, fun (h48 : ¬ ((S 110648 1) ≤ (S 190561 x1.toNatClampNeg))) => ?_⟩
                · refine ⟨(show vp_in x1 12 by assumption), ?_⟩
                  refine ⟨fun (h49 : ¬ ((S 194657 x1.toNatClampNeg) = 0)) => ?_, fun (h49 : (S 194657 x1.toNatClampNeg) = 0) => ?_⟩
                  · exact ⟨(by first | rfl | exact z_nb _), z_pb hpo ((if_neg h1).trans ((if_neg h34).trans ((if_neg h35).trans ((if_neg h44).trans ((if_pos h45).trans ((if_pos h48).trans ((if_neg h49).trans rfl))))))) (rfl) (rfl)⟩
                  · refine ⟨fun h => absurd (by decide) h, fun _ => ?_⟩
                    refine ⟨fun h => absurd (by decide) h, fun _ => ?_⟩
                    refine ⟨(show vp_in x1 12 by assumption), ?_⟩
                    refine ⟨fun (h50 : (S 196706 x1.toNatClampNeg) = 0) => ?_, fun (h50 : ¬ ((S 196706 x1.toNatClampNeg) = 0)) => ?_⟩
                    · exact ⟨(by first | rfl | exact z_nb _), z_pb hpo ((if_neg h1).trans ((if_neg h34).trans ((if_neg h35).trans ((if_neg h44).trans ((if_pos h45).trans ((if_pos h48).trans ((if_pos h49).trans ((if_pos h50).trans rfl)))))))) (rfl) (rfl)⟩
                    · refine ⟨fun h => absurd (by decide) h, fun _ => ?_⟩
                      exact ⟨(by first | rfl | exact z_nb _), z_pb hpo ((if_neg h1).trans ((if_neg h34).trans ((if_neg h35).trans ((if_neg h44).trans ((if_pos h45).trans ((if_pos h48).trans ((if_pos h49).trans ((if_neg h50).trans rfl)))))))) (rfl) (rfl)⟩
                · refine ⟨(show vp_in x1 12 by assumption), ?_⟩
                  refine ⟨fun (h51 : ¬ ((S 194657 x1.toNatClampNeg) = 0)) => ?_, fun (h51 : (S 194657 x1.toNatClampNeg) = 0) => ?_⟩
                  · exact ⟨(by first | rfl | exact z_nb _), z_pb hpo ((if_neg h1).trans ((if_neg h34).trans ((if_neg h35).trans ((if_neg h44).trans ((if_pos h45).trans ((if_neg h48).trans ((if_neg h51).trans rfl))))))) (rfl) (rfl)⟩
                  · refine ⟨fun h => absurd (by decide) h, fun _ => ?_⟩
                    refine ⟨fun h => absurd (by decide) h, fun _ => ?_⟩
                    refine ⟨(show vp_in x1 12 by assumption), ?_⟩
                    refine ⟨fun (h52 : (S 196706 x1.toNatClampNeg) = 0) => ?_, fun (h52 : ¬ ((S 196706 x1.toNatClampNeg) = 0)) => ?_⟩
                    · exact ⟨(by first | rfl | exact z_nb _), z_pb hpo ((if_neg h1).trans ((if_neg h34).trans ((if_neg h35).trans ((if_neg h44).trans ((if_pos h45).trans ((if_neg h48).trans ((if_pos h51).trans ((if_pos h52).trans rfl)))))))) (rfl) (rfl)⟩
                    · refine ⟨fun _ => ?_, fun h => absurd h (by decide)⟩
                      exact ⟨(by first | rfl | exact z_nb _), z_pb hpo ((if_neg h1).trans ((if_neg h34).trans ((if_neg h35).trans ((if_neg h44).trans ((if_pos h45).trans ((if_neg h48).trans ((if_pos h51).trans ((if_neg h52).trans rfl)))))))) (rfl) (rfl)⟩
            · refine ⟨(show vp_in x1 12 by assumption), ?_⟩
              refine ⟨fun (h53 : (f_X7_age S P x1) ≤ (nI 4)) => ?_, fun (h53 : ¬ ((f_X7_age S P x1) ≤ (nI 4))) => ?_⟩
              · refine ⟨(show vp_in x1 12 by assumption), ?_⟩
                refine ⟨fun (h54 : ¬ ((S 188513 x1.toNatClampNeg) = (nI 1))) => ?_, fun (h54 : (S 188513 x1.toNatClampNeg) = (nI 1)) => ?_⟩
                · refine ⟨(show vp_in x1 12 by assumption), ?_⟩
                  refine ⟨fun (h55 : ¬ ((S 194657 x1.toNatClampNeg) = 0)) => ?_, fun (h55 : (S 194657 x1.toNatClampNeg) = 0) => ?_⟩
                  · exact ⟨(by first | rfl | exact z_nb _), z_pb hpo ((if_neg h1).trans ((if_neg h34).trans ((if_neg h35).trans ((if_pos h44).trans ((if_pos h53).trans ((if_neg h54).trans ((if_neg h55).trans rfl))))))) (rfl) (rfl)⟩
                  · refine ⟨fun h => absurd (by decide) h, fun _ => ?_⟩
                    refine ⟨fun h => absurd (by decide) h, fun _ => ?_⟩
                    refine ⟨(show vp_in x1 12 by assumption), ?_⟩
                    refine ⟨fun (h56 : (S 196706 x1.toNatClampNeg) = 0) => ?_, fun (h56 : ¬ ((S 196706 x1.toNatClampNeg) = 0)) => ?_⟩
                    · exact ⟨(by first | rfl | exact z_nb _), z_pb hpo ((if_neg h1).trans ((if_neg h34).trans ((if_neg h35).trans ((if_pos h44).trans ((if_pos h53).trans ((if_neg h54).trans ((if_pos h55).trans ((if_pos h56).trans rfl)))))))) (rfl) (rfl)⟩
                    · refine ⟨fun h => absurd (by decide) h, fun _ => ?_⟩
                      exact ⟨(by first | rfl | exact z_nb _), z_pb hpo ((if_neg h1).trans ((if_neg h34).trans ((if_neg h35).trans ((if_pos h44).trans ((if_pos h53).trans ((if_neg h54).trans ((if_pos h55).trans ((if_neg h56).trans rfl)))))))) (rfl) (rfl)⟩
                · refine ⟨(show vp_in x1 12 by assumption), ?_⟩
                  refine ⟨fun (h57 : (S 110648 1) ≤ (S 190561 x1.toNatClampNeg)) => ?_, fun (h57 : ¬ ((S 110648 1) ≤ (S 190561 x1.toNatClampNeg))) => ?_⟩
                  · refine ⟨(show vp_in x1 12 by assumption), ?_⟩
                    refine ⟨fun (h58 : ¬ ((S 194657 x1.toNatClampNeg) = 0)) => ?_, fun (h58 : (S 194657 x1.toNatClampNeg) = 0) => ?_⟩
                    · exact ⟨(by first | rfl | exact z_nb _), z_pb hpo ((if_neg h1).trans ((if_neg h34).trans ((if_neg h35).trans ((if_pos h44).trans ((if_pos h53).trans ((if_pos h54).trans ((if_pos h57).trans ((if_neg h58).trans rfl)))))))) (rfl) (rfl)⟩
                    · refine ⟨fun h => absurd (by decide) h, fun _ => ?_⟩
                      refine ⟨fun h => absurd (by decide) h, fun _ => ?_⟩
                      refine ⟨(show vp_in x1 12 by assumption), ?_⟩
                      refine ⟨fun (h59 : (S 196706 x1.toNatClampNeg) = 0) => ?_, fun (h59 : ¬ ((S 196706 x1.toNatClampNeg) = 0)) => ?_⟩
                      · exact ⟨(by first | rfl | exact z_nb _), z_pb hpo ((if_neg h1).trans ((if_neg h34).trans ((if_neg h35).trans ((if_pos h44).trans ((if_pos h53).trans ((if_pos h54).trans ((if_pos h57).trans ((if_pos h58).trans ((if_pos h59).trans rfl))))))))) (rfl) (rfl)⟩
                      · refine ⟨fun h => absurd (by decide) h, fun _ => ?_⟩
                        exact ⟨(by first | rfl | exact z_nb _), z_pb hpo ((if_neg h1).trans ((if_neg h34).trans ((if_neg h35).trans ((if_pos h44).trans ((if_pos h53).trans ((if_pos h54).trans ((if_pos h57).trans ((if_pos h58).trans ((if_neg h59).trans rfl))))))))) (rfl) (rfl)⟩
                  · refine ⟨(show vp_in x1 12 by assumption), ?_⟩
                    refine ⟨fun (h60 : ¬ ((S 194657 x1.toNatClampNeg) = 0)) => ?_, fun (h60 : (S 194657 x1.toNatClampNeg) = 0) => ?_⟩
                    · exact ⟨(by first | rfl | exact z_nb _), z_pb hpo ((if_neg h1).trans ((if_neg h34).trans ((if_neg h35).trans ((if_pos h44).trans ((if_pos h53).trans ((if_pos h54).trans ((if_neg h57).trans ((if_neg h60).trans rfl)))))))) (rfl) (rfl)⟩
                    · refine ⟨fun h => absurd (by decide) h, fun _ => ?_⟩
                      refine ⟨fun h => absurd (by decide) h, fun _ => ?_⟩
                      refine ⟨(show vp_in x1 12 by assumption), ?_⟩
                      refine ⟨fun (h61 : (S 196706 x1.toNatClampNeg) = 0) => ?_, fun (h61 : ¬ ((S 196706 x1.toNatClampNeg) = 0)) => ?_⟩
                      · exact ⟨(by first | rfl | exact z_nb _), z_pb hpo ((if_neg h1).trans ((if_neg h34).trans ((if_neg h35).trans ((if_pos h44).trans ((if_pos h53).trans ((if_pos h54).trans ((if_neg h57).trans ((if_pos h60).trans ((if_pos h61).trans rfl))))))))) (rfl) (rfl)⟩
                      · refine ⟨fun _ => ?_, fun h => absurd h (by decide)⟩
                        exact ⟨(by first | rfl | exact z_nb _), z_pb hpo ((if_neg h1).trans ((if_neg h34).trans ((if_neg h35).trans ((if_pos h44).trans ((if_pos h53).trans ((if_pos h54).trans ((if_neg h57).trans ((if_pos h60).trans ((if_neg h61).trans rfl))))))))) (rfl) (rfl)⟩
              · refine ⟨(show vp_in x1 12 by assumption), ?_⟩
                refine ⟨fun (h62 : ¬ ((S 188513 x1.toNatClampNeg) = (nI 1))) => ?_, fun (h62 : (S 188513 x1.toNatClampNeg) = (nI 1)) => ?_⟩
                · refine ⟨(show vp_in x1 12 by assumption), ?_⟩
                  refine ⟨fun (h63 : ¬ ((S 194657 x1.toNatClampNeg) = 0)) => ?_, fun (h63 : (S 194657 x1.toNatClampNeg) = 0) => ?_⟩
                  · exact ⟨(by first | rfl | exact z_nb _), z_pb hpo ((if_neg h1).trans ((if_neg h34).trans ((if_neg h35).trans ((if_pos h44).trans ((if_neg h53).trans ((if_neg h62).trans ((if_neg h63).trans rfl))))))) (rfl) (rfl)⟩
                  · refine ⟨fun h => absurd (by decide) h, fun _ => ?_⟩
                    refine ⟨fun _ => ?_, fun h => absurd h (by decide)⟩
                    refine ⟨fun h => absurd (by decide) h, fun _ => ?_⟩
                    exact ⟨(by first | rfl | exact z_nb _), z_pb hpo ((if_neg h1).trans ((if_neg h34).trans ((if_neg h35).trans ((if_pos h44).trans ((if_neg h53).trans ((if_neg h62).trans ((if_pos h63).trans rfl))))))) (rfl) (rfl)⟩
                · refine ⟨(show vp_in x1 12 by assumption), ?_⟩
                  refine ⟨fun (h64 : (S 110648 1) ≤ (S 190561 x1.toNatClampNeg)) => ?_, fun (h64 : ¬ ((S 110648 1) ≤ (S 190561 x1.toNatClampNeg))) => ?_⟩
                  · refine ⟨(show vp_in x1 12 by assumption), ?_⟩
                    refine ⟨fun (h65 : ¬ ((S 194657 x1.toNatClampNeg) = 0)) => ?_, fun (h65 : (S 194657 x1.toNatClampNeg) = 0) => ?_⟩
                    · exact ⟨(by first | rfl | exact z_nb _), z_pb hpo ((if_neg h1).trans ((if_neg h34).trans ((if_neg h35).trans ((if_pos h44).trans ((if_neg h53).trans ((if_pos h62).trans ((if_pos h64).trans ((if_neg h65).trans rfl)))))))) (rfl) (rfl)⟩
                    · refine ⟨fun h => absurd (by decide) h, fun _ => ?_⟩
                      refine ⟨fun _ => ?_, fun h => absurd h (by decide)⟩
                      refine ⟨fun h => absurd (by decide) h, fun _ => ?_⟩
                      exact ⟨(by first | rfl | exact z_nb _), z_pb hpo ((if_neg h1).trans ((if_neg h34).trans ((if_neg h35).trans ((if_pos h44).trans ((if_neg h53).trans ((if_pos h62).trans ((if_pos h64).trans ((if_pos h65).trans rfl)))))))) (rfl) (rfl)⟩
                  · refine ⟨(show vp_in x1 12 by assumption), ?_⟩
                    refine ⟨fun (h66 : ¬ ((S 194657 x1.toNatClampNeg) = 0)) => ?_, fun (h66 : (S 194657 x1.toNatClampNeg) = 0) => ?_⟩
                    · exact ⟨(by first | rfl | exact z_nb _), z_pb hpo ((if_neg h1).trans ((if_neg h34).trans ((if_neg h35).trans ((if_pos h44).trans ((if_neg h53).trans ((if_pos h62).trans ((if_neg h64).trans ((if_neg h66).trans rfl)))))))) (rfl) (rfl)⟩
                    · refine ⟨fun h => absurd (by decide) h, fun _ => ?_⟩
                      refine ⟨fun _ => ?_, fun h => absurd h (by decide)⟩
                      refine ⟨fun _ => ?_, fun h => absurd h (by decide)⟩
                      exact ⟨(by first | rfl | exact z_nb _), z_pb hpo ((if_neg h1).trans ((if_neg h34).trans ((if_neg h35).trans ((if_pos h44).trans ((if_neg h53).trans ((if_pos h62).trans ((if_neg h64).trans ((if_pos h66).trans rfl)))))))) (rfl) (rfl)⟩
        · refine ⟨(show vp_in x1 12 by assumption), ?_⟩
          refine ⟨fun (h67 : (S 192610 x1.toNatClampNeg) = 0) => ?_, fun (h67 : ¬ ((S 192610 x1.toNatClampNeg) = 0)) => ?_⟩
          · refine ⟨(show vp_in x1 12 by assumption), ?_⟩
            refine ⟨fun (h68 : ¬ ((S 188513 x1.toNatClampNeg) = (nI 1))) => ?_, fun (h68 : (S 188513 x1.toNatClampNeg) = (nI 1)) => ?_⟩
            · refine ⟨(show vp_in x1 12 by assumption), ?_⟩
              refine ⟨fun (h69 : ¬ ((S 194657 x1.toNatClampNeg) = 0)) => ?_, fun (h69 : (S 194657 x1.toNatClampNeg) = 0) => ?_⟩
              · exact ⟨(by first | rfl | exact z_nb _), z_pb hpo ((if_neg h1).trans ((if_pos h34).trans ((if_pos h67).trans ((if_neg h68).trans ((if_neg h69).trans rfl))))) (rfl) (rfl)⟩
              · refine ⟨fun _ => ?_, fun h => absurd h (by decide)⟩
                refine ⟨fun h => absurd (by decide) h, fun _ => ?_⟩
                exact ⟨(by first | rfl | exact z_nb _), z_pb hpo ((if_neg h1).trans ((if_pos h34).trans ((if_pos h67).trans ((if_neg h68).trans ((if_pos h69).trans rfl))))) (rfl) (rfl)⟩
            · refine ⟨(show vp_in x1 12 by assumption), ?_⟩
              refine ⟨fun (h70 : (S 110648 1) ≤ (S 190561 x1.toNatClampNeg)) => ?_, fun (h70 : ¬ ((S 110648 1) ≤ (S 190561 x1.toNatClampNeg))) => ?_⟩
              · refine ⟨(show vp_in x1 12 by assumption), ?_⟩
                refine ⟨fun (h71 : ¬ ((S 194657 x1.toNatClampNeg) = 0)) => ?_, fun (h71 : (S 194657 x1.toNatClampNeg) = 0) => ?_⟩
                · exact ⟨(by first | rfl | exact z_nb _), z_pb hpo ((if_neg h1).trans ((if_pos h34).trans ((if_pos h67).trans ((if_pos h68).trans ((if_pos h70).trans ((if_neg h71).trans rfl)))))) (rfl) (rfl)⟩
                · refine ⟨fun _ => ?_, fun h => absurd h (by decide)⟩
                  refine ⟨fun h => absurd (by decide) h, fun _ => ?_⟩
                  exact ⟨(by first | rfl | exact z_nb _), z_pb hpo ((if_neg h1).trans ((if_pos h34).trans ((if_pos h67).trans ((if_pos h68).trans ((if_pos h70).trans ((if_pos h71).trans rfl)))))) (rfl) (rfl)⟩
              · refine ⟨(show vp_in x1 12 by assumption), ?_⟩
                refine ⟨fun (h72 : ¬ ((S 194657 x1.toNatClampNeg) = 0)) => ?_, fun (h72 : (S 194657 x1.toNatClampNeg) = 0) => ?_⟩
                · exact ⟨(by first | rfl | exact z_nb _), z_pb hpo ((if_neg h1).trans ((if_pos h34).trans ((if_pos h67).trans ((if_pos h68).trans ((if_neg h70).trans ((if_neg h72).trans rfl)))))) (rfl) (rfl)⟩
                · refine ⟨fun _ => ?_, fun h => absurd h (by decide)⟩
                  refine ⟨fun _ => ?_, fun h => absurd h (by decide)⟩
                  exact ⟨(by first | rfl | exact z_nb _), z_pb hpo ((if_neg h1).trans ((if_pos h34).trans ((if_pos h67).trans ((if_pos h68).trans ((if_neg h70).trans ((if_pos h72).trans rfl)))))) (rfl) (rfl)⟩
          · refine ⟨(show vp_in x1 12 by assumption), ?_⟩
            refine ⟨fun (h73 : ¬ ((S 200801 x1.toNatClampNeg) = 0)) => ?_, fun (h73 : (S 200801 x1.toNatClampNeg) = 0) => ?_⟩
            · refine ⟨(show vp_in x1 12 by assumption), ?_⟩
              refine ⟨fun (h74 : ¬ ((S 188513 x1.toNatClampNeg) = (nI 1))) => ?_, fun (h74 : (S 188513 x1.toNatClampNeg) = (nI 1)) => ?_⟩
              · refine ⟨(show vp_in x1 12 by assumption), ?_⟩
                refine ⟨fun (h75 : ¬ ((S 194657 x1.toNatClampNeg) = 0)) => ?_, fun (h75 : (S 194657 x1.toNatClampNeg) = 0) => ?_⟩
                · exact ⟨(by first | rfl | exact z_nb _), z_pb hpo ((if_neg h1).trans ((if_pos h34).trans ((if_neg h67).trans ((if_neg h73).trans ((if_neg h74).trans ((if_neg h75).trans rfl)))))) (rfl) (rfl)⟩
                · refine ⟨fun _ => ?_, fun h => absurd h (by decide)⟩
                  refine ⟨fun h => absurd (by decide) h, fun _ => ?_⟩
                  exact ⟨(by first | rfl | exact z_nb _), z_pb hpo ((if_neg h1).trans ((if_pos h34).trans ((if_neg h67).trans ((if_neg h73).trans ((if_neg h74).trans ((if_pos h75).trans rfl)))))) (rfl) (rfl)⟩
              · refine ⟨(show vp_in x1 12 by assumption), ?_⟩
                refine ⟨fun (h76 : (S 110648 1) ≤ (S 190561 x1.toNatClampNeg)) => ?_, fun (h76 : ¬ ((S 110648 1) ≤ (S 190561 x1.toNatClampNeg))) => ?_⟩
                · refine ⟨(show vp_in x1 12 by assumption), ?_⟩
                  refine ⟨fun (h77 : ¬ ((S 194657 x1.toNatClampNeg) = 0)) => ?_, fun (h77 : (S 194657 x1.toNatClampNeg) = 0) => ?_⟩
                  · exact ⟨(by first | rfl | exact z_nb _), z_pb hpo ((if_neg h1).trans ((if_pos h34).trans ((if_neg h67).trans ((if_neg h73).trans ((if_pos h74).trans ((if_pos h76).trans ((if_neg h77).trans rfl))))))) (rfl) (rfl)⟩
                  · refine ⟨fun _ => ?_, fun h => absurd h (by decide)⟩
                    refine ⟨fun h => absurd (by decide) h, fun _ => ?_⟩
                    exact ⟨(by first | rfl | exact z_nb _), z_pb hpo ((if_neg h1).trans ((if_pos h34).trans ((if_neg h67).trans ((if_neg h73).trans ((if_pos h74).trans ((if_pos h76).trans ((if_pos h77).trans rfl))))))) (rfl) (rfl)⟩
                · refine ⟨(show vp_in x1 12 by assumption), ?_⟩
                  refine ⟨fun (h78 : ¬ ((S 194657 x1.toNatClampNeg) = 0)) => ?_, fun (h78 : (S 194657 x1.toNatClampNeg) = 0) => ?_⟩
                  · exact ⟨(by first | rfl | exact z_nb _), z_pb hpo ((if_neg h1).trans ((if_pos h34).trans ((if_neg h67).trans ((if_neg h73).trans ((if_pos h74).trans ((if_neg h76).trans ((if_neg h78).trans rfl))))))) (rfl) (rfl)⟩
                  · refine ⟨fun _ => ?_, fun h => absurd h (by decide)⟩
                    refine ⟨fun _ => ?_, fun h => absurd h (by decide)⟩
                    exact ⟨(by first | rfl | exact z_nb _), z_pb hpo ((if_neg h1).trans ((if_pos h34).trans ((if_neg h67).trans ((if_neg h73).trans ((if_pos h74).trans ((if_neg h76).trans ((if_pos h78).trans rfl))))))) (rfl) (rfl)⟩
            · refine ⟨(show vp_in x1 12 by assumption), ?_⟩
              refine ⟨fun (h79 : (f_X7_age S P x1) ≤ (nI 4)) => ?_, fun (h79 : ¬ ((f_X7_age S P x1) ≤ (nI 4))) => ?_⟩
              · refine ⟨(show vp_in x1 12 by assumption), ?_⟩
                refine ⟨fun (h80 : ¬ ((S 188513 x1.toNatClampNeg) = (nI 1))) => ?_, fun (h80 : (S 188513 x1.toNatClampNeg) = (nI 1)) => ?_⟩
                · refine ⟨(show vp_in x1 12 by assumption), ?_⟩
                  refine ⟨fun (h81 : ¬ ((S 194657 x1.toNatClampNeg) = 0)) => ?_, fun (h81 : (S 194657 x1.toNatClampNeg) = 0) => ?_⟩
                  · exact ⟨(by first | rfl | exact z_nb _), z_pb hpo ((if_neg h1).trans ((if_pos h34).trans ((if_neg h67).trans ((if_pos h73).trans ((if_pos h79).trans ((if_neg h80).trans ((if_neg h81).trans rfl))))))) (rfl) (rfl)⟩
                  · refine ⟨fun _ => ?_, fun h => absurd h (by decide)⟩
                    refine ⟨fun h => absurd (by decide) h, fun _ => ?_⟩
                    exact ⟨(by first | rfl | exact z_nb _), z_pb hpo ((if_neg h1).trans ((if_pos h34).trans ((if_neg h67).trans ((if_pos h73).trans ((if_pos h79).trans ((if_neg h80).trans ((if_pos h81).trans rfl))))))) (rfl) (rfl)⟩
                · refine ⟨(show vp_in x1 12 by assumption), ?_⟩
                  refine ⟨fun (h82 : (S 110648 1) ≤ (S 190561 x1.toNatClampNeg)) => ?_, fun (h82 : ¬ ((S 110648 1) ≤ (S 190561 x1.toNatClampNeg))) => ?_⟩
                  · refine ⟨(show vp_in x1 12 by assumption), ?_⟩
                    refine ⟨fun (h83 : ¬ ((S 194657 x1.toNatClampNeg) = 0)) => ?_, fun (h83 : (S 194657 x1.toNatClampNeg) = 0) => ?_⟩
                    · exact ⟨(by first | rfl | exact z_nb _), z_pb hpo ((if_neg h1).trans ((if_pos h34).trans ((if_neg h67).trans ((if_pos h73).trans ((if_pos h79).trans ((if_pos h80).trans ((if_pos h82).trans ((if_neg h83).trans rfl)))))))) (rfl) (rfl)⟩
                    · refine ⟨fun _ => ?_, fun h => absurd h (by decide)⟩
                      refine ⟨fun h => absurd (by decide) h, fun _ => ?_⟩
                      exact ⟨(by first | rfl | exact z_nb _), z_pb hpo ((if_neg h1).trans ((if_pos h34).trans ((if_neg h67).trans ((if_pos h73).trans ((if_pos h79).trans ((if_pos h80).trans ((if_pos h82).trans ((if_pos h83).trans rfl)))))))) (rfl) (rfl)⟩
                  · refine ⟨(show vp_in x1 12 by assumption), ?_⟩
                    refine ⟨fun (h84 : ¬ ((S 194657 x1.toNatClampNeg) = 0)) => ?_, fun (h84 : (S 194657 x1.toNatClampNeg) = 0) => ?_⟩
                    · exact ⟨(by first | rfl | exact z_nb _), z_pb hpo ((if_neg h1).trans ((if_pos h34).trans ((if_neg h67).trans ((if_pos h73).trans ((if_pos h79).trans ((if_pos h80).trans ((if_neg h82).trans ((if_neg h84).trans rfl)))))))) (rfl) (rfl)⟩
                    · refine ⟨fun _ => ?_, fun h => absurd h (by decide)⟩
                      refine ⟨fun _ => ?_, fun h => absurd h (by decide)⟩
                      exact ⟨(by first | rfl | exact z_nb _), z_pb hpo ((if_neg h1).trans ((if_pos h34).trans ((if_neg h67).trans ((if_pos h73).trans ((if_pos h79).trans ((if_pos h80).trans ((if_neg h82).trans ((if_pos h84).trans rfl)))))))) (rfl) (rfl)⟩
              · refine ⟨(show vp_in x1 12 by assumption), ?_⟩
                refine ⟨fun (h85 : ¬ ((S 188513 x1.toNatClampNeg) = (nI 1))) => ?_, fun (h85 : (S 188513 x1.toNatClampNeg) = (nI 1)) => ?_⟩
                · refine ⟨(show vp_in x1 12 by assumption), ?_⟩
                  refine ⟨fun (h86 : ¬ ((S 194657 x1.toNatClampNeg) = 0)) => ?_, fun (h86 : (S 194657 x1.toNatClampNeg) = 0) => ?_⟩
                  · exact ⟨(by first | rfl | exact z_nb _), z_pb hpo ((if_neg h1).trans ((if_pos h34).trans ((if_neg h67).trans ((if_pos h73).trans ((if_neg h79).trans ((if_neg h85).trans ((if_neg h86).trans rfl))))))) (rfl) (rfl)⟩
                  · refine ⟨fun _ => ?_, fun h => absurd h (by decide)⟩
                    refine ⟨fun h => absurd (by decide) h, fun _ => ?_⟩
                    exact ⟨(by first | rfl | exact z_nb _), z_pb hpo ((if_neg h1).trans ((if_pos h34).trans ((if_neg h67).trans ((if_pos h73).trans ((if_neg h79).trans ((if_neg h85).trans ((if_pos h86).trans rfl))))))) (rfl) (rfl)⟩
                · refine ⟨(show vp_in x1 12 by assumption), ?_⟩
                  refine ⟨fun (h87 : (S 110648 1) ≤ (S 190561 x1.toNatClampNeg)) => ?_, fun (h87 : ¬ ((S 110648 1) ≤ (S 190561 x1.toNatClampNeg))) => ?_⟩
                  · refine ⟨(show vp_in x1 12 by assumption), ?_⟩
                    refine ⟨fun (h88 : ¬ ((S 194657 x1.toNatClampNeg) = 0)) => ?_, fun (h88 : (S 194657 x1.toNatClampNeg) = 0) => ?_⟩
                    · exact ⟨(by first | rfl | exact z_nb _), z_pb hpo ((if_neg h1).trans ((if_pos h34).trans ((if_neg h67).trans ((if_pos h73).trans ((if_neg h79).trans ((if_pos h85).trans ((if_pos h87).trans ((if_neg h88).trans rfl)))))))) (rfl) (rfl)⟩
                    · refine ⟨fun _ => ?_, fun h => absurd h (by decide)⟩
                      refine ⟨fun h => absurd (by decide) h, fun _ => ?_⟩
                      exact ⟨(by first | rfl | exact z_nb _), z_pb hpo ((if_neg h1).trans ((if_pos h34).trans ((if_neg h67).trans ((if_pos h73).trans ((if_neg h79).trans ((if_pos h85).trans ((if_pos h87).trans ((if_pos h88).trans rfl)))))))) (rfl) (rfl)⟩
                  · refine ⟨(show vp_in x1 12 by assumption), ?_⟩
                    refine ⟨fun (h89 : ¬ ((S 194657 x1.toNatClampNeg) = 0)) => ?_, fun (h89 : (S 194657 x1.toNatClampNeg) = 0) => ?_⟩
                    · exact ⟨(by first | rfl | exact z_nb _), z_pb hpo ((if_neg h1).trans ((if_pos h34).trans ((if_neg h67).trans ((if_pos h73).trans ((if_neg h79).trans ((if_pos h85).trans ((if_neg h87).trans ((if_neg h89).trans rfl)))))))) (rfl) (rfl)⟩
                    · refine ⟨fun _ => ?_, fun h => absurd h (by decide)⟩
                      refine ⟨fun _ => ?_, fun h => absurd h (by decide)⟩
                      exact ⟨(by first | rfl | exact z_nb _), z_pb hpo ((if_neg h1).trans ((if_pos h34).trans ((if_neg h67).trans ((if_pos h73).trans ((if_neg h79).trans ((if_pos h85).trans ((if_neg h87).trans ((if_pos h89).trans rfl)))))))) (rfl) (rfl)⟩
    · exact h.elim
def l_X7_took_10 (S : z_MI) (P : z_ML) (x1 : Int32) (x2 : Int32) (k10 : Nat) (a10 : Int32) : Int32 :=
  if (S 155969 ((nI k10).toNatClampNeg)) = 0 then
    if (f_X7_has S P (S 151873 ((nI k10).toNatClampNeg)) x2) = true then
      if (S 160066 ((nI k10).toNatClampNeg)) = 0 then
        if (S 162113 ((nI k10).toNatClampNeg)) = (-1) then
          if (S 149825 ((nI k10).toNatClampNeg)) < (S 149825 x1.toNatClampNeg) then
            a10 &&& ((S 153921 ((nI k10).toNatClampNeg)) ^^^ (-1))
          else
            if (S 149825 ((nI k10).toNatClampNeg)) = (S 149825 x1.toNatClampNeg) then
              if x1 ≤ (nI k10) then
                a10 &&& (nI 31)
              else
                a10 &&& ((S 153921 ((nI k10).toNatClampNeg)) ^^^ (-1))
            else
              a10 &&& (nI 31)
        else
          if (S 149825 ((nI k10).toNatClampNeg)) < (S 149825 x1.toNatClampNeg) then
            a10 &&& (nI 31)
          else
            if (S 149825 ((nI k10).toNatClampNeg)) = (S 149825 x1.toNatClampNeg) then
              if x1 ≤ (nI k10) then
                a10 &&& (nI 31)
              else
                a10 &&& (nI 31)
            else
              a10 &&& (nI 31)
      else
        if (S 149825 ((nI k10).toNatClampNeg)) < (S 149825 x1.toNatClampNeg) then
          a10 &&& (nI 31)
        else
          if (S 149825 ((nI k10).toNatClampNeg)) = (S 149825 x1.toNatClampNeg) then
            if x1 ≤ (nI k10) then
              a10 &&& (nI 31)
            else
              a10 &&& (nI 31)
          else
            a10 &&& (nI 31)
    else
      if (S 149825 ((nI k10).toNatClampNeg)) < (S 149825 x1.toNatClampNeg) then
        a10 &&& (nI 31)
      else
        if (S 149825 ((nI k10).toNatClampNeg)) = (S 149825 x1.toNatClampNeg) then
          if x1 ≤ (nI k10) then
            a10 &&& (nI 31)
          else
            a10 &&& (nI 31)
        else
          a10 &&& (nI 31)
  else
    if (S 149825 ((nI k10).toNatClampNeg)) < (S 149825 x1.toNatClampNeg) then
      a10 &&& (nI 31)
    else
      if (S 149825 ((nI k10).toNatClampNeg)) = (S 149825 x1.toNatClampNeg) then
        if x1 ≤ (nI k10) then
          a10 &&& (nI 31)
        else
          a10 &&& (nI 31)
      else
        a10 &&& (nI 31)
def f_X7_took (S : z_MI) (P : z_ML) (x1 : Int32) (x2 : Int32) : Int32 :=
  (z_fo (fun k10 a10 => l_X7_took_10 S P x1 x2 k10 a10) (S 153921 x1.toNatClampNeg) (S 110648 24).toNatClampNeg)
def sp_X7_took : z_SP := fun as S P k => match as with
  | [.int x1, .int x2] => vp_in x1 40 ∧ z_le (S 110648 24) 40 ∧ k (some (.int (f_X7_took S P x1 x2))) S P
  | _ => False
def G_X7_took : z_G := ([(0, .aload_n 0, 1, 0), (1, .getfield 71, 4, 0), (4, .iload_n 1, 5, 0), (5, .iaload, 6, 0), (6, .istore_n 3, 7, 0), (7, .iconst 0, 8, 0), (8, .istore 4, 10, 0), (10, .iload 4, 12, 0), (12, .aload_n 0, 13, 0), (13, .getfield 164, 16, 0), (16, .if_icmp .ge 133, 19, 149), (19, .aload_n 0, 20, 0), (20, .getfield 74, 23, 0), (23, .iload 4, 25, 0), (25, .iaload, 26, 0), (26, .ifCond .ne 42, 29, 68), (29, .aload_n 0, 30, 0), (30, .getfield 68, 33, 0), (33, .iload 4, 35, 0), (35, .iaload, 36, 0), (36, .iload_n 2, 37, 0), (37, .invokestatic 180, 40, 0), (40, .ifCond .eq 28, 43, 68), (43, .aload_n 0, 44, 0), (44, .getfield 80, 47, 0), (47, .iload 4, 49, 0), (49, .baload, 50, 0), (50, .ifCond .ne 18, 53, 68), (53, .aload_n 0, 54, 0), (54, .getfield 84, 57, 0), (57, .iload 4, 59, 0), (59, .iaload, 60, 0), (60, .iconst (-1), 61, 0), (61, .if_icmp .ne 7, 64, 68), (64, .iconst 1, 65, 0), (65, .goto 4, 68, 69), (68, .iconst 0, 69, 0), (69, .istore 5, 71, 0), (71, .aload_n 0, 72, 0), (72, .getfield 65, 75, 0), (75, .iload 4, 77, 0), (77, .iaload, 78, 0), (78, .aload_n 0, 79, 0), (79, .getfield 65, 82, 0), (82, .iload_n 1, 83, 0), (83, .iaload, 84, 0), (84, .if_icmp .lt 25, 87, 109), (87, .aload_n 0, 88, 0), (88, .getfield 65, 91, 0), (91, .iload 4, 93, 0), (93, .iaload, 94, 0), (94, .aload_n 0, 95, 0), (95, .getfield 65, 98, 0), (98, .iload_n 1, 99, 0), (99, .iaload, 100, 0), (100, .if_icmp .ne 13, 103, 113), (103, .iload 4, 105, 0), (105, .iload_n 1, 106, 0), (106, .if_icmp .ge 7, 109, 113), (109, .iconst 1, 110, 0), (110, .goto 4, 113, 114), (113, .iconst 0, 114, 0), (114, .istore 6, 116, 0), (116, .iload_n 3, 117, 0), (117, .iload 5, 119, 0), (119, .ifCond .eq 20, 122, 139), (122, .iload 6, 124, 0), (124, .ifCond .eq 15, 127, 139), (127, .aload_n 0, 128, 0), (128, .getfield 71, 131, 0), (131, .iload 4, 133, 0), (133, .iaload, 134, 0), (134, .iconst (-1), 135, 0), (135, .ixor, 136, 0), (136, .goto 5, 139, 141), (139, .bipush 31, 141, 0), (141, .iand, 142, 0), (142, .istore_n 3, 143, 0), (143, .iinc 4 1, 146, 0), (146, .goto (-136), 149, 10), (149, .iload_n 3, 150, 0), (150, .ireturn, 151, 0)], [(65, 110648, 25, some 149825), (68, 110648, 26, some 151873), (71, 110648, 27, some 153921), (74, 110648, 28, some 155969), (80, 110648, 30, some 160066), (84, 110648, 31, some 162113), (164, 110648, 24, none)], [(100180, 2, sp_X7_has)], [], [], [], [], some .int)
set_option maxRecDepth 20000 in
set_option maxHeartbeats 4000000 in
theorem ct_X7_took (l : Launch) : z_CT l yX7_took cX7_took 7 (some .int) (z_rc 110648 sp_X7_took) 1 := by
  refine z_CT_of G_X7_took (by decide) (by decide +kernel) (z_pok_of ft_X7 ci_X7 cL_X7_L fo_X7 co_X7 lo_X7 (by decide +kernel)) rfl rfl ?_ ?_ ?_
  · intro as S P Po h0
    obtain ⟨as, rfl, h⟩ := z_rc_of h0
    unfold sp_X7_took at h
    split at h
    · exact Nat.le_of_ble_eq_true rfl
    · exact h.elim
  · exact List.forall_mem_cons.mpr ⟨z_coS (ct_X7_has l) kb_X7_has ks_X7_180 (by decide) (by decide), fun _ h => absurd h List.not_mem_nil⟩
  · intro as S P Po h0 V hV hW
    obtain ⟨as, rfl, h⟩ := z_rc_of h0
    unfold sp_X7_took at h
    split at h
    · rename_i x1 x2
      obtain ⟨hp0, hp1, hpo⟩ := h
      refine hV [10] 87 0 _ _ _ _ ?_
      refine ⟨(show vp_in x1 40 by assumption), ?_⟩
      obtain ⟨hb10, hN10⟩ := z_le_cl (show z_le (S 110648 24) 40 by assumption) (by decide)
      have hL10 : ∀ (j k10 : Nat) (x900 : Int32) (a10 : Int32), k10 + j = (S 110648 24).toNatClampNeg → x900 = nI k10 → a10 = z_fo (fun k10 a10 => l_X7_took_10 S P x1 x2 k10 a10) (S 153921 x1.toNatClampNeg) k10 → V 10 [(0, .ref 110648), (1, .int x1), (2, .int x2), (3, .int a10), (4, .int x900)] [] S P := by
        intro j
        induction j with
        | zero =>
          intro k10 x900 a10 hk10 hx10 ha10
          subst hx10
          have hk9 : k10 = (S 110648 24).toNatClampNeg := by omega
          subst hk9
          subst ha10
          refine hV [10] 87 10 _ _ _ _ ?_
          refine ⟨fun _ => ?_, fun h => absurd ((z_brge hb10 (by omega) (by omega)).mpr (Nat.le_refl _)) h⟩
          exact z_pi hpo (rfl) (rfl) (rfl)
        | succ j ih =>
          intro k10 x900 a10 hk10 hx10 ha10
          subst hx10
          have hk9 : k10 < (S 110648 24).toNatClampNeg := by omega
          subst ha10
          refine hV [10] 87 10 _ _ _ _ ?_
          refine ⟨fun h => absurd ((z_brge hb10 (by omega) (by omega)).mp h) (by omega), fun _ => ?_⟩
          refine ⟨(show vp_in (nI k10) 40 by exact vp_in_nI (by omega) (by omega)), ?_⟩
          refine ⟨fun (h2 : ¬ ((S 155969 ((nI k10).toNatClampNeg)) = 0)) => ?_, fun (h2 : (S 155969 ((nI k10).toNatClampNeg)) = 0) => ?_⟩
          · refine ⟨(show vp_in (nI k10) 40 by exact vp_in_nI (by omega) (by omega)), ?_⟩
            refine ⟨(show vp_in x1 40 by assumption), ?_⟩
            refine ⟨fun (h3 : (S 149825 ((nI k10).toNatClampNeg)) < (S 149825 x1.toNatClampNeg)) => ?_, fun (h3 : ¬ ((S 149825 ((nI k10).toNatClampNeg)) < (S 149825 x1.toNatClampNeg))) => ?_⟩
            · refine ⟨fun _ => ?_, fun h => absurd (by decide) h⟩
              exact hW [0, 1, 2, 3, 4] _ _ _ _ _ (ih (k10 + 1) _ ((z_fo (fun k10 a10 => l_X7_took_10 S P x1 x2 k10 a10) (S 153921 x1.toNatClampNeg) k10) &&& (nI 31)) (by omega) (nI_add k10 1) (((if_neg h2).trans ((if_pos h3).trans rfl)).symm))
            · refine ⟨(show vp_in (nI k10) 40 by exact vp_in_nI (by omega) (by omega)), ?_⟩
              refine ⟨(show vp_in x1 40 by assumption), ?_⟩
              refine ⟨fun (h4 : ¬ ((S 149825 ((nI k10).toNatClampNeg)) = (S 149825 x1.toNatClampNeg))) => ?_, fun (h4 : (S 149825 ((nI k10).toNatClampNeg)) = (S 149825 x1.toNatClampNeg)) => ?_⟩
              · refine ⟨fun _ => ?_, fun h => absurd (by decide) h⟩
                exact hW [0, 1, 2, 3, 4] _ _ _ _ _ (ih (k10 + 1) _ ((z_fo (fun k10 a10 => l_X7_took_10 S P x1 x2 k10 a10) (S 153921 x1.toNatClampNeg) k10) &&& (nI 31)) (by omega) (nI_add k10 1) (((if_neg h2).trans ((if_neg h3).trans ((if_neg h4).trans rfl))).symm))
              · refine ⟨fun (h5 : x1 ≤ (nI k10)) => ?_, fun (h5 : ¬ (x1 ≤ (nI k10))) => ?_⟩
                · refine ⟨fun _ => ?_, fun h => absurd (by decide) h⟩
                  exact hW [0, 1, 2, 3, 4] _ _ _ _ _ (ih (k10 + 1) _ ((z_fo (fun k10 a10 => l_X7_took_10 S P x1 x2 k10 a10) (S 153921 x1.toNatClampNeg) k10) &&& (nI 31)) (by omega) (nI_add k10 1) (((if_neg h2).trans ((if_neg h3).trans ((if_pos h4).trans ((if_pos h5).trans rfl)))).symm))
                · refine ⟨fun _ => ?_, fun h => absurd (by decide) h⟩
                  exact hW [0, 1, 2, 3, 4] _ _ _ _ _ (ih (k10 + 1) _ ((z_fo (fun k10 a10 => l_X7_took_10 S P x1 x2 k10 a10) (S 153921 x1.toNatClampNeg) k10) &&& (nI 31)) (by omega) (nI_add k10 1) (((if_neg h2).trans ((if_neg h3).trans ((if_pos h4).trans ((if_neg h5).trans rfl)))).symm))
          · refine ⟨(show vp_in (nI k10) 40 by exact vp_in_nI (by omega) (by omega)), ?_⟩
            refine z_br (fun (h6 : (f_X7_has S P (S 151873 ((nI k10).toNatClampNeg)) x2) = false) => ?_) (fun (h6 : (f_X7_has S P (S 151873 ((nI k10).toNatClampNeg)) x2) = true) => ?_)
            · refine ⟨(show vp_in (nI k10) 40 by exact vp_in_nI (by omega) (by omega)), ?_⟩
              refine ⟨(show vp_in x1 40 by assumption), ?_⟩
              refine ⟨fun (h7 : (S 149825 ((nI k10).toNatClampNeg)) < (S 149825 x1.toNatClampNeg)) => ?_, fun (h7 : ¬ ((S 149825 ((nI k10).toNatClampNeg)) < (S 149825 x1.toNatClampNeg))) => ?_⟩
              · refine ⟨fun _ => ?_, fun h => absurd (by decide) h⟩
                exact hW [0, 1, 2, 3, 4] _ _ _ _ _ (ih (k10 + 1) _ ((z_fo (fun k10 a10 => l_X7_took_10 S P x1 x2 k10 a10) (S 153921 x1.toNatClampNeg) k10) &&& (nI 31)) (by omega) (nI_add k10 1) (((if_pos h2).trans ((if_neg (z_nt h6)).trans ((if_pos h7).trans rfl))).symm))
              · refine ⟨(show vp_in (nI k10) 40 by exact vp_in_nI (by omega) (by omega)), ?_⟩
                refine ⟨(show vp_in x1 40 by assumption), ?_⟩
                refine ⟨fun (h8 : ¬ ((S 149825 ((nI k10).toNatClampNeg)) = (S 149825 x1.toNatClampNeg))) => ?_, fun (h8 : (S 149825 ((nI k10).toNatClampNeg)) = (S 149825 x1.toNatClampNeg)) => ?_⟩
                · refine ⟨fun _ => ?_, fun h => absurd (by decide) h⟩
                  exact hW [0, 1, 2, 3, 4] _ _ _ _ _ (ih (k10 + 1) _ ((z_fo (fun k10 a10 => l_X7_took_10 S P x1 x2 k10 a10) (S 153921 x1.toNatClampNeg) k10) &&& (nI 31)) (by omega) (nI_add k10 1) (((if_pos h2).trans ((if_neg (z_nt h6)).trans ((if_neg h7).trans ((if_neg h8).trans rfl)))).symm))
                · refine ⟨fun (h9 : x1 ≤ (nI k10)) => ?_, fun (h9 : ¬ (x1 ≤ (nI k10))) => ?_⟩
                  · refine ⟨fun _ => ?_, fun h => absurd (by decide) h⟩
                    exact hW [0, 1, 2, 3, 4] _ _ _ _ _ (ih (k10 + 1) _ ((z_fo (fun k10 a10 => l_X7_took_10 S P x1 x2 k10 a10) (S 153921 x1.toNatClampNeg) k10) &&& (nI 31)) (by omega) (nI_add k10 1) (((if_pos h2).trans ((if_neg (z_nt h6)).trans ((if_neg h7).trans ((if_pos h8).trans ((if_pos h9).trans rfl))))).symm))
                  · refine ⟨fun _ => ?_, fun h => absurd (by decide) h⟩
                    exact hW [0, 1, 2, 3, 4] _ _ _ _ _ (ih (k10 + 1) _ ((z_fo (fun k10 a10 => l_X7_took_10 S P x1 x2 k10 a10) (S 153921 x1.toNatClampNeg) k10) &&& (nI 31)) (by omega) (nI_add k10 1) (((if_pos h2).trans ((if_neg (z_nt h6)).trans ((if_neg h7).trans ((if_pos h8).trans ((if_neg h9).trans rfl))))).symm))
            · refine ⟨(show vp_in (nI k10) 40 by exact vp_in_nI (by omega) (by omega)), ?_⟩
              refine ⟨fun (h10 : ¬ ((S 160066 ((nI k10).toNatClampNeg)) = 0)) => ?_, fun (h10 : (S 160066 ((nI k10).toNatClampNeg)) = 0) => ?_⟩
              · refine ⟨(show vp_in (nI k10) 40 by exact vp_in_nI (by omega) (by omega)), ?_⟩
                refine ⟨(show vp_in x1 40 by assumption), ?_⟩
                refine ⟨fun (h11 : (S 149825 ((nI k10).toNatClampNeg)) < (S 149825 x1.toNatClampNeg)) => ?_, fun (h11 : ¬ ((S 149825 ((nI k10).toNatClampNeg)) < (S 149825 x1.toNatClampNeg))) => ?_⟩
                · refine ⟨fun _ => ?_, fun h => absurd (by decide) h⟩
                  exact hW [0, 1, 2, 3, 4] _ _ _ _ _ (ih (k10 + 1) _ ((z_fo (fun k10 a10 => l_X7_took_10 S P x1 x2 k10 a10) (S 153921 x1.toNatClampNeg) k10) &&& (nI 31)) (by omega) (nI_add k10 1) (((if_pos h2).trans ((if_pos h6).trans ((if_neg h10).trans ((if_pos h11).trans rfl)))).symm))
                · refine ⟨(show vp_in (nI k10) 40 by exact vp_in_nI (by omega) (by omega)), ?_⟩
                  refine ⟨(show vp_in x1 40 by assumption), ?_⟩
                  refine ⟨fun (h12 : ¬ ((S 149825 ((nI k10).toNatClampNeg)) = (S 149825 x1.toNatClampNeg))) => ?_, fun (h12 : (S 149825 ((nI k10).toNatClampNeg)) = (S 149825 x1.toNatClampNeg)) => ?_⟩
                  · refine ⟨fun _ => ?_, fun h => absurd (by decide) h⟩
                    exact hW [0, 1, 2, 3, 4] _ _ _ _ _ (ih (k10 + 1) _ ((z_fo (fun k10 a10 => l_X7_took_10 S P x1 x2 k10 a10) (S 153921 x1.toNatClampNeg) k10) &&& (nI 31)) (by omega) (nI_add k10 1) (((if_pos h2).trans ((if_pos h6).trans ((if_neg h10).trans ((if_neg h11).trans ((if_neg h12).trans rfl))))).symm))
                  · refine ⟨fun (h13 : x1 ≤ (nI k10)) => ?_, fun (h13 : ¬ (x1 ≤ (nI k10))) => ?_⟩
                    · refine ⟨fun _ => ?_, fun h => absurd (by decide) h⟩
                      exact hW [0, 1, 2, 3, 4] _ _ _ _ _ (ih (k10 + 1) _ ((z_fo (fun k10 a10 => l_X7_took_10 S P x1 x2 k10 a10) (S 153921 x1.toNatClampNeg) k10) &&& (nI 31)) (by omega) (nI_add k10 1) (((if_pos h2).trans ((if_pos h6).trans ((if_neg h10).trans ((if_neg h11).trans ((if_pos h12).trans ((if_pos h13).trans rfl)))))).symm))
                    · refine ⟨fun _ => ?_, fun h => absurd (by decide) h⟩
                      exact hW [0, 1, 2, 3, 4] _ _ _ _ _ (ih (k10 + 1) _ ((z_fo (fun k10 a10 => l_X7_took_10 S P x1 x2 k10 a10) (S 153921 x1.toNatClampNeg) k10) &&& (nI 31)) (by omega) (nI_add k10 1) (((if_pos h2).trans ((if_pos h6).trans ((if_neg h10).trans ((if_neg h11).trans ((if_pos h12).trans ((if_neg h13).trans rfl)))))).symm))
              · refine ⟨(show vp_in (nI k10) 40 by exact vp_in_nI (by omega) (by omega)), ?_⟩
                refine ⟨fun (h14 : ¬ ((S 162113 ((nI k10).toNatClampNeg)) = (-1))) => ?_, fun (h14 : (S 162113 ((nI k10).toNatClampNeg)) = (-1)) => ?_⟩
                · refine ⟨(show vp_in (nI k10) 40 by exact vp_in_nI (by omega) (by omega)), ?_⟩
                  refine ⟨(show vp_in x1 40 by assumption), ?_⟩
                  refine ⟨fun (h15 : (S 149825 ((nI k10).toNatClampNeg)) < (S 149825 x1.toNatClampNeg)) => ?_, fun (h15 : ¬ ((S 149825 ((nI k10).toNatClampNeg)) < (S 149825 x1.toNatClampNeg))) => ?_⟩
                  · refine ⟨fun _ => ?_, fun h => absurd (by decide) h⟩
                    exact hW [0, 1, 2, 3, 4] _ _ _ _ _ (ih (k10 + 1) _ ((z_fo (fun k10 a10 => l_X7_took_10 S P x1 x2 k10 a10) (S 153921 x1.toNatClampNeg) k10) &&& (nI 31)) (by omega) (nI_add k10 1) (((if_pos h2).trans ((if_pos h6).trans ((if_pos h10).trans ((if_neg h14).trans ((if_pos h15).trans rfl))))).symm))
                  · refine ⟨(show vp_in (nI k10) 40 by exact vp_in_nI (by omega) (by omega)), ?_⟩
                    refine ⟨(show vp_in x1 40 by assumption), ?_⟩
                    refine ⟨fun (h16 : ¬ ((S 149825 ((nI k10).toNatClampNeg)) = (S 149825 x1.toNatClampNeg))) => ?_, fun (h16 : (S 149825 ((nI k10).toNatClampNeg)) = (S 149825 x1.toNatClampNeg)) => ?_⟩
                    · refine ⟨fun _ => ?_, fun h => absurd (by decide) h⟩
                      exact hW [0, 1, 2, 3, 4] _ _ _ _ _ (ih (k10 + 1) _ ((z_fo (fun k10 a10 => l_X7_took_10 S P x1 x2 k10 a10) (S 153921 x1.toNatClampNeg) k10) &&& (nI 31)) (by omega) (nI_add k10 1) (((if_pos h2).trans ((if_pos h6).trans ((if_pos h10).trans ((if_neg h14).trans ((if_neg h15).trans ((if_neg h16).trans rfl)))))).symm))
                    · refine ⟨fun (h17 : x1 ≤ (nI k10)) => ?_, fun (h17 : ¬ (x1 ≤ (nI k10))) => ?_⟩
                      · refine ⟨fun _ => ?_, fun h => absurd (by decide) h⟩
                        exact hW [0, 1, 2, 3, 4] _ _ _ _ _ (ih (k10 + 1) _ ((z_fo (fun k10 a10 => l_X7_took_10 S P x1 x2 k10 a10) (S 153921 x1.toNatClampNeg) k10) &&& (nI 31)) (by omega) (nI_add k10 1) (((if_pos h2).trans ((if_pos h6).trans ((if_pos h10).trans ((if_neg h14).trans ((if_neg h15).trans ((if_pos h16).trans ((if_pos h17).trans rfl))))))).symm))
                      · refine ⟨fun _ => ?_, fun h => absurd (by decide) h⟩
                        exact hW [0, 1, 2, 3, 4] _ _ _ _ _ (ih (k10 + 1) _ ((z_fo (fun k10 a10 => l_X7_took_10 S P x1 x2 k10 a10) (S 153921 x1.toNatClampNeg) k10) &&& (nI 31)) (by omega) (nI_add k10 1) (((if_pos h2).trans ((if_pos h6).trans ((if_pos h10).trans ((if_neg h14).trans ((if_neg h15).trans ((if_pos h16).trans ((if_neg h17).trans rfl))))))).symm))
                · refine ⟨(show vp_in (nI k10) 40 by exact vp_in_nI (by omega) (by omega)), ?_⟩
                  refine ⟨(show vp_in x1 40 by assumption), ?_⟩
                  refine ⟨fun (h18 : (S 149825 ((nI k10).toNatClampNeg)) < (S 149825 x1.toNatClampNeg)) => ?_, fun (h18 : ¬ ((S 149825 ((nI k10).toNatClampNeg)) < (S 149825 x1.toNatClampNeg))) => ?_⟩
                  · refine ⟨fun h => absurd h (by decide), fun _ => ?_⟩
                    refine ⟨fun h => absurd h (by decide), fun _ => ?_⟩
                    refine ⟨(show vp_in (nI k10) 40 by exact vp_in_nI (by omega) (by omega)), ?_⟩
                    exact hW [0, 1, 2, 3, 4] _ _ _ _ _ (ih (k10 + 1) _ ((z_fo (fun k10 a10 => l_X7_took_10 S P x1 x2 k10 a10) (S 153921 x1.toNatClampNeg) k10) &&& ((S 153921 ((nI k10).toNatClampNeg)) ^^^ (-1))) (by omega) (nI_add k10 1) (((if_pos h2).trans ((if_pos h6).trans ((if_pos h10).trans ((if_pos h14).trans ((if_pos h18).trans rfl))))).symm))
                  · refine ⟨(show vp_in (nI k10) 40 by exact vp_in_nI (by omega) (by omega)), ?_⟩
                    refine ⟨(show vp_in x1 40 by assumption), ?_⟩
                    refine ⟨fun (h19 : ¬ ((S 149825 ((nI k10).toNatClampNeg)) = (S 149825 x1.toNatClampNeg))) => ?_, fun (h19 : (S 149825 ((nI k10).toNatClampNeg)) = (S 149825 x1.toNatClampNeg)) => ?_⟩
                    · refine ⟨fun h => absurd h (by decide), fun _ => ?_⟩
                      refine ⟨fun _ => ?_, fun h => absurd (by decide) h⟩
                      exact hW [0, 1, 2, 3, 4] _ _ _ _ _ (ih (k10 + 1) _ ((z_fo (fun k10 a10 => l_X7_took_10 S P x1 x2 k10 a10) (S 153921 x1.toNatClampNeg) k10) &&& (nI 31)) (by omega) (nI_add k10 1) (((if_pos h2).trans ((if_pos h6).trans ((if_pos h10).trans ((if_pos h14).trans ((if_neg h18).trans ((if_neg h19).trans rfl)))))).symm))
                    · refine ⟨fun (h20 : x1 ≤ (nI k10)) => ?_, fun (h20 : ¬ (x1 ≤ (nI k10))) => ?_⟩
                      · refine ⟨fun h => absurd h (by decide), fun _ => ?_⟩
                        refine ⟨fun _ => ?_, fun h => absurd (by decide) h⟩
                        exact hW [0, 1, 2, 3, 4] _ _ _ _ _ (ih (k10 + 1) _ ((z_fo (fun k10 a10 => l_X7_took_10 S P x1 x2 k10 a10) (S 153921 x1.toNatClampNeg) k10) &&& (nI 31)) (by omega) (nI_add k10 1) (((if_pos h2).trans ((if_pos h6).trans ((if_pos h10).trans ((if_pos h14).trans ((if_neg h18).trans ((if_pos h19).trans ((if_pos h20).trans rfl))))))).symm))
                      · refine ⟨fun h => absurd h (by decide), fun _ => ?_⟩
                        refine ⟨fun h => absurd h (by decide), fun _ => ?_⟩
                        refine ⟨(show vp_in (nI k10) 40 by exact vp_in_nI (by omega) (by omega)), ?_⟩
                        exact hW [0, 1, 2, 3, 4] _ _ _ _ _ (ih (k10 + 1) _ ((z_fo (fun k10 a10 => l_X7_took_10 S P x1 x2 k10 a10) (S 153921 x1.toNatClampNeg) k10) &&& ((S 153921 ((nI k10).toNatClampNeg)) ^^^ (-1))) (by omega) (nI_add k10 1) (((if_pos h2).trans ((if_pos h6).trans ((if_pos h10).trans ((if_pos h14).trans ((if_neg h18).trans ((if_pos h19).trans ((if_neg h20).trans rfl))))))).symm))
      exact hW [0, 1, 2, 3, 4] _ _ _ _ _ (hL10 (S 110648 24).toNatClampNeg 0 _ (S 153921 x1.toNatClampNeg) (Nat.zero_add _) rfl rfl)
    · exact h.elim
def f_X7_canBePaid (S : z_MI) (P : z_ML) (x1 : Int32) : Bool :=
  if (S 155969 x1.toNatClampNeg) = 0 then
    if (S 160066 x1.toNatClampNeg) = 0 then
      if (S 162113 x1.toNatClampNeg) = (-1) then
        if (S 164162 x1.toNatClampNeg) = 0 then
          true
        else
          false
      else
        false
    else
      false
  else
    false
def sp_X7_canBePaid : z_SP := fun as S P k => match as with
  | [.int x1] => vp_in x1 40 ∧ k (some (.int (z_b (f_X7_canBePaid S P x1)))) S P
  | _ => False
def G_X7_canBePaid : z_G := ([(0, .aload_n 0, 1, 0), (1, .getfield 74, 4, 0), (4, .iload_n 1, 5, 0), (5, .iaload, 6, 0), (6, .ifCond .ne 35, 9, 41), (9, .aload_n 0, 10, 0), (10, .getfield 80, 13, 0), (13, .iload_n 1, 14, 0), (14, .baload, 15, 0), (15, .ifCond .ne 26, 18, 41), (18, .aload_n 0, 19, 0), (19, .getfield 84, 22, 0), (22, .iload_n 1, 23, 0), (23, .iaload, 24, 0), (24, .iconst (-1), 25, 0), (25, .if_icmp .ne 16, 28, 41), (28, .aload_n 0, 29, 0), (29, .getfield 87, 32, 0), (32, .iload_n 1, 33, 0), (33, .baload, 34, 0), (34, .ifCond .ne 7, 37, 41), (37, .iconst 1, 38, 0), (38, .goto 4, 41, 42), (41, .iconst 0, 42, 0), (42, .ireturn, 43, 0)], [(74, 110648, 28, some 155969), (80, 110648, 30, some 160066), (84, 110648, 31, some 162113), (87, 110648, 32, some 164162)], [], [], [], [], [], some .boolean)
set_option maxRecDepth 20000 in
set_option maxHeartbeats 4000000 in
theorem ct_X7_canBePaid (l : Launch) : z_CT l yX7_canBePaid cX7_canBePaid 2 (some .boolean) (z_rc 110648 sp_X7_canBePaid) 0 := by
  refine z_CT_of G_X7_canBePaid (by decide) (by decide +kernel) (z_pok_of ft_X7 ci_X7 cL_X7_L fo_X7 co_X7 lo_X7 (by decide +kernel)) rfl rfl ?_ ?_ ?_
  · intro as S P Po h0
    obtain ⟨as, rfl, h⟩ := z_rc_of h0
    unfold sp_X7_canBePaid at h
    split at h
    · exact Nat.le_of_ble_eq_true rfl
    · exact h.elim
  · exact fun _ h => absurd h List.not_mem_nil
  · intro as S P Po h0 V hV hW
    obtain ⟨as, rfl, h⟩ := z_rc_of h0
    unfold sp_X7_canBePaid at h
    split at h
    · rename_i x1
      obtain ⟨hp0, hpo⟩ := h
      refine hV [] 30 0 _ _ _ _ ?_
      refine ⟨(show vp_in x1 40 by assumption), ?_⟩
      refine ⟨fun (h1 : ¬ ((S 155969 x1.toNatClampNeg) = 0)) => ?_, fun (h1 : (S 155969 x1.toNatClampNeg) = 0) => ?_⟩
      · exact ⟨(by first | rfl | exact z_nb _), z_pb hpo ((if_neg h1).trans rfl) (rfl) (rfl)⟩
      · refine ⟨(show vp_in x1 40 by assumption), ?_⟩
        refine ⟨fun (h2 : ¬ ((S 160066 x1.toNatClampNeg) = 0)) => ?_, fun (h2 : (S 160066 x1.toNatClampNeg) = 0) => ?_⟩
        · exact ⟨(by first | rfl | exact z_nb _), z_pb hpo ((if_pos h1).trans ((if_neg h2).trans rfl)) (rfl) (rfl)⟩
        · refine ⟨(show vp_in x1 40 by assumption), ?_⟩
          refine ⟨fun (h3 : ¬ ((S 162113 x1.toNatClampNeg) = (-1))) => ?_, fun (h3 : (S 162113 x1.toNatClampNeg) = (-1)) => ?_⟩
          · exact ⟨(by first | rfl | exact z_nb _), z_pb hpo ((if_pos h1).trans ((if_pos h2).trans ((if_neg h3).trans rfl))) (rfl) (rfl)⟩
          · refine ⟨(show vp_in x1 40 by assumption), ?_⟩
            refine ⟨fun (h4 : ¬ ((S 164162 x1.toNatClampNeg) = 0)) => ?_, fun (h4 : (S 164162 x1.toNatClampNeg) = 0) => ?_⟩
            · exact ⟨(by first | rfl | exact z_nb _), z_pb hpo ((if_pos h1).trans ((if_pos h2).trans ((if_pos h3).trans ((if_neg h4).trans rfl)))) (rfl) (rfl)⟩
            · exact ⟨(by first | rfl | exact z_nb _), z_pb hpo ((if_pos h1).trans ((if_pos h2).trans ((if_pos h3).trans ((if_pos h4).trans rfl)))) (rfl) (rfl)⟩
    · exact h.elim
def f_X7_owedAt (S : z_MI) (P : z_ML) (x1 : Int32) (x2 : Int32) : Int64 :=
  if (f_X7_has S P (S 151873 x1.toNatClampNeg) x2) = true then
    if (f_X7_holdersOf S P x2) = 0 then
      lN 0
    else
      (((((S 204929 x2.toNatClampNeg).toInt64) * ((((((((f_X7_took S P x1 x2) &&& (nI 1)) * (nI 10)) + ((((f_X7_took S P x1 x2) >>> ((nI 1) &&& 31)) &&& (nI 1)) * (nI 15))) + ((((f_X7_took S P x1 x2) >>> ((nI 2) &&& 31)) &&& (nI 1)) * (nI 15))) + ((((f_X7_took S P x1 x2) >>> ((nI 3) &&& 31)) &&& (nI 1)) * (nI 20))) + ((((f_X7_took S P x1 x2) >>> ((nI 4) &&& 31)) &&& (nI 1)) * (nI 40))).toInt64)) / (lN 100)) + (((((((S 204929 x2.toNatClampNeg).toInt64) * ((((((((f_X7_took S P x1 x2) &&& (nI 1)) * (nI 10)) + ((((f_X7_took S P x1 x2) >>> ((nI 1) &&& 31)) &&& (nI 1)) * (nI 15))) + ((((f_X7_took S P x1 x2) >>> ((nI 2) &&& 31)) &&& (nI 1)) * (nI 15))) + ((((f_X7_took S P x1 x2) >>> ((nI 3) &&& 31)) &&& (nI 1)) * (nI 20))) + ((((f_X7_took S P x1 x2) >>> ((nI 4) &&& 31)) &&& (nI 1)) * (nI 40))).toInt64)) / (lN 100)) * (lN 2)) * (((S 110648 1) - (S 149825 x1.toNatClampNeg)).toInt64)) / (lN 1000))) + (((((S 204929 x2.toNatClampNeg).toInt64) * ((((((((f_X7_took S P x1 x2) &&& (nI 1)) * (nI 10)) + ((((f_X7_took S P x1 x2) >>> ((nI 1) &&& 31)) &&& (nI 1)) * (nI 15))) + ((((f_X7_took S P x1 x2) >>> ((nI 2) &&& 31)) &&& (nI 1)) * (nI 15))) + ((((f_X7_took S P x1 x2) >>> ((nI 3) &&& 31)) &&& (nI 1)) * (nI 20))) + ((((f_X7_took S P x1 x2) >>> ((nI 4) &&& 31)) &&& (nI 1)) * (nI 40))).toInt64)) / (lN 100)) / (lN 2))
  else
    lN 0
def sp_X7_owedAt : z_SP := fun as S P k => match as with
  | [.int x1, .int x2] => vp_in x1 40 ∧ z_le (S 110648 33) 12 ∧ z_le (S 110648 24) 40 ∧ vp_in x2 16 ∧ k (some (.long (f_X7_owedAt S P x1 x2))) S P
  | _ => False
def G_X7_owedAt : z_G := ([(0, .aload_n 0, 1, 0), (1, .getfield 68, 4, 0), (4, .iload_n 1, 5, 0), (5, .iaload, 6, 0), (6, .iload_n 2, 7, 0), (7, .invokestatic 180, 10, 0), (10, .ifCond .eq 11, 13, 21), (13, .aload_n 0, 14, 0), (14, .iload_n 2, 15, 0), (15, .invokevirtual 269, 18, 0), (18, .ifCond .ne 5, 21, 23), (21, .lconst 0, 22, 0), (22, .lreturn, 23, 0), (23, .aload_n 0, 24, 0), (24, .iload_n 1, 25, 0), (25, .iload_n 2, 26, 0), (26, .invokevirtual 291, 29, 0), (29, .istore_n 3, 30, 0), (30, .iload_n 3, 31, 0), (31, .iconst 1, 32, 0), (32, .iand, 33, 0), (33, .bipush 10, 35, 0), (35, .imul, 36, 0), (36, .iload_n 3, 37, 0), (37, .iconst 1, 38, 0), (38, .ishr, 39, 0), (39, .iconst 1, 40, 0), (40, .iand, 41, 0), (41, .bipush 15, 43, 0), (43, .imul, 44, 0), (44, .iadd, 45, 0), (45, .iload_n 3, 46, 0), (46, .iconst 2, 47, 0), (47, .ishr, 48, 0), (48, .iconst 1, 49, 0), (49, .iand, 50, 0), (50, .bipush 15, 52, 0), (52, .imul, 53, 0), (53, .iadd, 54, 0), (54, .iload_n 3, 55, 0), (55, .iconst 3, 56, 0), (56, .ishr, 57, 0), (57, .iconst 1, 58, 0), (58, .iand, 59, 0), (59, .bipush 20, 61, 0), (61, .imul, 62, 0), (62, .iadd, 63, 0), (63, .iload_n 3, 64, 0), (64, .iconst 4, 65, 0), (65, .ishr, 66, 0), (66, .iconst 1, 67, 0), (67, .iand, 68, 0), (68, .bipush 40, 70, 0), (70, .imul, 71, 0), (71, .iadd, 72, 0), (72, .istore 4, 74, 0), (74, .aload_n 0, 75, 0), (75, .getfield 147, 78, 0), (78, .iload_n 2, 79, 0), (79, .iaload, 80, 0), (80, .i2l, 81, 0), (81, .iload 4, 83, 0), (83, .i2l, 84, 0), (84, .lmul, 85, 0), (85, .ldc2_w 294, 88, 0), (88, .ldiv, 89, 0), (89, .lstore 5, 91, 0), (91, .lload 5, 93, 0), (93, .lload 5, 95, 0), (95, .ldc2_w 296, 98, 0), (98, .lmul, 99, 0), (99, .aload_n 0, 100, 0), (100, .getfield 209, 103, 0), (103, .aload_n 0, 104, 0), (104, .getfield 65, 107, 0), (107, .iload_n 1, 108, 0), (108, .iaload, 109, 0), (109, .isub, 110, 0), (110, .i2l, 111, 0), (111, .lmul, 112, 0), (112, .ldc2_w 298, 115, 0), (115, .ldiv, 116, 0), (116, .ladd, 117, 0), (117, .lload 5, 119, 0), (119, .ldc2_w 296, 122, 0), (122, .ldiv, 123, 0), (123, .ladd, 124, 0), (124, .lreturn, 125, 0)], [(65, 110648, 25, some 149825), (68, 110648, 26, some 151873), (147, 110648, 54, some 204929), (209, 110648, 1, none)], [(100180, 2, sp_X7_has), (269, 2, (z_rc 110648 sp_X7_holdersOf)), (291, 3, (z_rc 110648 sp_X7_took))], [], [(294, 100), (296, 2), (298, 1000)], [], [], some .long)
set_option maxRecDepth 20000 in
set_option maxHeartbeats 4000000 in
theorem ct_X7_owedAt (l : Launch) : z_CT l yX7_owedAt cX7_owedAt 7 (some .long) (z_rc 110648 sp_X7_owedAt) 3 := by
  refine z_CT_of G_X7_owedAt (by decide) (by decide +kernel) (z_pok_of ft_X7 ci_X7 cL_X7_L fo_X7 co_X7 lo_X7 (by decide +kernel)) rfl rfl ?_ ?_ ?_
  · intro as S P Po h0
    obtain ⟨as, rfl, h⟩ := z_rc_of h0
    unfold sp_X7_owedAt at h
    split at h
    · exact Nat.le_of_ble_eq_true rfl
    · exact h.elim
  · exact List.forall_mem_cons.mpr ⟨z_coS (ct_X7_has l) kb_X7_has ks_X7_180 (by decide) (by decide), List.forall_mem_cons.mpr ⟨z_coV (ct_X7_holdersOf l) kb_X7_holdersOf kv_X7_269 ko_X7 (by decide) (by decide) (by decide), List.forall_mem_cons.mpr ⟨z_coV (ct_X7_took l) kb_X7_took kv_X7_291 ko_X7 (by decide) (by decide) (by decide), fun _ h => absurd h List.not_mem_nil⟩⟩⟩
  · intro as S P Po h0 V hV hW
    obtain ⟨as, rfl, h⟩ := z_rc_of h0
    unfold sp_X7_owedAt at h
    split at h
    · rename_i x1 x2
      obtain ⟨hp0, hp1, hp2, hp3, hpo⟩ := h
      refine hV [] 93 0 _ _ _ _ ?_
      refine ⟨(show vp_in x1 40 by assumption), ?_⟩
      refine z_br (fun (h1 : (f_X7_has S P (S 151873 x1.toNatClampNeg) x2) = false) => ?_) (fun (h1 : (f_X7_has S P (S 151873 x1.toNatClampNeg) x2) = true) => ?_)
      · exact z_pl hpo ((if_neg (z_nt h1)).trans rfl) (rfl) (rfl)
      · refine ⟨(show z_le (S 110648 33) 12 by assumption), ?_⟩
        refine ⟨fun (h2 : ¬ ((f_X7_holdersOf S P x2) = 0)) => ?_, fun (h2 : (f_X7_holdersOf S P x2) = 0) => ?_⟩
        · refine ⟨(show vp_in x1 40 by assumption), (show z_le (S 110648 24) 40 by assumption), ?_⟩
          refine ⟨(show vp_in x2 16 by assumption), ?_⟩
          refine ⟨(show ¬ (lN 100) = 0 by decide), ?_⟩
          refine ⟨(show vp_in x1 40 by assumption), ?_⟩
          refine ⟨(show ¬ (lN 1000) = 0 by decide), ?_⟩
          refine ⟨(show ¬ (lN 2) = 0 by decide), ?_⟩
          exact z_pl hpo ((if_pos h1).trans ((if_neg h2).trans rfl)) (rfl) (rfl)
        · exact z_pl hpo ((if_pos h1).trans ((if_pos h2).trans rfl)) (rfl) (rfl)
    · exact h.elim
def l_X7_owedFor_5 (S : z_MI) (P : z_ML) (x1 : Int32) (k5 : Nat) (a5 : Int64) : (Int64) ⊕ (Int64) :=
  if (f_X7_canBePaid S P x1) = true then
    .inl (a5 + (f_X7_owedAt S P x1 (nI k5)))
  else
    .inr a5
def f_X7_owedFor (S : z_MI) (P : z_ML) (x1 : Int32) : Int64 :=
  Sum.elim (fun a5 =>
    a5) (fun r => r) (z_fx (fun k5 a5 => l_X7_owedFor_5 S P x1 k5 a5) (lN 0) 16)
def sp_X7_owedFor : z_SP := fun as S P k => match as with
  | [.int x1] => vp_in x1 40 ∧ z_le (S 110648 33) 12 ∧ z_le (S 110648 24) 40 ∧ k (some (.long (f_X7_owedFor S P x1))) S P
  | _ => False
def G_X7_owedFor : z_G := ([(0, .lconst 0, 1, 0), (1, .lstore_n 2, 2, 0), (2, .iconst 0, 3, 0), (3, .istore 4, 5, 0), (5, .iload 4, 7, 0), (7, .bipush 16, 9, 0), (9, .if_icmp .ge 27, 12, 36), (12, .aload_n 0, 13, 0), (13, .iload_n 1, 14, 0), (14, .invokevirtual 300, 17, 0), (17, .ifCond .eq 19, 20, 36), (20, .lload_n 2, 21, 0), (21, .aload_n 0, 22, 0), (22, .iload_n 1, 23, 0), (23, .iload 4, 25, 0), (25, .invokevirtual 303, 28, 0), (28, .ladd, 29, 0), (29, .lstore_n 2, 30, 0), (30, .iinc 4 1, 33, 0), (33, .goto (-28), 36, 5), (36, .lload_n 2, 37, 0), (37, .lreturn, 38, 0)], [], [(300, 2, (z_rc 110648 sp_X7_canBePaid)), (303, 3, (z_rc 110648 sp_X7_owedAt))], [], [], [], [], some .long)
set_option maxRecDepth 20000 in
set_option maxHeartbeats 4000000 in
theorem ct_X7_owedFor (l : Launch) : z_CT l yX7_owedFor cX7_owedFor 5 (some .long) (z_rc 110648 sp_X7_owedFor) 4 := by
  refine z_CT_of G_X7_owedFor (by decide) (by decide +kernel) (z_pok_of ft_X7 ci_X7 cL_X7_L fo_X7 co_X7 lo_X7 (by decide +kernel)) rfl rfl ?_ ?_ ?_
  · intro as S P Po h0
    obtain ⟨as, rfl, h⟩ := z_rc_of h0
    unfold sp_X7_owedFor at h
    split at h
    · exact Nat.le_of_ble_eq_true rfl
    · exact h.elim
  · exact List.forall_mem_cons.mpr ⟨z_coV (ct_X7_canBePaid l) kb_X7_canBePaid kv_X7_300 ko_X7 (by decide) (by decide) (by decide), List.forall_mem_cons.mpr ⟨z_coV (ct_X7_owedAt l) kb_X7_owedAt kv_X7_303 ko_X7 (by decide) (by decide) (by decide), fun _ h => absurd h List.not_mem_nil⟩⟩
  · intro as S P Po h0 V hV hW
    obtain ⟨as, rfl, h⟩ := z_rc_of h0
    unfold sp_X7_owedFor at h
    split at h
    · rename_i x1
      obtain ⟨hp0, hp1, hp2, hpo⟩ := h
      refine hV [5] 27 0 _ _ _ _ ?_
      have hb5 : ((nI 16) : Int32) = (nI 16) := rfl
      have hL5 : ∀ (j k5 : Nat) (x900 : Int32) (a5 : Int64), k5 + j = 16 → x900 = nI k5 → z_fx (fun k5 a5 => l_X7_owedFor_5 S P x1 k5 a5) (lN 0) k5 = .inl a5 → V 5 [(0, .ref 110648), (1, .int x1), (2, .long a5), (4, .int x900)] [] S P := by
        intro j
        induction j with
        | zero =>
          intro k5 x900 a5 hk5 hx5 ha5
          subst hx5
          have hk9 : k5 = 16 := by omega
          subst hk9
          refine hV [5] 27 5 _ _ _ _ ?_
          refine ⟨fun _ => ?_, fun h => absurd ((z_brge hb5 (by omega) (by omega)).mpr (Nat.le_refl _)) h⟩
          exact z_pl hpo ((congrArg (Sum.elim _ _) ha5).trans rfl) (rfl) (rfl)
        | succ j ih =>
          intro k5 x900 a5 hk5 hx5 ha5
          subst hx5
          have hk9 : k5 < 16 := by omega
          refine hV [5] 27 5 _ _ _ _ ?_
          refine ⟨fun h => absurd ((z_brge hb5 (by omega) (by omega)).mp h) (by omega), fun _ => ?_⟩
          refine ⟨(show vp_in x1 40 by assumption), ?_⟩
          refine z_br (fun (h2 : (f_X7_canBePaid S P x1) = false) => ?_) (fun (h2 : (f_X7_canBePaid S P x1) = true) => ?_)
          · have hM := (z_fx_s ha5).trans ((if_neg (z_nt h2)).trans rfl)
            have hM := z_fx_r hM (show _ ≤ 16 by omega)
            exact z_pl hpo ((congrArg (Sum.elim _ _) hM).trans rfl) (rfl) (rfl)
          · refine ⟨(show vp_in x1 40 by assumption), (show z_le (S 110648 33) 12 by assumption), (show z_le (S 110648 24) 40 by assumption), (show vp_in (nI k5) 16 by exact vp_in_nI (by omega) (by omega)), ?_⟩
            exact hW [0, 1, 2, 4] _ _ _ _ _ (ih (k5 + 1) _ (a5 + (f_X7_owedAt S P x1 (nI k5))) (by omega) (nI_add k5 1) ((z_fx_s ha5).trans ((if_pos h2).trans rfl)))
      exact hW [0, 1, 2, 4] _ _ _ _ _ (hL5 16 0 _ (lN 0) (Nat.zero_add _) rfl rfl)
    · exact h.elim
def l_X7_shares_24 (S : z_MI) (P : z_ML) (x1 : Int64) (x3 : Int32) (k24 : Nat) (a24 : Int64 × z_ML) : Int64 × z_ML :=
  if (f_X7_has S a24.2 x3 (nI k24)) = true then
    (lN 0, va_up a24.2 116787 (vp_updL (a24.2 116787) ((nI k24).toNatClampNeg) ((a24.2 116787 ((nI k24).toNatClampNeg)) + ((x1 / ((f_X7_bits S P x3).toInt64)) + a24.1))))
  else
    (a24.1, a24.2)
def v_X7_shares (S : z_MI) (P : z_ML) (x1 : Int64) (x3 : Int32) : z_ML :=
  (z_fo (fun k24 a24 => l_X7_shares_24 S P x1 x3 k24 a24) (x1 - ((x1 / ((f_X7_bits S P x3).toInt64)) * ((f_X7_bits S P x3).toInt64)), P) (S 110648 2).toNatClampNeg).2
def sp_X7_shares : z_SP := fun as S P k => match as with
  | [.long x1, .int x3] => ¬ (f_X7_bits S P x3) = 0 ∧ z_le (S 110648 2) 6 ∧ k (none) S (v_X7_shares S P x1 x3)
  | _ => False
def G_X7_shares : z_G := ([(0, .lload_n 1, 1, 0), (1, .iload_n 3, 2, 0), (2, .invokestatic 194, 5, 0), (5, .i2l, 6, 0), (6, .ldiv, 7, 0), (7, .lstore 4, 9, 0), (9, .lload_n 1, 10, 0), (10, .lload 4, 12, 0), (12, .iload_n 3, 13, 0), (13, .invokestatic 194, 16, 0), (16, .i2l, 17, 0), (17, .lmul, 18, 0), (18, .lsub, 19, 0), (19, .lstore 6, 21, 0), (21, .iconst 0, 22, 0), (22, .istore 8, 24, 0), (24, .iload 8, 26, 0), (26, .aload_n 0, 27, 0), (27, .getfield 154, 30, 0), (30, .if_icmp .ge 36, 33, 66), (33, .iload_n 3, 34, 0), (34, .iload 8, 36, 0), (36, .invokestatic 180, 39, 0), (39, .ifCond .eq 21, 42, 60), (42, .aload_n 0, 43, 0), (43, .getfield 16, 46, 0), (46, .iload 8, 48, 0), (48, .dup2, 49, 0), (49, .laload, 50, 0), (50, .lload 4, 52, 0), (52, .lload 6, 54, 0), (54, .ladd, 55, 0), (55, .ladd, 56, 0), (56, .lastore, 57, 0), (57, .lconst 0, 58, 0), (58, .lstore 6, 60, 0), (60, .iinc 8 1, 63, 0), (63, .goto (-39), 66, 24), (66, .return_, 67, 0)], [(16, 110648, 5, some 116787), (154, 110648, 2, none)], [(100180, 2, sp_X7_has), (100194, 1, sp_X7_bits)], [], [], [], [], none)
set_option maxRecDepth 20000 in
set_option maxHeartbeats 4000000 in
theorem ct_X7_shares (l : Launch) : z_CT l yX7_shares cX7_shares 9 (none) (z_rc 110648 sp_X7_shares) 1 := by
  refine z_CT_of G_X7_shares (by decide) (by decide +kernel) (z_pok_of ft_X7 ci_X7 cL_X7_L fo_X7 co_X7 lo_X7 (by decide +kernel)) rfl rfl ?_ ?_ ?_
  · intro as S P Po h0
    obtain ⟨as, rfl, h⟩ := z_rc_of h0
    unfold sp_X7_shares at h
    split at h
    · exact Nat.le_of_ble_eq_true rfl
    · exact h.elim
  · exact List.forall_mem_cons.mpr ⟨z_coS (ct_X7_has l) kb_X7_has ks_X7_180 (by decide) (by decide), List.forall_mem_cons.mpr ⟨z_coS (ct_X7_bits l) kb_X7_bits ks_X7_194 (by decide) (by decide), fun _ h => absurd h List.not_mem_nil⟩⟩
  · intro as S P Po h0 V hV hW
    obtain ⟨as, rfl, h⟩ := z_rc_of h0
    unfold sp_X7_shares at h
    split at h
    · rename_i x1 x3
      obtain ⟨hp0, hp1, hpo⟩ := h
      refine hV [24] 44 0 _ _ _ _ ?_
      refine ⟨(show ¬ ((f_X7_bits S P x3).toInt64) = 0 by exact z_i64 (by assumption)), ?_⟩
      obtain ⟨hb24, hN24⟩ := z_le_cl (show z_le (S 110648 2) 6 by assumption) (by decide)
      have hL24 : ∀ (j k24 : Nat) (x900 : Int32) (a24 : Int64 × z_ML), k24 + j = (S 110648 2).toNatClampNeg → x900 = nI k24 → a24 = z_fo (fun k24 a24 => l_X7_shares_24 S P x1 x3 k24 a24) (x1 - ((x1 / ((f_X7_bits S P x3).toInt64)) * ((f_X7_bits S P x3).toInt64)), P) k24 → V 24 [(0, .ref 110648), (1, .long x1), (3, .int x3), (4, .long (x1 / ((f_X7_bits S P x3).toInt64))), (6, .long a24.1), (8, .int x900)] [] S a24.2 := by
        intro j
        induction j with
        | zero =>
          intro k24 x900 a24 hk24 hx24 ha24
          subst hx24
          have hk9 : k24 = (S 110648 2).toNatClampNeg := by omega
          subst hk9
          subst ha24
          refine hV [24] 44 24 _ _ _ _ ?_
          refine ⟨fun _ => ?_, fun h => absurd ((z_brge hb24 (by omega) (by omega)).mpr (Nat.le_refl _)) h⟩
          exact z_pv hpo (rfl) (rfl)
        | succ j ih =>
          intro k24 x900 a24 hk24 hx24 ha24
          subst hx24
          have hk9 : k24 < (S 110648 2).toNatClampNeg := by omega
          subst ha24
          refine hV [24] 44 24 _ _ _ _ ?_
          refine ⟨fun h => absurd ((z_brge hb24 (by omega) (by omega)).mp h) (by omega), fun _ => ?_⟩
          refine z_br (fun (h2 : (f_X7_has S (z_fo (fun k24 a24 => l_X7_shares_24 S P x1 x3 k24 a24) (x1 - ((x1 / ((f_X7_bits S P x3).toInt64)) * ((f_X7_bits S P x3).toInt64)), P) k24).2 x3 (nI k24)) = false) => ?_) (fun (h2 : (f_X7_has S (z_fo (fun k24 a24 => l_X7_shares_24 S P x1 x3 k24 a24) (x1 - ((x1 / ((f_X7_bits S P x3).toInt64)) * ((f_X7_bits S P x3).toInt64)), P) k24).2 x3 (nI k24)) = true) => ?_)
          · exact hW [0, 1, 3, 4, 6, 8] _ _ _ _ _ (ih (k24 + 1) _ ((z_fo (fun k24 a24 => l_X7_shares_24 S P x1 x3 k24 a24) (x1 - ((x1 / ((f_X7_bits S P x3).toInt64)) * ((f_X7_bits S P x3).toInt64)), P) k24).1, (z_fo (fun k24 a24 => l_X7_shares_24 S P x1 x3 k24 a24) (x1 - ((x1 / ((f_X7_bits S P x3).toInt64)) * ((f_X7_bits S P x3).toInt64)), P) k24).2) (by omega) (nI_add k24 1) (((if_neg (z_nt h2)).trans rfl).symm))
          · refine ⟨(show vp_in (nI k24) 6 by exact vp_in_nI (by omega) (by omega)), ?_⟩
            refine ⟨(show vp_in (nI k24) 6 by exact vp_in_nI (by omega) (by omega)), ?_⟩
            exact hW [0, 1, 3, 4, 6, 8] _ _ _ _ _ (ih (k24 + 1) _ (lN 0, va_up (z_fo (fun k24 a24 => l_X7_shares_24 S P x1 x3 k24 a24) (x1 - ((x1 / ((f_X7_bits S P x3).toInt64)) * ((f_X7_bits S P x3).toInt64)), P) k24).2 116787 (vp_updL ((z_fo (fun k24 a24 => l_X7_shares_24 S P x1 x3 k24 a24) (x1 - ((x1 / ((f_X7_bits S P x3).toInt64)) * ((f_X7_bits S P x3).toInt64)), P) k24).2 116787) ((nI k24).toNatClampNeg) (((z_fo (fun k24 a24 => l_X7_shares_24 S P x1 x3 k24 a24) (x1 - ((x1 / ((f_X7_bits S P x3).toInt64)) * ((f_X7_bits S P x3).toInt64)), P) k24).2 116787 ((nI k24).toNatClampNeg)) + ((x1 / ((f_X7_bits S P x3).toInt64)) + (z_fo (fun k24 a24 => l_X7_shares_24 S P x1 x3 k24 a24) (x1 - ((x1 / ((f_X7_bits S P x3).toInt64)) * ((f_X7_bits S P x3).toInt64)), P) k24).1)))) (by omega) (nI_add k24 1) (((if_pos h2).trans rfl).symm))
      exact hW [0, 1, 3, 4, 6, 8] _ _ _ _ _ (hL24 (S 110648 2).toNatClampNeg 0 _ (x1 - ((x1 / ((f_X7_bits S P x3).toInt64)) * ((f_X7_bits S P x3).toInt64)), P) (Nat.zero_add _) rfl rfl)
    · exact h.elim
