def f_X7_people (S : z_MI) (P : z_ML) (x1 : Int32) : Int32 :=
  if (f_X7_in S P x1 (nI 0) (nI 2)) = true then
    if (S 110648 2) = (nI 6) then
      nI 0
    else
      ((S 110648 2) + (nI 1)) - (nI 1)
  else
    nI 0
def u_X7_people (S : z_MI) (P : z_ML) (x1 : Int32) : z_MI :=
  if (f_X7_in S P x1 (nI 0) (nI 2)) = true then
    if (S 110648 2) = (nI 6) then
      va_up S 110648 (upd (S 110648) 0 (nI 2))
    else
      va_up (va_up (va_up S 110648 (upd (S 110648) 0 (nI 0))) 112689 (upd ((va_up S 110648 (upd (S 110648) 0 (nI 0))) 112689) ((S 110648 2).toNatClampNeg) x1)) 110648 (upd ((va_up (va_up S 110648 (upd (S 110648) 0 (nI 0))) 112689 (upd ((va_up S 110648 (upd (S 110648) 0 (nI 0))) 112689) ((S 110648 2).toNatClampNeg) x1)) 110648) 2 ((S 110648 2) + (nI 1)))
  else
    va_up S 110648 (upd (S 110648) 0 (nI 1))
def sp_X7_people : z_SP := fun as S P k => match as with
  | [.int x1] => z_JM S ∧ k (some (.int (f_X7_people S P x1))) (u_X7_people S P x1) P
  | _ => False
def G_X7_people : z_G := ([(0, .aload_n 0, 1, 0), (1, .iload_n 1, 2, 0), (2, .iconst 0, 3, 0), (3, .iconst 2, 4, 0), (4, .invokestatic 157, 7, 0), (7, .ifCond .ne 7, 10, 14), (10, .iconst 1, 11, 0), (11, .goto 17, 14, 28), (14, .aload_n 0, 15, 0), (15, .getfield 154, 18, 0), (18, .bipush 6, 20, 0), (20, .if_icmp .ne 7, 23, 27), (23, .iconst 2, 24, 0), (24, .goto 4, 27, 28), (27, .iconst 0, 28, 0), (28, .invokevirtual 173, 31, 0), (31, .ifCond .ne 5, 34, 36), (34, .iconst 0, 35, 0), (35, .ireturn, 36, 0), (36, .aload_n 0, 37, 0), (37, .getfield 7, 40, 0), (40, .aload_n 0, 41, 0), (41, .getfield 154, 44, 0), (44, .iload_n 1, 45, 0), (45, .iastore, 46, 0), (46, .aload_n 0, 47, 0), (47, .dup, 48, 0), (48, .getfield 154, 51, 0), (51, .iconst 1, 52, 0), (52, .iadd, 53, 0), (53, .putfield 154, 56, 0), (56, .aload_n 0, 57, 0), (57, .getfield 154, 60, 0), (60, .iconst 1, 61, 0), (61, .isub, 62, 0), (62, .ireturn, 63, 0)], [(7, 110648, 3, some 112689), (154, 110648, 2, none)], [(100157, 3, sp_X7_in), (173, 2, (z_rc 110648 sp_X7_holds))], [], [], [], [], some .int)
set_option maxRecDepth 20000 in
set_option maxHeartbeats 4000000 in
theorem ct_X7_people (l : Launch) : z_CT l yX7_people cX7_people 2 (some .int) (z_rc 110648 sp_X7_people) 1 := by
  refine z_CT_of G_X7_people (by decide) (by decide +kernel) (z_pok_of ft_X7 ci_X7 cL_X7_L fo_X7 co_X7 lo_X7 (by decide +kernel)) rfl rfl ?_ ?_ ?_
  · intro as S P Po h0
    obtain ⟨as, rfl, h⟩ := z_rc_of h0
    unfold sp_X7_people at h
    split at h
    · exact Nat.le_of_ble_eq_true rfl
    · exact h.elim
  · exact List.forall_mem_cons.mpr ⟨z_coS (ct_X7_in l) kb_X7_in ks_X7_157 (by decide) (by decide), List.forall_mem_cons.mpr ⟨z_coV (ct_X7_holds l) kb_X7_holds kv_X7_173 ko_X7 (by decide) (by decide) (by decide), fun _ h => absurd h List.not_mem_nil⟩⟩
  · intro as S P Po h0 V hV hW
    obtain ⟨as, rfl, h⟩ := z_rc_of h0
    unfold sp_X7_people at h
    split at h
    · rename_i x1
      obtain ⟨hp0, hpo⟩ := h
      refine hV [] 41 0 _ _ _ _ ?_
      refine z_brn (fun (h1 : (f_X7_in S P x1 (nI 0) (nI 2)) = true) => ?_) (fun (h1 : (f_X7_in S P x1 (nI 0) (nI 2)) = false) => ?_)
      · refine ⟨fun (h2 : ¬ ((S 110648 2) = (nI 6))) => ?_, fun (h2 : (S 110648 2) = (nI 6)) => ?_⟩
        · refine z_hnT (z_hq0 _ _) ?_
          refine ⟨(show vp_in (S 110648 2) 6 by exact z_rne (by assumption) (z_J_Mpeoples hp0) (by decide)), ?_⟩
          exact z_pi hpo ((if_pos h1).trans ((if_neg h2).trans rfl)) ((if_pos h1).trans ((if_neg h2).trans rfl)) (rfl)
        · refine z_hnF (z_hq2 _ _) ?_
          exact z_pi hpo ((if_pos h1).trans ((if_pos h2).trans rfl)) ((if_pos h1).trans ((if_pos h2).trans rfl)) (rfl)
      · refine z_hnF (z_hq1 _ _) ?_
        exact z_pi hpo ((if_neg (z_nt h1)).trans rfl) ((if_neg (z_nt h1)).trans rfl) (rfl)
    · exact h.elim
def f_X7_person (S : z_MI) (P : z_ML) (x1 : Int32) (x2 : Int32) : Int32 :=
  if x1 = (-1) then
    if x2 = (-1) then
      if x1 = x2 then
        if x1 = (-1) then
          if (S 110648 6) = (nI 30) then
            nI 0
          else
            ((S 110648 6) + (nI 1)) - (nI 1)
        else
          nI 0
      else
        if (S 110648 6) = (nI 30) then
          nI 0
        else
          ((S 110648 6) + (nI 1)) - (nI 1)
    else
      if (f_X7_isPerson S P x2) = true then
        if x1 = x2 then
          if x1 = (-1) then
            if (S 110648 6) = (nI 30) then
              nI 0
            else
              ((S 110648 6) + (nI 1)) - (nI 1)
          else
            nI 0
        else
          if (S 110648 6) = (nI 30) then
            nI 0
          else
            ((S 110648 6) + (nI 1)) - (nI 1)
      else
        nI 0
  else
    if (f_X7_isPerson S P x1) = true then
      if x2 = (-1) then
        if x1 = x2 then
          if x1 = (-1) then
            if (S 110648 6) = (nI 30) then
              nI 0
            else
              ((S 110648 6) + (nI 1)) - (nI 1)
          else
            nI 0
        else
          if (S 110648 6) = (nI 30) then
            nI 0
          else
            ((S 110648 6) + (nI 1)) - (nI 1)
      else
        if (f_X7_isPerson S P x2) = true then
          if x1 = x2 then
            if x1 = (-1) then
              if (S 110648 6) = (nI 30) then
                nI 0
              else
                ((S 110648 6) + (nI 1)) - (nI 1)
            else
              nI 0
          else
            if (S 110648 6) = (nI 30) then
              nI 0
            else
              ((S 110648 6) + (nI 1)) - (nI 1)
        else
          nI 0
    else
      nI 0
def u_X7_person (S : z_MI) (P : z_ML) (x1 : Int32) (x2 : Int32) : z_MI :=
  if x1 = (-1) then
    if x2 = (-1) then
      if x1 = x2 then
        if x1 = (-1) then
          if (S 110648 6) = (nI 30) then
            va_up S 110648 (upd (S 110648) 0 (nI 3))
          else
            va_up (va_up (va_up (va_up (va_up S 110648 (upd (S 110648) 0 (nI 0))) 119025 (upd ((va_up S 110648 (upd (S 110648) 0 (nI 0))) 119025) ((S 110648 6).toNatClampNeg) x1)) 121073 (upd ((va_up (va_up S 110648 (upd (S 110648) 0 (nI 0))) 119025 (upd ((va_up S 110648 (upd (S 110648) 0 (nI 0))) 119025) ((S 110648 6).toNatClampNeg) x1)) 121073) ((S 110648 6).toNatClampNeg) x2)) 123121 (upd ((va_up (va_up (va_up S 110648 (upd (S 110648) 0 (nI 0))) 119025 (upd ((va_up S 110648 (upd (S 110648) 0 (nI 0))) 119025) ((S 110648 6).toNatClampNeg) x1)) 121073 (upd ((va_up (va_up S 110648 (upd (S 110648) 0 (nI 0))) 119025 (upd ((va_up S 110648 (upd (S 110648) 0 (nI 0))) 119025) ((S 110648 6).toNatClampNeg) x1)) 121073) ((S 110648 6).toNatClampNeg) x2)) 123121) ((S 110648 6).toNatClampNeg) (-1))) 110648 (upd ((va_up (va_up (va_up (va_up S 110648 (upd (S 110648) 0 (nI 0))) 119025 (upd ((va_up S 110648 (upd (S 110648) 0 (nI 0))) 119025) ((S 110648 6).toNatClampNeg) x1)) 121073 (upd ((va_up (va_up S 110648 (upd (S 110648) 0 (nI 0))) 119025 (upd ((va_up S 110648 (upd (S 110648) 0 (nI 0))) 119025) ((S 110648 6).toNatClampNeg) x1)) 121073) ((S 110648 6).toNatClampNeg) x2)) 123121 (upd ((va_up (va_up (va_up S 110648 (upd (S 110648) 0 (nI 0))) 119025 (upd ((va_up S 110648 (upd (S 110648) 0 (nI 0))) 119025) ((S 110648 6).toNatClampNeg) x1)) 121073 (upd ((va_up (va_up S 110648 (upd (S 110648) 0 (nI 0))) 119025 (upd ((va_up S 110648 (upd (S 110648) 0 (nI 0))) 119025) ((S 110648 6).toNatClampNeg) x1)) 121073) ((S 110648 6).toNatClampNeg) x2)) 123121) ((S 110648 6).toNatClampNeg) (-1))) 110648) 6 ((S 110648 6) + (nI 1)))
        else
          va_up S 110648 (upd (S 110648) 0 (nI 2))
      else
        if (S 110648 6) = (nI 30) then
          va_up S 110648 (upd (S 110648) 0 (nI 3))
        else
          va_up (va_up (va_up (va_up (va_up S 110648 (upd (S 110648) 0 (nI 0))) 119025 (upd ((va_up S 110648 (upd (S 110648) 0 (nI 0))) 119025) ((S 110648 6).toNatClampNeg) x1)) 121073 (upd ((va_up (va_up S 110648 (upd (S 110648) 0 (nI 0))) 119025 (upd ((va_up S 110648 (upd (S 110648) 0 (nI 0))) 119025) ((S 110648 6).toNatClampNeg) x1)) 121073) ((S 110648 6).toNatClampNeg) x2)) 123121 (upd ((va_up (va_up (va_up S 110648 (upd (S 110648) 0 (nI 0))) 119025 (upd ((va_up S 110648 (upd (S 110648) 0 (nI 0))) 119025) ((S 110648 6).toNatClampNeg) x1)) 121073 (upd ((va_up (va_up S 110648 (upd (S 110648) 0 (nI 0))) 119025 (upd ((va_up S 110648 (upd (S 110648) 0 (nI 0))) 119025) ((S 110648 6).toNatClampNeg) x1)) 121073) ((S 110648 6).toNatClampNeg) x2)) 123121) ((S 110648 6).toNatClampNeg) (-1))) 110648 (upd ((va_up (va_up (va_up (va_up S 110648 (upd (S 110648) 0 (nI 0))) 119025 (upd ((va_up S 110648 (upd (S 110648) 0 (nI 0))) 119025) ((S 110648 6).toNatClampNeg) x1)) 121073 (upd ((va_up (va_up S 110648 (upd (S 110648) 0 (nI 0))) 119025 (upd ((va_up S 110648 (upd (S 110648) 0 (nI 0))) 119025) ((S 110648 6).toNatClampNeg) x1)) 121073) ((S 110648 6).toNatClampNeg) x2)) 123121 (upd ((va_up (va_up (va_up S 110648 (upd (S 110648) 0 (nI 0))) 119025 (upd ((va_up S 110648 (upd (S 110648) 0 (nI 0))) 119025) ((S 110648 6).toNatClampNeg) x1)) 121073 (upd ((va_up (va_up S 110648 (upd (S 110648) 0 (nI 0))) 119025 (upd ((va_up S 110648 (upd (S 110648) 0 (nI 0))) 119025) ((S 110648 6).toNatClampNeg) x1)) 121073) ((S 110648 6).toNatClampNeg) x2)) 123121) ((S 110648 6).toNatClampNeg) (-1))) 110648) 6 ((S 110648 6) + (nI 1)))
    else
      if (f_X7_isPerson S P x2) = true then
        if x1 = x2 then
          if x1 = (-1) then
            if (S 110648 6) = (nI 30) then
              va_up S 110648 (upd (S 110648) 0 (nI 3))
            else
              va_up (va_up (va_up (va_up (va_up S 110648 (upd (S 110648) 0 (nI 0))) 119025 (upd ((va_up S 110648 (upd (S 110648) 0 (nI 0))) 119025) ((S 110648 6).toNatClampNeg) x1)) 121073 (upd ((va_up (va_up S 110648 (upd (S 110648) 0 (nI 0))) 119025 (upd ((va_up S 110648 (upd (S 110648) 0 (nI 0))) 119025) ((S 110648 6).toNatClampNeg) x1)) 121073) ((S 110648 6).toNatClampNeg) x2)) 123121 (upd ((va_up (va_up (va_up S 110648 (upd (S 110648) 0 (nI 0))) 119025 (upd ((va_up S 110648 (upd (S 110648) 0 (nI 0))) 119025) ((S 110648 6).toNatClampNeg) x1)) 121073 (upd ((va_up (va_up S 110648 (upd (S 110648) 0 (nI 0))) 119025 (upd ((va_up S 110648 (upd (S 110648) 0 (nI 0))) 119025) ((S 110648 6).toNatClampNeg) x1)) 121073) ((S 110648 6).toNatClampNeg) x2)) 123121) ((S 110648 6).toNatClampNeg) (-1))) 110648 (upd ((va_up (va_up (va_up (va_up S 110648 (upd (S 110648) 0 (nI 0))) 119025 (upd ((va_up S 110648 (upd (S 110648) 0 (nI 0))) 119025) ((S 110648 6).toNatClampNeg) x1)) 121073 (upd ((va_up (va_up S 110648 (upd (S 110648) 0 (nI 0))) 119025 (upd ((va_up S 110648 (upd (S 110648) 0 (nI 0))) 119025) ((S 110648 6).toNatClampNeg) x1)) 121073) ((S 110648 6).toNatClampNeg) x2)) 123121 (upd ((va_up (va_up (va_up S 110648 (upd (S 110648) 0 (nI 0))) 119025 (upd ((va_up S 110648 (upd (S 110648) 0 (nI 0))) 119025) ((S 110648 6).toNatClampNeg) x1)) 121073 (upd ((va_up (va_up S 110648 (upd (S 110648) 0 (nI 0))) 119025 (upd ((va_up S 110648 (upd (S 110648) 0 (nI 0))) 119025) ((S 110648 6).toNatClampNeg) x1)) 121073) ((S 110648 6).toNatClampNeg) x2)) 123121) ((S 110648 6).toNatClampNeg) (-1))) 110648) 6 ((S 110648 6) + (nI 1)))
          else
            va_up S 110648 (upd (S 110648) 0 (nI 2))
        else
          if (S 110648 6) = (nI 30) then
            va_up S 110648 (upd (S 110648) 0 (nI 3))
          else
            va_up (va_up (va_up (va_up (va_up S 110648 (upd (S 110648) 0 (nI 0))) 119025 (upd ((va_up S 110648 (upd (S 110648) 0 (nI 0))) 119025) ((S 110648 6).toNatClampNeg) x1)) 121073 (upd ((va_up (va_up S 110648 (upd (S 110648) 0 (nI 0))) 119025 (upd ((va_up S 110648 (upd (S 110648) 0 (nI 0))) 119025) ((S 110648 6).toNatClampNeg) x1)) 121073) ((S 110648 6).toNatClampNeg) x2)) 123121 (upd ((va_up (va_up (va_up S 110648 (upd (S 110648) 0 (nI 0))) 119025 (upd ((va_up S 110648 (upd (S 110648) 0 (nI 0))) 119025) ((S 110648 6).toNatClampNeg) x1)) 121073 (upd ((va_up (va_up S 110648 (upd (S 110648) 0 (nI 0))) 119025 (upd ((va_up S 110648 (upd (S 110648) 0 (nI 0))) 119025) ((S 110648 6).toNatClampNeg) x1)) 121073) ((S 110648 6).toNatClampNeg) x2)) 123121) ((S 110648 6).toNatClampNeg) (-1))) 110648 (upd ((va_up (va_up (va_up (va_up S 110648 (upd (S 110648) 0 (nI 0))) 119025 (upd ((va_up S 110648 (upd (S 110648) 0 (nI 0))) 119025) ((S 110648 6).toNatClampNeg) x1)) 121073 (upd ((va_up (va_up S 110648 (upd (S 110648) 0 (nI 0))) 119025 (upd ((va_up S 110648 (upd (S 110648) 0 (nI 0))) 119025) ((S 110648 6).toNatClampNeg) x1)) 121073) ((S 110648 6).toNatClampNeg) x2)) 123121 (upd ((va_up (va_up (va_up S 110648 (upd (S 110648) 0 (nI 0))) 119025 (upd ((va_up S 110648 (upd (S 110648) 0 (nI 0))) 119025) ((S 110648 6).toNatClampNeg) x1)) 121073 (upd ((va_up (va_up S 110648 (upd (S 110648) 0 (nI 0))) 119025 (upd ((va_up S 110648 (upd (S 110648) 0 (nI 0))) 119025) ((S 110648 6).toNatClampNeg) x1)) 121073) ((S 110648 6).toNatClampNeg) x2)) 123121) ((S 110648 6).toNatClampNeg) (-1))) 110648) 6 ((S 110648 6) + (nI 1)))
      else
        va_up S 110648 (upd (S 110648) 0 (nI 1))
  else
    if (f_X7_isPerson S P x1) = true then
      if x2 = (-1) then
        if x1 = x2 then
          if x1 = (-1) then
            if (S 110648 6) = (nI 30) then
              va_up S 110648 (upd (S 110648) 0 (nI 3))
            else
              va_up (va_up (va_up (va_up (va_up S 110648 (upd (S 110648) 0 (nI 0))) 119025 (upd ((va_up S 110648 (upd (S 110648) 0 (nI 0))) 119025) ((S 110648 6).toNatClampNeg) x1)) 121073 (upd ((va_up (va_up S 110648 (upd (S 110648) 0 (nI 0))) 119025 (upd ((va_up S 110648 (upd (S 110648) 0 (nI 0))) 119025) ((S 110648 6).toNatClampNeg) x1)) 121073) ((S 110648 6).toNatClampNeg) x2)) 123121 (upd ((va_up (va_up (va_up S 110648 (upd (S 110648) 0 (nI 0))) 119025 (upd ((va_up S 110648 (upd (S 110648) 0 (nI 0))) 119025) ((S 110648 6).toNatClampNeg) x1)) 121073 (upd ((va_up (va_up S 110648 (upd (S 110648) 0 (nI 0))) 119025 (upd ((va_up S 110648 (upd (S 110648) 0 (nI 0))) 119025) ((S 110648 6).toNatClampNeg) x1)) 121073) ((S 110648 6).toNatClampNeg) x2)) 123121) ((S 110648 6).toNatClampNeg) (-1))) 110648 (upd ((va_up (va_up (va_up (va_up S 110648 (upd (S 110648) 0 (nI 0))) 119025 (upd ((va_up S 110648 (upd (S 110648) 0 (nI 0))) 119025) ((S 110648 6).toNatClampNeg) x1)) 121073 (upd ((va_up (va_up S 110648 (upd (S 110648) 0 (nI 0))) 119025 (upd ((va_up S 110648 (upd (S 110648) 0 (nI 0))) 119025) ((S 110648 6).toNatClampNeg) x1)) 121073) ((S 110648 6).toNatClampNeg) x2)) 123121 (upd ((va_up (va_up (va_up S 110648 (upd (S 110648) 0 (nI 0))) 119025 (upd ((va_up S 110648 (upd (S 110648) 0 (nI 0))) 119025) ((S 110648 6).toNatClampNeg) x1)) 121073 (upd ((va_up (va_up S 110648 (upd (S 110648) 0 (nI 0))) 119025 (upd ((va_up S 110648 (upd (S 110648) 0 (nI 0))) 119025) ((S 110648 6).toNatClampNeg) x1)) 121073) ((S 110648 6).toNatClampNeg) x2)) 123121) ((S 110648 6).toNatClampNeg) (-1))) 110648) 6 ((S 110648 6) + (nI 1)))
          else
            va_up S 110648 (upd (S 110648) 0 (nI 2))
        else
          if (S 110648 6) = (nI 30) then
            va_up S 110648 (upd (S 110648) 0 (nI 3))
          else
            va_up (va_up (va_up (va_up (va_up S 110648 (upd (S 110648) 0 (nI 0))) 119025 (upd ((va_up S 110648 (upd (S 110648) 0 (nI 0))) 119025) ((S 110648 6).toNatClampNeg) x1)) 121073 (upd ((va_up (va_up S 110648 (upd (S 110648) 0 (nI 0))) 119025 (upd ((va_up S 110648 (upd (S 110648) 0 (nI 0))) 119025) ((S 110648 6).toNatClampNeg) x1)) 121073) ((S 110648 6).toNatClampNeg) x2)) 123121 (upd ((va_up (va_up (va_up S 110648 (upd (S 110648) 0 (nI 0))) 119025 (upd ((va_up S 110648 (upd (S 110648) 0 (nI 0))) 119025) ((S 110648 6).toNatClampNeg) x1)) 121073 (upd ((va_up (va_up S 110648 (upd (S 110648) 0 (nI 0))) 119025 (upd ((va_up S 110648 (upd (S 110648) 0 (nI 0))) 119025) ((S 110648 6).toNatClampNeg) x1)) 121073) ((S 110648 6).toNatClampNeg) x2)) 123121) ((S 110648 6).toNatClampNeg) (-1))) 110648 (upd ((va_up (va_up (va_up (va_up S 110648 (upd (S 110648) 0 (nI 0))) 119025 (upd ((va_up S 110648 (upd (S 110648) 0 (nI 0))) 119025) ((S 110648 6).toNatClampNeg) x1)) 121073 (upd ((va_up (va_up S 110648 (upd (S 110648) 0 (nI 0))) 119025 (upd ((va_up S 110648 (upd (S 110648) 0 (nI 0))) 119025) ((S 110648 6).toNatClampNeg) x1)) 121073) ((S 110648 6).toNatClampNeg) x2)) 123121 (upd ((va_up (va_up (va_up S 110648 (upd (S 110648) 0 (nI 0))) 119025 (upd ((va_up S 110648 (upd (S 110648) 0 (nI 0))) 119025) ((S 110648 6).toNatClampNeg) x1)) 121073 (upd ((va_up (va_up S 110648 (upd (S 110648) 0 (nI 0))) 119025 (upd ((va_up S 110648 (upd (S 110648) 0 (nI 0))) 119025) ((S 110648 6).toNatClampNeg) x1)) 121073) ((S 110648 6).toNatClampNeg) x2)) 123121) ((S 110648 6).toNatClampNeg) (-1))) 110648) 6 ((S 110648 6) + (nI 1)))
      else
        if (f_X7_isPerson S P x2) = true then
          if x1 = x2 then
            if x1 = (-1) then
              if (S 110648 6) = (nI 30) then
                va_up S 110648 (upd (S 110648) 0 (nI 3))
              else
                va_up (va_up (va_up (va_up (va_up S 110648 (upd (S 110648) 0 (nI 0))) 119025 (upd ((va_up S 110648 (upd (S 110648) 0 (nI 0))) 119025) ((S 110648 6).toNatClampNeg) x1)) 121073 (upd ((va_up (va_up S 110648 (upd (S 110648) 0 (nI 0))) 119025 (upd ((va_up S 110648 (upd (S 110648) 0 (nI 0))) 119025) ((S 110648 6).toNatClampNeg) x1)) 121073) ((S 110648 6).toNatClampNeg) x2)) 123121 (upd ((va_up (va_up (va_up S 110648 (upd (S 110648) 0 (nI 0))) 119025 (upd ((va_up S 110648 (upd (S 110648) 0 (nI 0))) 119025) ((S 110648 6).toNatClampNeg) x1)) 121073 (upd ((va_up (va_up S 110648 (upd (S 110648) 0 (nI 0))) 119025 (upd ((va_up S 110648 (upd (S 110648) 0 (nI 0))) 119025) ((S 110648 6).toNatClampNeg) x1)) 121073) ((S 110648 6).toNatClampNeg) x2)) 123121) ((S 110648 6).toNatClampNeg) (-1))) 110648 (upd ((va_up (va_up (va_up (va_up S 110648 (upd (S 110648) 0 (nI 0))) 119025 (upd ((va_up S 110648 (upd (S 110648) 0 (nI 0))) 119025) ((S 110648 6).toNatClampNeg) x1)) 121073 (upd ((va_up (va_up S 110648 (upd (S 110648) 0 (nI 0))) 119025 (upd ((va_up S 110648 (upd (S 110648) 0 (nI 0))) 119025) ((S 110648 6).toNatClampNeg) x1)) 121073) ((S 110648 6).toNatClampNeg) x2)) 123121 (upd ((va_up (va_up (va_up S 110648 (upd (S 110648) 0 (nI 0))) 119025 (upd ((va_up S 110648 (upd (S 110648) 0 (nI 0))) 119025) ((S 110648 6).toNatClampNeg) x1)) 121073 (upd ((va_up (va_up S 110648 (upd (S 110648) 0 (nI 0))) 119025 (upd ((va_up S 110648 (upd (S 110648) 0 (nI 0))) 119025) ((S 110648 6).toNatClampNeg) x1)) 121073) ((S 110648 6).toNatClampNeg) x2)) 123121) ((S 110648 6).toNatClampNeg) (-1))) 110648) 6 ((S 110648 6) + (nI 1)))
            else
              va_up S 110648 (upd (S 110648) 0 (nI 2))
          else
            if (S 110648 6) = (nI 30) then
              va_up S 110648 (upd (S 110648) 0 (nI 3))
            else
              va_up (va_up (va_up (va_up (va_up S 110648 (upd (S 110648) 0 (nI 0))) 119025 (upd ((va_up S 110648 (upd (S 110648) 0 (nI 0))) 119025) ((S 110648 6).toNatClampNeg) x1)) 121073 (upd ((va_up (va_up S 110648 (upd (S 110648) 0 (nI 0))) 119025 (upd ((va_up S 110648 (upd (S 110648) 0 (nI 0))) 119025) ((S 110648 6).toNatClampNeg) x1)) 121073) ((S 110648 6).toNatClampNeg) x2)) 123121 (upd ((va_up (va_up (va_up S 110648 (upd (S 110648) 0 (nI 0))) 119025 (upd ((va_up S 110648 (upd (S 110648) 0 (nI 0))) 119025) ((S 110648 6).toNatClampNeg) x1)) 121073 (upd ((va_up (va_up S 110648 (upd (S 110648) 0 (nI 0))) 119025 (upd ((va_up S 110648 (upd (S 110648) 0 (nI 0))) 119025) ((S 110648 6).toNatClampNeg) x1)) 121073) ((S 110648 6).toNatClampNeg) x2)) 123121) ((S 110648 6).toNatClampNeg) (-1))) 110648 (upd ((va_up (va_up (va_up (va_up S 110648 (upd (S 110648) 0 (nI 0))) 119025 (upd ((va_up S 110648 (upd (S 110648) 0 (nI 0))) 119025) ((S 110648 6).toNatClampNeg) x1)) 121073 (upd ((va_up (va_up S 110648 (upd (S 110648) 0 (nI 0))) 119025 (upd ((va_up S 110648 (upd (S 110648) 0 (nI 0))) 119025) ((S 110648 6).toNatClampNeg) x1)) 121073) ((S 110648 6).toNatClampNeg) x2)) 123121 (upd ((va_up (va_up (va_up S 110648 (upd (S 110648) 0 (nI 0))) 119025 (upd ((va_up S 110648 (upd (S 110648) 0 (nI 0))) 119025) ((S 110648 6).toNatClampNeg) x1)) 121073 (upd ((va_up (va_up S 110648 (upd (S 110648) 0 (nI 0))) 119025 (upd ((va_up S 110648 (upd (S 110648) 0 (nI 0))) 119025) ((S 110648 6).toNatClampNeg) x1)) 121073) ((S 110648 6).toNatClampNeg) x2)) 123121) ((S 110648 6).toNatClampNeg) (-1))) 110648) 6 ((S 110648 6) + (nI 1)))
        else
          va_up S 110648 (upd (S 110648) 0 (nI 1))
    else
      va_up S 110648 (upd (S 110648) 0 (nI 1))
def sp_X7_person : z_SP := fun as S P k => match as with
  | [.int x1, .int x2] => z_JM S ∧ k (some (.int (f_X7_person S P x1 x2))) (u_X7_person S P x1 x2) P
  | _ => False
def G_X7_person : z_G := ([(0, .iload_n 1, 1, 0), (1, .iconst (-1), 2, 0), (2, .if_icmp .eq 11, 5, 13), (5, .aload_n 0, 6, 0), (6, .iload_n 1, 7, 0), (7, .invokevirtual 177, 10, 0), (10, .ifCond .eq 20, 13, 30), (13, .iload_n 2, 14, 0), (14, .iconst (-1), 15, 0), (15, .if_icmp .eq 11, 18, 26), (18, .aload_n 0, 19, 0), (19, .iload_n 2, 20, 0), (20, .invokevirtual 177, 23, 0), (23, .ifCond .eq 7, 26, 30), (26, .iconst 1, 27, 0), (27, .goto 4, 30, 31), (30, .iconst 0, 31, 0), (31, .istore_n 3, 32, 0), (32, .aload_n 0, 33, 0), (33, .iload_n 3, 34, 0), (34, .ifCond .ne 7, 37, 41), (37, .iconst 1, 38, 0), (38, .goto 31, 41, 69), (41, .iload_n 1, 42, 0), (42, .iload_n 2, 43, 0), (43, .if_icmp .ne 12, 46, 55), (46, .iload_n 1, 47, 0), (47, .iconst (-1), 48, 0), (48, .if_icmp .eq 7, 51, 55), (51, .iconst 2, 52, 0), (52, .goto 17, 55, 69), (55, .aload_n 0, 56, 0), (56, .getfield 161, 59, 0), (59, .bipush 30, 61, 0), (61, .if_icmp .ne 7, 64, 68), (64, .iconst 3, 65, 0), (65, .goto 4, 68, 69), (68, .iconst 0, 69, 0), (69, .invokevirtual 173, 72, 0), (72, .ifCond .ne 5, 75, 77), (75, .iconst 0, 76, 0), (76, .ireturn, 77, 0), (77, .aload_n 0, 78, 0), (78, .getfield 20, 81, 0), (81, .aload_n 0, 82, 0), (82, .getfield 161, 85, 0), (85, .iload_n 1, 86, 0), (86, .iastore, 87, 0), (87, .aload_n 0, 88, 0), (88, .getfield 23, 91, 0), (91, .aload_n 0, 92, 0), (92, .getfield 161, 95, 0), (95, .iload_n 2, 96, 0), (96, .iastore, 97, 0), (97, .aload_n 0, 98, 0), (98, .getfield 26, 101, 0), (101, .aload_n 0, 102, 0), (102, .getfield 161, 105, 0), (105, .iconst (-1), 106, 0), (106, .iastore, 107, 0), (107, .aload_n 0, 108, 0), (108, .dup, 109, 0), (109, .getfield 161, 112, 0), (112, .iconst 1, 113, 0), (113, .iadd, 114, 0), (114, .putfield 161, 117, 0), (117, .aload_n 0, 118, 0), (118, .getfield 161, 121, 0), (121, .iconst 1, 122, 0), (122, .isub, 123, 0), (123, .ireturn, 124, 0)], [(20, 110648, 7, some 119025), (23, 110648, 8, some 121073), (26, 110648, 9, some 123121), (161, 110648, 6, none)], [(173, 2, (z_rc 110648 sp_X7_holds)), (177, 2, (z_rc 110648 sp_X7_isPerson))], [], [], [], [], some .int)
set_option maxRecDepth 20000 in
set_option maxHeartbeats 4000000 in
theorem ct_X7_person (l : Launch) : z_CT l yX7_person cX7_person 4 (some .int) (z_rc 110648 sp_X7_person) 2 := by
  refine z_CT_of G_X7_person (by decide) (by decide +kernel) (z_pok_of ft_X7 ci_X7 cL_X7_L fo_X7 co_X7 lo_X7 (by decide +kernel)) rfl rfl ?_ ?_ ?_
  · intro as S P Po h0
    obtain ⟨as, rfl, h⟩ := z_rc_of h0
    unfold sp_X7_person at h
    split at h
    · exact Nat.le_of_ble_eq_true rfl
    · exact h.elim
  · exact List.forall_mem_cons.mpr ⟨z_coV (ct_X7_holds l) kb_X7_holds kv_X7_173 ko_X7 (by decide) (by decide) (by decide), List.forall_mem_cons.mpr ⟨z_coV (ct_X7_isPerson l) kb_X7_isPerson kv_X7_177 ko_X7 (by decide) (by decide) (by decide), fun _ h => absurd h List.not_mem_nil⟩⟩
  · intro as S P Po h0 V hV hW
    obtain ⟨as, rfl, h⟩ := z_rc_of h0
    unfold sp_X7_person at h
    split at h
    · rename_i x1 x2
      obtain ⟨hp0, hpo⟩ := h
      refine hV [] 76 0 _ _ _ _ ?_
      refine ⟨fun (h1 : x1 = (-1)) => ?_, fun (h1 : ¬ (x1 = (-1))) => ?_⟩
      · refine ⟨fun (h2 : x2 = (-1)) => ?_, fun (h2 : ¬ (x2 = (-1))) => ?_⟩
        · refine ⟨fun _ => ?_, fun h => absurd h (by decide)⟩
          refine ⟨fun (h3 : ¬ (x1 = x2)) => ?_, fun (h3 : x1 = x2) => ?_⟩
          · refine ⟨fun (h4 : ¬ ((S 110648 6) = (nI 30))) => ?_, fun (h4 : (S 110648 6) = (nI 30)) => ?_⟩
            · refine z_hnT (z_hq0 _ _) ?_
              refine ⟨(show vp_in (S 110648 6) 30 by exact z_rne (by assumption) (z_J_Mpersons hp0) (by decide)), ?_⟩
              refine ⟨(show vp_in (S 110648 6) 30 by exact z_rne (by assumption) (z_J_Mpersons hp0) (by decide)), ?_⟩
              refine ⟨(show vp_in (S 110648 6) 30 by exact z_rne (by assumption) (z_J_Mpersons hp0) (by decide)), ?_⟩
              exact z_pi hpo ((if_pos h1).trans ((if_pos h2).trans ((if_neg h3).trans ((if_neg h4).trans rfl)))) ((if_pos h1).trans ((if_pos h2).trans ((if_neg h3).trans ((if_neg h4).trans rfl)))) (rfl)
            · refine z_hnF (z_hq3 _ _) ?_
              exact z_pi hpo ((if_pos h1).trans ((if_pos h2).trans ((if_neg h3).trans ((if_pos h4).trans rfl)))) ((if_pos h1).trans ((if_pos h2).trans ((if_neg h3).trans ((if_pos h4).trans rfl)))) (rfl)
          · refine ⟨fun (h5 : x1 = (-1)) => ?_, fun (h5 : ¬ (x1 = (-1))) => ?_⟩
            · refine ⟨fun (h6 : ¬ ((S 110648 6) = (nI 30))) => ?_, fun (h6 : (S 110648 6) = (nI 30)) => ?_⟩
              · refine z_hnT (z_hq0 _ _) ?_
                refine ⟨(show vp_in (S 110648 6) 30 by exact z_rne (by assumption) (z_J_Mpersons hp0) (by decide)), ?_⟩
                refine ⟨(show vp_in (S 110648 6) 30 by exact z_rne (by assumption) (z_J_Mpersons hp0) (by decide)), ?_⟩
                refine ⟨(show vp_in (S 110648 6) 30 by exact z_rne (by assumption) (z_J_Mpersons hp0) (by decide)), ?_⟩
                exact z_pi hpo ((if_pos h1).trans ((if_pos h2).trans ((if_pos h3).trans ((if_pos h5).trans ((if_neg h6).trans rfl))))) ((if_pos h1).trans ((if_pos h2).trans ((if_pos h3).trans ((if_pos h5).trans ((if_neg h6).trans rfl))))) (rfl)
              · refine z_hnF (z_hq3 _ _) ?_
                exact z_pi hpo ((if_pos h1).trans ((if_pos h2).trans ((if_pos h3).trans ((if_pos h5).trans ((if_pos h6).trans rfl))))) ((if_pos h1).trans ((if_pos h2).trans ((if_pos h3).trans ((if_pos h5).trans ((if_pos h6).trans rfl))))) (rfl)
            · refine z_hnF (z_hq2 _ _) ?_
              exact z_pi hpo ((if_pos h1).trans ((if_pos h2).trans ((if_pos h3).trans ((if_neg h5).trans rfl)))) ((if_pos h1).trans ((if_pos h2).trans ((if_pos h3).trans ((if_neg h5).trans rfl)))) (rfl)
        · refine z_br (fun (h7 : (f_X7_isPerson S P x2) = false) => ?_) (fun (h7 : (f_X7_isPerson S P x2) = true) => ?_)
          · refine ⟨fun h => absurd (by decide) h, fun _ => ?_⟩
            refine z_hnF (z_hq1 _ _) ?_
            exact z_pi hpo ((if_pos h1).trans ((if_neg h2).trans ((if_neg (z_nt h7)).trans rfl))) ((if_pos h1).trans ((if_neg h2).trans ((if_neg (z_nt h7)).trans rfl))) (rfl)
          · refine ⟨fun _ => ?_, fun h => absurd h (by decide)⟩
            refine ⟨fun (h8 : ¬ (x1 = x2)) => ?_, fun (h8 : x1 = x2) => ?_⟩
            · refine ⟨fun (h9 : ¬ ((S 110648 6) = (nI 30))) => ?_, fun (h9 : (S 110648 6) = (nI 30)) => ?_⟩
              · refine z_hnT (z_hq0 _ _) ?_
                refine ⟨(show vp_in (S 110648 6) 30 by exact z_rne (by assumption) (z_J_Mpersons hp0) (by decide)), ?_⟩
                refine ⟨(show vp_in (S 110648 6) 30 by exact z_rne (by assumption) (z_J_Mpersons hp0) (by decide)), ?_⟩
                refine ⟨(show vp_in (S 110648 6) 30 by exact z_rne (by assumption) (z_J_Mpersons hp0) (by decide)), ?_⟩
                exact z_pi hpo ((if_pos h1).trans ((if_neg h2).trans ((if_pos h7).trans ((if_neg h8).trans ((if_neg h9).trans rfl))))) ((if_pos h1).trans ((if_neg h2).trans ((if_pos h7).trans ((if_neg h8).trans ((if_neg h9).trans rfl))))) (rfl)
              · refine z_hnF (z_hq3 _ _) ?_
                exact z_pi hpo ((if_pos h1).trans ((if_neg h2).trans ((if_pos h7).trans ((if_neg h8).trans ((if_pos h9).trans rfl))))) ((if_pos h1).trans ((if_neg h2).trans ((if_pos h7).trans ((if_neg h8).trans ((if_pos h9).trans rfl))))) (rfl)
            · refine ⟨fun (h10 : x1 = (-1)) => ?_, fun (h10 : ¬ (x1 = (-1))) => ?_⟩
              · refine ⟨fun (h11 : ¬ ((S 110648 6) = (nI 30))) => ?_, fun (h11 : (S 110648 6) = (nI 30)) => ?_⟩
                · refine z_hnT (z_hq0 _ _) ?_
                  refine ⟨(show vp_in (S 110648 6) 30 by exact z_rne (by assumption) (z_J_Mpersons hp0) (by decide)), ?_⟩
                  refine ⟨(show vp_in (S 110648 6) 30 by exact z_rne (by assumption) (z_J_Mpersons hp0) (by decide)), ?_⟩
                  refine ⟨(show vp_in (S 110648 6) 30 by exact z_rne (by assumption) (z_J_Mpersons hp0) (by decide)), ?_⟩
                  exact z_pi hpo ((if_pos h1).trans ((if_neg h2).trans ((if_pos h7).trans ((if_pos h8).trans ((if_pos h10).trans ((if_neg h11).trans rfl)))))) ((if_pos h1).trans ((if_neg h2).trans ((if_pos h7).trans ((if_pos h8).trans ((if_pos h10).trans ((if_neg h11).trans rfl)))))) (rfl)
                · refine z_hnF (z_hq3 _ _) ?_
                  exact z_pi hpo ((if_pos h1).trans ((if_neg h2).trans ((if_pos h7).trans ((if_pos h8).trans ((if_pos h10).trans ((if_pos h11).trans rfl)))))) ((if_pos h1).trans ((if_neg h2).trans ((if_pos h7).trans ((if_pos h8).trans ((if_pos h10).trans ((if_pos h11).trans rfl)))))) (rfl)
              · refine z_hnF (z_hq2 _ _) ?_
                exact z_pi hpo ((if_pos h1).trans ((if_neg h2).trans ((if_pos h7).trans ((if_pos h8).trans ((if_neg h10).trans rfl))))) ((if_pos h1).trans ((if_neg h2).trans ((if_pos h7).trans ((if_pos h8).trans ((if_neg h10).trans rfl))))) (rfl)
      · refine z_br (fun (h12 : (f_X7_isPerson S P x1) = false) => ?_) (fun (h12 : (f_X7_isPerson S P x1) = true) => ?_)
        · refine ⟨fun h => absurd (by decide) h, fun _ => ?_⟩
          refine z_hnF (z_hq1 _ _) ?_
          exact z_pi hpo ((if_neg h1).trans ((if_neg (z_nt h12)).trans rfl)) ((if_neg h1).trans ((if_neg (z_nt h12)).trans rfl)) (rfl)
        · refine ⟨fun (h13 : x2 = (-1)) => ?_, fun (h13 : ¬ (x2 = (-1))) => ?_⟩
          · refine ⟨fun _ => ?_, fun h => absurd h (by decide)⟩
            refine ⟨fun (h14 : ¬ (x1 = x2)) => ?_, fun (h14 : x1 = x2) => ?_⟩
            · refine ⟨fun (h15 : ¬ ((S 110648 6) = (nI 30))) => ?_, fun (h15 : (S 110648 6) = (nI 30)) => ?_⟩
              · refine z_hnT (z_hq0 _ _) ?_
                refine ⟨(show vp_in (S 110648 6) 30 by exact z_rne (by assumption) (z_J_Mpersons hp0) (by decide)), ?_⟩
                refine ⟨(show vp_in (S 110648 6) 30 by exact z_rne (by assumption) (z_J_Mpersons hp0) (by decide)), ?_⟩
                refine ⟨(show vp_in (S 110648 6) 30 by exact z_rne (by assumption) (z_J_Mpersons hp0) (by decide)), ?_⟩
                exact z_pi hpo ((if_neg h1).trans ((if_pos h12).trans ((if_pos h13).trans ((if_neg h14).trans ((if_neg h15).trans rfl))))) ((if_neg h1).trans ((if_pos h12).trans ((if_pos h13).trans ((if_neg h14).trans ((if_neg h15).trans rfl))))) (rfl)
              · refine z_hnF (z_hq3 _ _) ?_
                exact z_pi hpo ((if_neg h1).trans ((if_pos h12).trans ((if_pos h13).trans ((if_neg h14).trans ((if_pos h15).trans rfl))))) ((if_neg h1).trans ((if_pos h12).trans ((if_pos h13).trans ((if_neg h14).trans ((if_pos h15).trans rfl))))) (rfl)
            · refine ⟨fun (h16 : x1 = (-1)) => ?_, fun (h16 : ¬ (x1 = (-1))) => ?_⟩
              · refine ⟨fun (h17 : ¬ ((S 110648 6) = (nI 30))) => ?_, fun (h17 : (S 110648 6) = (nI 30)) => ?_⟩
                · refine z_hnT (z_hq0 _ _) ?_
                  refine ⟨(show vp_in (S 110648 6) 30 by exact z_rne (by assumption) (z_J_Mpersons hp0) (by decide)), ?_⟩
                  refine ⟨(show vp_in (S 110648 6) 30 by exact z_rne (by assumption) (z_J_Mpersons hp0) (by decide)), ?_⟩
                  refine ⟨(show vp_in (S 110648 6) 30 by exact z_rne (by assumption) (z_J_Mpersons hp0) (by decide)), ?_⟩
                  exact z_pi hpo ((if_neg h1).trans ((if_pos h12).trans ((if_pos h13).trans ((if_pos h14).trans ((if_pos h16).trans ((if_neg h17).trans rfl)))))) ((if_neg h1).trans ((if_pos h12).trans ((if_pos h13).trans ((if_pos h14).trans ((if_pos h16).trans ((if_neg h17).trans rfl)))))) (rfl)
                · refine z_hnF (z_hq3 _ _) ?_
                  exact z_pi hpo ((if_neg h1).trans ((if_pos h12).trans ((if_pos h13).trans ((if_pos h14).trans ((if_pos h16).trans ((if_pos h17).trans rfl)))))) ((if_neg h1).trans ((if_pos h12).trans ((if_pos h13).trans ((if_pos h14).trans ((if_pos h16).trans ((if_pos h17).trans rfl)))))) (rfl)
              · refine z_hnF (z_hq2 _ _) ?_
                exact z_pi hpo ((if_neg h1).trans ((if_pos h12).trans ((if_pos h13).trans ((if_pos h14).trans ((if_neg h16).trans rfl))))) ((if_neg h1).trans ((if_pos h12).trans ((if_pos h13).trans ((if_pos h14).trans ((if_neg h16).trans rfl))))) (rfl)
          · refine z_br (fun (h18 : (f_X7_isPerson S P x2) = false) => ?_) (fun (h18 : (f_X7_isPerson S P x2) = true) => ?_)
            · refine ⟨fun h => absurd (by decide) h, fun _ => ?_⟩
              refine z_hnF (z_hq1 _ _) ?_
              exact z_pi hpo ((if_neg h1).trans ((if_pos h12).trans ((if_neg h13).trans ((if_neg (z_nt h18)).trans rfl)))) ((if_neg h1).trans ((if_pos h12).trans ((if_neg h13).trans ((if_neg (z_nt h18)).trans rfl)))) (rfl)
            · refine ⟨fun _ => ?_, fun h => absurd h (by decide)⟩
              refine ⟨fun (h19 : ¬ (x1 = x2)) => ?_, fun (h19 : x1 = x2) => ?_⟩
              · refine ⟨fun (h20 : ¬ ((S 110648 6) = (nI 30))) => ?_, fun (h20 : (S 110648 6) = (nI 30)) => ?_⟩
                · refine z_hnT (z_hq0 _ _) ?_
                  refine ⟨(show vp_in (S 110648 6) 30 by exact z_rne (by assumption) (z_J_Mpersons hp0) (by decide)), ?_⟩
                  refine ⟨(show vp_in (S 110648 6) 30 by exact z_rne (by assumption) (z_J_Mpersons hp0) (by decide)), ?_⟩
                  refine ⟨(show vp_in (S 110648 6) 30 by exact z_rne (by assumption) (z_J_Mpersons hp0) (by decide)), ?_⟩
                  exact z_pi hpo ((if_neg h1).trans ((if_pos h12).trans ((if_neg h13).trans ((if_pos h18).trans ((if_neg h19).trans ((if_neg h20).trans rfl)))))) ((if_neg h1).trans ((if_pos h12).trans ((if_neg h13).trans ((if_pos h18).trans ((if_neg h19).trans ((if_neg h20).trans rfl)))))) (rfl)
                · refine z_hnF (z_hq3 _ _) ?_
                  exact z_pi hpo ((if_neg h1).trans ((if_pos h12).trans ((if_neg h13).trans ((if_pos h18).trans ((if_neg h19).trans ((if_pos h20).trans rfl)))))) ((if_neg h1).trans ((if_pos h12).trans ((if_neg h13).trans ((if_pos h18).trans ((if_neg h19).trans ((if_pos h20).trans rfl)))))) (rfl)
              · refine ⟨fun (h21 : x1 = (-1)) => ?_, fun (h21 : ¬ (x1 = (-1))) => ?_⟩
                · refine ⟨fun (h22 : ¬ ((S 110648 6) = (nI 30))) => ?_, fun (h22 : (S 110648 6) = (nI 30)) => ?_⟩
                  · refine z_hnT (z_hq0 _ _) ?_
                    refine ⟨(show vp_in (S 110648 6) 30 by exact z_rne (by assumption) (z_J_Mpersons hp0) (by decide)), ?_⟩
                    refine ⟨(show vp_in (S 110648 6) 30 by exact z_rne (by assumption) (z_J_Mpersons hp0) (by decide)), ?_⟩
                    refine ⟨(show vp_in (S 110648 6) 30 by exact z_rne (by assumption) (z_J_Mpersons hp0) (by decide)), ?_⟩
                    exact z_pi hpo ((if_neg h1).trans ((if_pos h12).trans ((if_neg h13).trans ((if_pos h18).trans ((if_pos h19).trans ((if_pos h21).trans ((if_neg h22).trans rfl))))))) ((if_neg h1).trans ((if_pos h12).trans ((if_neg h13).trans ((if_pos h18).trans ((if_pos h19).trans ((if_pos h21).trans ((if_neg h22).trans rfl))))))) (rfl)
                  · refine z_hnF (z_hq3 _ _) ?_
                    exact z_pi hpo ((if_neg h1).trans ((if_pos h12).trans ((if_neg h13).trans ((if_pos h18).trans ((if_pos h19).trans ((if_pos h21).trans ((if_pos h22).trans rfl))))))) ((if_neg h1).trans ((if_pos h12).trans ((if_neg h13).trans ((if_pos h18).trans ((if_pos h19).trans ((if_pos h21).trans ((if_pos h22).trans rfl))))))) (rfl)
                · refine z_hnF (z_hq2 _ _) ?_
                  exact z_pi hpo ((if_neg h1).trans ((if_pos h12).trans ((if_neg h13).trans ((if_pos h18).trans ((if_pos h19).trans ((if_neg h21).trans rfl)))))) ((if_neg h1).trans ((if_pos h12).trans ((if_neg h13).trans ((if_pos h18).trans ((if_pos h19).trans ((if_neg h21).trans rfl)))))) (rfl)
    · exact h.elim
def f_X7_root (S : z_MI) (P : z_ML) (x1 : Int32) (x2 : Int32) (x3 : Int32) : Int32 :=
  if (f_X7_isPeople S P x1) = true then
    if (f_X7_isPerson S P x2) = true then
      if x3 = 0 then
        f_X7_bits (va_up (va_up S 110648 (upd (S 110648) 0 (nI 0))) 114737 (upd ((va_up S 110648 (upd (S 110648) 0 (nI 0))) 114737) x1.toNatClampNeg (((S 114737 x1.toNatClampNeg) &&& (((nI 1) <<< (x2 &&& 31)) ^^^ (-1))) ||| (nI 0)))) P (f_X7_membersOf (va_up (va_up S 110648 (upd (S 110648) 0 (nI 0))) 114737 (upd ((va_up S 110648 (upd (S 110648) 0 (nI 0))) 114737) x1.toNatClampNeg (((S 114737 x1.toNatClampNeg) &&& (((nI 1) <<< (x2 &&& 31)) ^^^ (-1))) ||| (nI 0)))) P x1)
      else
        f_X7_bits (va_up (va_up S 110648 (upd (S 110648) 0 (nI 0))) 114737 (upd ((va_up S 110648 (upd (S 110648) 0 (nI 0))) 114737) x1.toNatClampNeg (((S 114737 x1.toNatClampNeg) &&& (((nI 1) <<< (x2 &&& 31)) ^^^ (-1))) ||| ((nI 1) <<< (x2 &&& 31))))) P (f_X7_membersOf (va_up (va_up S 110648 (upd (S 110648) 0 (nI 0))) 114737 (upd ((va_up S 110648 (upd (S 110648) 0 (nI 0))) 114737) x1.toNatClampNeg (((S 114737 x1.toNatClampNeg) &&& (((nI 1) <<< (x2 &&& 31)) ^^^ (-1))) ||| ((nI 1) <<< (x2 &&& 31))))) P x1)
    else
      nI 0
  else
    nI 0
def u_X7_root (S : z_MI) (P : z_ML) (x1 : Int32) (x2 : Int32) (x3 : Int32) : z_MI :=
  if (f_X7_isPeople S P x1) = true then
    if (f_X7_isPerson S P x2) = true then
      if x3 = 0 then
        va_up (va_up S 110648 (upd (S 110648) 0 (nI 0))) 114737 (upd ((va_up S 110648 (upd (S 110648) 0 (nI 0))) 114737) x1.toNatClampNeg (((S 114737 x1.toNatClampNeg) &&& (((nI 1) <<< (x2 &&& 31)) ^^^ (-1))) ||| (nI 0)))
      else
        va_up (va_up S 110648 (upd (S 110648) 0 (nI 0))) 114737 (upd ((va_up S 110648 (upd (S 110648) 0 (nI 0))) 114737) x1.toNatClampNeg (((S 114737 x1.toNatClampNeg) &&& (((nI 1) <<< (x2 &&& 31)) ^^^ (-1))) ||| ((nI 1) <<< (x2 &&& 31))))
    else
      va_up S 110648 (upd (S 110648) 0 (nI 1))
  else
    va_up S 110648 (upd (S 110648) 0 (nI 1))
def sp_X7_root : z_SP := fun as S P k => match as with
  | [.int x1, .int x2, .int x3] => z_JM S ∧ k (some (.int (f_X7_root S P x1 x2 x3))) (u_X7_root S P x1 x2 x3) P
  | _ => False
def G_X7_root : z_G := ([(0, .aload_n 0, 1, 0), (1, .aload_n 0, 2, 0), (2, .iload_n 1, 3, 0), (3, .invokevirtual 187, 6, 0), (6, .ifCond .eq 15, 9, 21), (9, .aload_n 0, 10, 0), (10, .iload_n 2, 11, 0), (11, .invokevirtual 177, 14, 0), (14, .ifCond .eq 7, 17, 21), (17, .iconst 0, 18, 0), (18, .goto 4, 21, 22), (21, .iconst 1, 22, 0), (22, .invokevirtual 173, 25, 0), (25, .ifCond .ne 5, 28, 30), (28, .iconst 0, 29, 0), (29, .ireturn, 30, 0), (30, .aload_n 0, 31, 0), (31, .getfield 13, 34, 0), (34, .iload_n 1, 35, 0), (35, .aload_n 0, 36, 0), (36, .getfield 13, 39, 0), (39, .iload_n 1, 40, 0), (40, .iaload, 41, 0), (41, .iconst 1, 42, 0), (42, .iload_n 2, 43, 0), (43, .ishl, 44, 0), (44, .iconst (-1), 45, 0), (45, .ixor, 46, 0), (46, .iand, 47, 0), (47, .iload_n 3, 48, 0), (48, .ifCond .eq 9, 51, 57), (51, .iconst 1, 52, 0), (52, .iload_n 2, 53, 0), (53, .ishl, 54, 0), (54, .goto 4, 57, 58), (57, .iconst 0, 58, 0), (58, .ior, 59, 0), (59, .iastore, 60, 0), (60, .aload_n 0, 61, 0), (61, .iload_n 1, 62, 0), (62, .invokevirtual 190, 65, 0), (65, .invokestatic 194, 68, 0), (68, .ireturn, 69, 0)], [(13, 110648, 4, some 114737)], [(100194, 1, sp_X7_bits), (173, 2, (z_rc 110648 sp_X7_holds)), (177, 2, (z_rc 110648 sp_X7_isPerson)), (187, 2, (z_rc 110648 sp_X7_isPeople)), (190, 2, (z_rc 110648 sp_X7_membersOf))], [], [], [], [], some .int)
set_option maxRecDepth 20000 in
set_option maxHeartbeats 4000000 in
theorem ct_X7_root (l : Launch) : z_CT l yX7_root cX7_root 4 (some .int) (z_rc 110648 sp_X7_root) 3 := by
  refine z_CT_of G_X7_root (by decide) (by decide +kernel) (z_pok_of ft_X7 ci_X7 cL_X7_L fo_X7 co_X7 lo_X7 (by decide +kernel)) rfl rfl ?_ ?_ ?_
  · intro as S P Po h0
    obtain ⟨as, rfl, h⟩ := z_rc_of h0
    unfold sp_X7_root at h
    split at h
    · exact Nat.le_of_ble_eq_true rfl
    · exact h.elim
  · exact List.forall_mem_cons.mpr ⟨z_coS (ct_X7_bits l) kb_X7_bits ks_X7_194 (by decide) (by decide), List.forall_mem_cons.mpr ⟨z_coV (ct_X7_holds l) kb_X7_holds kv_X7_173 ko_X7 (by decide) (by decide) (by decide), List.forall_mem_cons.mpr ⟨z_coV (ct_X7_isPerson l) kb_X7_isPerson kv_X7_177 ko_X7 (by decide) (by decide) (by decide), List.forall_mem_cons.mpr ⟨z_coV (ct_X7_isPeople l) kb_X7_isPeople kv_X7_187 ko_X7 (by decide) (by decide) (by decide), List.forall_mem_cons.mpr ⟨z_coV (ct_X7_membersOf l) kb_X7_membersOf kv_X7_190 ko_X7 (by decide) (by decide) (by decide), fun _ h => absurd h List.not_mem_nil⟩⟩⟩⟩⟩
  · intro as S P Po h0 V hV hW
    obtain ⟨as, rfl, h⟩ := z_rc_of h0
    unfold sp_X7_root at h
    split at h
    · rename_i x1 x2 x3
      obtain ⟨hp0, hpo⟩ := h
      refine hV [] 48 0 _ _ _ _ ?_
      refine z_br (fun (h1 : (f_X7_isPeople S P x1) = false) => ?_) (fun (h1 : (f_X7_isPeople S P x1) = true) => ?_)
      · refine z_hnF (z_hq1 _ _) ?_
        exact z_pi hpo ((if_neg (z_nt h1)).trans rfl) ((if_neg (z_nt h1)).trans rfl) (rfl)
      · refine z_br (fun (h2 : (f_X7_isPerson S P x2) = false) => ?_) (fun (h2 : (f_X7_isPerson S P x2) = true) => ?_)
        · refine z_hnF (z_hq1 _ _) ?_
          exact z_pi hpo ((if_pos h1).trans ((if_neg (z_nt h2)).trans rfl)) ((if_pos h1).trans ((if_neg (z_nt h2)).trans rfl)) (rfl)
        · refine z_hnT (z_hq0 _ _) ?_
          refine ⟨(show vp_in x1 6 by first | exact m_isPeople hp0 (by assumption)), ?_⟩
          refine ⟨fun (h3 : x3 = 0) => ?_, fun (h3 : ¬ (x3 = 0)) => ?_⟩
          · refine ⟨(show vp_in x1 6 by first | exact m_isPeople hp0 (by assumption)), ?_⟩
            refine ⟨(show vp_in x1 6 by first | exact m_isPeople hp0 (by assumption)), (show z_le ((va_up (va_up S 110648 (upd (S 110648) 0 (nI 0))) 114737 (upd ((va_up S 110648 (upd (S 110648) 0 (nI 0))) 114737) x1.toNatClampNeg (((S 114737 x1.toNatClampNeg) &&& (((nI 1) <<< (x2 &&& 31)) ^^^ (-1))) ||| (nI 0)))) 110648 6) 30 by exact z_J_Mpersons hp0), ?_⟩
            exact z_pi hpo ((if_pos h1).trans ((if_pos h2).trans ((if_pos h3).trans rfl))) ((if_pos h1).trans ((if_pos h2).trans ((if_pos h3).trans rfl))) (rfl)
          · refine ⟨(show vp_in x1 6 by first | exact m_isPeople hp0 (by assumption)), ?_⟩
            refine ⟨(show vp_in x1 6 by first | exact m_isPeople hp0 (by assumption)), (show z_le ((va_up (va_up S 110648 (upd (S 110648) 0 (nI 0))) 114737 (upd ((va_up S 110648 (upd (S 110648) 0 (nI 0))) 114737) x1.toNatClampNeg (((S 114737 x1.toNatClampNeg) &&& (((nI 1) <<< (x2 &&& 31)) ^^^ (-1))) ||| ((nI 1) <<< (x2 &&& 31))))) 110648 6) 30 by exact z_J_Mpersons hp0), ?_⟩
            exact z_pi hpo ((if_pos h1).trans ((if_pos h2).trans ((if_neg h3).trans rfl))) ((if_pos h1).trans ((if_pos h2).trans ((if_neg h3).trans rfl))) (rfl)
    · exact h.elim
def f_X7_adopt (S : z_MI) (P : z_ML) (x1 : Int32) (x2 : Int32) : Int32 :=
  if (f_X7_isPerson S P x1) = true then
    if x2 = (-1) then
      if x1 = x2 then
        nI 0
      else
        S 123121 x1.toNatClampNeg
    else
      if (f_X7_isPerson S P x2) = true then
        if x1 = x2 then
          nI 0
        else
          S 123121 x1.toNatClampNeg
      else
        nI 0
  else
    nI 0
def u_X7_adopt (S : z_MI) (P : z_ML) (x1 : Int32) (x2 : Int32) : z_MI :=
  if (f_X7_isPerson S P x1) = true then
    if x2 = (-1) then
      if x1 = x2 then
        va_up S 110648 (upd (S 110648) 0 (nI 2))
      else
        va_up (va_up S 110648 (upd (S 110648) 0 (nI 0))) 123121 (upd ((va_up S 110648 (upd (S 110648) 0 (nI 0))) 123121) x1.toNatClampNeg x2)
    else
      if (f_X7_isPerson S P x2) = true then
        if x1 = x2 then
          va_up S 110648 (upd (S 110648) 0 (nI 2))
        else
          va_up (va_up S 110648 (upd (S 110648) 0 (nI 0))) 123121 (upd ((va_up S 110648 (upd (S 110648) 0 (nI 0))) 123121) x1.toNatClampNeg x2)
      else
        va_up S 110648 (upd (S 110648) 0 (nI 1))
  else
    va_up S 110648 (upd (S 110648) 0 (nI 1))
def sp_X7_adopt : z_SP := fun as S P k => match as with
  | [.int x1, .int x2] => z_JM S ∧ k (some (.int (f_X7_adopt S P x1 x2))) (u_X7_adopt S P x1 x2) P
  | _ => False
def G_X7_adopt : z_G := ([(0, .aload_n 0, 1, 0), (1, .iload_n 1, 2, 0), (2, .invokevirtual 177, 5, 0), (5, .ifCond .eq 20, 8, 25), (8, .iload_n 2, 9, 0), (9, .iconst (-1), 10, 0), (10, .if_icmp .eq 11, 13, 21), (13, .aload_n 0, 14, 0), (14, .iload_n 2, 15, 0), (15, .invokevirtual 177, 18, 0), (18, .ifCond .eq 7, 21, 25), (21, .iconst 1, 22, 0), (22, .goto 4, 25, 26), (25, .iconst 0, 26, 0), (26, .istore_n 3, 27, 0), (27, .aload_n 0, 28, 0), (28, .iload_n 3, 29, 0), (29, .ifCond .ne 7, 32, 36), (32, .iconst 1, 33, 0), (33, .goto 13, 36, 46), (36, .iload_n 1, 37, 0), (37, .iload_n 2, 38, 0), (38, .if_icmp .ne 7, 41, 45), (41, .iconst 2, 42, 0), (42, .goto 4, 45, 46), (45, .iconst 0, 46, 0), (46, .invokevirtual 173, 49, 0), (49, .ifCond .ne 5, 52, 54), (52, .iconst 0, 53, 0), (53, .ireturn, 54, 0), (54, .aload_n 0, 55, 0), (55, .getfield 26, 58, 0), (58, .iload_n 1, 59, 0), (59, .iaload, 60, 0), (60, .istore 4, 62, 0), (62, .aload_n 0, 63, 0), (63, .getfield 26, 66, 0), (66, .iload_n 1, 67, 0), (67, .iload_n 2, 68, 0), (68, .iastore, 69, 0), (69, .iload 4, 71, 0), (71, .ireturn, 72, 0)], [(26, 110648, 9, some 123121)], [(173, 2, (z_rc 110648 sp_X7_holds)), (177, 2, (z_rc 110648 sp_X7_isPerson))], [], [], [], [], some .int)
set_option maxRecDepth 20000 in
set_option maxHeartbeats 4000000 in
theorem ct_X7_adopt (l : Launch) : z_CT l yX7_adopt cX7_adopt 5 (some .int) (z_rc 110648 sp_X7_adopt) 2 := by
  refine z_CT_of G_X7_adopt (by decide) (by decide +kernel) (z_pok_of ft_X7 ci_X7 cL_X7_L fo_X7 co_X7 lo_X7 (by decide +kernel)) rfl rfl ?_ ?_ ?_
  · intro as S P Po h0
    obtain ⟨as, rfl, h⟩ := z_rc_of h0
    unfold sp_X7_adopt at h
    split at h
    · exact Nat.le_of_ble_eq_true rfl
    · exact h.elim
  · exact List.forall_mem_cons.mpr ⟨z_coV (ct_X7_holds l) kb_X7_holds kv_X7_173 ko_X7 (by decide) (by decide) (by decide), List.forall_mem_cons.mpr ⟨z_coV (ct_X7_isPerson l) kb_X7_isPerson kv_X7_177 ko_X7 (by decide) (by decide) (by decide), fun _ h => absurd h List.not_mem_nil⟩⟩
  · intro as S P Po h0 V hV hW
    obtain ⟨as, rfl, h⟩ := z_rc_of h0
    unfold sp_X7_adopt at h
    split at h
    · rename_i x1 x2
      obtain ⟨hp0, hpo⟩ := h
      refine hV [] 47 0 _ _ _ _ ?_
      refine z_br (fun (h1 : (f_X7_isPerson S P x1) = false) => ?_) (fun (h1 : (f_X7_isPerson S P x1) = true) => ?_)
      · refine ⟨fun h => absurd (by decide) h, fun _ => ?_⟩
        refine z_hnF (z_hq1 _ _) ?_
        exact z_pi hpo ((if_neg (z_nt h1)).trans rfl) ((if_neg (z_nt h1)).trans rfl) (rfl)
      · refine ⟨fun (h2 : x2 = (-1)) => ?_, fun (h2 : ¬ (x2 = (-1))) => ?_⟩
        · refine ⟨fun _ => ?_, fun h => absurd h (by decide)⟩
          refine ⟨fun (h3 : ¬ (x1 = x2)) => ?_, fun (h3 : x1 = x2) => ?_⟩
          · refine z_hnT (z_hq0 _ _) ?_
            refine ⟨(show vp_in x1 30 by first | exact m_isPerson hp0 (by assumption)), ?_⟩
            refine ⟨(show vp_in x1 30 by first | exact m_isPerson hp0 (by assumption)), ?_⟩
            exact z_pi hpo ((if_pos h1).trans ((if_pos h2).trans ((if_neg h3).trans rfl))) ((if_pos h1).trans ((if_pos h2).trans ((if_neg h3).trans rfl))) (rfl)
          · refine z_hnF (z_hq2 _ _) ?_
            exact z_pi hpo ((if_pos h1).trans ((if_pos h2).trans ((if_pos h3).trans rfl))) ((if_pos h1).trans ((if_pos h2).trans ((if_pos h3).trans rfl))) (rfl)
        · refine z_br (fun (h4 : (f_X7_isPerson S P x2) = false) => ?_) (fun (h4 : (f_X7_isPerson S P x2) = true) => ?_)
          · refine ⟨fun h => absurd (by decide) h, fun _ => ?_⟩
            refine z_hnF (z_hq1 _ _) ?_
            exact z_pi hpo ((if_pos h1).trans ((if_neg h2).trans ((if_neg (z_nt h4)).trans rfl))) ((if_pos h1).trans ((if_neg h2).trans ((if_neg (z_nt h4)).trans rfl))) (rfl)
          · refine ⟨fun _ => ?_, fun h => absurd h (by decide)⟩
            refine ⟨fun (h5 : ¬ (x1 = x2)) => ?_, fun (h5 : x1 = x2) => ?_⟩
            · refine z_hnT (z_hq0 _ _) ?_
              refine ⟨(show vp_in x1 30 by first | exact m_isPerson hp0 (by assumption)), ?_⟩
              refine ⟨(show vp_in x1 30 by first | exact m_isPerson hp0 (by assumption)), ?_⟩
              exact z_pi hpo ((if_pos h1).trans ((if_neg h2).trans ((if_pos h4).trans ((if_neg h5).trans rfl)))) ((if_pos h1).trans ((if_neg h2).trans ((if_pos h4).trans ((if_neg h5).trans rfl)))) (rfl)
            · refine z_hnF (z_hq2 _ _) ?_
              exact z_pi hpo ((if_pos h1).trans ((if_neg h2).trans ((if_pos h4).trans ((if_pos h5).trans rfl)))) ((if_pos h1).trans ((if_neg h2).trans ((if_pos h4).trans ((if_pos h5).trans rfl)))) (rfl)
    · exact h.elim
def f_X7_raise (S : z_MI) (P : z_ML) (x1 : Int32) : Int32 :=
  if (f_X7_isPerson S P x1) = true then
    if (S 125169 x1.toNatClampNeg) = (nI 3) then
      nI 0
    else
      (upd (S 125169) x1.toNatClampNeg ((S 125169 x1.toNatClampNeg) + (nI 1))) x1.toNatClampNeg
  else
    nI 0
def u_X7_raise (S : z_MI) (P : z_ML) (x1 : Int32) : z_MI :=
  if (f_X7_isPerson S P x1) = true then
    if (S 125169 x1.toNatClampNeg) = (nI 3) then
      va_up S 110648 (upd (S 110648) 0 (nI 2))
    else
      va_up (va_up S 110648 (upd (S 110648) 0 (nI 0))) 125169 (upd ((va_up S 110648 (upd (S 110648) 0 (nI 0))) 125169) x1.toNatClampNeg ((S 125169 x1.toNatClampNeg) + (nI 1)))
  else
    va_up S 110648 (upd (S 110648) 0 (nI 1))
def sp_X7_raise : z_SP := fun as S P k => match as with
  | [.int x1] => z_JM S ∧ k (some (.int (f_X7_raise S P x1))) (u_X7_raise S P x1) P
  | _ => False
def G_X7_raise : z_G := ([(0, .aload_n 0, 1, 0), (1, .iload_n 1, 2, 0), (2, .invokevirtual 177, 5, 0), (5, .istore_n 2, 6, 0), (6, .aload_n 0, 7, 0), (7, .iload_n 2, 8, 0), (8, .ifCond .ne 7, 11, 15), (11, .iconst 1, 12, 0), (12, .goto 18, 15, 30), (15, .aload_n 0, 16, 0), (16, .getfield 29, 19, 0), (19, .iload_n 1, 20, 0), (20, .iaload, 21, 0), (21, .iconst 3, 22, 0), (22, .if_icmp .ne 7, 25, 29), (25, .iconst 2, 26, 0), (26, .goto 4, 29, 30), (29, .iconst 0, 30, 0), (30, .invokevirtual 173, 33, 0), (33, .ifCond .ne 5, 36, 38), (36, .iconst 0, 37, 0), (37, .ireturn, 38, 0), (38, .aload_n 0, 39, 0), (39, .getfield 29, 42, 0), (42, .iload_n 1, 43, 0), (43, .dup2, 44, 0), (44, .iaload, 45, 0), (45, .iconst 1, 46, 0), (46, .iadd, 47, 0), (47, .iastore, 48, 0), (48, .aload_n 0, 49, 0), (49, .getfield 29, 52, 0), (52, .iload_n 1, 53, 0), (53, .iaload, 54, 0), (54, .ireturn, 55, 0)], [(29, 110648, 10, some 125169)], [(173, 2, (z_rc 110648 sp_X7_holds)), (177, 2, (z_rc 110648 sp_X7_isPerson))], [], [], [], [], some .int)
set_option maxRecDepth 20000 in
set_option maxHeartbeats 4000000 in
theorem ct_X7_raise (l : Launch) : z_CT l yX7_raise cX7_raise 3 (some .int) (z_rc 110648 sp_X7_raise) 2 := by
  refine z_CT_of G_X7_raise (by decide) (by decide +kernel) (z_pok_of ft_X7 ci_X7 cL_X7_L fo_X7 co_X7 lo_X7 (by decide +kernel)) rfl rfl ?_ ?_ ?_
  · intro as S P Po h0
    obtain ⟨as, rfl, h⟩ := z_rc_of h0
    unfold sp_X7_raise at h
    split at h
    · exact Nat.le_of_ble_eq_true rfl
    · exact h.elim
  · exact List.forall_mem_cons.mpr ⟨z_coV (ct_X7_holds l) kb_X7_holds kv_X7_173 ko_X7 (by decide) (by decide) (by decide), List.forall_mem_cons.mpr ⟨z_coV (ct_X7_isPerson l) kb_X7_isPerson kv_X7_177 ko_X7 (by decide) (by decide) (by decide), fun _ h => absurd h List.not_mem_nil⟩⟩
  · intro as S P Po h0 V hV hW
    obtain ⟨as, rfl, h⟩ := z_rc_of h0
    unfold sp_X7_raise at h
    split at h
    · rename_i x1
      obtain ⟨hp0, hpo⟩ := h
      refine hV [] 40 0 _ _ _ _ ?_
      refine z_brn (fun (h1 : (f_X7_isPerson S P x1) = true) => ?_) (fun (h1 : (f_X7_isPerson S P x1) = false) => ?_)
      · refine ⟨(show vp_in x1 30 by first | exact m_isPerson hp0 (by assumption)), ?_⟩
        refine ⟨fun (h2 : ¬ ((S 125169 x1.toNatClampNeg) = (nI 3))) => ?_, fun (h2 : (S 125169 x1.toNatClampNeg) = (nI 3)) => ?_⟩
        · refine z_hnT (z_hq0 _ _) ?_
          refine ⟨(show vp_in x1 30 by first | exact m_isPerson hp0 (by assumption)), ?_⟩
          refine ⟨(show vp_in x1 30 by first | exact m_isPerson hp0 (by assumption)), ?_⟩
          refine ⟨(show vp_in x1 30 by first | exact m_isPerson hp0 (by assumption)), ?_⟩
          exact z_pi hpo ((if_pos h1).trans ((if_neg h2).trans rfl)) ((if_pos h1).trans ((if_neg h2).trans rfl)) (rfl)
        · refine z_hnF (z_hq2 _ _) ?_
          exact z_pi hpo ((if_pos h1).trans ((if_pos h2).trans rfl)) ((if_pos h1).trans ((if_pos h2).trans rfl)) (rfl)
      · refine z_hnF (z_hq1 _ _) ?_
        exact z_pi hpo ((if_neg (z_nt h1)).trans rfl) ((if_neg (z_nt h1)).trans rfl) (rfl)
    · exact h.elim
def f_X7_members (S : z_MI) (P : z_ML) (x1 : Int32) : Int32 :=
  if (f_X7_isPeople S P x1) = true then
    f_X7_membersOf (va_up S 110648 (upd (S 110648) 0 (nI 0))) P x1
  else
    nI 0
def u_X7_members (S : z_MI) (P : z_ML) (x1 : Int32) : z_MI :=
  if (f_X7_isPeople S P x1) = true then
    va_up S 110648 (upd (S 110648) 0 (nI 0))
  else
    va_up S 110648 (upd (S 110648) 0 (nI 1))
def sp_X7_members : z_SP := fun as S P k => match as with
  | [.int x1] => z_JM S ∧ k (some (.int (f_X7_members S P x1))) (u_X7_members S P x1) P
  | _ => False
def G_X7_members : z_G := ([(0, .aload_n 0, 1, 0), (1, .aload_n 0, 2, 0), (2, .iload_n 1, 3, 0), (3, .invokevirtual 187, 6, 0), (6, .ifCond .eq 7, 9, 13), (9, .iconst 0, 10, 0), (10, .goto 4, 13, 14), (13, .iconst 1, 14, 0), (14, .invokevirtual 173, 17, 0), (17, .ifCond .eq 11, 20, 28), (20, .aload_n 0, 21, 0), (21, .iload_n 1, 22, 0), (22, .invokevirtual 190, 25, 0), (25, .goto 4, 28, 29), (28, .iconst 0, 29, 0), (29, .ireturn, 30, 0)], [], [(173, 2, (z_rc 110648 sp_X7_holds)), (187, 2, (z_rc 110648 sp_X7_isPeople)), (190, 2, (z_rc 110648 sp_X7_membersOf))], [], [], [], [], some .int)
set_option maxRecDepth 20000 in
set_option maxHeartbeats 4000000 in
theorem ct_X7_members (l : Launch) : z_CT l yX7_members cX7_members 2 (some .int) (z_rc 110648 sp_X7_members) 3 := by
  refine z_CT_of G_X7_members (by decide) (by decide +kernel) (z_pok_of ft_X7 ci_X7 cL_X7_L fo_X7 co_X7 lo_X7 (by decide +kernel)) rfl rfl ?_ ?_ ?_
  · intro as S P Po h0
    obtain ⟨as, rfl, h⟩ := z_rc_of h0
    unfold sp_X7_members at h
    split at h
    · exact Nat.le_of_ble_eq_true rfl
    · exact h.elim
  · exact List.forall_mem_cons.mpr ⟨z_coV (ct_X7_holds l) kb_X7_holds kv_X7_173 ko_X7 (by decide) (by decide) (by decide), List.forall_mem_cons.mpr ⟨z_coV (ct_X7_isPeople l) kb_X7_isPeople kv_X7_187 ko_X7 (by decide) (by decide) (by decide), List.forall_mem_cons.mpr ⟨z_coV (ct_X7_membersOf l) kb_X7_membersOf kv_X7_190 ko_X7 (by decide) (by decide) (by decide), fun _ h => absurd h List.not_mem_nil⟩⟩⟩
  · intro as S P Po h0 V hV hW
    obtain ⟨as, rfl, h⟩ := z_rc_of h0
    unfold sp_X7_members at h
    split at h
    · rename_i x1
      obtain ⟨hp0, hpo⟩ := h
      refine hV [] 21 0 _ _ _ _ ?_
      refine z_br (fun (h1 : (f_X7_isPeople S P x1) = false) => ?_) (fun (h1 : (f_X7_isPeople S P x1) = true) => ?_)
      · refine z_hbF (z_hq1 _ _) ?_
        exact z_pi hpo ((if_neg (z_nt h1)).trans rfl) ((if_neg (z_nt h1)).trans rfl) (rfl)
      · refine z_hbT (z_hq0 _ _) ?_
        refine ⟨(show vp_in x1 6 by first | exact m_isPeople hp0 (by assumption)), (show z_le ((va_up S 110648 (upd (S 110648) 0 (nI 0))) 110648 6) 30 by exact z_J_Mpersons hp0), ?_⟩
        exact z_pi hpo ((if_pos h1).trans rfl) ((if_pos h1).trans rfl) (rfl)
    · exact h.elim
def f_X7_story (S : z_MI) (P : z_ML) (x1 : Int32) : Int32 :=
  if (f_X7_isPeople S P x1) = true then
    if (S 110648 11) = (nI 10) then
      nI 0
    else
      ((S 110648 11) + (nI 1)) - (nI 1)
  else
    nI 0
def u_X7_story (S : z_MI) (P : z_ML) (x1 : Int32) : z_MI :=
  if (f_X7_isPeople S P x1) = true then
    if (S 110648 11) = (nI 10) then
      va_up S 110648 (upd (S 110648) 0 (nI 2))
    else
      va_up (va_up (va_up S 110648 (upd (S 110648) 0 (nI 0))) 127057 (upd ((va_up S 110648 (upd (S 110648) 0 (nI 0))) 127057) ((S 110648 11).toNatClampNeg) x1)) 110648 (upd ((va_up (va_up S 110648 (upd (S 110648) 0 (nI 0))) 127057 (upd ((va_up S 110648 (upd (S 110648) 0 (nI 0))) 127057) ((S 110648 11).toNatClampNeg) x1)) 110648) 11 ((S 110648 11) + (nI 1)))
  else
    va_up S 110648 (upd (S 110648) 0 (nI 1))
def sp_X7_story : z_SP := fun as S P k => match as with
  | [.int x1] => z_JM S ∧ k (some (.int (f_X7_story S P x1))) (u_X7_story S P x1) P
  | _ => False
def G_X7_story : z_G := ([(0, .aload_n 0, 1, 0), (1, .aload_n 0, 2, 0), (2, .iload_n 1, 3, 0), (3, .invokevirtual 187, 6, 0), (6, .ifCond .ne 7, 9, 13), (9, .iconst 1, 10, 0), (10, .goto 17, 13, 27), (13, .aload_n 0, 14, 0), (14, .getfield 197, 17, 0), (17, .bipush 10, 19, 0), (19, .if_icmp .ne 7, 22, 26), (22, .iconst 2, 23, 0), (23, .goto 4, 26, 27), (26, .iconst 0, 27, 0), (27, .invokevirtual 173, 30, 0), (30, .ifCond .ne 5, 33, 35), (33, .iconst 0, 34, 0), (34, .ireturn, 35, 0), (35, .aload_n 0, 36, 0), (36, .getfield 32, 39, 0), (39, .aload_n 0, 40, 0), (40, .getfield 197, 43, 0), (43, .iload_n 1, 44, 0), (44, .iastore, 45, 0), (45, .aload_n 0, 46, 0), (46, .dup, 47, 0), (47, .getfield 197, 50, 0), (50, .iconst 1, 51, 0), (51, .iadd, 52, 0), (52, .putfield 197, 55, 0), (55, .aload_n 0, 56, 0), (56, .getfield 197, 59, 0), (59, .iconst 1, 60, 0), (60, .isub, 61, 0), (61, .ireturn, 62, 0)], [(32, 110648, 12, some 127057), (197, 110648, 11, none)], [(173, 2, (z_rc 110648 sp_X7_holds)), (187, 2, (z_rc 110648 sp_X7_isPeople))], [], [], [], [], some .int)
set_option maxRecDepth 20000 in
set_option maxHeartbeats 4000000 in
theorem ct_X7_story (l : Launch) : z_CT l yX7_story cX7_story 2 (some .int) (z_rc 110648 sp_X7_story) 2 := by
  refine z_CT_of G_X7_story (by decide) (by decide +kernel) (z_pok_of ft_X7 ci_X7 cL_X7_L fo_X7 co_X7 lo_X7 (by decide +kernel)) rfl rfl ?_ ?_ ?_
  · intro as S P Po h0
    obtain ⟨as, rfl, h⟩ := z_rc_of h0
    unfold sp_X7_story at h
    split at h
    · exact Nat.le_of_ble_eq_true rfl
    · exact h.elim
  · exact List.forall_mem_cons.mpr ⟨z_coV (ct_X7_holds l) kb_X7_holds kv_X7_173 ko_X7 (by decide) (by decide) (by decide), List.forall_mem_cons.mpr ⟨z_coV (ct_X7_isPeople l) kb_X7_isPeople kv_X7_187 ko_X7 (by decide) (by decide) (by decide), fun _ h => absurd h List.not_mem_nil⟩⟩
  · intro as S P Po h0 V hV hW
    obtain ⟨as, rfl, h⟩ := z_rc_of h0
    unfold sp_X7_story at h
    split at h
    · rename_i x1
      obtain ⟨hp0, hpo⟩ := h
      refine hV [] 40 0 _ _ _ _ ?_
      refine z_brn (fun (h1 : (f_X7_isPeople S P x1) = true) => ?_) (fun (h1 : (f_X7_isPeople S P x1) = false) => ?_)
      · refine ⟨fun (h2 : ¬ ((S 110648 11) = (nI 10))) => ?_, fun (h2 : (S 110648 11) = (nI 10)) => ?_⟩
        · refine z_hnT (z_hq0 _ _) ?_
          refine ⟨(show vp_in (S 110648 11) 10 by exact z_rne (by assumption) (z_J_Mstories hp0) (by decide)), ?_⟩
          exact z_pi hpo ((if_pos h1).trans ((if_neg h2).trans rfl)) ((if_pos h1).trans ((if_neg h2).trans rfl)) (rfl)
        · refine z_hnF (z_hq2 _ _) ?_
          exact z_pi hpo ((if_pos h1).trans ((if_pos h2).trans rfl)) ((if_pos h1).trans ((if_pos h2).trans rfl)) (rfl)
      · refine z_hnF (z_hq1 _ _) ?_
        exact z_pi hpo ((if_neg (z_nt h1)).trans rfl) ((if_neg (z_nt h1)).trans rfl) (rfl)
    · exact h.elim
def f_X7_part (S : z_MI) (P : z_ML) (x1 : Int32) (x2 : Int32) (x3 : Int32) : Int32 :=
  if (f_X7_isStory S P x1) = true then
    if (f_X7_isPlace S P x2) = true then
      if (f_X7_in S P x3 (nI 0) (nI 3)) = true then
        if (S 129105 x1.toNatClampNeg) = (nI 12) then
          nI 0
        else
          (upd (S 129105) x1.toNatClampNeg ((S 129105 x1.toNatClampNeg) + (nI 1))) x1.toNatClampNeg
      else
        nI 0
    else
      nI 0
  else
    nI 0
def u_X7_part (S : z_MI) (P : z_ML) (x1 : Int32) (x2 : Int32) (x3 : Int32) : z_MI :=
  if (f_X7_isStory S P x1) = true then
    if (f_X7_isPlace S P x2) = true then
      if (f_X7_in S P x3 (nI 0) (nI 3)) = true then
        if (S 129105 x1.toNatClampNeg) = (nI 12) then
          va_up S 110648 (upd (S 110648) 0 (nI 3))
        else
          va_up (va_up (va_up (va_up S 110648 (upd (S 110648) 0 (nI 0))) 132033 (upd ((va_up S 110648 (upd (S 110648) 0 (nI 0))) 132033) ((((nI 12) * x1) + (S 129105 x1.toNatClampNeg)).toNatClampNeg) x2)) 134081 (upd ((va_up (va_up S 110648 (upd (S 110648) 0 (nI 0))) 132033 (upd ((va_up S 110648 (upd (S 110648) 0 (nI 0))) 132033) ((((nI 12) * x1) + (S 129105 x1.toNatClampNeg)).toNatClampNeg) x2)) 134081) ((((nI 12) * x1) + (S 129105 x1.toNatClampNeg)).toNatClampNeg) x3)) 129105 (upd ((va_up (va_up (va_up S 110648 (upd (S 110648) 0 (nI 0))) 132033 (upd ((va_up S 110648 (upd (S 110648) 0 (nI 0))) 132033) ((((nI 12) * x1) + (S 129105 x1.toNatClampNeg)).toNatClampNeg) x2)) 134081 (upd ((va_up (va_up S 110648 (upd (S 110648) 0 (nI 0))) 132033 (upd ((va_up S 110648 (upd (S 110648) 0 (nI 0))) 132033) ((((nI 12) * x1) + (S 129105 x1.toNatClampNeg)).toNatClampNeg) x2)) 134081) ((((nI 12) * x1) + (S 129105 x1.toNatClampNeg)).toNatClampNeg) x3)) 129105) x1.toNatClampNeg ((S 129105 x1.toNatClampNeg) + (nI 1)))
      else
        va_up S 110648 (upd (S 110648) 0 (nI 2))
    else
      va_up S 110648 (upd (S 110648) 0 (nI 1))
  else
    va_up S 110648 (upd (S 110648) 0 (nI 1))
def sp_X7_part : z_SP := fun as S P k => match as with
  | [.int x1, .int x2, .int x3] => z_JM S ∧ k (some (.int (f_X7_part S P x1 x2 x3))) (u_X7_part S P x1 x2 x3) P
  | _ => False
def G_X7_part : z_G := ([(0, .aload_n 0, 1, 0), (1, .iload_n 1, 2, 0), (2, .invokevirtual 200, 5, 0), (5, .ifCond .eq 14, 8, 19), (8, .iload_n 2, 9, 0), (9, .invokestatic 203, 12, 0), (12, .ifCond .eq 7, 15, 19), (15, .iconst 1, 16, 0), (16, .goto 4, 19, 20), (19, .iconst 0, 20, 0), (20, .istore 4, 22, 0), (22, .aload_n 0, 23, 0), (23, .iload 4, 25, 0), (25, .ifCond .ne 7, 28, 32), (28, .iconst 1, 29, 0), (29, .goto 32, 32, 61), (32, .iload_n 3, 33, 0), (33, .iconst 0, 34, 0), (34, .iconst 3, 35, 0), (35, .invokestatic 157, 38, 0), (38, .ifCond .ne 7, 41, 45), (41, .iconst 2, 42, 0), (42, .goto 19, 45, 61), (45, .aload_n 0, 46, 0), (46, .getfield 35, 49, 0), (49, .iload_n 1, 50, 0), (50, .iaload, 51, 0), (51, .bipush 12, 53, 0), (53, .if_icmp .ne 7, 56, 60), (56, .iconst 3, 57, 0), (57, .goto 4, 60, 61), (60, .iconst 0, 61, 0), (61, .invokevirtual 173, 64, 0), (64, .ifCond .ne 5, 67, 69), (67, .iconst 0, 68, 0), (68, .ireturn, 69, 0), (69, .aload_n 0, 70, 0), (70, .getfield 38, 73, 0), (73, .bipush 12, 75, 0), (75, .iload_n 1, 76, 0), (76, .imul, 77, 0), (77, .aload_n 0, 78, 0), (78, .getfield 35, 81, 0), (81, .iload_n 1, 82, 0), (82, .iaload, 83, 0), (83, .iadd, 84, 0), (84, .iload_n 2, 85, 0), (85, .iastore, 86, 0), (86, .aload_n 0, 87, 0), (87, .getfield 41, 90, 0), (90, .bipush 12, 92, 0), (92, .iload_n 1, 93, 0), (93, .imul, 94, 0), (94, .aload_n 0, 95, 0), (95, .getfield 35, 98, 0), (98, .iload_n 1, 99, 0), (99, .iaload, 100, 0), (100, .iadd, 101, 0), (101, .iload_n 3, 102, 0), (102, .iastore, 103, 0), (103, .aload_n 0, 104, 0), (104, .getfield 35, 107, 0), (107, .iload_n 1, 108, 0), (108, .dup2, 109, 0), (109, .iaload, 110, 0), (110, .iconst 1, 111, 0), (111, .iadd, 112, 0), (112, .iastore, 113, 0), (113, .aload_n 0, 114, 0), (114, .getfield 35, 117, 0), (117, .iload_n 1, 118, 0), (118, .iaload, 119, 0), (119, .ireturn, 120, 0)], [(35, 110648, 13, some 129105), (38, 110648, 14, some 132033), (41, 110648, 15, some 134081)], [(100157, 3, sp_X7_in), (100203, 1, sp_X7_isPlace), (173, 2, (z_rc 110648 sp_X7_holds)), (200, 2, (z_rc 110648 sp_X7_isStory))], [], [], [], [], some .int)
set_option maxRecDepth 20000 in
set_option maxHeartbeats 4000000 in
theorem ct_X7_part (l : Launch) : z_CT l yX7_part cX7_part 5 (some .int) (z_rc 110648 sp_X7_part) 2 := by
  refine z_CT_of G_X7_part (by decide) (by decide +kernel) (z_pok_of ft_X7 ci_X7 cL_X7_L fo_X7 co_X7 lo_X7 (by decide +kernel)) rfl rfl ?_ ?_ ?_
  · intro as S P Po h0
    obtain ⟨as, rfl, h⟩ := z_rc_of h0
    unfold sp_X7_part at h
    split at h
    · exact Nat.le_of_ble_eq_true rfl
    · exact h.elim
  · exact List.forall_mem_cons.mpr ⟨z_coS (ct_X7_in l) kb_X7_in ks_X7_157 (by decide) (by decide), List.forall_mem_cons.mpr ⟨z_coS (ct_X7_isPlace l) kb_X7_isPlace ks_X7_203 (by decide) (by decide), List.forall_mem_cons.mpr ⟨z_coV (ct_X7_holds l) kb_X7_holds kv_X7_173 ko_X7 (by decide) (by decide) (by decide), List.forall_mem_cons.mpr ⟨z_coV (ct_X7_isStory l) kb_X7_isStory kv_X7_200 ko_X7 (by decide) (by decide) (by decide), fun _ h => absurd h List.not_mem_nil⟩⟩⟩⟩
  · intro as S P Po h0 V hV hW
    obtain ⟨as, rfl, h⟩ := z_rc_of h0
    unfold sp_X7_part at h
    split at h
    · rename_i x1 x2 x3
      obtain ⟨hp0, hpo⟩ := h
      refine hV [] 78 0 _ _ _ _ ?_
      refine z_br (fun (h1 : (f_X7_isStory S P x1) = false) => ?_) (fun (h1 : (f_X7_isStory S P x1) = true) => ?_)
      · refine ⟨fun h => absurd (by decide) h, fun _ => ?_⟩
        refine z_hnF (z_hq1 _ _) ?_
        exact z_pi hpo ((if_neg (z_nt h1)).trans rfl) ((if_neg (z_nt h1)).trans rfl) (rfl)
      · refine z_br (fun (h2 : (f_X7_isPlace S P x2) = false) => ?_) (fun (h2 : (f_X7_isPlace S P x2) = true) => ?_)
        · refine ⟨fun h => absurd (by decide) h, fun _ => ?_⟩
          refine z_hnF (z_hq1 _ _) ?_
          exact z_pi hpo ((if_pos h1).trans ((if_neg (z_nt h2)).trans rfl)) ((if_pos h1).trans ((if_neg (z_nt h2)).trans rfl)) (rfl)
        · refine ⟨fun _ => ?_, fun h => absurd h (by decide)⟩
          refine z_brn (fun (h3 : (f_X7_in S P x3 (nI 0) (nI 3)) = true) => ?_) (fun (h3 : (f_X7_in S P x3 (nI 0) (nI 3)) = false) => ?_)
          · refine ⟨(show vp_in x1 10 by first | exact m_isStory hp0 (by assumption)), ?_⟩
            refine ⟨fun (h4 : ¬ ((S 129105 x1.toNatClampNeg) = (nI 12))) => ?_, fun (h4 : (S 129105 x1.toNatClampNeg) = (nI 12)) => ?_⟩
            · refine z_hnT (z_hq0 _ _) ?_
              refine ⟨(show vp_in x1 10 by first | exact m_isStory hp0 (by assumption)), ?_⟩
              refine ⟨(show vp_in (((nI 12) * x1) + (S 129105 x1.toNatClampNeg)) 120 by exact z_in_m (by first | exact m_isStory hp0 (by assumption)) (z_rne (by assumption) (z_J_Mparts hp0 _) (by decide)) (by decide) (by decide)), ?_⟩
              refine ⟨(show vp_in x1 10 by first | exact m_isStory hp0 (by assumption)), ?_⟩
              refine ⟨(show vp_in (((nI 12) * x1) + (S 129105 x1.toNatClampNeg)) 120 by exact z_in_m (by first | exact m_isStory hp0 (by assumption)) (z_rne (by assumption) (z_J_Mparts hp0 _) (by decide)) (by decide) (by decide)), ?_⟩
              refine ⟨(show vp_in x1 10 by first | exact m_isStory hp0 (by assumption)), ?_⟩
              refine ⟨(show vp_in x1 10 by first | exact m_isStory hp0 (by assumption)), ?_⟩
              refine ⟨(show vp_in x1 10 by first | exact m_isStory hp0 (by assumption)), ?_⟩
              exact z_pi hpo ((if_pos h1).trans ((if_pos h2).trans ((if_pos h3).trans ((if_neg h4).trans rfl)))) ((if_pos h1).trans ((if_pos h2).trans ((if_pos h3).trans ((if_neg h4).trans rfl)))) (rfl)
            · refine z_hnF (z_hq3 _ _) ?_
              exact z_pi hpo ((if_pos h1).trans ((if_pos h2).trans ((if_pos h3).trans ((if_pos h4).trans rfl)))) ((if_pos h1).trans ((if_pos h2).trans ((if_pos h3).trans ((if_pos h4).trans rfl)))) (rfl)
          · refine z_hnF (z_hq2 _ _) ?_
            exact z_pi hpo ((if_pos h1).trans ((if_pos h2).trans ((if_neg (z_nt h3)).trans rfl))) ((if_pos h1).trans ((if_pos h2).trans ((if_neg (z_nt h3)).trans rfl))) (rfl)
    · exact h.elim
def f_X7_hears (S : z_MI) (P : z_ML) (x1 : Int32) (x2 : Int32) (x3 : Int32) : Int32 :=
  if (f_X7_isPerson S P x1) = true then
    if (f_X7_isStory S P x2) = true then
      if (f_X7_in S P x3 (nI 0) ((S 129105 x2.toNatClampNeg) - (nI 1))) = true then
        if (f_X7_mayHear (va_up S 110648 (upd (S 110648) 0 (nI 0))) P x1 x2 x3) = true then
          S 132033 ((((nI 12) * x2) + x3).toNatClampNeg)
        else
          (-1)
      else
        nI 0
    else
      nI 0
  else
    nI 0
def u_X7_hears (S : z_MI) (P : z_ML) (x1 : Int32) (x2 : Int32) (x3 : Int32) : z_MI :=
  if (f_X7_isPerson S P x1) = true then
    if (f_X7_isStory S P x2) = true then
      if (f_X7_in S P x3 (nI 0) ((S 129105 x2.toNatClampNeg) - (nI 1))) = true then
        if (f_X7_mayHear (va_up S 110648 (upd (S 110648) 0 (nI 0))) P x1 x2 x3) = true then
          va_up S 110648 (upd (S 110648) 0 (nI 0))
        else
          va_up S 110648 (upd (S 110648) 0 (nI 0))
      else
        va_up S 110648 (upd (S 110648) 0 (nI 1))
    else
      va_up S 110648 (upd (S 110648) 0 (nI 1))
  else
    va_up S 110648 (upd (S 110648) 0 (nI 1))
def sp_X7_hears : z_SP := fun as S P k => match as with
  | [.int x1, .int x2, .int x3] => z_JM S ∧ k (some (.int (f_X7_hears S P x1 x2 x3))) (u_X7_hears S P x1 x2 x3) P
  | _ => False
def G_X7_hears : z_G := ([(0, .aload_n 0, 1, 0), (1, .iload_n 1, 2, 0), (2, .invokevirtual 177, 5, 0), (5, .ifCond .eq 31, 8, 36), (8, .aload_n 0, 9, 0), (9, .iload_n 2, 10, 0), (10, .invokevirtual 200, 13, 0), (13, .ifCond .eq 23, 16, 36), (16, .iload_n 3, 17, 0), (17, .iconst 0, 18, 0), (18, .aload_n 0, 19, 0), (19, .getfield 35, 22, 0), (22, .iload_n 2, 23, 0), (23, .iaload, 24, 0), (24, .iconst 1, 25, 0), (25, .isub, 26, 0), (26, .invokestatic 157, 29, 0), (29, .ifCond .eq 7, 32, 36), (32, .iconst 1, 33, 0), (33, .goto 4, 36, 37), (36, .iconst 0, 37, 0), (37, .istore 4, 39, 0), (39, .aload_n 0, 40, 0), (40, .iload 4, 42, 0), (42, .ifCond .eq 7, 45, 49), (45, .iconst 0, 46, 0), (46, .goto 4, 49, 50), (49, .iconst 1, 50, 0), (50, .invokevirtual 173, 53, 0), (53, .ifCond .ne 5, 56, 58), (56, .iconst 0, 57, 0), (57, .ireturn, 58, 0), (58, .aload_n 0, 59, 0), (59, .iload_n 1, 60, 0), (60, .iload_n 2, 61, 0), (61, .iload_n 3, 62, 0), (62, .invokevirtual 206, 65, 0), (65, .ifCond .eq 17, 68, 82), (68, .aload_n 0, 69, 0), (69, .getfield 38, 72, 0), (72, .bipush 12, 74, 0), (74, .iload_n 2, 75, 0), (75, .imul, 76, 0), (76, .iload_n 3, 77, 0), (77, .iadd, 78, 0), (78, .iaload, 79, 0), (79, .goto 4, 82, 83), (82, .iconst (-1), 83, 0), (83, .ireturn, 84, 0)], [(35, 110648, 13, some 129105), (38, 110648, 14, some 132033)], [(100157, 3, sp_X7_in), (173, 2, (z_rc 110648 sp_X7_holds)), (177, 2, (z_rc 110648 sp_X7_isPerson)), (200, 2, (z_rc 110648 sp_X7_isStory)), (206, 4, (z_rc 110648 sp_X7_mayHear))], [], [], [], [], some .int)
set_option maxRecDepth 20000 in
set_option maxHeartbeats 4000000 in
theorem ct_X7_hears (l : Launch) : z_CT l yX7_hears cX7_hears 5 (some .int) (z_rc 110648 sp_X7_hears) 4 := by
  refine z_CT_of G_X7_hears (by decide) (by decide +kernel) (z_pok_of ft_X7 ci_X7 cL_X7_L fo_X7 co_X7 lo_X7 (by decide +kernel)) rfl rfl ?_ ?_ ?_
  · intro as S P Po h0
    obtain ⟨as, rfl, h⟩ := z_rc_of h0
    unfold sp_X7_hears at h
    split at h
    · exact Nat.le_of_ble_eq_true rfl
    · exact h.elim
  · exact List.forall_mem_cons.mpr ⟨z_coS (ct_X7_in l) kb_X7_in ks_X7_157 (by decide) (by decide), List.forall_mem_cons.mpr ⟨z_coV (ct_X7_holds l) kb_X7_holds kv_X7_173 ko_X7 (by decide) (by decide) (by decide), List.forall_mem_cons.mpr ⟨z_coV (ct_X7_isPerson l) kb_X7_isPerson kv_X7_177 ko_X7 (by decide) (by decide) (by decide), List.forall_mem_cons.mpr ⟨z_coV (ct_X7_isStory l) kb_X7_isStory kv_X7_200 ko_X7 (by decide) (by decide) (by decide), List.forall_mem_cons.mpr ⟨z_coV (ct_X7_mayHear l) kb_X7_mayHear kv_X7_206 ko_X7 (by decide) (by decide) (by decide), fun _ h => absurd h List.not_mem_nil⟩⟩⟩⟩⟩
  · intro as S P Po h0 V hV hW
    obtain ⟨as, rfl, h⟩ := z_rc_of h0
    unfold sp_X7_hears at h
    split at h
    · rename_i x1 x2 x3
      obtain ⟨hp0, hpo⟩ := h
      refine hV [] 54 0 _ _ _ _ ?_
      refine z_br (fun (h1 : (f_X7_isPerson S P x1) = false) => ?_) (fun (h1 : (f_X7_isPerson S P x1) = true) => ?_)
      · refine ⟨fun _ => ?_, fun h => absurd (by decide) h⟩
        refine z_hnF (z_hq1 _ _) ?_
        exact z_pi hpo ((if_neg (z_nt h1)).trans rfl) ((if_neg (z_nt h1)).trans rfl) (rfl)
      · refine z_br (fun (h2 : (f_X7_isStory S P x2) = false) => ?_) (fun (h2 : (f_X7_isStory S P x2) = true) => ?_)
        · refine ⟨fun _ => ?_, fun h => absurd (by decide) h⟩
          refine z_hnF (z_hq1 _ _) ?_
          exact z_pi hpo ((if_pos h1).trans ((if_neg (z_nt h2)).trans rfl)) ((if_pos h1).trans ((if_neg (z_nt h2)).trans rfl)) (rfl)
        · refine ⟨(show vp_in x2 10 by first | exact m_isStory hp0 (by assumption)), ?_⟩
          refine z_br (fun (h3 : (f_X7_in S P x3 (nI 0) ((S 129105 x2.toNatClampNeg) - (nI 1))) = false) => ?_) (fun (h3 : (f_X7_in S P x3 (nI 0) ((S 129105 x2.toNatClampNeg) - (nI 1))) = true) => ?_)
          · refine ⟨fun _ => ?_, fun h => absurd (by decide) h⟩
            refine z_hnF (z_hq1 _ _) ?_
            exact z_pi hpo ((if_pos h1).trans ((if_pos h2).trans ((if_neg (z_nt h3)).trans rfl))) ((if_pos h1).trans ((if_pos h2).trans ((if_neg (z_nt h3)).trans rfl))) (rfl)
          · refine ⟨fun h => absurd h (by decide), fun _ => ?_⟩
            refine z_hnT (z_hq0 _ _) ?_
            refine ⟨(show vp_in (((nI 12) * x2) + x3) 120 by exact m_inPart (m_isStory hp0 (by assumption)) (z_J_Mparts hp0 _) (by assumption)), (show vp_in x1 30 by first | exact m_isPerson hp0 (by assumption)), (show vp_in x2 10 by first | exact m_isStory hp0 (by assumption)), (show vp_in ((va_up S 110648 (upd (S 110648) 0 (nI 0))) 127057 x2.toNatClampNeg) 6 by exact z_J_Mstp hp0 _), (show z_le ((va_up S 110648 (upd (S 110648) 0 (nI 0))) 110648 6) 30 by exact z_J_Mpersons hp0), ?_⟩
            refine z_br (fun (h4 : (f_X7_mayHear (va_up S 110648 (upd (S 110648) 0 (nI 0))) P x1 x2 x3) = false) => ?_) (fun (h4 : (f_X7_mayHear (va_up S 110648 (upd (S 110648) 0 (nI 0))) P x1 x2 x3) = true) => ?_)
            · exact z_pi hpo ((if_pos h1).trans ((if_pos h2).trans ((if_pos h3).trans ((if_neg (z_nt h4)).trans rfl)))) ((if_pos h1).trans ((if_pos h2).trans ((if_pos h3).trans ((if_neg (z_nt h4)).trans rfl)))) (rfl)
            · refine ⟨(show vp_in (((nI 12) * x2) + x3) 120 by exact m_inPart (m_isStory hp0 (by assumption)) (z_J_Mparts hp0 _) (by assumption)), ?_⟩
              exact z_pi hpo ((if_pos h1).trans ((if_pos h2).trans ((if_pos h3).trans ((if_pos h4).trans rfl)))) ((if_pos h1).trans ((if_pos h2).trans ((if_pos h3).trans ((if_pos h4).trans rfl)))) (rfl)
    · exact h.elim
def l_X7_told_26 (S : z_MI) (P : z_ML) (x1 : Int32) (k26 : Nat) (a26 : Int32) : Int32 :=
  if (S 129105 (((nI k26) / (nI 12)).toNatClampNeg)) ≤ ((nI k26) - (nI k26) / (nI 12) * (nI 12)) then
    a26 ||| (nI 0)
  else
    if (f_X7_mayHear (va_up S 110648 (upd (S 110648) 0 (nI 0))) P x1 ((nI k26) / (nI 12)) ((nI k26) - (nI k26) / (nI 12) * (nI 12))) = true then
      a26 ||| ((nI 1) <<< ((S 132033 ((nI k26).toNatClampNeg)) &&& 31))
    else
      a26 ||| (nI 0)
def f_X7_told (S : z_MI) (P : z_ML) (x1 : Int32) : Int32 :=
  if (f_X7_isPerson S P x1) = true then
    (z_fo (fun k26 a26 => l_X7_told_26 S P x1 k26 a26) (nI 0) ((nI 12) * (S 110648 11)).toNatClampNeg)
  else
    nI 0
def u_X7_told (S : z_MI) (P : z_ML) (x1 : Int32) : z_MI :=
  if (f_X7_isPerson S P x1) = true then
    va_up S 110648 (upd (S 110648) 0 (nI 0))
  else
    va_up S 110648 (upd (S 110648) 0 (nI 1))
def sp_X7_told : z_SP := fun as S P k => match as with
  | [.int x1] => z_JM S ∧ k (some (.int (f_X7_told S P x1))) (u_X7_told S P x1) P
  | _ => False
def G_X7_told : z_G := ([(0, .aload_n 0, 1, 0), (1, .aload_n 0, 2, 0), (2, .iload_n 1, 3, 0), (3, .invokevirtual 177, 6, 0), (6, .ifCond .eq 7, 9, 13), (9, .iconst 0, 10, 0), (10, .goto 4, 13, 14), (13, .iconst 1, 14, 0), (14, .invokevirtual 173, 17, 0), (17, .ifCond .ne 5, 20, 22), (20, .iconst 0, 21, 0), (21, .ireturn, 22, 0), (22, .iconst 0, 23, 0), (23, .istore_n 2, 24, 0), (24, .iconst 0, 25, 0), (25, .istore_n 3, 26, 0), (26, .iload_n 3, 27, 0), (27, .bipush 12, 29, 0), (29, .aload_n 0, 30, 0), (30, .getfield 197, 33, 0), (33, .imul, 34, 0), (34, .if_icmp .ge 68, 37, 102), (37, .iload_n 3, 38, 0), (38, .bipush 12, 40, 0), (40, .irem, 41, 0), (41, .aload_n 0, 42, 0), (42, .getfield 35, 45, 0), (45, .iload_n 3, 46, 0), (46, .bipush 12, 48, 0), (48, .idiv, 49, 0), (49, .iaload, 50, 0), (50, .if_icmp .ge 23, 53, 73), (53, .aload_n 0, 54, 0), (54, .iload_n 1, 55, 0), (55, .iload_n 3, 56, 0), (56, .bipush 12, 58, 0), (58, .idiv, 59, 0), (59, .iload_n 3, 60, 0), (60, .bipush 12, 62, 0), (62, .irem, 63, 0), (63, .invokevirtual 206, 66, 0), (66, .ifCond .eq 7, 69, 73), (69, .iconst 1, 70, 0), (70, .goto 4, 73, 74), (73, .iconst 0, 74, 0), (74, .istore 4, 76, 0), (76, .iload_n 2, 77, 0), (77, .iload 4, 79, 0), (79, .ifCond .eq 14, 82, 93), (82, .iconst 1, 83, 0), (83, .aload_n 0, 84, 0), (84, .getfield 38, 87, 0), (87, .iload_n 3, 88, 0), (88, .iaload, 89, 0), (89, .ishl, 90, 0), (90, .goto 4, 93, 94), (93, .iconst 0, 94, 0), (94, .ior, 95, 0), (95, .istore_n 2, 96, 0), (96, .iinc 3 1, 99, 0), (99, .goto (-73), 102, 26), (102, .iload_n 2, 103, 0), (103, .ireturn, 104, 0)], [(35, 110648, 13, some 129105), (38, 110648, 14, some 132033), (197, 110648, 11, none)], [(173, 2, (z_rc 110648 sp_X7_holds)), (177, 2, (z_rc 110648 sp_X7_isPerson)), (206, 4, (z_rc 110648 sp_X7_mayHear))], [], [], [], [], some .int)
set_option maxRecDepth 20000 in
set_option maxHeartbeats 4000000 in
theorem ct_X7_told (l : Launch) : z_CT l yX7_told cX7_told 5 (some .int) (z_rc 110648 sp_X7_told) 4 := by
  refine z_CT_of G_X7_told (by decide) (by decide +kernel) (z_pok_of ft_X7 ci_X7 cL_X7_L fo_X7 co_X7 lo_X7 (by decide +kernel)) rfl rfl ?_ ?_ ?_
  · intro as S P Po h0
    obtain ⟨as, rfl, h⟩ := z_rc_of h0
    unfold sp_X7_told at h
    split at h
    · exact Nat.le_of_ble_eq_true rfl
    · exact h.elim
  · exact List.forall_mem_cons.mpr ⟨z_coV (ct_X7_holds l) kb_X7_holds kv_X7_173 ko_X7 (by decide) (by decide) (by decide), List.forall_mem_cons.mpr ⟨z_coV (ct_X7_isPerson l) kb_X7_isPerson kv_X7_177 ko_X7 (by decide) (by decide) (by decide), List.forall_mem_cons.mpr ⟨z_coV (ct_X7_mayHear l) kb_X7_mayHear kv_X7_206 ko_X7 (by decide) (by decide) (by decide), fun _ h => absurd h List.not_mem_nil⟩⟩⟩
  · intro as S P Po h0 V hV hW
    obtain ⟨as, rfl, h⟩ := z_rc_of h0
    unfold sp_X7_told at h
    split at h
    · rename_i x1
      obtain ⟨hp0, hpo⟩ := h
      refine hV [26] 68 0 _ _ _ _ ?_
      refine z_br (fun (h1 : (f_X7_isPerson S P x1) = false) => ?_) (fun (h1 : (f_X7_isPerson S P x1) = true) => ?_)
      · refine z_hnF (z_hq1 _ _) ?_
        exact z_pi hpo ((if_neg (z_nt h1)).trans rfl) ((if_neg (z_nt h1)).trans rfl) (rfl)
      · refine z_hnT (z_hq0 _ _) ?_
        obtain ⟨hb26, hN26⟩ := z_le_cl (show z_le ((nI 12) * (S 110648 11)) 120 by exact z_le12 (z_J_Mstories hp0)) (by decide)
        have hL26 : ∀ (j k26 : Nat) (x900 : Int32) (a26 : Int32), k26 + j = ((nI 12) * (S 110648 11)).toNatClampNeg → x900 = nI k26 → a26 = z_fo (fun k26 a26 => l_X7_told_26 S P x1 k26 a26) (nI 0) k26 → V 26 [(0, .ref 110648), (1, .int x1), (2, .int a26), (3, .int x900)] [] (va_up S 110648 (upd (S 110648) 0 (nI 0))) P := by
          intro j
          induction j with
          | zero =>
            intro k26 x900 a26 hk26 hx26 ha26
            subst hx26
            have hk9 : k26 = ((nI 12) * (S 110648 11)).toNatClampNeg := by omega
            subst hk9
            subst ha26
            refine hV [26] 68 26 _ _ _ _ ?_
            refine ⟨fun _ => ?_, fun h => absurd ((z_brge hb26 (by omega) (by omega)).mpr (Nat.le_refl _)) h⟩
            exact z_pi hpo ((if_pos h1).trans rfl) ((if_pos h1).trans rfl) (rfl)
          | succ j ih =>
            intro k26 x900 a26 hk26 hx26 ha26
            subst hx26
            have hk9 : k26 < ((nI 12) * (S 110648 11)).toNatClampNeg := by omega
            subst ha26
            refine hV [26] 68 26 _ _ _ _ ?_
            refine ⟨fun h => absurd ((z_brge hb26 (by omega) (by omega)).mp h) (by omega), fun _ => ?_⟩
            refine ⟨(show ¬ (nI 12) = 0 by decide), ?_⟩
            refine ⟨(show ¬ (nI 12) = 0 by decide), ?_⟩
            refine ⟨(show vp_in ((nI k26) / (nI 12)) 10 by exact z_d12a (by omega)), ?_⟩
            refine ⟨fun (h3 : (S 129105 (((nI k26) / (nI 12)).toNatClampNeg)) ≤ ((nI k26) - (nI k26) / (nI 12) * (nI 12))) => ?_, fun (h3 : ¬ ((S 129105 (((nI k26) / (nI 12)).toNatClampNeg)) ≤ ((nI k26) - (nI k26) / (nI 12) * (nI 12)))) => ?_⟩
            · refine ⟨fun _ => ?_, fun h => absurd (by decide) h⟩
              exact hW [0, 1, 2, 3] _ _ _ _ _ (ih (k26 + 1) _ ((z_fo (fun k26 a26 => l_X7_told_26 S P x1 k26 a26) (nI 0) k26) ||| (nI 0)) (by omega) (nI_add k26 1) (((if_pos h3).trans rfl).symm))
            · refine ⟨(show ¬ (nI 12) = 0 by decide), ?_⟩
              refine ⟨(show ¬ (nI 12) = 0 by decide), ?_⟩
              refine ⟨(show vp_in (((nI 12) * ((nI k26) / (nI 12))) + ((nI k26) - (nI k26) / (nI 12) * (nI 12))) 120 by exact z_d12b (by omega)), (show vp_in x1 30 by first | exact m_isPerson hp0 (by assumption)), (show vp_in ((nI k26) / (nI 12)) 10 by exact z_d12a (by omega)), (show vp_in ((va_up S 110648 (upd (S 110648) 0 (nI 0))) 127057 ((nI k26) / (nI 12)).toNatClampNeg) 6 by exact z_J_Mstp hp0 _), (show z_le ((va_up S 110648 (upd (S 110648) 0 (nI 0))) 110648 6) 30 by exact z_J_Mpersons hp0), ?_⟩
              refine z_br (fun (h4 : (f_X7_mayHear (va_up S 110648 (upd (S 110648) 0 (nI 0))) P x1 ((nI k26) / (nI 12)) ((nI k26) - (nI k26) / (nI 12) * (nI 12))) = false) => ?_) (fun (h4 : (f_X7_mayHear (va_up S 110648 (upd (S 110648) 0 (nI 0))) P x1 ((nI k26) / (nI 12)) ((nI k26) - (nI k26) / (nI 12) * (nI 12))) = true) => ?_)
              · refine ⟨fun _ => ?_, fun h => absurd (by decide) h⟩
                exact hW [0, 1, 2, 3] _ _ _ _ _ (ih (k26 + 1) _ ((z_fo (fun k26 a26 => l_X7_told_26 S P x1 k26 a26) (nI 0) k26) ||| (nI 0)) (by omega) (nI_add k26 1) (((if_neg h3).trans ((if_neg (z_nt h4)).trans rfl)).symm))
              · refine ⟨fun h => absurd h (by decide), fun _ => ?_⟩
                refine ⟨(show vp_in (nI k26) 120 by exact vp_in_nI (by omega) (by omega)), ?_⟩
                exact hW [0, 1, 2, 3] _ _ _ _ _ (ih (k26 + 1) _ ((z_fo (fun k26 a26 => l_X7_told_26 S P x1 k26 a26) (nI 0) k26) ||| ((nI 1) <<< ((S 132033 ((nI k26).toNatClampNeg)) &&& 31))) (by omega) (nI_add k26 1) (((if_neg h3).trans ((if_pos h4).trans rfl)).symm))
        exact hW [0, 1, 2, 3] _ _ _ _ _ (hL26 ((nI 12) * (S 110648 11)).toNatClampNeg 0 _ (nI 0) (Nat.zero_add _) rfl rfl)
    · exact h.elim
def f_X7_mark (S : z_MI) (P : z_ML) (x1 : Int32) (x2 : Int32) (x3 : Int32) (x4 : Int32) : Int32 :=
  if (f_X7_isPeople S P x1) = true then
    if (f_X7_isPlace S P x2) = true then
      if (f_X7_in S P x3 (nI 0) (S 110648 1)) = true then
        if (f_X7_in S P x4 (nI 1) (nI 9)) = true then
          if (S 110648 16) = (nI 60) then
            nI 0
          else
            (S 110648 16) + (nI 1)
        else
          nI 0
      else
        nI 0
    else
      if (f_X7_in S P x3 (nI 0) (S 110648 1)) = true then
        if (f_X7_in S P x4 (nI 1) (nI 9)) = true then
          nI 0
        else
          nI 0
      else
        nI 0
  else
    if (f_X7_in S P x3 (nI 0) (S 110648 1)) = true then
      if (f_X7_in S P x4 (nI 1) (nI 9)) = true then
        nI 0
      else
        nI 0
    else
      nI 0
def u_X7_mark (S : z_MI) (P : z_ML) (x1 : Int32) (x2 : Int32) (x3 : Int32) (x4 : Int32) : z_MI :=
  if (f_X7_isPeople S P x1) = true then
    if (f_X7_isPlace S P x2) = true then
      if (f_X7_in S P x3 (nI 0) (S 110648 1)) = true then
        if (f_X7_in S P x4 (nI 1) (nI 9)) = true then
          if (S 110648 16) = (nI 60) then
            va_up S 110648 (upd (S 110648) 0 (nI 3))
          else
            va_up (va_up (va_up (va_up (va_up (va_up S 110648 (upd (S 110648) 0 (nI 0))) 135649 (upd ((va_up S 110648 (upd (S 110648) 0 (nI 0))) 135649) ((S 110648 16).toNatClampNeg) x1)) 137697 (upd ((va_up (va_up S 110648 (upd (S 110648) 0 (nI 0))) 135649 (upd ((va_up S 110648 (upd (S 110648) 0 (nI 0))) 135649) ((S 110648 16).toNatClampNeg) x1)) 137697) ((S 110648 16).toNatClampNeg) x2)) 139745 (upd ((va_up (va_up (va_up S 110648 (upd (S 110648) 0 (nI 0))) 135649 (upd ((va_up S 110648 (upd (S 110648) 0 (nI 0))) 135649) ((S 110648 16).toNatClampNeg) x1)) 137697 (upd ((va_up (va_up S 110648 (upd (S 110648) 0 (nI 0))) 135649 (upd ((va_up S 110648 (upd (S 110648) 0 (nI 0))) 135649) ((S 110648 16).toNatClampNeg) x1)) 137697) ((S 110648 16).toNatClampNeg) x2)) 139745) ((S 110648 16).toNatClampNeg) x3)) 141793 (upd ((va_up (va_up (va_up (va_up S 110648 (upd (S 110648) 0 (nI 0))) 135649 (upd ((va_up S 110648 (upd (S 110648) 0 (nI 0))) 135649) ((S 110648 16).toNatClampNeg) x1)) 137697 (upd ((va_up (va_up S 110648 (upd (S 110648) 0 (nI 0))) 135649 (upd ((va_up S 110648 (upd (S 110648) 0 (nI 0))) 135649) ((S 110648 16).toNatClampNeg) x1)) 137697) ((S 110648 16).toNatClampNeg) x2)) 139745 (upd ((va_up (va_up (va_up S 110648 (upd (S 110648) 0 (nI 0))) 135649 (upd ((va_up S 110648 (upd (S 110648) 0 (nI 0))) 135649) ((S 110648 16).toNatClampNeg) x1)) 137697 (upd ((va_up (va_up S 110648 (upd (S 110648) 0 (nI 0))) 135649 (upd ((va_up S 110648 (upd (S 110648) 0 (nI 0))) 135649) ((S 110648 16).toNatClampNeg) x1)) 137697) ((S 110648 16).toNatClampNeg) x2)) 139745) ((S 110648 16).toNatClampNeg) x3)) 141793) ((S 110648 16).toNatClampNeg) x4)) 110648 (upd ((va_up (va_up (va_up (va_up (va_up S 110648 (upd (S 110648) 0 (nI 0))) 135649 (upd ((va_up S 110648 (upd (S 110648) 0 (nI 0))) 135649) ((S 110648 16).toNatClampNeg) x1)) 137697 (upd ((va_up (va_up S 110648 (upd (S 110648) 0 (nI 0))) 135649 (upd ((va_up S 110648 (upd (S 110648) 0 (nI 0))) 135649) ((S 110648 16).toNatClampNeg) x1)) 137697) ((S 110648 16).toNatClampNeg) x2)) 139745 (upd ((va_up (va_up (va_up S 110648 (upd (S 110648) 0 (nI 0))) 135649 (upd ((va_up S 110648 (upd (S 110648) 0 (nI 0))) 135649) ((S 110648 16).toNatClampNeg) x1)) 137697 (upd ((va_up (va_up S 110648 (upd (S 110648) 0 (nI 0))) 135649 (upd ((va_up S 110648 (upd (S 110648) 0 (nI 0))) 135649) ((S 110648 16).toNatClampNeg) x1)) 137697) ((S 110648 16).toNatClampNeg) x2)) 139745) ((S 110648 16).toNatClampNeg) x3)) 141793 (upd ((va_up (va_up (va_up (va_up S 110648 (upd (S 110648) 0 (nI 0))) 135649 (upd ((va_up S 110648 (upd (S 110648) 0 (nI 0))) 135649) ((S 110648 16).toNatClampNeg) x1)) 137697 (upd ((va_up (va_up S 110648 (upd (S 110648) 0 (nI 0))) 135649 (upd ((va_up S 110648 (upd (S 110648) 0 (nI 0))) 135649) ((S 110648 16).toNatClampNeg) x1)) 137697) ((S 110648 16).toNatClampNeg) x2)) 139745 (upd ((va_up (va_up (va_up S 110648 (upd (S 110648) 0 (nI 0))) 135649 (upd ((va_up S 110648 (upd (S 110648) 0 (nI 0))) 135649) ((S 110648 16).toNatClampNeg) x1)) 137697 (upd ((va_up (va_up S 110648 (upd (S 110648) 0 (nI 0))) 135649 (upd ((va_up S 110648 (upd (S 110648) 0 (nI 0))) 135649) ((S 110648 16).toNatClampNeg) x1)) 137697) ((S 110648 16).toNatClampNeg) x2)) 139745) ((S 110648 16).toNatClampNeg) x3)) 141793) ((S 110648 16).toNatClampNeg) x4)) 110648) 16 ((S 110648 16) + (nI 1)))
        else
          va_up S 110648 (upd (S 110648) 0 (nI 2))
      else
        va_up S 110648 (upd (S 110648) 0 (nI 2))
    else
      if (f_X7_in S P x3 (nI 0) (S 110648 1)) = true then
        if (f_X7_in S P x4 (nI 1) (nI 9)) = true then
          va_up S 110648 (upd (S 110648) 0 (nI 1))
        else
          va_up S 110648 (upd (S 110648) 0 (nI 1))
      else
        va_up S 110648 (upd (S 110648) 0 (nI 1))
  else
    if (f_X7_in S P x3 (nI 0) (S 110648 1)) = true then
      if (f_X7_in S P x4 (nI 1) (nI 9)) = true then
        va_up S 110648 (upd (S 110648) 0 (nI 1))
      else
        va_up S 110648 (upd (S 110648) 0 (nI 1))
    else
      va_up S 110648 (upd (S 110648) 0 (nI 1))
def sp_X7_mark : z_SP := fun as S P k => match as with
  | [.int x1, .int x2, .int x3, .int x4] => z_JM S ∧ k (some (.int (f_X7_mark S P x1 x2 x3 x4))) (u_X7_mark S P x1 x2 x3 x4) P
  | _ => False
def G_X7_mark : z_G := ([(0, .aload_n 0, 1, 0), (1, .iload_n 1, 2, 0), (2, .invokevirtual 187, 5, 0), (5, .ifCond .eq 14, 8, 19), (8, .iload_n 2, 9, 0), (9, .invokestatic 203, 12, 0), (12, .ifCond .eq 7, 15, 19), (15, .iconst 1, 16, 0), (16, .goto 4, 19, 20), (19, .iconst 0, 20, 0), (20, .istore 5, 22, 0), (22, .iload_n 3, 23, 0), (23, .iconst 0, 24, 0), (24, .aload_n 0, 25, 0), (25, .getfield 209, 28, 0), (28, .invokestatic 157, 31, 0), (31, .ifCond .eq 18, 34, 49), (34, .iload 4, 36, 0), (36, .iconst 1, 37, 0), (37, .bipush 9, 39, 0), (39, .invokestatic 157, 42, 0), (42, .ifCond .eq 7, 45, 49), (45, .iconst 1, 46, 0), (46, .goto 4, 49, 50), (49, .iconst 0, 50, 0), (50, .istore 6, 52, 0), (52, .aload_n 0, 53, 0), (53, .iload 5, 55, 0), (55, .ifCond .ne 7, 58, 62), (58, .iconst 1, 59, 0), (59, .goto 26, 62, 85), (62, .iload 6, 64, 0), (64, .ifCond .ne 7, 67, 71), (67, .iconst 2, 68, 0), (68, .goto 17, 71, 85), (71, .aload_n 0, 72, 0), (72, .getfield 212, 75, 0), (75, .bipush 60, 77, 0), (77, .if_icmp .ne 7, 80, 84), (80, .iconst 3, 81, 0), (81, .goto 4, 84, 85), (84, .iconst 0, 85, 0), (85, .invokevirtual 173, 88, 0), (88, .ifCond .ne 5, 91, 93), (91, .iconst 0, 92, 0), (92, .ireturn, 93, 0), (93, .aload_n 0, 94, 0), (94, .getfield 44, 97, 0), (97, .aload_n 0, 98, 0), (98, .getfield 212, 101, 0), (101, .iload_n 1, 102, 0), (102, .iastore, 103, 0), (103, .aload_n 0, 104, 0), (104, .getfield 47, 107, 0), (107, .aload_n 0, 108, 0), (108, .getfield 212, 111, 0), (111, .iload_n 2, 112, 0), (112, .iastore, 113, 0), (113, .aload_n 0, 114, 0), (114, .getfield 50, 117, 0), (117, .aload_n 0, 118, 0), (118, .getfield 212, 121, 0), (121, .iload_n 3, 122, 0), (122, .iastore, 123, 0), (123, .aload_n 0, 124, 0), (124, .getfield 53, 127, 0), (127, .aload_n 0, 128, 0), (128, .getfield 212, 131, 0), (131, .iload 4, 133, 0), (133, .iastore, 134, 0), (134, .aload_n 0, 135, 0), (135, .dup, 136, 0), (136, .getfield 212, 139, 0), (139, .iconst 1, 140, 0), (140, .iadd, 141, 0), (141, .putfield 212, 144, 0), (144, .aload_n 0, 145, 0), (145, .getfield 212, 148, 0), (148, .ireturn, 149, 0)], [(44, 110648, 17, some 135649), (47, 110648, 18, some 137697), (50, 110648, 19, some 139745), (53, 110648, 20, some 141793), (209, 110648, 1, none), (212, 110648, 16, none)], [(100157, 3, sp_X7_in), (100203, 1, sp_X7_isPlace), (173, 2, (z_rc 110648 sp_X7_holds)), (187, 2, (z_rc 110648 sp_X7_isPeople))], [], [], [], [], some .int)
set_option maxRecDepth 20000 in
set_option maxHeartbeats 4000000 in
theorem ct_X7_mark (l : Launch) : z_CT l yX7_mark cX7_mark 7 (some .int) (z_rc 110648 sp_X7_mark) 2 := by
  refine z_CT_of G_X7_mark (by decide) (by decide +kernel) (z_pok_of ft_X7 ci_X7 cL_X7_L fo_X7 co_X7 lo_X7 (by decide +kernel)) rfl rfl ?_ ?_ ?_
  · intro as S P Po h0
    obtain ⟨as, rfl, h⟩ := z_rc_of h0
    unfold sp_X7_mark at h
    split at h
    · exact Nat.le_of_ble_eq_true rfl
    · exact h.elim
  · exact List.forall_mem_cons.mpr ⟨z_coS (ct_X7_in l) kb_X7_in ks_X7_157 (by decide) (by decide), List.forall_mem_cons.mpr ⟨z_coS (ct_X7_isPlace l) kb_X7_isPlace ks_X7_203 (by decide) (by decide), List.forall_mem_cons.mpr ⟨z_coV (ct_X7_holds l) kb_X7_holds kv_X7_173 ko_X7 (by decide) (by decide) (by decide), List.forall_mem_cons.mpr ⟨z_coV (ct_X7_isPeople l) kb_X7_isPeople kv_X7_187 ko_X7 (by decide) (by decide) (by decide), fun _ h => absurd h List.not_mem_nil⟩⟩⟩⟩
  · intro as S P Po h0 V hV hW
    obtain ⟨as, rfl, h⟩ := z_rc_of h0
    unfold sp_X7_mark at h
    split at h
    · rename_i x1 x2 x3 x4
      obtain ⟨hp0, hpo⟩ := h
      refine hV [] 84 0 _ _ _ _ ?_
      refine z_br (fun (h1 : (f_X7_isPeople S P x1) = false) => ?_) (fun (h1 : (f_X7_isPeople S P x1) = true) => ?_)
      · refine z_br (fun (h2 : (f_X7_in S P x3 (nI 0) (S 110648 1)) = false) => ?_) (fun (h2 : (f_X7_in S P x3 (nI 0) (S 110648 1)) = true) => ?_)
        · refine ⟨fun h => absurd (by decide) h, fun _ => ?_⟩
          refine z_hnF (z_hq1 _ _) ?_
          exact z_pi hpo ((if_neg (z_nt h1)).trans ((if_neg (z_nt h2)).trans rfl)) ((if_neg (z_nt h1)).trans ((if_neg (z_nt h2)).trans rfl)) (rfl)
        · refine z_br (fun (h3 : (f_X7_in S P x4 (nI 1) (nI 9)) = false) => ?_) (fun (h3 : (f_X7_in S P x4 (nI 1) (nI 9)) = true) => ?_)
          · refine ⟨fun h => absurd (by decide) h, fun _ => ?_⟩
            refine z_hnF (z_hq1 _ _) ?_
            exact z_pi hpo ((if_neg (z_nt h1)).trans ((if_pos h2).trans ((if_neg (z_nt h3)).trans rfl))) ((if_neg (z_nt h1)).trans ((if_pos h2).trans ((if_neg (z_nt h3)).trans rfl))) (rfl)
          · refine ⟨fun h => absurd (by decide) h, fun _ => ?_⟩
            refine z_hnF (z_hq1 _ _) ?_
            exact z_pi hpo ((if_neg (z_nt h1)).trans ((if_pos h2).trans ((if_pos h3).trans rfl))) ((if_neg (z_nt h1)).trans ((if_pos h2).trans ((if_pos h3).trans rfl))) (rfl)
      · refine z_br (fun (h4 : (f_X7_isPlace S P x2) = false) => ?_) (fun (h4 : (f_X7_isPlace S P x2) = true) => ?_)
        · refine z_br (fun (h5 : (f_X7_in S P x3 (nI 0) (S 110648 1)) = false) => ?_) (fun (h5 : (f_X7_in S P x3 (nI 0) (S 110648 1)) = true) => ?_)
          · refine ⟨fun h => absurd (by decide) h, fun _ => ?_⟩
            refine z_hnF (z_hq1 _ _) ?_
            exact z_pi hpo ((if_pos h1).trans ((if_neg (z_nt h4)).trans ((if_neg (z_nt h5)).trans rfl))) ((if_pos h1).trans ((if_neg (z_nt h4)).trans ((if_neg (z_nt h5)).trans rfl))) (rfl)
          · refine z_br (fun (h6 : (f_X7_in S P x4 (nI 1) (nI 9)) = false) => ?_) (fun (h6 : (f_X7_in S P x4 (nI 1) (nI 9)) = true) => ?_)
            · refine ⟨fun h => absurd (by decide) h, fun _ => ?_⟩
              refine z_hnF (z_hq1 _ _) ?_
              exact z_pi hpo ((if_pos h1).trans ((if_neg (z_nt h4)).trans ((if_pos h5).trans ((if_neg (z_nt h6)).trans rfl)))) ((if_pos h1).trans ((if_neg (z_nt h4)).trans ((if_pos h5).trans ((if_neg (z_nt h6)).trans rfl)))) (rfl)
            · refine ⟨fun h => absurd (by decide) h, fun _ => ?_⟩
              refine z_hnF (z_hq1 _ _) ?_
              exact z_pi hpo ((if_pos h1).trans ((if_neg (z_nt h4)).trans ((if_pos h5).trans ((if_pos h6).trans rfl)))) ((if_pos h1).trans ((if_neg (z_nt h4)).trans ((if_pos h5).trans ((if_pos h6).trans rfl)))) (rfl)
        · refine z_br (fun (h7 : (f_X7_in S P x3 (nI 0) (S 110648 1)) = false) => ?_) (fun (h7 : (f_X7_in S P x3 (nI 0) (S 110648 1)) = true) => ?_)
          · refine ⟨fun _ => ?_, fun h => absurd h (by decide)⟩
            refine ⟨fun h => absurd (by decide) h, fun _ => ?_⟩
            refine z_hnF (z_hq2 _ _) ?_
            exact z_pi hpo ((if_pos h1).trans ((if_pos h4).trans ((if_neg (z_nt h7)).trans rfl))) ((if_pos h1).trans ((if_pos h4).trans ((if_neg (z_nt h7)).trans rfl))) (rfl)
          · refine z_br (fun (h8 : (f_X7_in S P x4 (nI 1) (nI 9)) = false) => ?_) (fun (h8 : (f_X7_in S P x4 (nI 1) (nI 9)) = true) => ?_)
            · refine ⟨fun _ => ?_, fun h => absurd h (by decide)⟩
              refine ⟨fun h => absurd (by decide) h, fun _ => ?_⟩
              refine z_hnF (z_hq2 _ _) ?_
              exact z_pi hpo ((if_pos h1).trans ((if_pos h4).trans ((if_pos h7).trans ((if_neg (z_nt h8)).trans rfl)))) ((if_pos h1).trans ((if_pos h4).trans ((if_pos h7).trans ((if_neg (z_nt h8)).trans rfl)))) (rfl)
            · refine ⟨fun _ => ?_, fun h => absurd h (by decide)⟩
              refine ⟨fun _ => ?_, fun h => absurd h (by decide)⟩
              refine ⟨fun (h9 : ¬ ((S 110648 16) = (nI 60))) => ?_, fun (h9 : (S 110648 16) = (nI 60)) => ?_⟩
              · refine z_hnT (z_hq0 _ _) ?_
                refine ⟨(show vp_in (S 110648 16) 60 by exact z_rne (by assumption) (z_J_Mmarks hp0) (by decide)), ?_⟩
                refine ⟨(show vp_in (S 110648 16) 60 by exact z_rne (by assumption) (z_J_Mmarks hp0) (by decide)), ?_⟩
                refine ⟨(show vp_in (S 110648 16) 60 by exact z_rne (by assumption) (z_J_Mmarks hp0) (by decide)), ?_⟩
                refine ⟨(show vp_in (S 110648 16) 60 by exact z_rne (by assumption) (z_J_Mmarks hp0) (by decide)), ?_⟩
                exact z_pi hpo ((if_pos h1).trans ((if_pos h4).trans ((if_pos h7).trans ((if_pos h8).trans ((if_neg h9).trans rfl))))) ((if_pos h1).trans ((if_pos h4).trans ((if_pos h7).trans ((if_pos h8).trans ((if_neg h9).trans rfl))))) (rfl)
              · refine z_hnF (z_hq3 _ _) ?_
                exact z_pi hpo ((if_pos h1).trans ((if_pos h4).trans ((if_pos h7).trans ((if_pos h8).trans ((if_pos h9).trans rfl))))) ((if_pos h1).trans ((if_pos h4).trans ((if_pos h7).trans ((if_pos h8).trans ((if_pos h9).trans rfl))))) (rfl)
    · exact h.elim
def f_X7_explain (S : z_MI) (P : z_ML) (x1 : Int32) (x2 : Int32) (x3 : Int32) : Int32 :=
  if (f_X7_in S P x2 (nI 0) (nI 5000)) = true then
    if (f_X7_in S P x3 x2 (nI 5000)) = true then
      if (f_X7_isPeople S P x1) = true then
        if (S 143409 x1.toNatClampNeg) = (nI 8) then
          nI 0
        else
          (upd (S 143409) x1.toNatClampNeg ((S 143409 x1.toNatClampNeg) + (nI 1))) x1.toNatClampNeg
      else
        nI 0
    else
      if (f_X7_isPeople S P x1) = true then
        nI 0
      else
        nI 0
  else
    if (f_X7_isPeople S P x1) = true then
      nI 0
    else
      nI 0
def u_X7_explain (S : z_MI) (P : z_ML) (x1 : Int32) (x2 : Int32) (x3 : Int32) : z_MI :=
  if (f_X7_in S P x2 (nI 0) (nI 5000)) = true then
    if (f_X7_in S P x3 x2 (nI 5000)) = true then
      if (f_X7_isPeople S P x1) = true then
        if (S 143409 x1.toNatClampNeg) = (nI 8) then
          va_up S 110648 (upd (S 110648) 0 (nI 3))
        else
          va_up (va_up (va_up (va_up S 110648 (upd (S 110648) 0 (nI 0))) 145793 (upd ((va_up S 110648 (upd (S 110648) 0 (nI 0))) 145793) ((((nI 8) * x1) + (S 143409 x1.toNatClampNeg)).toNatClampNeg) x2)) 147841 (upd ((va_up (va_up S 110648 (upd (S 110648) 0 (nI 0))) 145793 (upd ((va_up S 110648 (upd (S 110648) 0 (nI 0))) 145793) ((((nI 8) * x1) + (S 143409 x1.toNatClampNeg)).toNatClampNeg) x2)) 147841) ((((nI 8) * x1) + (S 143409 x1.toNatClampNeg)).toNatClampNeg) x3)) 143409 (upd ((va_up (va_up (va_up S 110648 (upd (S 110648) 0 (nI 0))) 145793 (upd ((va_up S 110648 (upd (S 110648) 0 (nI 0))) 145793) ((((nI 8) * x1) + (S 143409 x1.toNatClampNeg)).toNatClampNeg) x2)) 147841 (upd ((va_up (va_up S 110648 (upd (S 110648) 0 (nI 0))) 145793 (upd ((va_up S 110648 (upd (S 110648) 0 (nI 0))) 145793) ((((nI 8) * x1) + (S 143409 x1.toNatClampNeg)).toNatClampNeg) x2)) 147841) ((((nI 8) * x1) + (S 143409 x1.toNatClampNeg)).toNatClampNeg) x3)) 143409) x1.toNatClampNeg ((S 143409 x1.toNatClampNeg) + (nI 1)))
      else
        va_up S 110648 (upd (S 110648) 0 (nI 1))
    else
      if (f_X7_isPeople S P x1) = true then
        va_up S 110648 (upd (S 110648) 0 (nI 2))
      else
        va_up S 110648 (upd (S 110648) 0 (nI 1))
  else
    if (f_X7_isPeople S P x1) = true then
      va_up S 110648 (upd (S 110648) 0 (nI 2))
    else
      va_up S 110648 (upd (S 110648) 0 (nI 1))
def sp_X7_explain : z_SP := fun as S P k => match as with
  | [.int x1, .int x2, .int x3] => z_JM S ∧ k (some (.int (f_X7_explain S P x1 x2 x3))) (u_X7_explain S P x1 x2 x3) P
  | _ => False
def G_X7_explain : z_G := ([(0, .iload_n 2, 1, 0), (1, .iconst 0, 2, 0), (2, .sipush 5000, 5, 0), (5, .invokestatic 157, 8, 0), (8, .ifCond .eq 18, 11, 26), (11, .iload_n 3, 12, 0), (12, .iload_n 2, 13, 0), (13, .sipush 5000, 16, 0), (16, .invokestatic 157, 19, 0), (19, .ifCond .eq 7, 22, 26), (22, .iconst 1, 23, 0), (23, .goto 4, 26, 27), (26, .iconst 0, 27, 0), (27, .istore 4, 29, 0), (29, .aload_n 0, 30, 0), (30, .aload_n 0, 31, 0), (31, .iload_n 1, 32, 0), (32, .invokevirtual 187, 35, 0), (35, .ifCond .ne 7, 38, 42), (38, .iconst 1, 39, 0), (39, .goto 28, 42, 67), (42, .iload 4, 44, 0), (44, .ifCond .ne 7, 47, 51), (47, .iconst 2, 48, 0), (48, .goto 19, 51, 67), (51, .aload_n 0, 52, 0), (52, .getfield 56, 55, 0), (55, .iload_n 1, 56, 0), (56, .iaload, 57, 0), (57, .bipush 8, 59, 0), (59, .if_icmp .ne 7, 62, 66), (62, .iconst 3, 63, 0), (63, .goto 4, 66, 67), (66, .iconst 0, 67, 0), (67, .invokevirtual 173, 70, 0), (70, .ifCond .ne 5, 73, 75), (73, .iconst 0, 74, 0), (74, .ireturn, 75, 0), (75, .aload_n 0, 76, 0), (76, .getfield 59, 79, 0), (79, .bipush 8, 81, 0), (81, .iload_n 1, 82, 0), (82, .imul, 83, 0), (83, .aload_n 0, 84, 0), (84, .getfield 56, 87, 0), (87, .iload_n 1, 88, 0), (88, .iaload, 89, 0), (89, .iadd, 90, 0), (90, .iload_n 2, 91, 0), (91, .iastore, 92, 0), (92, .aload_n 0, 93, 0), (93, .getfield 62, 96, 0), (96, .bipush 8, 98, 0), (98, .iload_n 1, 99, 0), (99, .imul, 100, 0), (100, .aload_n 0, 101, 0), (101, .getfield 56, 104, 0), (104, .iload_n 1, 105, 0), (105, .iaload, 106, 0), (106, .iadd, 107, 0), (107, .iload_n 3, 108, 0), (108, .iastore, 109, 0), (109, .aload_n 0, 110, 0), (110, .getfield 56, 113, 0), (113, .iload_n 1, 114, 0), (114, .dup2, 115, 0), (115, .iaload, 116, 0), (116, .iconst 1, 117, 0), (117, .iadd, 118, 0), (118, .iastore, 119, 0), (119, .aload_n 0, 120, 0), (120, .getfield 56, 123, 0), (123, .iload_n 1, 124, 0), (124, .iaload, 125, 0), (125, .ireturn, 126, 0)], [(56, 110648, 21, some 143409), (59, 110648, 22, some 145793), (62, 110648, 23, some 147841)], [(100157, 3, sp_X7_in), (173, 2, (z_rc 110648 sp_X7_holds)), (187, 2, (z_rc 110648 sp_X7_isPeople))], [], [], [], [], some .int)
set_option maxRecDepth 20000 in
set_option maxHeartbeats 4000000 in
theorem ct_X7_explain (l : Launch) : z_CT l yX7_explain cX7_explain 5 (some .int) (z_rc 110648 sp_X7_explain) 2 := by
  refine z_CT_of G_X7_explain (by decide) (by decide +kernel) (z_pok_of ft_X7 ci_X7 cL_X7_L fo_X7 co_X7 lo_X7 (by decide +kernel)) rfl rfl ?_ ?_ ?_
  · intro as S P Po h0
    obtain ⟨as, rfl, h⟩ := z_rc_of h0
    unfold sp_X7_explain at h
    split at h
    · exact Nat.le_of_ble_eq_true rfl
    · exact h.elim
  · exact List.forall_mem_cons.mpr ⟨z_coS (ct_X7_in l) kb_X7_in ks_X7_157 (by decide) (by decide), List.forall_mem_cons.mpr ⟨z_coV (ct_X7_holds l) kb_X7_holds kv_X7_173 ko_X7 (by decide) (by decide) (by decide), List.forall_mem_cons.mpr ⟨z_coV (ct_X7_isPeople l) kb_X7_isPeople kv_X7_187 ko_X7 (by decide) (by decide) (by decide), fun _ h => absurd h List.not_mem_nil⟩⟩⟩
  · intro as S P Po h0 V hV hW
    obtain ⟨as, rfl, h⟩ := z_rc_of h0
    unfold sp_X7_explain at h
    split at h
    · rename_i x1 x2 x3
      obtain ⟨hp0, hpo⟩ := h
      refine hV [] 80 0 _ _ _ _ ?_
      refine z_br (fun (h1 : (f_X7_in S P x2 (nI 0) (nI 5000)) = false) => ?_) (fun (h1 : (f_X7_in S P x2 (nI 0) (nI 5000)) = true) => ?_)
      · refine z_brn (fun (h2 : (f_X7_isPeople S P x1) = true) => ?_) (fun (h2 : (f_X7_isPeople S P x1) = false) => ?_)
        · refine ⟨fun h => absurd (by decide) h, fun _ => ?_⟩
          refine z_hnF (z_hq2 _ _) ?_
          exact z_pi hpo ((if_neg (z_nt h1)).trans ((if_pos h2).trans rfl)) ((if_neg (z_nt h1)).trans ((if_pos h2).trans rfl)) (rfl)
        · refine z_hnF (z_hq1 _ _) ?_
          exact z_pi hpo ((if_neg (z_nt h1)).trans ((if_neg (z_nt h2)).trans rfl)) ((if_neg (z_nt h1)).trans ((if_neg (z_nt h2)).trans rfl)) (rfl)
      · refine z_br (fun (h3 : (f_X7_in S P x3 x2 (nI 5000)) = false) => ?_) (fun (h3 : (f_X7_in S P x3 x2 (nI 5000)) = true) => ?_)
        · refine z_brn (fun (h4 : (f_X7_isPeople S P x1) = true) => ?_) (fun (h4 : (f_X7_isPeople S P x1) = false) => ?_)
          · refine ⟨fun h => absurd (by decide) h, fun _ => ?_⟩
            refine z_hnF (z_hq2 _ _) ?_
            exact z_pi hpo ((if_pos h1).trans ((if_neg (z_nt h3)).trans ((if_pos h4).trans rfl))) ((if_pos h1).trans ((if_neg (z_nt h3)).trans ((if_pos h4).trans rfl))) (rfl)
          · refine z_hnF (z_hq1 _ _) ?_
            exact z_pi hpo ((if_pos h1).trans ((if_neg (z_nt h3)).trans ((if_neg (z_nt h4)).trans rfl))) ((if_pos h1).trans ((if_neg (z_nt h3)).trans ((if_neg (z_nt h4)).trans rfl))) (rfl)
        · refine z_brn (fun (h5 : (f_X7_isPeople S P x1) = true) => ?_) (fun (h5 : (f_X7_isPeople S P x1) = false) => ?_)
          · refine ⟨fun _ => ?_, fun h => absurd h (by decide)⟩
            refine ⟨(show vp_in x1 6 by first | exact m_isPeople hp0 (by assumption)), ?_⟩
            refine ⟨fun (h6 : ¬ ((S 143409 x1.toNatClampNeg) = (nI 8))) => ?_, fun (h6 : (S 143409 x1.toNatClampNeg) = (nI 8)) => ?_⟩
            · refine z_hnT (z_hq0 _ _) ?_
              refine ⟨(show vp_in x1 6 by first | exact m_isPeople hp0 (by assumption)), ?_⟩
              refine ⟨(show vp_in (((nI 8) * x1) + (S 143409 x1.toNatClampNeg)) 48 by exact z_in_m (by first | exact m_isPeople hp0 (by assumption)) (z_rne (by assumption) (z_J_Mexpl hp0 _) (by decide)) (by decide) (by decide)), ?_⟩
              refine ⟨(show vp_in x1 6 by first | exact m_isPeople hp0 (by assumption)), ?_⟩
              refine ⟨(show vp_in (((nI 8) * x1) + (S 143409 x1.toNatClampNeg)) 48 by exact z_in_m (by first | exact m_isPeople hp0 (by assumption)) (z_rne (by assumption) (z_J_Mexpl hp0 _) (by decide)) (by decide) (by decide)), ?_⟩
              refine ⟨(show vp_in x1 6 by first | exact m_isPeople hp0 (by assumption)), ?_⟩
              refine ⟨(show vp_in x1 6 by first | exact m_isPeople hp0 (by assumption)), ?_⟩
              refine ⟨(show vp_in x1 6 by first | exact m_isPeople hp0 (by assumption)), ?_⟩
              exact z_pi hpo ((if_pos h1).trans ((if_pos h3).trans ((if_pos h5).trans ((if_neg h6).trans rfl)))) ((if_pos h1).trans ((if_pos h3).trans ((if_pos h5).trans ((if_neg h6).trans rfl)))) (rfl)
            · refine z_hnF (z_hq3 _ _) ?_
              exact z_pi hpo ((if_pos h1).trans ((if_pos h3).trans ((if_pos h5).trans ((if_pos h6).trans rfl)))) ((if_pos h1).trans ((if_pos h3).trans ((if_pos h5).trans ((if_pos h6).trans rfl)))) (rfl)
          · refine z_hnF (z_hq1 _ _) ?_
            exact z_pi hpo ((if_pos h1).trans ((if_pos h3).trans ((if_neg (z_nt h5)).trans rfl))) ((if_pos h1).trans ((if_pos h3).trans ((if_neg (z_nt h5)).trans rfl))) (rfl)
    · exact h.elim
def f_X7_isProved (S : z_MI) (P : z_ML) (x1 : Int32) (x2 : Int32) : Bool :=
  if (f_X7_isPeople S P x1) = true then
    if (f_X7_isPlace S P x2) = true then
      if (f_X7_proves (va_up S 110648 (upd (S 110648) 0 (nI 0))) P x1 x2) = true then
        true
      else
        false
    else
      false
  else
    false
def u_X7_isProved (S : z_MI) (P : z_ML) (x1 : Int32) (x2 : Int32) : z_MI :=
  if (f_X7_isPeople S P x1) = true then
    if (f_X7_isPlace S P x2) = true then
      if (f_X7_proves (va_up S 110648 (upd (S 110648) 0 (nI 0))) P x1 x2) = true then
        va_up S 110648 (upd (S 110648) 0 (nI 0))
      else
        va_up S 110648 (upd (S 110648) 0 (nI 0))
    else
      va_up S 110648 (upd (S 110648) 0 (nI 1))
  else
    va_up S 110648 (upd (S 110648) 0 (nI 1))
def sp_X7_isProved : z_SP := fun as S P k => match as with
  | [.int x1, .int x2] => z_JM S ∧ k (some (.int (z_b (f_X7_isProved S P x1 x2)))) (u_X7_isProved S P x1 x2) P
  | _ => False
def G_X7_isProved : z_G := ([(0, .aload_n 0, 1, 0), (1, .aload_n 0, 2, 0), (2, .iload_n 1, 3, 0), (3, .invokevirtual 187, 6, 0), (6, .ifCond .eq 14, 9, 20), (9, .iload_n 2, 10, 0), (10, .invokestatic 203, 13, 0), (13, .ifCond .eq 7, 16, 20), (16, .iconst 0, 17, 0), (17, .goto 4, 20, 21), (20, .iconst 1, 21, 0), (21, .invokevirtual 173, 24, 0), (24, .ifCond .eq 16, 27, 40), (27, .aload_n 0, 28, 0), (28, .iload_n 1, 29, 0), (29, .iload_n 2, 30, 0), (30, .invokevirtual 222, 33, 0), (33, .ifCond .eq 7, 36, 40), (36, .iconst 1, 37, 0), (37, .goto 4, 40, 41), (40, .iconst 0, 41, 0), (41, .ireturn, 42, 0)], [], [(100203, 1, sp_X7_isPlace), (173, 2, (z_rc 110648 sp_X7_holds)), (187, 2, (z_rc 110648 sp_X7_isPeople)), (222, 3, (z_rc 110648 sp_X7_proves))], [], [], [], [], some .boolean)
set_option maxRecDepth 20000 in
set_option maxHeartbeats 4000000 in
theorem ct_X7_isProved (l : Launch) : z_CT l yX7_isProved cX7_isProved 3 (some .boolean) (z_rc 110648 sp_X7_isProved) 2 := by
  refine z_CT_of G_X7_isProved (by decide) (by decide +kernel) (z_pok_of ft_X7 ci_X7 cL_X7_L fo_X7 co_X7 lo_X7 (by decide +kernel)) rfl rfl ?_ ?_ ?_
  · intro as S P Po h0
    obtain ⟨as, rfl, h⟩ := z_rc_of h0
    unfold sp_X7_isProved at h
    split at h
    · exact Nat.le_of_ble_eq_true rfl
    · exact h.elim
  · exact List.forall_mem_cons.mpr ⟨z_coS (ct_X7_isPlace l) kb_X7_isPlace ks_X7_203 (by decide) (by decide), List.forall_mem_cons.mpr ⟨z_coV (ct_X7_holds l) kb_X7_holds kv_X7_173 ko_X7 (by decide) (by decide) (by decide), List.forall_mem_cons.mpr ⟨z_coV (ct_X7_isPeople l) kb_X7_isPeople kv_X7_187 ko_X7 (by decide) (by decide) (by decide), List.forall_mem_cons.mpr ⟨z_coV (ct_X7_proves l) kb_X7_proves kv_X7_222 ko_X7 (by decide) (by decide) (by decide), fun _ h => absurd h List.not_mem_nil⟩⟩⟩⟩
  · intro as S P Po h0 V hV hW
    obtain ⟨as, rfl, h⟩ := z_rc_of h0
    unfold sp_X7_isProved at h
    split at h
    · rename_i x1 x2
      obtain ⟨hp0, hpo⟩ := h
      refine hV [] 27 0 _ _ _ _ ?_
      refine z_br (fun (h1 : (f_X7_isPeople S P x1) = false) => ?_) (fun (h1 : (f_X7_isPeople S P x1) = true) => ?_)
      · refine z_hbF (z_hq1 _ _) ?_
        exact ⟨(by first | rfl | exact z_nb _), z_pb hpo ((if_neg (z_nt h1)).trans rfl) ((if_neg (z_nt h1)).trans rfl) (rfl)⟩
      · refine z_br (fun (h2 : (f_X7_isPlace S P x2) = false) => ?_) (fun (h2 : (f_X7_isPlace S P x2) = true) => ?_)
        · refine z_hbF (z_hq1 _ _) ?_
          exact ⟨(by first | rfl | exact z_nb _), z_pb hpo ((if_pos h1).trans ((if_neg (z_nt h2)).trans rfl)) ((if_pos h1).trans ((if_neg (z_nt h2)).trans rfl)) (rfl)⟩
        · refine z_hbT (z_hq0 _ _) ?_
          refine ⟨(show z_le ((va_up S 110648 (upd (S 110648) 0 (nI 0))) 110648 16) 60 by exact z_J_Mmarks hp0), (show vp_in x1 6 by first | exact m_isPeople hp0 (by assumption)), (show z_le ((va_up S 110648 (upd (S 110648) 0 (nI 0))) 143409 x1.toNatClampNeg) 8 by exact z_J_Mexpl hp0 _), (show z_le ((va_up S 110648 (upd (S 110648) 0 (nI 0))) 110648 1) 5000 by exact z_J_Mnow hp0), ?_⟩
          refine z_br (fun (h3 : (f_X7_proves (va_up S 110648 (upd (S 110648) 0 (nI 0))) P x1 x2) = false) => ?_) (fun (h3 : (f_X7_proves (va_up S 110648 (upd (S 110648) 0 (nI 0))) P x1 x2) = true) => ?_)
          · exact ⟨(by first | rfl | exact z_nb _), z_pb hpo ((if_pos h1).trans ((if_pos h2).trans ((if_neg (z_nt h3)).trans rfl))) ((if_pos h1).trans ((if_pos h2).trans ((if_neg (z_nt h3)).trans rfl))) (rfl)⟩
          · exact ⟨(by first | rfl | exact z_nb _), z_pb hpo ((if_pos h1).trans ((if_pos h2).trans ((if_pos h3).trans rfl))) ((if_pos h1).trans ((if_pos h2).trans ((if_pos h3).trans rfl))) (rfl)⟩
    · exact h.elim
def f_X7_act (S : z_MI) (P : z_ML) (x1 : Int32) (x2 : Int32) (x3 : Int32) (x4 : Int32) (x5 : Int32) : Int32 :=
  if (f_X7_in S P x1 (nI 0) (S 110648 1)) = true then
    if (f_X7_isWhat S P x2 x3 x4 x5 x1) = true then
      if (S 110648 24) = (nI 40) then
        nI 0
      else
        f_X7_adds (va_up S 110648 (upd (S 110648) 0 (nI 0))) P x1 x2 x3 x4 x5
    else
      nI 0
  else
    nI 0
def u_X7_act (S : z_MI) (P : z_ML) (x1 : Int32) (x2 : Int32) (x3 : Int32) (x4 : Int32) (x5 : Int32) : z_MI :=
  if (f_X7_in S P x1 (nI 0) (S 110648 1)) = true then
    if (f_X7_isWhat S P x2 x3 x4 x5 x1) = true then
      if (S 110648 24) = (nI 40) then
        va_up S 110648 (upd (S 110648) 0 (nI 2))
      else
        u_X7_adds (va_up S 110648 (upd (S 110648) 0 (nI 0))) P x1 x2 x3 x4 x5
    else
      va_up S 110648 (upd (S 110648) 0 (nI 1))
  else
    va_up S 110648 (upd (S 110648) 0 (nI 1))
def sp_X7_act : z_SP := fun as S P k => match as with
  | [.int x1, .int x2, .int x3, .int x4, .int x5] => z_JM S ∧ k (some (.int (f_X7_act S P x1 x2 x3 x4 x5))) (u_X7_act S P x1 x2 x3 x4 x5) P
  | _ => False
def G_X7_act : z_G := ([(0, .iload_n 1, 1, 0), (1, .iconst 0, 2, 0), (2, .aload_n 0, 3, 0), (3, .getfield 209, 6, 0), (6, .invokestatic 157, 9, 0), (9, .ifCond .eq 20, 12, 29), (12, .iload_n 2, 13, 0), (13, .iload_n 3, 14, 0), (14, .iload 4, 16, 0), (16, .iload 5, 18, 0), (18, .iload_n 1, 19, 0), (19, .invokestatic 226, 22, 0), (22, .ifCond .eq 7, 25, 29), (25, .iconst 1, 26, 0), (26, .goto 4, 29, 30), (29, .iconst 0, 30, 0), (30, .istore 6, 32, 0), (32, .aload_n 0, 33, 0), (33, .iload 6, 35, 0), (35, .ifCond .ne 7, 38, 42), (38, .iconst 1, 39, 0), (39, .goto 17, 42, 56), (42, .aload_n 0, 43, 0), (43, .getfield 164, 46, 0), (46, .bipush 40, 48, 0), (48, .if_icmp .ne 7, 51, 55), (51, .iconst 2, 52, 0), (52, .goto 4, 55, 56), (55, .iconst 0, 56, 0), (56, .invokevirtual 173, 59, 0), (59, .ifCond .ne 5, 62, 64), (62, .iconst 0, 63, 0), (63, .ireturn, 64, 0), (64, .aload_n 0, 65, 0), (65, .iload_n 1, 66, 0), (66, .iload_n 2, 67, 0), (67, .iload_n 3, 68, 0), (68, .iload 4, 70, 0), (70, .iload 5, 72, 0), (72, .invokevirtual 230, 75, 0), (75, .ireturn, 76, 0)], [(164, 110648, 24, none), (209, 110648, 1, none)], [(100157, 3, sp_X7_in), (100226, 5, sp_X7_isWhat), (173, 2, (z_rc 110648 sp_X7_holds)), (230, 6, (z_rc 110648 sp_X7_adds))], [], [], [], [], some .int)
set_option maxRecDepth 20000 in
set_option maxHeartbeats 4000000 in
theorem ct_X7_act (l : Launch) : z_CT l yX7_act cX7_act 7 (some .int) (z_rc 110648 sp_X7_act) 2 := by
  refine z_CT_of G_X7_act (by decide) (by decide +kernel) (z_pok_of ft_X7 ci_X7 cL_X7_L fo_X7 co_X7 lo_X7 (by decide +kernel)) rfl rfl ?_ ?_ ?_
  · intro as S P Po h0
    obtain ⟨as, rfl, h⟩ := z_rc_of h0
    unfold sp_X7_act at h
    split at h
    · exact Nat.le_of_ble_eq_true rfl
    · exact h.elim
  · exact List.forall_mem_cons.mpr ⟨z_coS (ct_X7_in l) kb_X7_in ks_X7_157 (by decide) (by decide), List.forall_mem_cons.mpr ⟨z_coS (ct_X7_isWhat l) kb_X7_isWhat ks_X7_226 (by decide) (by decide), List.forall_mem_cons.mpr ⟨z_coV (ct_X7_holds l) kb_X7_holds kv_X7_173 ko_X7 (by decide) (by decide) (by decide), List.forall_mem_cons.mpr ⟨z_coV (ct_X7_adds l) kb_X7_adds kv_X7_230 ko_X7 (by decide) (by decide) (by decide), fun _ h => absurd h List.not_mem_nil⟩⟩⟩⟩
  · intro as S P Po h0 V hV hW
    obtain ⟨as, rfl, h⟩ := z_rc_of h0
    unfold sp_X7_act at h
    split at h
    · rename_i x1 x2 x3 x4 x5
      obtain ⟨hp0, hpo⟩ := h
      refine hV [] 46 0 _ _ _ _ ?_
      refine z_br (fun (h1 : (f_X7_in S P x1 (nI 0) (S 110648 1)) = false) => ?_) (fun (h1 : (f_X7_in S P x1 (nI 0) (S 110648 1)) = true) => ?_)
      · refine ⟨fun h => absurd (by decide) h, fun _ => ?_⟩
        refine z_hnF (z_hq1 _ _) ?_
        exact z_pi hpo ((if_neg (z_nt h1)).trans rfl) ((if_neg (z_nt h1)).trans rfl) (rfl)
      · refine z_br (fun (h2 : (f_X7_isWhat S P x2 x3 x4 x5 x1) = false) => ?_) (fun (h2 : (f_X7_isWhat S P x2 x3 x4 x5 x1) = true) => ?_)
        · refine ⟨fun h => absurd (by decide) h, fun _ => ?_⟩
          refine z_hnF (z_hq1 _ _) ?_
          exact z_pi hpo ((if_pos h1).trans ((if_neg (z_nt h2)).trans rfl)) ((if_pos h1).trans ((if_neg (z_nt h2)).trans rfl)) (rfl)
        · refine ⟨fun _ => ?_, fun h => absurd h (by decide)⟩
          refine ⟨fun (h3 : ¬ ((S 110648 24) = (nI 40))) => ?_, fun (h3 : (S 110648 24) = (nI 40)) => ?_⟩
          · refine z_hnT (z_hq0 _ _) ?_
            refine ⟨(show vp_in ((va_up S 110648 (upd (S 110648) 0 (nI 0))) 110648 24) 40 by exact z_rne (by assumption) (z_J_Macts hp0) (by decide)), ?_⟩
            exact z_pi hpo ((if_pos h1).trans ((if_pos h2).trans ((if_neg h3).trans rfl))) ((if_pos h1).trans ((if_pos h2).trans ((if_neg h3).trans rfl))) (rfl)
          · refine z_hnF (z_hq2 _ _) ?_
            exact z_pi hpo ((if_pos h1).trans ((if_pos h2).trans ((if_pos h3).trans rfl))) ((if_pos h1).trans ((if_pos h2).trans ((if_pos h3).trans rfl))) (rfl)
    · exact h.elim
def f_X7_voids (S : z_MI) (P : z_ML) (x1 : Int32) (x2 : Int32) : Bool :=
  if (f_X7_isAct S P x1) = true then
    if (S 160066 x1.toNatClampNeg) = x2 then
      false
    else
      true
  else
    false
def u_X7_voids (S : z_MI) (P : z_ML) (x1 : Int32) (x2 : Int32) : z_MI :=
  if (f_X7_isAct S P x1) = true then
    if (S 160066 x1.toNatClampNeg) = x2 then
      va_up (va_up S 110648 (upd (S 110648) 0 (nI 0))) 160066 (upd ((va_up S 110648 (upd (S 110648) 0 (nI 0))) 160066) x1.toNatClampNeg (vp_nar .boolean x2))
    else
      va_up (va_up S 110648 (upd (S 110648) 0 (nI 0))) 160066 (upd ((va_up S 110648 (upd (S 110648) 0 (nI 0))) 160066) x1.toNatClampNeg (vp_nar .boolean x2))
  else
    va_up S 110648 (upd (S 110648) 0 (nI 1))
def sp_X7_voids : z_SP := fun as S P k => match as with
  | [.int x1, .int x2] => z_JM S ∧ k (some (.int (z_b (f_X7_voids S P x1 x2)))) (u_X7_voids S P x1 x2) P
  | _ => False
def G_X7_voids : z_G := ([(0, .aload_n 0, 1, 0), (1, .aload_n 0, 2, 0), (2, .iload_n 1, 3, 0), (3, .invokevirtual 234, 6, 0), (6, .ifCond .eq 7, 9, 13), (9, .iconst 0, 10, 0), (10, .goto 4, 13, 14), (13, .iconst 1, 14, 0), (14, .invokevirtual 173, 17, 0), (17, .ifCond .ne 5, 20, 22), (20, .iconst 0, 21, 0), (21, .ireturn, 22, 0), (22, .aload_n 0, 23, 0), (23, .getfield 80, 26, 0), (26, .iload_n 1, 27, 0), (27, .baload, 28, 0), (28, .iload_n 2, 29, 0), (29, .if_icmp .eq 7, 32, 36), (32, .iconst 1, 33, 0), (33, .goto 4, 36, 37), (36, .iconst 0, 37, 0), (37, .istore_n 3, 38, 0), (38, .aload_n 0, 39, 0), (39, .getfield 80, 42, 0), (42, .iload_n 1, 43, 0), (43, .iload_n 2, 44, 0), (44, .bastore, 45, 0), (45, .iload_n 3, 46, 0), (46, .ireturn, 47, 0)], [(80, 110648, 30, some 160066)], [(173, 2, (z_rc 110648 sp_X7_holds)), (234, 2, (z_rc 110648 sp_X7_isAct))], [], [], [], [], some .boolean)
set_option maxRecDepth 20000 in
set_option maxHeartbeats 4000000 in
theorem ct_X7_voids (l : Launch) : z_CT l yX7_voids cX7_voids 4 (some .boolean) (z_rc 110648 sp_X7_voids) 2 := by
  refine z_CT_of G_X7_voids (by decide) (by decide +kernel) (z_pok_of ft_X7 ci_X7 cL_X7_L fo_X7 co_X7 lo_X7 (by decide +kernel)) rfl rfl ?_ ?_ ?_
  · intro as S P Po h0
    obtain ⟨as, rfl, h⟩ := z_rc_of h0
    unfold sp_X7_voids at h
    split at h
    · exact Nat.le_of_ble_eq_true rfl
    · exact h.elim
  · exact List.forall_mem_cons.mpr ⟨z_coV (ct_X7_holds l) kb_X7_holds kv_X7_173 ko_X7 (by decide) (by decide) (by decide), List.forall_mem_cons.mpr ⟨z_coV (ct_X7_isAct l) kb_X7_isAct kv_X7_234 ko_X7 (by decide) (by decide) (by decide), fun _ h => absurd h List.not_mem_nil⟩⟩
  · intro as S P Po h0 V hV hW
    obtain ⟨as, rfl, h⟩ := z_rc_of h0
    unfold sp_X7_voids at h
    split at h
    · rename_i x1 x2
      obtain ⟨hp0, hpo⟩ := h
      refine hV [] 34 0 _ _ _ _ ?_
      refine z_br (fun (h1 : (f_X7_isAct S P x1) = false) => ?_) (fun (h1 : (f_X7_isAct S P x1) = true) => ?_)
      · refine z_hnF (z_hq1 _ _) ?_
        exact ⟨(by first | rfl | exact z_nb _), z_pb hpo ((if_neg (z_nt h1)).trans rfl) ((if_neg (z_nt h1)).trans rfl) (rfl)⟩
      · refine z_hnT (z_hq0 _ _) ?_
        refine ⟨(show vp_in x1 40 by first | exact m_isAct hp0 (by assumption)), ?_⟩
        refine ⟨fun (h2 : (S 160066 x1.toNatClampNeg) = x2) => ?_, fun (h2 : ¬ ((S 160066 x1.toNatClampNeg) = x2)) => ?_⟩
        · refine ⟨(show vp_in x1 40 by first | exact m_isAct hp0 (by assumption)), ?_⟩
          exact ⟨(by first | rfl | exact z_nb _), z_pb hpo ((if_pos h1).trans ((if_pos h2).trans rfl)) ((if_pos h1).trans ((if_pos h2).trans rfl)) (rfl)⟩
        · refine ⟨(show vp_in x1 40 by first | exact m_isAct hp0 (by assumption)), ?_⟩
          exact ⟨(by first | rfl | exact z_nb _), z_pb hpo ((if_pos h1).trans ((if_neg h2).trans rfl)) ((if_pos h1).trans ((if_neg h2).trans rfl)) (rfl)⟩
    · exact h.elim
def f_X7_giveUp (S : z_MI) (P : z_ML) (x1 : Int32) : Int32 :=
  if (f_X7_isAct S P x1) = true then
    if (S 162113 x1.toNatClampNeg) = (-1) then
      (S 110648 1) - (S 149825 x1.toNatClampNeg)
    else
      nI 0
  else
    nI 0
def u_X7_giveUp (S : z_MI) (P : z_ML) (x1 : Int32) : z_MI :=
  if (f_X7_isAct S P x1) = true then
    if (S 162113 x1.toNatClampNeg) = (-1) then
      va_up (va_up S 110648 (upd (S 110648) 0 (nI 0))) 162113 (upd ((va_up S 110648 (upd (S 110648) 0 (nI 0))) 162113) x1.toNatClampNeg (S 110648 1))
    else
      va_up S 110648 (upd (S 110648) 0 (nI 2))
  else
    va_up S 110648 (upd (S 110648) 0 (nI 1))
def sp_X7_giveUp : z_SP := fun as S P k => match as with
  | [.int x1] => z_JM S ∧ k (some (.int (f_X7_giveUp S P x1))) (u_X7_giveUp S P x1) P
  | _ => False
def G_X7_giveUp : z_G := ([(0, .aload_n 0, 1, 0), (1, .iload_n 1, 2, 0), (2, .invokevirtual 234, 5, 0), (5, .istore_n 2, 6, 0), (6, .aload_n 0, 7, 0), (7, .iload_n 2, 8, 0), (8, .ifCond .ne 7, 11, 15), (11, .iconst 1, 12, 0), (12, .goto 18, 15, 30), (15, .aload_n 0, 16, 0), (16, .getfield 84, 19, 0), (19, .iload_n 1, 20, 0), (20, .iaload, 21, 0), (21, .iconst (-1), 22, 0), (22, .if_icmp .eq 7, 25, 29), (25, .iconst 2, 26, 0), (26, .goto 4, 29, 30), (29, .iconst 0, 30, 0), (30, .invokevirtual 173, 33, 0), (33, .ifCond .ne 5, 36, 38), (36, .iconst 0, 37, 0), (37, .ireturn, 38, 0), (38, .aload_n 0, 39, 0), (39, .getfield 84, 42, 0), (42, .iload_n 1, 43, 0), (43, .aload_n 0, 44, 0), (44, .getfield 209, 47, 0), (47, .iastore, 48, 0), (48, .aload_n 0, 49, 0), (49, .getfield 209, 52, 0), (52, .aload_n 0, 53, 0), (53, .getfield 65, 56, 0), (56, .iload_n 1, 57, 0), (57, .iaload, 58, 0), (58, .isub, 59, 0), (59, .ireturn, 60, 0)], [(65, 110648, 25, some 149825), (84, 110648, 31, some 162113), (209, 110648, 1, none)], [(173, 2, (z_rc 110648 sp_X7_holds)), (234, 2, (z_rc 110648 sp_X7_isAct))], [], [], [], [], some .int)
set_option maxRecDepth 20000 in
set_option maxHeartbeats 4000000 in
theorem ct_X7_giveUp (l : Launch) : z_CT l yX7_giveUp cX7_giveUp 3 (some .int) (z_rc 110648 sp_X7_giveUp) 2 := by
  refine z_CT_of G_X7_giveUp (by decide) (by decide +kernel) (z_pok_of ft_X7 ci_X7 cL_X7_L fo_X7 co_X7 lo_X7 (by decide +kernel)) rfl rfl ?_ ?_ ?_
  · intro as S P Po h0
    obtain ⟨as, rfl, h⟩ := z_rc_of h0
    unfold sp_X7_giveUp at h
    split at h
    · exact Nat.le_of_ble_eq_true rfl
    · exact h.elim
  · exact List.forall_mem_cons.mpr ⟨z_coV (ct_X7_holds l) kb_X7_holds kv_X7_173 ko_X7 (by decide) (by decide) (by decide), List.forall_mem_cons.mpr ⟨z_coV (ct_X7_isAct l) kb_X7_isAct kv_X7_234 ko_X7 (by decide) (by decide) (by decide), fun _ h => absurd h List.not_mem_nil⟩⟩
  · intro as S P Po h0 V hV hW
    obtain ⟨as, rfl, h⟩ := z_rc_of h0
    unfold sp_X7_giveUp at h
    split at h
    · rename_i x1
      obtain ⟨hp0, hpo⟩ := h
      refine hV [] 41 0 _ _ _ _ ?_
      refine z_brn (fun (h1 : (f_X7_isAct S P x1) = true) => ?_) (fun (h1 : (f_X7_isAct S P x1) = false) => ?_)
      · refine ⟨(show vp_in x1 40 by first | exact m_isAct hp0 (by assumption)), ?_⟩
        refine ⟨fun (h2 : (S 162113 x1.toNatClampNeg) = (-1)) => ?_, fun (h2 : ¬ ((S 162113 x1.toNatClampNeg) = (-1))) => ?_⟩
        · refine z_hnT (z_hq0 _ _) ?_
          refine ⟨(show vp_in x1 40 by first | exact m_isAct hp0 (by assumption)), ?_⟩
          refine ⟨(show vp_in x1 40 by first | exact m_isAct hp0 (by assumption)), ?_⟩
          exact z_pi hpo ((if_pos h1).trans ((if_pos h2).trans rfl)) ((if_pos h1).trans ((if_pos h2).trans rfl)) (rfl)
        · refine z_hnF (z_hq2 _ _) ?_
          exact z_pi hpo ((if_pos h1).trans ((if_neg h2).trans rfl)) ((if_pos h1).trans ((if_neg h2).trans rfl)) (rfl)
      · refine z_hnF (z_hq1 _ _) ?_
        exact z_pi hpo ((if_neg (z_nt h1)).trans rfl) ((if_neg (z_nt h1)).trans rfl) (rfl)
    · exact h.elim
def f_X7_left (S : z_MI) (P : z_ML) (x1 : Int32) (x2 : Int32) : Int32 :=
  if (f_X7_isPlace S P x1) = true then
    if (f_X7_in S P x2 (nI 0) (nI 5000)) = true then
      f_X7_leftIn (va_up S 110648 (upd (S 110648) 0 (nI 0))) P x1 x2
    else
      nI 0
  else
    nI 0
def u_X7_left (S : z_MI) (P : z_ML) (x1 : Int32) (x2 : Int32) : z_MI :=
  if (f_X7_isPlace S P x1) = true then
    if (f_X7_in S P x2 (nI 0) (nI 5000)) = true then
      va_up S 110648 (upd (S 110648) 0 (nI 0))
    else
      va_up S 110648 (upd (S 110648) 0 (nI 2))
  else
    va_up S 110648 (upd (S 110648) 0 (nI 1))
def sp_X7_left : z_SP := fun as S P k => match as with
  | [.int x1, .int x2] => z_JM S ∧ k (some (.int (f_X7_left S P x1 x2))) (u_X7_left S P x1 x2) P
  | _ => False
def G_X7_left : z_G := ([(0, .aload_n 0, 1, 0), (1, .iload_n 1, 2, 0), (2, .invokestatic 203, 5, 0), (5, .ifCond .ne 7, 8, 12), (8, .iconst 1, 9, 0), (9, .goto 19, 12, 28), (12, .iload_n 2, 13, 0), (13, .iconst 0, 14, 0), (14, .sipush 5000, 17, 0), (17, .invokestatic 157, 20, 0), (20, .ifCond .eq 7, 23, 27), (23, .iconst 0, 24, 0), (24, .goto 4, 27, 28), (27, .iconst 2, 28, 0), (28, .invokevirtual 173, 31, 0), (31, .ifCond .eq 12, 34, 43), (34, .aload_n 0, 35, 0), (35, .iload_n 1, 36, 0), (36, .iload_n 2, 37, 0), (37, .invokevirtual 240, 40, 0), (40, .goto 4, 43, 44), (43, .iconst 0, 44, 0), (44, .ireturn, 45, 0)], [], [(100157, 3, sp_X7_in), (100203, 1, sp_X7_isPlace), (173, 2, (z_rc 110648 sp_X7_holds)), (240, 3, (z_rc 110648 sp_X7_leftIn))], [], [], [], [], some .int)
set_option maxRecDepth 20000 in
set_option maxHeartbeats 4000000 in
theorem ct_X7_left (l : Launch) : z_CT l yX7_left cX7_left 3 (some .int) (z_rc 110648 sp_X7_left) 3 := by
  refine z_CT_of G_X7_left (by decide) (by decide +kernel) (z_pok_of ft_X7 ci_X7 cL_X7_L fo_X7 co_X7 lo_X7 (by decide +kernel)) rfl rfl ?_ ?_ ?_
  · intro as S P Po h0
    obtain ⟨as, rfl, h⟩ := z_rc_of h0
    unfold sp_X7_left at h
    split at h
    · exact Nat.le_of_ble_eq_true rfl
    · exact h.elim
  · exact List.forall_mem_cons.mpr ⟨z_coS (ct_X7_in l) kb_X7_in ks_X7_157 (by decide) (by decide), List.forall_mem_cons.mpr ⟨z_coS (ct_X7_isPlace l) kb_X7_isPlace ks_X7_203 (by decide) (by decide), List.forall_mem_cons.mpr ⟨z_coV (ct_X7_holds l) kb_X7_holds kv_X7_173 ko_X7 (by decide) (by decide) (by decide), List.forall_mem_cons.mpr ⟨z_coV (ct_X7_leftIn l) kb_X7_leftIn kv_X7_240 ko_X7 (by decide) (by decide) (by decide), fun _ h => absurd h List.not_mem_nil⟩⟩⟩⟩
  · intro as S P Po h0 V hV hW
    obtain ⟨as, rfl, h⟩ := z_rc_of h0
    unfold sp_X7_left at h
    split at h
    · rename_i x1 x2
      obtain ⟨hp0, hpo⟩ := h
      refine hV [] 28 0 _ _ _ _ ?_
      refine z_brn (fun (h1 : (f_X7_isPlace S P x1) = true) => ?_) (fun (h1 : (f_X7_isPlace S P x1) = false) => ?_)
      · refine z_br (fun (h2 : (f_X7_in S P x2 (nI 0) (nI 5000)) = false) => ?_) (fun (h2 : (f_X7_in S P x2 (nI 0) (nI 5000)) = true) => ?_)
        · refine z_hbF (z_hq2 _ _) ?_
          exact z_pi hpo ((if_pos h1).trans ((if_neg (z_nt h2)).trans rfl)) ((if_pos h1).trans ((if_neg (z_nt h2)).trans rfl)) (rfl)
        · refine z_hbT (z_hq0 _ _) ?_
          refine ⟨(show z_le ((va_up S 110648 (upd (S 110648) 0 (nI 0))) 110648 24) 40 by exact z_J_Macts hp0), ?_⟩
          exact z_pi hpo ((if_pos h1).trans ((if_pos h2).trans rfl)) ((if_pos h1).trans ((if_pos h2).trans rfl)) (rfl)
      · refine z_hbF (z_hq1 _ _) ?_
        exact z_pi hpo ((if_neg (z_nt h1)).trans rfl) ((if_neg (z_nt h1)).trans rfl) (rfl)
    · exact h.elim
def f_X7_leftAnew (S : z_MI) (P : z_ML) (x1 : Int32) (x2 : Int32) : Int32 :=
  f_X7_left S P x1 x2
def u_X7_leftAnew (S : z_MI) (P : z_ML) (x1 : Int32) (x2 : Int32) : z_MI :=
  u_X7_left S P x1 x2
def sp_X7_leftAnew : z_SP := fun as S P k => match as with
  | [.int x1, .int x2] => z_JM S ∧ k (some (.int (f_X7_leftAnew S P x1 x2))) (u_X7_leftAnew S P x1 x2) P
  | _ => False
def G_X7_leftAnew : z_G := ([(0, .aload_n 0, 1, 0), (1, .iload_n 1, 2, 0), (2, .iload_n 2, 3, 0), (3, .invokevirtual 244, 6, 0), (6, .ireturn, 7, 0)], [], [(244, 3, (z_rc 110648 sp_X7_left))], [], [], [], [], some .int)
set_option maxRecDepth 20000 in
set_option maxHeartbeats 4000000 in
theorem ct_X7_leftAnew (l : Launch) : z_CT l yX7_leftAnew cX7_leftAnew 3 (some .int) (z_rc 110648 sp_X7_leftAnew) 4 := by
  refine z_CT_of G_X7_leftAnew (by decide) (by decide +kernel) (z_pok_of ft_X7 ci_X7 cL_X7_L fo_X7 co_X7 lo_X7 (by decide +kernel)) rfl rfl ?_ ?_ ?_
  · intro as S P Po h0
    obtain ⟨as, rfl, h⟩ := z_rc_of h0
    unfold sp_X7_leftAnew at h
    split at h
    · exact Nat.le_of_ble_eq_true rfl
    · exact h.elim
  · exact List.forall_mem_cons.mpr ⟨z_coV (ct_X7_left l) kb_X7_left kv_X7_244 ko_X7 (by decide) (by decide) (by decide), fun _ h => absurd h List.not_mem_nil⟩
  · intro as S P Po h0 V hV hW
    obtain ⟨as, rfl, h⟩ := z_rc_of h0
    unfold sp_X7_leftAnew at h
    split at h
    · rename_i x1 x2
      obtain ⟨hp0, hpo⟩ := h
      refine hV [] 10 0 _ _ _ _ ?_
      refine ⟨(show z_JM S by assumption), ?_⟩
      exact z_pi hpo (rfl) (rfl) (rfl)
    · exact h.elim
