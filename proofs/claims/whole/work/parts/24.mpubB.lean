def f_X7_claim (S : z_MI) (P : z_ML) (x1 : Int32) (x2 : Int32) (x3 : Int32) : Int32 :=
  if (f_X7_in S P x2 (nI 1) (nI 65535)) = true then
    if (f_X7_in S P x3 (nI 1) (nI 31)) = true then
      if (f_X7_isPeople S P x1) = true then
        if (S 110648 33) = (nI 12) then
          nI 0
        else
          ((S 110648 33) + (nI 1)) - (nI 1)
      else
        nI 0
    else
      if (f_X7_isPeople S P x1) = true then
        nI 0
      else
        nI 0
  else
    if (f_X7_isPeople S P x1) = true then
      nI 0
    else
      nI 0
def u_X7_claim (S : z_MI) (P : z_ML) (x1 : Int32) (x2 : Int32) (x3 : Int32) : z_MI :=
  if (f_X7_in S P x2 (nI 1) (nI 65535)) = true then
    if (f_X7_in S P x3 (nI 1) (nI 31)) = true then
      if (f_X7_isPeople S P x1) = true then
        if (S 110648 33) = (nI 12) then
          va_up S 110648 (upd (S 110648) 0 (nI 3))
        else
          va_up (va_up (va_up (va_up (va_up (va_up S 110648 (upd (S 110648) 0 (nI 0))) 165985 (upd ((va_up S 110648 (upd (S 110648) 0 (nI 0))) 165985) ((S 110648 33).toNatClampNeg) x1)) 168033 (upd ((va_up (va_up S 110648 (upd (S 110648) 0 (nI 0))) 165985 (upd ((va_up S 110648 (upd (S 110648) 0 (nI 0))) 165985) ((S 110648 33).toNatClampNeg) x1)) 168033) ((S 110648 33).toNatClampNeg) x2)) 170081 (upd ((va_up (va_up (va_up S 110648 (upd (S 110648) 0 (nI 0))) 165985 (upd ((va_up S 110648 (upd (S 110648) 0 (nI 0))) 165985) ((S 110648 33).toNatClampNeg) x1)) 168033 (upd ((va_up (va_up S 110648 (upd (S 110648) 0 (nI 0))) 165985 (upd ((va_up S 110648 (upd (S 110648) 0 (nI 0))) 165985) ((S 110648 33).toNatClampNeg) x1)) 168033) ((S 110648 33).toNatClampNeg) x2)) 170081) ((S 110648 33).toNatClampNeg) x3)) 176225 (upd ((va_up (va_up (va_up (va_up S 110648 (upd (S 110648) 0 (nI 0))) 165985 (upd ((va_up S 110648 (upd (S 110648) 0 (nI 0))) 165985) ((S 110648 33).toNatClampNeg) x1)) 168033 (upd ((va_up (va_up S 110648 (upd (S 110648) 0 (nI 0))) 165985 (upd ((va_up S 110648 (upd (S 110648) 0 (nI 0))) 165985) ((S 110648 33).toNatClampNeg) x1)) 168033) ((S 110648 33).toNatClampNeg) x2)) 170081 (upd ((va_up (va_up (va_up S 110648 (upd (S 110648) 0 (nI 0))) 165985 (upd ((va_up S 110648 (upd (S 110648) 0 (nI 0))) 165985) ((S 110648 33).toNatClampNeg) x1)) 168033 (upd ((va_up (va_up S 110648 (upd (S 110648) 0 (nI 0))) 165985 (upd ((va_up S 110648 (upd (S 110648) 0 (nI 0))) 165985) ((S 110648 33).toNatClampNeg) x1)) 168033) ((S 110648 33).toNatClampNeg) x2)) 170081) ((S 110648 33).toNatClampNeg) x3)) 176225) ((S 110648 33).toNatClampNeg) (-1))) 110648 (upd ((va_up (va_up (va_up (va_up (va_up S 110648 (upd (S 110648) 0 (nI 0))) 165985 (upd ((va_up S 110648 (upd (S 110648) 0 (nI 0))) 165985) ((S 110648 33).toNatClampNeg) x1)) 168033 (upd ((va_up (va_up S 110648 (upd (S 110648) 0 (nI 0))) 165985 (upd ((va_up S 110648 (upd (S 110648) 0 (nI 0))) 165985) ((S 110648 33).toNatClampNeg) x1)) 168033) ((S 110648 33).toNatClampNeg) x2)) 170081 (upd ((va_up (va_up (va_up S 110648 (upd (S 110648) 0 (nI 0))) 165985 (upd ((va_up S 110648 (upd (S 110648) 0 (nI 0))) 165985) ((S 110648 33).toNatClampNeg) x1)) 168033 (upd ((va_up (va_up S 110648 (upd (S 110648) 0 (nI 0))) 165985 (upd ((va_up S 110648 (upd (S 110648) 0 (nI 0))) 165985) ((S 110648 33).toNatClampNeg) x1)) 168033) ((S 110648 33).toNatClampNeg) x2)) 170081) ((S 110648 33).toNatClampNeg) x3)) 176225 (upd ((va_up (va_up (va_up (va_up S 110648 (upd (S 110648) 0 (nI 0))) 165985 (upd ((va_up S 110648 (upd (S 110648) 0 (nI 0))) 165985) ((S 110648 33).toNatClampNeg) x1)) 168033 (upd ((va_up (va_up S 110648 (upd (S 110648) 0 (nI 0))) 165985 (upd ((va_up S 110648 (upd (S 110648) 0 (nI 0))) 165985) ((S 110648 33).toNatClampNeg) x1)) 168033) ((S 110648 33).toNatClampNeg) x2)) 170081 (upd ((va_up (va_up (va_up S 110648 (upd (S 110648) 0 (nI 0))) 165985 (upd ((va_up S 110648 (upd (S 110648) 0 (nI 0))) 165985) ((S 110648 33).toNatClampNeg) x1)) 168033 (upd ((va_up (va_up S 110648 (upd (S 110648) 0 (nI 0))) 165985 (upd ((va_up S 110648 (upd (S 110648) 0 (nI 0))) 165985) ((S 110648 33).toNatClampNeg) x1)) 168033) ((S 110648 33).toNatClampNeg) x2)) 170081) ((S 110648 33).toNatClampNeg) x3)) 176225) ((S 110648 33).toNatClampNeg) (-1))) 110648) 33 ((S 110648 33) + (nI 1)))
      else
        va_up S 110648 (upd (S 110648) 0 (nI 1))
    else
      if (f_X7_isPeople S P x1) = true then
        va_up S 110648 (upd (S 110648) 0 (nI 2))
      else
        va_up S 110648 (upd (S 110648) 0 (nI 1))
  else
    if (f_X7_isPeople S P x1) = true then
      va_up S 110648 (upd (S 110648) 0 (nI 2))
    else
      va_up S 110648 (upd (S 110648) 0 (nI 1))
def sp_X7_claim : z_SP := fun as S P k => match as with
  | [.int x1, .int x2, .int x3] => z_JM S ∧ k (some (.int (f_X7_claim S P x1 x2 x3))) (u_X7_claim S P x1 x2 x3) P
  | _ => False
def G_X7_claim : z_G := ([(0, .iload_n 2, 1, 0), (1, .iconst 1, 2, 0), (2, .ldc 225, 4, 0), (4, .invokestatic 157, 7, 0), (7, .ifCond .eq 17, 10, 24), (10, .iload_n 3, 11, 0), (11, .iconst 1, 12, 0), (12, .bipush 31, 14, 0), (14, .invokestatic 157, 17, 0), (17, .ifCond .eq 7, 20, 24), (20, .iconst 1, 21, 0), (21, .goto 4, 24, 25), (24, .iconst 0, 25, 0), (25, .istore 4, 27, 0), (27, .aload_n 0, 28, 0), (28, .aload_n 0, 29, 0), (29, .iload_n 1, 30, 0), (30, .invokevirtual 187, 33, 0), (33, .ifCond .ne 7, 36, 40), (36, .iconst 1, 37, 0), (37, .goto 26, 40, 63), (40, .iload 4, 42, 0), (42, .ifCond .ne 7, 45, 49), (45, .iconst 2, 46, 0), (46, .goto 17, 49, 63), (49, .aload_n 0, 50, 0), (50, .getfield 167, 53, 0), (53, .bipush 12, 55, 0), (55, .if_icmp .ne 7, 58, 62), (58, .iconst 3, 59, 0), (59, .goto 4, 62, 63), (62, .iconst 0, 63, 0), (63, .invokevirtual 173, 66, 0), (66, .ifCond .ne 5, 69, 71), (69, .iconst 0, 70, 0), (70, .ireturn, 71, 0), (71, .aload_n 0, 72, 0), (72, .getfield 90, 75, 0), (75, .aload_n 0, 76, 0), (76, .getfield 167, 79, 0), (79, .iload_n 1, 80, 0), (80, .iastore, 81, 0), (81, .aload_n 0, 82, 0), (82, .getfield 93, 85, 0), (85, .aload_n 0, 86, 0), (86, .getfield 167, 89, 0), (89, .iload_n 2, 90, 0), (90, .iastore, 91, 0), (91, .aload_n 0, 92, 0), (92, .getfield 96, 95, 0), (95, .aload_n 0, 96, 0), (96, .getfield 167, 99, 0), (99, .iload_n 3, 100, 0), (100, .iastore, 101, 0), (101, .aload_n 0, 102, 0), (102, .getfield 105, 105, 0), (105, .aload_n 0, 106, 0), (106, .getfield 167, 109, 0), (109, .iconst (-1), 110, 0), (110, .iastore, 111, 0), (111, .aload_n 0, 112, 0), (112, .dup, 113, 0), (113, .getfield 167, 116, 0), (116, .iconst 1, 117, 0), (117, .iadd, 118, 0), (118, .putfield 167, 121, 0), (121, .aload_n 0, 122, 0), (122, .getfield 167, 125, 0), (125, .iconst 1, 126, 0), (126, .isub, 127, 0), (127, .ireturn, 128, 0)], [(90, 110648, 34, some 165985), (93, 110648, 35, some 168033), (96, 110648, 36, some 170081), (105, 110648, 39, some 176225), (167, 110648, 33, none)], [(100157, 3, sp_X7_in), (173, 2, (z_rc 110648 sp_X7_holds)), (187, 2, (z_rc 110648 sp_X7_isPeople))], [(225, 65535)], [], [], [], some .int)
set_option maxRecDepth 20000 in
set_option maxHeartbeats 4000000 in
theorem ct_X7_claim (l : Launch) : z_CT l yX7_claim cX7_claim 5 (some .int) (z_rc 110648 sp_X7_claim) 2 := by
  refine z_CT_of G_X7_claim (by decide) (by decide +kernel) (z_pok_of ft_X7 ci_X7 cL_X7_L fo_X7 co_X7 lo_X7 (by decide +kernel)) rfl rfl ?_ ?_ ?_
  · intro as S P Po h0
    obtain ⟨as, rfl, h⟩ := z_rc_of h0
    unfold sp_X7_claim at h
    split at h
    · exact Nat.le_of_ble_eq_true rfl
    · exact h.elim
  · exact List.forall_mem_cons.mpr ⟨z_coS (ct_X7_in l) kb_X7_in ks_X7_157 (by decide) (by decide), List.forall_mem_cons.mpr ⟨z_coV (ct_X7_holds l) kb_X7_holds kv_X7_173 ko_X7 (by decide) (by decide) (by decide), List.forall_mem_cons.mpr ⟨z_coV (ct_X7_isPeople l) kb_X7_isPeople kv_X7_187 ko_X7 (by decide) (by decide) (by decide), fun _ h => absurd h List.not_mem_nil⟩⟩⟩
  · intro as S P Po h0 V hV hW
    obtain ⟨as, rfl, h⟩ := z_rc_of h0
    unfold sp_X7_claim at h
    split at h
    · rename_i x1 x2 x3
      obtain ⟨hp0, hpo⟩ := h
      refine hV [] 76 0 _ _ _ _ ?_
      refine z_br (fun (h1 : (f_X7_in S P x2 (nI 1) (nI 65535)) = false) => ?_) (fun (h1 : (f_X7_in S P x2 (nI 1) (nI 65535)) = true) => ?_)
      · refine z_brn (fun (h2 : (f_X7_isPeople S P x1) = true) => ?_) (fun (h2 : (f_X7_isPeople S P x1) = false) => ?_)
        · refine ⟨fun h => absurd (by decide) h, fun _ => ?_⟩
          refine z_hnF (z_hq2 _ _) ?_
          exact z_pi hpo ((if_neg (z_nt h1)).trans ((if_pos h2).trans rfl)) ((if_neg (z_nt h1)).trans ((if_pos h2).trans rfl)) (rfl)
        · refine z_hnF (z_hq1 _ _) ?_
          exact z_pi hpo ((if_neg (z_nt h1)).trans ((if_neg (z_nt h2)).trans rfl)) ((if_neg (z_nt h1)).trans ((if_neg (z_nt h2)).trans rfl)) (rfl)
      · refine z_br (fun (h3 : (f_X7_in S P x3 (nI 1) (nI 31)) = false) => ?_) (fun (h3 : (f_X7_in S P x3 (nI 1) (nI 31)) = true) => ?_)
        · refine z_brn (fun (h4 : (f_X7_isPeople S P x1) = true) => ?_) (fun (h4 : (f_X7_isPeople S P x1) = false) => ?_)
          · refine ⟨fun h => absurd (by decide) h, fun _ => ?_⟩
            refine z_hnF (z_hq2 _ _) ?_
            exact z_pi hpo ((if_pos h1).trans ((if_neg (z_nt h3)).trans ((if_pos h4).trans rfl))) ((if_pos h1).trans ((if_neg (z_nt h3)).trans ((if_pos h4).trans rfl))) (rfl)
          · refine z_hnF (z_hq1 _ _) ?_
            exact z_pi hpo ((if_pos h1).trans ((if_neg (z_nt h3)).trans ((if_neg (z_nt h4)).trans rfl))) ((if_pos h1).trans ((if_neg (z_nt h3)).trans ((if_neg (z_nt h4)).trans rfl))) (rfl)
        · refine z_brn (fun (h5 : (f_X7_isPeople S P x1) = true) => ?_) (fun (h5 : (f_X7_isPeople S P x1) = false) => ?_)
          · refine ⟨fun _ => ?_, fun h => absurd h (by decide)⟩
            refine ⟨fun (h6 : ¬ ((S 110648 33) = (nI 12))) => ?_, fun (h6 : (S 110648 33) = (nI 12)) => ?_⟩
            · refine z_hnT (z_hq0 _ _) ?_
              refine ⟨(show vp_in (S 110648 33) 12 by exact z_rne (by assumption) (z_J_Mclaims hp0) (by decide)), ?_⟩
              refine ⟨(show vp_in (S 110648 33) 12 by exact z_rne (by assumption) (z_J_Mclaims hp0) (by decide)), ?_⟩
              refine ⟨(show vp_in (S 110648 33) 12 by exact z_rne (by assumption) (z_J_Mclaims hp0) (by decide)), ?_⟩
              refine ⟨(show vp_in (S 110648 33) 12 by exact z_rne (by assumption) (z_J_Mclaims hp0) (by decide)), ?_⟩
              exact z_pi hpo ((if_pos h1).trans ((if_pos h3).trans ((if_pos h5).trans ((if_neg h6).trans rfl)))) ((if_pos h1).trans ((if_pos h3).trans ((if_pos h5).trans ((if_neg h6).trans rfl)))) (rfl)
            · refine z_hnF (z_hq3 _ _) ?_
              exact z_pi hpo ((if_pos h1).trans ((if_pos h3).trans ((if_pos h5).trans ((if_pos h6).trans rfl)))) ((if_pos h1).trans ((if_pos h3).trans ((if_pos h5).trans ((if_pos h6).trans rfl)))) (rfl)
          · refine z_hnF (z_hq1 _ _) ?_
            exact z_pi hpo ((if_pos h1).trans ((if_pos h3).trans ((if_neg (z_nt h5)).trans rfl))) ((if_pos h1).trans ((if_pos h3).trans ((if_neg (z_nt h5)).trans rfl))) (rfl)
    · exact h.elim
def u_X7_vote (S : z_MI) (P : z_ML) (x1 : Int32) (x2 : Int32) (x3 : Int32) : z_MI :=
  if (f_X7_isPerson S P x1) = true then
    if (f_X7_isClaim S P x2) = true then
      if (S 172129 x2.toNatClampNeg) = 0 then
        if (f_X7_has S P (f_X7_membersOf S P (S 165985 x2.toNatClampNeg)) x1) = true then
          if x3 = 0 then
            va_up (va_up (va_up S 110648 (upd (S 110648) 0 (nI 0))) 178273 (upd ((va_up S 110648 (upd (S 110648) 0 (nI 0))) 178273) x2.toNatClampNeg ((S 178273 x2.toNatClampNeg) ||| ((nI 1) <<< (x1 &&& 31))))) 180321 (upd ((va_up (va_up S 110648 (upd (S 110648) 0 (nI 0))) 178273 (upd ((va_up S 110648 (upd (S 110648) 0 (nI 0))) 178273) x2.toNatClampNeg ((S 178273 x2.toNatClampNeg) ||| ((nI 1) <<< (x1 &&& 31))))) 180321) x2.toNatClampNeg (((S 180321 x2.toNatClampNeg) &&& (((nI 1) <<< (x1 &&& 31)) ^^^ (-1))) ||| (nI 0)))
          else
            va_up (va_up (va_up S 110648 (upd (S 110648) 0 (nI 0))) 178273 (upd ((va_up S 110648 (upd (S 110648) 0 (nI 0))) 178273) x2.toNatClampNeg ((S 178273 x2.toNatClampNeg) ||| ((nI 1) <<< (x1 &&& 31))))) 180321 (upd ((va_up (va_up S 110648 (upd (S 110648) 0 (nI 0))) 178273 (upd ((va_up S 110648 (upd (S 110648) 0 (nI 0))) 178273) x2.toNatClampNeg ((S 178273 x2.toNatClampNeg) ||| ((nI 1) <<< (x1 &&& 31))))) 180321) x2.toNatClampNeg (((S 180321 x2.toNatClampNeg) &&& (((nI 1) <<< (x1 &&& 31)) ^^^ (-1))) ||| ((nI 1) <<< (x1 &&& 31))))
        else
          va_up S 110648 (upd (S 110648) 0 (nI 2))
      else
        va_up S 110648 (upd (S 110648) 0 (nI 2))
    else
      va_up S 110648 (upd (S 110648) 0 (nI 1))
  else
    va_up S 110648 (upd (S 110648) 0 (nI 1))
def sp_X7_vote : z_SP := fun as S P k => match as with
  | [.int x1, .int x2, .int x3] => z_JM S ∧ k (none) (u_X7_vote S P x1 x2 x3) P
  | _ => False
def G_X7_vote : z_G := ([(0, .aload_n 0, 1, 0), (1, .iload_n 1, 2, 0), (2, .invokevirtual 177, 5, 0), (5, .ifCond .eq 15, 8, 20), (8, .aload_n 0, 9, 0), (9, .iload_n 2, 10, 0), (10, .invokevirtual 247, 13, 0), (13, .ifCond .eq 7, 16, 20), (16, .iconst 1, 17, 0), (17, .goto 4, 20, 21), (20, .iconst 0, 21, 0), (21, .istore 4, 23, 0), (23, .iload 4, 25, 0), (25, .ifCond .eq 33, 28, 58), (28, .aload_n 0, 29, 0), (29, .getfield 99, 32, 0), (32, .iload_n 2, 33, 0), (33, .iaload, 34, 0), (34, .ifCond .ne 24, 37, 58), (37, .aload_n 0, 38, 0), (38, .aload_n 0, 39, 0), (39, .getfield 90, 42, 0), (42, .iload_n 2, 43, 0), (43, .iaload, 44, 0), (44, .invokevirtual 190, 47, 0), (47, .iload_n 1, 48, 0), (48, .invokestatic 180, 51, 0), (51, .ifCond .eq 7, 54, 58), (54, .iconst 1, 55, 0), (55, .goto 4, 58, 59), (58, .iconst 0, 59, 0), (59, .istore 5, 61, 0), (61, .aload_n 0, 62, 0), (62, .iload 4, 64, 0), (64, .ifCond .ne 7, 67, 71), (67, .iconst 1, 68, 0), (68, .goto 13, 71, 81), (71, .iload 5, 73, 0), (73, .ifCond .eq 7, 76, 80), (76, .iconst 0, 77, 0), (77, .goto 4, 80, 81), (80, .iconst 2, 81, 0), (81, .invokevirtual 173, 84, 0), (84, .ifCond .eq 45, 87, 129), (87, .aload_n 0, 88, 0), (88, .getfield 108, 91, 0), (91, .iload_n 2, 92, 0), (92, .dup2, 93, 0), (93, .iaload, 94, 0), (94, .iconst 1, 95, 0), (95, .iload_n 1, 96, 0), (96, .ishl, 97, 0), (97, .ior, 98, 0), (98, .iastore, 99, 0), (99, .aload_n 0, 100, 0), (100, .getfield 111, 103, 0), (103, .iload_n 2, 104, 0), (104, .aload_n 0, 105, 0), (105, .getfield 111, 108, 0), (108, .iload_n 2, 109, 0), (109, .iaload, 110, 0), (110, .iconst 1, 111, 0), (111, .iload_n 1, 112, 0), (112, .ishl, 113, 0), (113, .iconst (-1), 114, 0), (114, .ixor, 115, 0), (115, .iand, 116, 0), (116, .iload_n 3, 117, 0), (117, .ifCond .eq 9, 120, 126), (120, .iconst 1, 121, 0), (121, .iload_n 1, 122, 0), (122, .ishl, 123, 0), (123, .goto 4, 126, 127), (126, .iconst 0, 127, 0), (127, .ior, 128, 0), (128, .iastore, 129, 0), (129, .return_, 130, 0)], [(90, 110648, 34, some 165985), (99, 110648, 37, some 172129), (108, 110648, 40, some 178273), (111, 110648, 41, some 180321)], [(100180, 2, sp_X7_has), (173, 2, (z_rc 110648 sp_X7_holds)), (177, 2, (z_rc 110648 sp_X7_isPerson)), (190, 2, (z_rc 110648 sp_X7_membersOf)), (247, 2, (z_rc 110648 sp_X7_isClaim))], [], [], [], [], none)
set_option maxRecDepth 20000 in
set_option maxHeartbeats 4000000 in
theorem ct_X7_vote (l : Launch) : z_CT l yX7_vote cX7_vote 6 (none) (z_rc 110648 sp_X7_vote) 3 := by
  refine z_CT_of G_X7_vote (by decide) (by decide +kernel) (z_pok_of ft_X7 ci_X7 cL_X7_L fo_X7 co_X7 lo_X7 (by decide +kernel)) rfl rfl ?_ ?_ ?_
  · intro as S P Po h0
    obtain ⟨as, rfl, h⟩ := z_rc_of h0
    unfold sp_X7_vote at h
    split at h
    · exact Nat.le_of_ble_eq_true rfl
    · exact h.elim
  · exact List.forall_mem_cons.mpr ⟨z_coS (ct_X7_has l) kb_X7_has ks_X7_180 (by decide) (by decide), List.forall_mem_cons.mpr ⟨z_coV (ct_X7_holds l) kb_X7_holds kv_X7_173 ko_X7 (by decide) (by decide) (by decide), List.forall_mem_cons.mpr ⟨z_coV (ct_X7_isPerson l) kb_X7_isPerson kv_X7_177 ko_X7 (by decide) (by decide) (by decide), List.forall_mem_cons.mpr ⟨z_coV (ct_X7_membersOf l) kb_X7_membersOf kv_X7_190 ko_X7 (by decide) (by decide) (by decide), List.forall_mem_cons.mpr ⟨z_coV (ct_X7_isClaim l) kb_X7_isClaim kv_X7_247 ko_X7 (by decide) (by decide) (by decide), fun _ h => absurd h List.not_mem_nil⟩⟩⟩⟩⟩
  · intro as S P Po h0 V hV hW
    obtain ⟨as, rfl, h⟩ := z_rc_of h0
    unfold sp_X7_vote at h
    split at h
    · rename_i x1 x2 x3
      obtain ⟨hp0, hpo⟩ := h
      refine hV [] 82 0 _ _ _ _ ?_
      refine z_br (fun (h1 : (f_X7_isPerson S P x1) = false) => ?_) (fun (h1 : (f_X7_isPerson S P x1) = true) => ?_)
      · refine ⟨fun _ => ?_, fun h => absurd (by decide) h⟩
        refine ⟨fun h => absurd (by decide) h, fun _ => ?_⟩
        refine z_hbF (z_hq1 _ _) ?_
        exact z_pv hpo ((if_neg (z_nt h1)).trans rfl) (rfl)
      · refine z_br (fun (h2 : (f_X7_isClaim S P x2) = false) => ?_) (fun (h2 : (f_X7_isClaim S P x2) = true) => ?_)
        · refine ⟨fun _ => ?_, fun h => absurd (by decide) h⟩
          refine ⟨fun h => absurd (by decide) h, fun _ => ?_⟩
          refine z_hbF (z_hq1 _ _) ?_
          exact z_pv hpo ((if_pos h1).trans ((if_neg (z_nt h2)).trans rfl)) (rfl)
        · refine ⟨fun h => absurd h (by decide), fun _ => ?_⟩
          refine ⟨(show vp_in x2 12 by first | exact m_isClaim hp0 (by assumption) | exact m_isNotice hp0 (by assumption)), ?_⟩
          refine ⟨fun (h3 : ¬ ((S 172129 x2.toNatClampNeg) = 0)) => ?_, fun (h3 : (S 172129 x2.toNatClampNeg) = 0) => ?_⟩
          · refine ⟨fun _ => ?_, fun h => absurd h (by decide)⟩
            refine ⟨fun _ => ?_, fun h => absurd (by decide) h⟩
            refine z_hbF (z_hq2 _ _) ?_
            exact z_pv hpo ((if_pos h1).trans ((if_pos h2).trans ((if_neg h3).trans rfl))) (rfl)
          · refine ⟨(show vp_in x2 12 by first | exact m_isClaim hp0 (by assumption) | exact m_isNotice hp0 (by assumption)), ?_⟩
            refine ⟨(show vp_in (S 165985 x2.toNatClampNeg) 6 by exact z_J_Mclp hp0 _), (show z_le (S 110648 6) 30 by exact z_J_Mpersons hp0), ?_⟩
            refine z_br (fun (h4 : (f_X7_has S P (f_X7_membersOf S P (S 165985 x2.toNatClampNeg)) x1) = false) => ?_) (fun (h4 : (f_X7_has S P (f_X7_membersOf S P (S 165985 x2.toNatClampNeg)) x1) = true) => ?_)
            · refine ⟨fun _ => ?_, fun h => absurd h (by decide)⟩
              refine ⟨fun _ => ?_, fun h => absurd (by decide) h⟩
              refine z_hbF (z_hq2 _ _) ?_
              exact z_pv hpo ((if_pos h1).trans ((if_pos h2).trans ((if_pos h3).trans ((if_neg (z_nt h4)).trans rfl)))) (rfl)
            · refine ⟨fun _ => ?_, fun h => absurd h (by decide)⟩
              refine ⟨fun h => absurd h (by decide), fun _ => ?_⟩
              refine z_hbT (z_hq0 _ _) ?_
              refine ⟨(show vp_in x2 12 by first | exact m_isClaim hp0 (by assumption) | exact m_isNotice hp0 (by assumption)), ?_⟩
              refine ⟨(show vp_in x2 12 by first | exact m_isClaim hp0 (by assumption) | exact m_isNotice hp0 (by assumption)), ?_⟩
              refine ⟨(show vp_in x2 12 by first | exact m_isClaim hp0 (by assumption) | exact m_isNotice hp0 (by assumption)), ?_⟩
              refine ⟨fun (h5 : x3 = 0) => ?_, fun (h5 : ¬ (x3 = 0)) => ?_⟩
              · refine ⟨(show vp_in x2 12 by first | exact m_isClaim hp0 (by assumption) | exact m_isNotice hp0 (by assumption)), ?_⟩
                exact z_pv hpo ((if_pos h1).trans ((if_pos h2).trans ((if_pos h3).trans ((if_pos h4).trans ((if_pos h5).trans rfl))))) (rfl)
              · refine ⟨(show vp_in x2 12 by first | exact m_isClaim hp0 (by assumption) | exact m_isNotice hp0 (by assumption)), ?_⟩
                exact z_pv hpo ((if_pos h1).trans ((if_pos h2).trans ((if_pos h3).trans ((if_pos h4).trans ((if_neg h5).trans rfl))))) (rfl)
    · exact h.elim
def f_X7_register (S : z_MI) (P : z_ML) (x1 : Int32) : Int32 :=
  if (f_X7_isClaim S P x1) = true then
    if (S 172129 x1.toNatClampNeg) = 0 then
      if (f_X7_bits (va_up S 110648 (upd (S 110648) 0 (nI 0))) P ((S 178273 x1.toNatClampNeg) &&& (f_X7_membersOf (va_up S 110648 (upd (S 110648) 0 (nI 0))) P (S 165985 x1.toNatClampNeg)))) < ((nI 2) * (f_X7_bits (va_up S 110648 (upd (S 110648) 0 (nI 0))) P ((S 180321 x1.toNatClampNeg) &&& (f_X7_membersOf (va_up S 110648 (upd (S 110648) 0 (nI 0))) P (S 165985 x1.toNatClampNeg))))) then
        if (f_X7_provedOf (va_up S 110648 (upd (S 110648) 0 (nI 0))) P x1) = 0 then
          if (f_X7_provedOf (va_up S 110648 (upd (S 110648) 0 (nI 0))) P x1) = 0 then
            nI 2
          else
            nI 3
        else
          if (f_X7_hasOther (va_up S 110648 (upd (S 110648) 0 (nI 0))) P x1) = true then
            if (f_X7_provedOf (va_up S 110648 (upd (S 110648) 0 (nI 0))) P x1) = 0 then
              nI 2
            else
              nI 3
          else
            nI 0
      else
        nI 1
    else
      nI 0
  else
    nI 0
def u_X7_register (S : z_MI) (P : z_ML) (x1 : Int32) : z_MI :=
  if (f_X7_isClaim S P x1) = true then
    if (S 172129 x1.toNatClampNeg) = 0 then
      if (f_X7_bits (va_up S 110648 (upd (S 110648) 0 (nI 0))) P ((S 178273 x1.toNatClampNeg) &&& (f_X7_membersOf (va_up S 110648 (upd (S 110648) 0 (nI 0))) P (S 165985 x1.toNatClampNeg)))) < ((nI 2) * (f_X7_bits (va_up S 110648 (upd (S 110648) 0 (nI 0))) P ((S 180321 x1.toNatClampNeg) &&& (f_X7_membersOf (va_up S 110648 (upd (S 110648) 0 (nI 0))) P (S 165985 x1.toNatClampNeg))))) then
        if (f_X7_provedOf (va_up S 110648 (upd (S 110648) 0 (nI 0))) P x1) = 0 then
          if (f_X7_provedOf (va_up S 110648 (upd (S 110648) 0 (nI 0))) P x1) = 0 then
            va_up S 110648 (upd (S 110648) 0 (nI 0))
          else
            va_up S 110648 (upd (S 110648) 0 (nI 0))
        else
          if (f_X7_hasOther (va_up S 110648 (upd (S 110648) 0 (nI 0))) P x1) = true then
            if (f_X7_provedOf (va_up S 110648 (upd (S 110648) 0 (nI 0))) P x1) = 0 then
              va_up S 110648 (upd (S 110648) 0 (nI 0))
            else
              va_up S 110648 (upd (S 110648) 0 (nI 0))
          else
            va_up (va_up (va_up S 110648 (upd (S 110648) 0 (nI 0))) 172129 (upd ((va_up S 110648 (upd (S 110648) 0 (nI 0))) 172129) x1.toNatClampNeg (nI 1))) 176225 (upd ((va_up (va_up S 110648 (upd (S 110648) 0 (nI 0))) 172129 (upd ((va_up S 110648 (upd (S 110648) 0 (nI 0))) 172129) x1.toNatClampNeg (nI 1))) 176225) x1.toNatClampNeg (S 110648 1))
      else
        va_up S 110648 (upd (S 110648) 0 (nI 0))
    else
      va_up S 110648 (upd (S 110648) 0 (nI 2))
  else
    va_up S 110648 (upd (S 110648) 0 (nI 1))
def sp_X7_register : z_SP := fun as S P k => match as with
  | [.int x1] => z_JM S ∧ k (some (.int (f_X7_register S P x1))) (u_X7_register S P x1) P
  | _ => False
def G_X7_register : z_G := ([(0, .aload_n 0, 1, 0), (1, .iload_n 1, 2, 0), (2, .invokevirtual 247, 5, 0), (5, .istore_n 2, 6, 0), (6, .aload_n 0, 7, 0), (7, .iload_n 2, 8, 0), (8, .ifCond .ne 7, 11, 15), (11, .iconst 1, 12, 0), (12, .goto 17, 15, 29), (15, .aload_n 0, 16, 0), (16, .getfield 99, 19, 0), (19, .iload_n 1, 20, 0), (20, .iaload, 21, 0), (21, .ifCond .eq 7, 24, 28), (24, .iconst 2, 25, 0), (25, .goto 4, 28, 29), (28, .iconst 0, 29, 0), (29, .invokevirtual 173, 32, 0), (32, .ifCond .ne 5, 35, 37), (35, .iconst 0, 36, 0), (36, .ireturn, 37, 0), (37, .aload_n 0, 38, 0), (38, .aload_n 0, 39, 0), (39, .getfield 90, 42, 0), (42, .iload_n 1, 43, 0), (43, .iaload, 44, 0), (44, .invokevirtual 190, 47, 0), (47, .istore_n 3, 48, 0), (48, .iconst 2, 49, 0), (49, .aload_n 0, 50, 0), (50, .getfield 111, 53, 0), (53, .iload_n 1, 54, 0), (54, .iaload, 55, 0), (55, .iload_n 3, 56, 0), (56, .iand, 57, 0), (57, .invokestatic 194, 60, 0), (60, .imul, 61, 0), (61, .aload_n 0, 62, 0), (62, .getfield 108, 65, 0), (65, .iload_n 1, 66, 0), (66, .iaload, 67, 0), (67, .iload_n 3, 68, 0), (68, .iand, 69, 0), (69, .invokestatic 194, 72, 0), (72, .if_icmp .gt 5, 75, 77), (75, .iconst 1, 76, 0), (76, .ireturn, 77, 0), (77, .aload_n 0, 78, 0), (78, .iload_n 1, 79, 0), (79, .invokevirtual 250, 82, 0), (82, .ifCond .eq 11, 85, 93), (85, .aload_n 0, 86, 0), (86, .iload_n 1, 87, 0), (87, .invokevirtual 253, 90, 0), (90, .ifCond .eq 17, 93, 107), (93, .aload_n 0, 94, 0), (94, .iload_n 1, 95, 0), (95, .invokevirtual 250, 98, 0), (98, .ifCond .ne 7, 101, 105), (101, .iconst 2, 102, 0), (102, .goto 4, 105, 106), (105, .iconst 3, 106, 0), (106, .ireturn, 107, 0), (107, .aload_n 0, 108, 0), (108, .getfield 99, 111, 0), (111, .iload_n 1, 112, 0), (112, .iconst 1, 113, 0), (113, .iastore, 114, 0), (114, .aload_n 0, 115, 0), (115, .getfield 105, 118, 0), (118, .iload_n 1, 119, 0), (119, .aload_n 0, 120, 0), (120, .getfield 209, 123, 0), (123, .iastore, 124, 0), (124, .iconst 0, 125, 0), (125, .ireturn, 126, 0)], [(90, 110648, 34, some 165985), (99, 110648, 37, some 172129), (105, 110648, 39, some 176225), (108, 110648, 40, some 178273), (111, 110648, 41, some 180321), (209, 110648, 1, none)], [(100194, 1, sp_X7_bits), (173, 2, (z_rc 110648 sp_X7_holds)), (190, 2, (z_rc 110648 sp_X7_membersOf)), (247, 2, (z_rc 110648 sp_X7_isClaim)), (250, 2, (z_rc 110648 sp_X7_provedOf)), (253, 2, (z_rc 110648 sp_X7_hasOther))], [], [], [], [], some .int)
set_option maxRecDepth 20000 in
set_option maxHeartbeats 4000000 in
theorem ct_X7_register (l : Launch) : z_CT l yX7_register cX7_register 4 (some .int) (z_rc 110648 sp_X7_register) 3 := by
  refine z_CT_of G_X7_register (by decide) (by decide +kernel) (z_pok_of ft_X7 ci_X7 cL_X7_L fo_X7 co_X7 lo_X7 (by decide +kernel)) rfl rfl ?_ ?_ ?_
  · intro as S P Po h0
    obtain ⟨as, rfl, h⟩ := z_rc_of h0
    unfold sp_X7_register at h
    split at h
    · exact Nat.le_of_ble_eq_true rfl
    · exact h.elim
  · exact List.forall_mem_cons.mpr ⟨z_coS (ct_X7_bits l) kb_X7_bits ks_X7_194 (by decide) (by decide), List.forall_mem_cons.mpr ⟨z_coV (ct_X7_holds l) kb_X7_holds kv_X7_173 ko_X7 (by decide) (by decide) (by decide), List.forall_mem_cons.mpr ⟨z_coV (ct_X7_membersOf l) kb_X7_membersOf kv_X7_190 ko_X7 (by decide) (by decide) (by decide), List.forall_mem_cons.mpr ⟨z_coV (ct_X7_isClaim l) kb_X7_isClaim kv_X7_247 ko_X7 (by decide) (by decide) (by decide), List.forall_mem_cons.mpr ⟨z_coV (ct_X7_provedOf l) kb_X7_provedOf kv_X7_250 ko_X7 (by decide) (by decide) (by decide), List.forall_mem_cons.mpr ⟨z_coV (ct_X7_hasOther l) kb_X7_hasOther kv_X7_253 ko_X7 (by decide) (by decide) (by decide), fun _ h => absurd h List.not_mem_nil⟩⟩⟩⟩⟩⟩
  · intro as S P Po h0 V hV hW
    obtain ⟨as, rfl, h⟩ := z_rc_of h0
    unfold sp_X7_register at h
    split at h
    · rename_i x1
      obtain ⟨hp0, hpo⟩ := h
      refine hV [] 81 0 _ _ _ _ ?_
      refine z_brn (fun (h1 : (f_X7_isClaim S P x1) = true) => ?_) (fun (h1 : (f_X7_isClaim S P x1) = false) => ?_)
      · refine ⟨(show vp_in x1 12 by first | exact m_isClaim hp0 (by assumption) | exact m_isNotice hp0 (by assumption)), ?_⟩
        refine ⟨fun (h2 : (S 172129 x1.toNatClampNeg) = 0) => ?_, fun (h2 : ¬ ((S 172129 x1.toNatClampNeg) = 0)) => ?_⟩
        · refine z_hnT (z_hq0 _ _) ?_
          refine ⟨(show vp_in x1 12 by first | exact m_isClaim hp0 (by assumption) | exact m_isNotice hp0 (by assumption)), ?_⟩
          refine ⟨(show vp_in (S 165985 x1.toNatClampNeg) 6 by exact z_J_Mclp hp0 _), (show z_le ((va_up S 110648 (upd (S 110648) 0 (nI 0))) 110648 6) 30 by exact z_J_Mpersons hp0), ?_⟩
          refine ⟨(show vp_in x1 12 by first | exact m_isClaim hp0 (by assumption) | exact m_isNotice hp0 (by assumption)), ?_⟩
          refine ⟨(show vp_in x1 12 by first | exact m_isClaim hp0 (by assumption) | exact m_isNotice hp0 (by assumption)), ?_⟩
          refine ⟨fun (h3 : (f_X7_bits (va_up S 110648 (upd (S 110648) 0 (nI 0))) P ((S 178273 x1.toNatClampNeg) &&& (f_X7_membersOf (va_up S 110648 (upd (S 110648) 0 (nI 0))) P (S 165985 x1.toNatClampNeg)))) < ((nI 2) * (f_X7_bits (va_up S 110648 (upd (S 110648) 0 (nI 0))) P ((S 180321 x1.toNatClampNeg) &&& (f_X7_membersOf (va_up S 110648 (upd (S 110648) 0 (nI 0))) P (S 165985 x1.toNatClampNeg)))))) => ?_, fun (h3 : ¬ ((f_X7_bits (va_up S 110648 (upd (S 110648) 0 (nI 0))) P ((S 178273 x1.toNatClampNeg) &&& (f_X7_membersOf (va_up S 110648 (upd (S 110648) 0 (nI 0))) P (S 165985 x1.toNatClampNeg)))) < ((nI 2) * (f_X7_bits (va_up S 110648 (upd (S 110648) 0 (nI 0))) P ((S 180321 x1.toNatClampNeg) &&& (f_X7_membersOf (va_up S 110648 (upd (S 110648) 0 (nI 0))) P (S 165985 x1.toNatClampNeg))))))) => ?_⟩
          · refine ⟨(show vp_in x1 12 by first | exact m_isClaim hp0 (by assumption) | exact m_isNotice hp0 (by assumption)), (show z_le ((va_up S 110648 (upd (S 110648) 0 (nI 0))) 110648 16) 60 by exact z_J_Mmarks hp0), (show vp_in ((va_up S 110648 (upd (S 110648) 0 (nI 0))) 165985 x1.toNatClampNeg) 6 by exact z_J_Mclp hp0 _), (show z_le ((va_up S 110648 (upd (S 110648) 0 (nI 0))) 143409 ((va_up S 110648 (upd (S 110648) 0 (nI 0))) 165985 x1.toNatClampNeg).toNatClampNeg) 8 by exact z_J_Mexpl hp0 _), (show z_le ((va_up S 110648 (upd (S 110648) 0 (nI 0))) 110648 1) 5000 by exact z_J_Mnow hp0), ?_⟩
            refine ⟨fun (h4 : (f_X7_provedOf (va_up S 110648 (upd (S 110648) 0 (nI 0))) P x1) = 0) => ?_, fun (h4 : ¬ ((f_X7_provedOf (va_up S 110648 (upd (S 110648) 0 (nI 0))) P x1) = 0)) => ?_⟩
            · refine ⟨(show vp_in x1 12 by first | exact m_isClaim hp0 (by assumption) | exact m_isNotice hp0 (by assumption)), (show z_le ((va_up S 110648 (upd (S 110648) 0 (nI 0))) 110648 16) 60 by exact z_J_Mmarks hp0), (show vp_in ((va_up S 110648 (upd (S 110648) 0 (nI 0))) 165985 x1.toNatClampNeg) 6 by exact z_J_Mclp hp0 _), (show z_le ((va_up S 110648 (upd (S 110648) 0 (nI 0))) 143409 ((va_up S 110648 (upd (S 110648) 0 (nI 0))) 165985 x1.toNatClampNeg).toNatClampNeg) 8 by exact z_J_Mexpl hp0 _), (show z_le ((va_up S 110648 (upd (S 110648) 0 (nI 0))) 110648 1) 5000 by exact z_J_Mnow hp0), ?_⟩
              refine ⟨fun (h5 : ¬ ((f_X7_provedOf (va_up S 110648 (upd (S 110648) 0 (nI 0))) P x1) = 0)) => ?_, fun (h5 : (f_X7_provedOf (va_up S 110648 (upd (S 110648) 0 (nI 0))) P x1) = 0) => ?_⟩
              · exact z_pi hpo ((if_pos h1).trans ((if_pos h2).trans ((if_pos h3).trans ((if_pos h4).trans ((if_neg h5).trans rfl))))) ((if_pos h1).trans ((if_pos h2).trans ((if_pos h3).trans ((if_pos h4).trans ((if_neg h5).trans rfl))))) (rfl)
              · exact z_pi hpo ((if_pos h1).trans ((if_pos h2).trans ((if_pos h3).trans ((if_pos h4).trans ((if_pos h5).trans rfl))))) ((if_pos h1).trans ((if_pos h2).trans ((if_pos h3).trans ((if_pos h4).trans ((if_pos h5).trans rfl))))) (rfl)
            · refine ⟨(show z_le ((va_up S 110648 (upd (S 110648) 0 (nI 0))) 110648 33) 12 by exact z_J_Mclaims hp0), (show vp_in x1 12 by first | exact m_isClaim hp0 (by assumption) | exact m_isNotice hp0 (by assumption)), ?_⟩
              refine z_br (fun (h6 : (f_X7_hasOther (va_up S 110648 (upd (S 110648) 0 (nI 0))) P x1) = false) => ?_) (fun (h6 : (f_X7_hasOther (va_up S 110648 (upd (S 110648) 0 (nI 0))) P x1) = true) => ?_)
              · refine ⟨(show vp_in x1 12 by first | exact m_isClaim hp0 (by assumption) | exact m_isNotice hp0 (by assumption)), ?_⟩
                refine ⟨(show vp_in x1 12 by first | exact m_isClaim hp0 (by assumption) | exact m_isNotice hp0 (by assumption)), ?_⟩
                exact z_pi hpo ((if_pos h1).trans ((if_pos h2).trans ((if_pos h3).trans ((if_neg h4).trans ((if_neg (z_nt h6)).trans rfl))))) ((if_pos h1).trans ((if_pos h2).trans ((if_pos h3).trans ((if_neg h4).trans ((if_neg (z_nt h6)).trans rfl))))) (rfl)
              · refine ⟨(show vp_in x1 12 by first | exact m_isClaim hp0 (by assumption) | exact m_isNotice hp0 (by assumption)), (show z_le ((va_up S 110648 (upd (S 110648) 0 (nI 0))) 110648 16) 60 by exact z_J_Mmarks hp0), (show vp_in ((va_up S 110648 (upd (S 110648) 0 (nI 0))) 165985 x1.toNatClampNeg) 6 by exact z_J_Mclp hp0 _), (show z_le ((va_up S 110648 (upd (S 110648) 0 (nI 0))) 143409 ((va_up S 110648 (upd (S 110648) 0 (nI 0))) 165985 x1.toNatClampNeg).toNatClampNeg) 8 by exact z_J_Mexpl hp0 _), (show z_le ((va_up S 110648 (upd (S 110648) 0 (nI 0))) 110648 1) 5000 by exact z_J_Mnow hp0), ?_⟩
                refine ⟨fun (h7 : ¬ ((f_X7_provedOf (va_up S 110648 (upd (S 110648) 0 (nI 0))) P x1) = 0)) => ?_, fun (h7 : (f_X7_provedOf (va_up S 110648 (upd (S 110648) 0 (nI 0))) P x1) = 0) => ?_⟩
                · exact z_pi hpo ((if_pos h1).trans ((if_pos h2).trans ((if_pos h3).trans ((if_neg h4).trans ((if_pos h6).trans ((if_neg h7).trans rfl)))))) ((if_pos h1).trans ((if_pos h2).trans ((if_pos h3).trans ((if_neg h4).trans ((if_pos h6).trans ((if_neg h7).trans rfl)))))) (rfl)
                · exact z_pi hpo ((if_pos h1).trans ((if_pos h2).trans ((if_pos h3).trans ((if_neg h4).trans ((if_pos h6).trans ((if_pos h7).trans rfl)))))) ((if_pos h1).trans ((if_pos h2).trans ((if_pos h3).trans ((if_neg h4).trans ((if_pos h6).trans ((if_pos h7).trans rfl)))))) (rfl)
          · exact z_pi hpo ((if_pos h1).trans ((if_pos h2).trans ((if_neg h3).trans rfl))) ((if_pos h1).trans ((if_pos h2).trans ((if_neg h3).trans rfl))) (rfl)
        · refine z_hnF (z_hq2 _ _) ?_
          exact z_pi hpo ((if_pos h1).trans ((if_neg h2).trans rfl)) ((if_pos h1).trans ((if_neg h2).trans rfl)) (rfl)
      · refine z_hnF (z_hq1 _ _) ?_
        exact z_pi hpo ((if_neg (z_nt h1)).trans rfl) ((if_neg (z_nt h1)).trans rfl) (rfl)
    · exact h.elim
def f_X7_determine (S : z_MI) (P : z_ML) (x1 : Int32) : Int32 :=
  if (f_X7_isClaim S P x1) = true then
    if (S 172129 x1.toNatClampNeg) = (nI 1) then
      (u_X7_grants (va_up S 110648 (upd (S 110648) 0 (nI 0))) P x1) 174177 x1.toNatClampNeg
    else
      nI 0
  else
    nI 0
def u_X7_determine (S : z_MI) (P : z_ML) (x1 : Int32) : z_MI :=
  if (f_X7_isClaim S P x1) = true then
    if (S 172129 x1.toNatClampNeg) = (nI 1) then
      u_X7_grants (va_up S 110648 (upd (S 110648) 0 (nI 0))) P x1
    else
      va_up S 110648 (upd (S 110648) 0 (nI 2))
  else
    va_up S 110648 (upd (S 110648) 0 (nI 1))
def sp_X7_determine : z_SP := fun as S P k => match as with
  | [.int x1] => z_JM S ∧ k (some (.int (f_X7_determine S P x1))) (u_X7_determine S P x1) P
  | _ => False
def G_X7_determine : z_G := ([(0, .aload_n 0, 1, 0), (1, .iload_n 1, 2, 0), (2, .invokevirtual 247, 5, 0), (5, .istore_n 2, 6, 0), (6, .aload_n 0, 7, 0), (7, .iload_n 2, 8, 0), (8, .ifCond .ne 7, 11, 15), (11, .iconst 1, 12, 0), (12, .goto 18, 15, 30), (15, .aload_n 0, 16, 0), (16, .getfield 99, 19, 0), (19, .iload_n 1, 20, 0), (20, .iaload, 21, 0), (21, .iconst 1, 22, 0), (22, .if_icmp .eq 7, 25, 29), (25, .iconst 2, 26, 0), (26, .goto 4, 29, 30), (29, .iconst 0, 30, 0), (30, .invokevirtual 173, 33, 0), (33, .ifCond .ne 5, 36, 38), (36, .iconst 0, 37, 0), (37, .ireturn, 38, 0), (38, .aload_n 0, 39, 0), (39, .iload_n 1, 40, 0), (40, .invokevirtual 256, 43, 0), (43, .aload_n 0, 44, 0), (44, .getfield 102, 47, 0), (47, .iload_n 1, 48, 0), (48, .iaload, 49, 0), (49, .ireturn, 50, 0)], [(99, 110648, 37, some 172129), (102, 110648, 38, some 174177)], [(173, 2, (z_rc 110648 sp_X7_holds)), (247, 2, (z_rc 110648 sp_X7_isClaim)), (256, 2, (z_rc 110648 sp_X7_grants))], [], [], [], [], some .int)
set_option maxRecDepth 20000 in
set_option maxHeartbeats 4000000 in
theorem ct_X7_determine (l : Launch) : z_CT l yX7_determine cX7_determine 3 (some .int) (z_rc 110648 sp_X7_determine) 4 := by
  refine z_CT_of G_X7_determine (by decide) (by decide +kernel) (z_pok_of ft_X7 ci_X7 cL_X7_L fo_X7 co_X7 lo_X7 (by decide +kernel)) rfl rfl ?_ ?_ ?_
  · intro as S P Po h0
    obtain ⟨as, rfl, h⟩ := z_rc_of h0
    unfold sp_X7_determine at h
    split at h
    · exact Nat.le_of_ble_eq_true rfl
    · exact h.elim
  · exact List.forall_mem_cons.mpr ⟨z_coV (ct_X7_holds l) kb_X7_holds kv_X7_173 ko_X7 (by decide) (by decide) (by decide), List.forall_mem_cons.mpr ⟨z_coV (ct_X7_isClaim l) kb_X7_isClaim kv_X7_247 ko_X7 (by decide) (by decide) (by decide), List.forall_mem_cons.mpr ⟨z_coV (ct_X7_grants l) kb_X7_grants kv_X7_256 ko_X7 (by decide) (by decide) (by decide), fun _ h => absurd h List.not_mem_nil⟩⟩⟩
  · intro as S P Po h0 V hV hW
    obtain ⟨as, rfl, h⟩ := z_rc_of h0
    unfold sp_X7_determine at h
    split at h
    · rename_i x1
      obtain ⟨hp0, hpo⟩ := h
      refine hV [] 35 0 _ _ _ _ ?_
      refine z_brn (fun (h1 : (f_X7_isClaim S P x1) = true) => ?_) (fun (h1 : (f_X7_isClaim S P x1) = false) => ?_)
      · refine ⟨(show vp_in x1 12 by first | exact m_isClaim hp0 (by assumption) | exact m_isNotice hp0 (by assumption)), ?_⟩
        refine ⟨fun (h2 : (S 172129 x1.toNatClampNeg) = (nI 1)) => ?_, fun (h2 : ¬ ((S 172129 x1.toNatClampNeg) = (nI 1))) => ?_⟩
        · refine z_hnT (z_hq0 _ _) ?_
          refine ⟨(show vp_in x1 12 by first | exact m_isClaim hp0 (by assumption) | exact m_isNotice hp0 (by assumption)), (show z_le ((va_up S 110648 (upd (S 110648) 0 (nI 0))) 110648 16) 60 by exact z_J_Mmarks hp0), (show vp_in ((va_up S 110648 (upd (S 110648) 0 (nI 0))) 165985 x1.toNatClampNeg) 6 by exact z_J_Mclp hp0 _), (show z_le ((va_up S 110648 (upd (S 110648) 0 (nI 0))) 143409 ((va_up S 110648 (upd (S 110648) 0 (nI 0))) 165985 x1.toNatClampNeg).toNatClampNeg) 8 by exact z_J_Mexpl hp0 _), (show z_le ((va_up S 110648 (upd (S 110648) 0 (nI 0))) 110648 1) 5000 by exact z_J_Mnow hp0), ?_⟩
          refine ⟨(show vp_in x1 12 by first | exact m_isClaim hp0 (by assumption) | exact m_isNotice hp0 (by assumption)), ?_⟩
          exact z_pi hpo ((if_pos h1).trans ((if_pos h2).trans rfl)) ((if_pos h1).trans ((if_pos h2).trans rfl)) (rfl)
        · refine z_hnF (z_hq2 _ _) ?_
          exact z_pi hpo ((if_pos h1).trans ((if_neg h2).trans rfl)) ((if_pos h1).trans ((if_neg h2).trans rfl)) (rfl)
      · refine z_hnF (z_hq1 _ _) ?_
        exact z_pi hpo ((if_neg (z_nt h1)).trans rfl) ((if_neg (z_nt h1)).trans rfl) (rfl)
    · exact h.elim
def f_X7_revise (S : z_MI) (P : z_ML) (x1 : Int32) : Int32 :=
  if (f_X7_isClaim S P x1) = true then
    if (S 172129 x1.toNatClampNeg) = (nI 2) then
      f_X7_bits (u_X7_grants (va_up S 110648 (upd (S 110648) 0 (nI 0))) P x1) P ((S 174177 x1.toNatClampNeg) ^^^ ((u_X7_grants (va_up S 110648 (upd (S 110648) 0 (nI 0))) P x1) 174177 x1.toNatClampNeg))
    else
      nI 0
  else
    nI 0
def u_X7_revise (S : z_MI) (P : z_ML) (x1 : Int32) : z_MI :=
  if (f_X7_isClaim S P x1) = true then
    if (S 172129 x1.toNatClampNeg) = (nI 2) then
      u_X7_grants (va_up S 110648 (upd (S 110648) 0 (nI 0))) P x1
    else
      va_up S 110648 (upd (S 110648) 0 (nI 2))
  else
    va_up S 110648 (upd (S 110648) 0 (nI 1))
def sp_X7_revise : z_SP := fun as S P k => match as with
  | [.int x1] => z_JM S ∧ k (some (.int (f_X7_revise S P x1))) (u_X7_revise S P x1) P
  | _ => False
def G_X7_revise : z_G := ([(0, .aload_n 0, 1, 0), (1, .iload_n 1, 2, 0), (2, .invokevirtual 247, 5, 0), (5, .istore_n 2, 6, 0), (6, .aload_n 0, 7, 0), (7, .iload_n 2, 8, 0), (8, .ifCond .ne 7, 11, 15), (11, .iconst 1, 12, 0), (12, .goto 18, 15, 30), (15, .aload_n 0, 16, 0), (16, .getfield 99, 19, 0), (19, .iload_n 1, 20, 0), (20, .iaload, 21, 0), (21, .iconst 2, 22, 0), (22, .if_icmp .eq 7, 25, 29), (25, .iconst 2, 26, 0), (26, .goto 4, 29, 30), (29, .iconst 0, 30, 0), (30, .invokevirtual 173, 33, 0), (33, .ifCond .ne 5, 36, 38), (36, .iconst 0, 37, 0), (37, .ireturn, 38, 0), (38, .aload_n 0, 39, 0), (39, .getfield 102, 42, 0), (42, .iload_n 1, 43, 0), (43, .iaload, 44, 0), (44, .istore_n 3, 45, 0), (45, .aload_n 0, 46, 0), (46, .iload_n 1, 47, 0), (47, .invokevirtual 256, 50, 0), (50, .iload_n 3, 51, 0), (51, .aload_n 0, 52, 0), (52, .getfield 102, 55, 0), (55, .iload_n 1, 56, 0), (56, .iaload, 57, 0), (57, .ixor, 58, 0), (58, .invokestatic 194, 61, 0), (61, .ireturn, 62, 0)], [(99, 110648, 37, some 172129), (102, 110648, 38, some 174177)], [(100194, 1, sp_X7_bits), (173, 2, (z_rc 110648 sp_X7_holds)), (247, 2, (z_rc 110648 sp_X7_isClaim)), (256, 2, (z_rc 110648 sp_X7_grants))], [], [], [], [], some .int)
set_option maxRecDepth 20000 in
set_option maxHeartbeats 4000000 in
theorem ct_X7_revise (l : Launch) : z_CT l yX7_revise cX7_revise 4 (some .int) (z_rc 110648 sp_X7_revise) 4 := by
  refine z_CT_of G_X7_revise (by decide) (by decide +kernel) (z_pok_of ft_X7 ci_X7 cL_X7_L fo_X7 co_X7 lo_X7 (by decide +kernel)) rfl rfl ?_ ?_ ?_
  · intro as S P Po h0
    obtain ⟨as, rfl, h⟩ := z_rc_of h0
    unfold sp_X7_revise at h
    split at h
    · exact Nat.le_of_ble_eq_true rfl
    · exact h.elim
  · exact List.forall_mem_cons.mpr ⟨z_coS (ct_X7_bits l) kb_X7_bits ks_X7_194 (by decide) (by decide), List.forall_mem_cons.mpr ⟨z_coV (ct_X7_holds l) kb_X7_holds kv_X7_173 ko_X7 (by decide) (by decide) (by decide), List.forall_mem_cons.mpr ⟨z_coV (ct_X7_isClaim l) kb_X7_isClaim kv_X7_247 ko_X7 (by decide) (by decide) (by decide), List.forall_mem_cons.mpr ⟨z_coV (ct_X7_grants l) kb_X7_grants kv_X7_256 ko_X7 (by decide) (by decide) (by decide), fun _ h => absurd h List.not_mem_nil⟩⟩⟩⟩
  · intro as S P Po h0 V hV hW
    obtain ⟨as, rfl, h⟩ := z_rc_of h0
    unfold sp_X7_revise at h
    split at h
    · rename_i x1
      obtain ⟨hp0, hpo⟩ := h
      refine hV [] 43 0 _ _ _ _ ?_
      refine z_brn (fun (h1 : (f_X7_isClaim S P x1) = true) => ?_) (fun (h1 : (f_X7_isClaim S P x1) = false) => ?_)
      · refine ⟨(show vp_in x1 12 by first | exact m_isClaim hp0 (by assumption) | exact m_isNotice hp0 (by assumption)), ?_⟩
        refine ⟨fun (h2 : (S 172129 x1.toNatClampNeg) = (nI 2)) => ?_, fun (h2 : ¬ ((S 172129 x1.toNatClampNeg) = (nI 2))) => ?_⟩
        · refine z_hnT (z_hq0 _ _) ?_
          refine ⟨(show vp_in x1 12 by first | exact m_isClaim hp0 (by assumption) | exact m_isNotice hp0 (by assumption)), ?_⟩
          refine ⟨(show vp_in x1 12 by first | exact m_isClaim hp0 (by assumption) | exact m_isNotice hp0 (by assumption)), (show z_le ((va_up S 110648 (upd (S 110648) 0 (nI 0))) 110648 16) 60 by exact z_J_Mmarks hp0), (show vp_in ((va_up S 110648 (upd (S 110648) 0 (nI 0))) 165985 x1.toNatClampNeg) 6 by exact z_J_Mclp hp0 _), (show z_le ((va_up S 110648 (upd (S 110648) 0 (nI 0))) 143409 ((va_up S 110648 (upd (S 110648) 0 (nI 0))) 165985 x1.toNatClampNeg).toNatClampNeg) 8 by exact z_J_Mexpl hp0 _), (show z_le ((va_up S 110648 (upd (S 110648) 0 (nI 0))) 110648 1) 5000 by exact z_J_Mnow hp0), ?_⟩
          refine ⟨(show vp_in x1 12 by first | exact m_isClaim hp0 (by assumption) | exact m_isNotice hp0 (by assumption)), ?_⟩
          exact z_pi hpo ((if_pos h1).trans ((if_pos h2).trans rfl)) ((if_pos h1).trans ((if_pos h2).trans rfl)) (rfl)
        · refine z_hnF (z_hq2 _ _) ?_
          exact z_pi hpo ((if_pos h1).trans ((if_neg h2).trans rfl)) ((if_pos h1).trans ((if_neg h2).trans rfl)) (rfl)
      · refine z_hnF (z_hq1 _ _) ?_
        exact z_pi hpo ((if_neg (z_nt h1)).trans rfl) ((if_neg (z_nt h1)).trans rfl) (rfl)
    · exact h.elim
def f_X7_ofClaim (S : z_MI) (P : z_ML) (x1 : Int32) (x2 : Int32) : Int32 :=
  if (f_X7_isClaim S P x1) = true then
    if (f_X7_in S P x2 (nI 0) (nI 3)) = true then
      if x2 = 0 then
        S 172129 x1.toNatClampNeg
      else
        if x2 = (nI 1) then
          S 174177 x1.toNatClampNeg
        else
          if x2 = (nI 2) then
            f_X7_rivals (va_up S 110648 (upd (S 110648) 0 (nI 0))) P x1
          else
            S 176225 x1.toNatClampNeg
    else
      nI 0
  else
    nI 0
def u_X7_ofClaim (S : z_MI) (P : z_ML) (x1 : Int32) (x2 : Int32) : z_MI :=
  if (f_X7_isClaim S P x1) = true then
    if (f_X7_in S P x2 (nI 0) (nI 3)) = true then
      if x2 = 0 then
        va_up S 110648 (upd (S 110648) 0 (nI 0))
      else
        if x2 = (nI 1) then
          va_up S 110648 (upd (S 110648) 0 (nI 0))
        else
          if x2 = (nI 2) then
            va_up S 110648 (upd (S 110648) 0 (nI 0))
          else
            va_up S 110648 (upd (S 110648) 0 (nI 0))
    else
      va_up S 110648 (upd (S 110648) 0 (nI 2))
  else
    va_up S 110648 (upd (S 110648) 0 (nI 1))
def sp_X7_ofClaim : z_SP := fun as S P k => match as with
  | [.int x1, .int x2] => z_JM S ∧ k (some (.int (f_X7_ofClaim S P x1 x2))) (u_X7_ofClaim S P x1 x2) P
  | _ => False
def G_X7_ofClaim : z_G := ([(0, .aload_n 0, 1, 0), (1, .aload_n 0, 2, 0), (2, .iload_n 1, 3, 0), (3, .invokevirtual 247, 6, 0), (6, .ifCond .ne 7, 9, 13), (9, .iconst 1, 10, 0), (10, .goto 17, 13, 27), (13, .iload_n 2, 14, 0), (14, .iconst 0, 15, 0), (15, .iconst 3, 16, 0), (16, .invokestatic 157, 19, 0), (19, .ifCond .eq 7, 22, 26), (22, .iconst 0, 23, 0), (23, .goto 4, 26, 27), (26, .iconst 2, 27, 0), (27, .invokevirtual 173, 30, 0), (30, .ifCond .ne 5, 33, 35), (33, .iconst 0, 34, 0), (34, .ireturn, 35, 0), (35, .iload_n 2, 36, 0), (36, .ifCond .ne 12, 39, 48), (39, .aload_n 0, 40, 0), (40, .getfield 99, 43, 0), (43, .iload_n 1, 44, 0), (44, .iaload, 45, 0), (45, .goto 36, 48, 81), (48, .iload_n 2, 49, 0), (49, .iconst 1, 50, 0), (50, .if_icmp .ne 12, 53, 62), (53, .aload_n 0, 54, 0), (54, .getfield 102, 57, 0), (57, .iload_n 1, 58, 0), (58, .iaload, 59, 0), (59, .goto 22, 62, 81), (62, .iload_n 2, 63, 0), (63, .iconst 2, 64, 0), (64, .if_icmp .ne 11, 67, 75), (67, .aload_n 0, 68, 0), (68, .iload_n 1, 69, 0), (69, .invokevirtual 263, 72, 0), (72, .goto 9, 75, 81), (75, .aload_n 0, 76, 0), (76, .getfield 105, 79, 0), (79, .iload_n 1, 80, 0), (80, .iaload, 81, 0), (81, .ireturn, 82, 0)], [(99, 110648, 37, some 172129), (102, 110648, 38, some 174177), (105, 110648, 39, some 176225)], [(100157, 3, sp_X7_in), (173, 2, (z_rc 110648 sp_X7_holds)), (247, 2, (z_rc 110648 sp_X7_isClaim)), (263, 2, (z_rc 110648 sp_X7_rivals))], [], [], [], [], some .int)
set_option maxRecDepth 20000 in
set_option maxHeartbeats 4000000 in
theorem ct_X7_ofClaim (l : Launch) : z_CT l yX7_ofClaim cX7_ofClaim 3 (some .int) (z_rc 110648 sp_X7_ofClaim) 2 := by
  refine z_CT_of G_X7_ofClaim (by decide) (by decide +kernel) (z_pok_of ft_X7 ci_X7 cL_X7_L fo_X7 co_X7 lo_X7 (by decide +kernel)) rfl rfl ?_ ?_ ?_
  · intro as S P Po h0
    obtain ⟨as, rfl, h⟩ := z_rc_of h0
    unfold sp_X7_ofClaim at h
    split at h
    · exact Nat.le_of_ble_eq_true rfl
    · exact h.elim
  · exact List.forall_mem_cons.mpr ⟨z_coS (ct_X7_in l) kb_X7_in ks_X7_157 (by decide) (by decide), List.forall_mem_cons.mpr ⟨z_coV (ct_X7_holds l) kb_X7_holds kv_X7_173 ko_X7 (by decide) (by decide) (by decide), List.forall_mem_cons.mpr ⟨z_coV (ct_X7_isClaim l) kb_X7_isClaim kv_X7_247 ko_X7 (by decide) (by decide) (by decide), List.forall_mem_cons.mpr ⟨z_coV (ct_X7_rivals l) kb_X7_rivals kv_X7_263 ko_X7 (by decide) (by decide) (by decide), fun _ h => absurd h List.not_mem_nil⟩⟩⟩⟩
  · intro as S P Po h0 V hV hW
    obtain ⟨as, rfl, h⟩ := z_rc_of h0
    unfold sp_X7_ofClaim at h
    split at h
    · rename_i x1 x2
      obtain ⟨hp0, hpo⟩ := h
      refine hV [] 51 0 _ _ _ _ ?_
      refine z_brn (fun (h1 : (f_X7_isClaim S P x1) = true) => ?_) (fun (h1 : (f_X7_isClaim S P x1) = false) => ?_)
      · refine z_br (fun (h2 : (f_X7_in S P x2 (nI 0) (nI 3)) = false) => ?_) (fun (h2 : (f_X7_in S P x2 (nI 0) (nI 3)) = true) => ?_)
        · refine z_hnF (z_hq2 _ _) ?_
          exact z_pi hpo ((if_pos h1).trans ((if_neg (z_nt h2)).trans rfl)) ((if_pos h1).trans ((if_neg (z_nt h2)).trans rfl)) (rfl)
        · refine z_hnT (z_hq0 _ _) ?_
          refine ⟨fun (h3 : ¬ (x2 = 0)) => ?_, fun (h3 : x2 = 0) => ?_⟩
          · refine ⟨fun (h4 : ¬ (x2 = (nI 1))) => ?_, fun (h4 : x2 = (nI 1)) => ?_⟩
            · refine ⟨fun (h5 : ¬ (x2 = (nI 2))) => ?_, fun (h5 : x2 = (nI 2)) => ?_⟩
              · refine ⟨(show vp_in x1 12 by first | exact m_isClaim hp0 (by assumption) | exact m_isNotice hp0 (by assumption)), ?_⟩
                exact z_pi hpo ((if_pos h1).trans ((if_pos h2).trans ((if_neg h3).trans ((if_neg h4).trans ((if_neg h5).trans rfl))))) ((if_pos h1).trans ((if_pos h2).trans ((if_neg h3).trans ((if_neg h4).trans ((if_neg h5).trans rfl))))) (rfl)
              · refine ⟨(show z_le ((va_up S 110648 (upd (S 110648) 0 (nI 0))) 110648 33) 12 by exact z_J_Mclaims hp0), (show vp_in x1 12 by first | exact m_isClaim hp0 (by assumption) | exact m_isNotice hp0 (by assumption)), ?_⟩
                exact z_pi hpo ((if_pos h1).trans ((if_pos h2).trans ((if_neg h3).trans ((if_neg h4).trans ((if_pos h5).trans rfl))))) ((if_pos h1).trans ((if_pos h2).trans ((if_neg h3).trans ((if_neg h4).trans ((if_pos h5).trans rfl))))) (rfl)
            · refine ⟨(show vp_in x1 12 by first | exact m_isClaim hp0 (by assumption) | exact m_isNotice hp0 (by assumption)), ?_⟩
              exact z_pi hpo ((if_pos h1).trans ((if_pos h2).trans ((if_neg h3).trans ((if_pos h4).trans rfl)))) ((if_pos h1).trans ((if_pos h2).trans ((if_neg h3).trans ((if_pos h4).trans rfl)))) (rfl)
          · refine ⟨(show vp_in x1 12 by first | exact m_isClaim hp0 (by assumption) | exact m_isNotice hp0 (by assumption)), ?_⟩
            exact z_pi hpo ((if_pos h1).trans ((if_pos h2).trans ((if_pos h3).trans rfl))) ((if_pos h1).trans ((if_pos h2).trans ((if_pos h3).trans rfl))) (rfl)
      · refine z_hnF (z_hq1 _ _) ?_
        exact z_pi hpo ((if_neg (z_nt h1)).trans rfl) ((if_neg (z_nt h1)).trans rfl) (rfl)
    · exact h.elim
def f_X7_holders (S : z_MI) (P : z_ML) (x1 : Int32) : Int32 :=
  if (f_X7_isPlace S P x1) = true then
    f_X7_holdersOf (va_up S 110648 (upd (S 110648) 0 (nI 0))) P x1
  else
    nI 0
def u_X7_holders (S : z_MI) (P : z_ML) (x1 : Int32) : z_MI :=
  if (f_X7_isPlace S P x1) = true then
    va_up S 110648 (upd (S 110648) 0 (nI 0))
  else
    va_up S 110648 (upd (S 110648) 0 (nI 1))
def sp_X7_holders : z_SP := fun as S P k => match as with
  | [.int x1] => z_JM S ∧ k (some (.int (f_X7_holders S P x1))) (u_X7_holders S P x1) P
  | _ => False
def G_X7_holders : z_G := ([(0, .aload_n 0, 1, 0), (1, .iload_n 1, 2, 0), (2, .invokestatic 203, 5, 0), (5, .ifCond .eq 7, 8, 12), (8, .iconst 0, 9, 0), (9, .goto 4, 12, 13), (12, .iconst 1, 13, 0), (13, .invokevirtual 173, 16, 0), (16, .ifCond .eq 11, 19, 27), (19, .aload_n 0, 20, 0), (20, .iload_n 1, 21, 0), (21, .invokevirtual 269, 24, 0), (24, .goto 4, 27, 28), (27, .iconst 0, 28, 0), (28, .ireturn, 29, 0)], [], [(100203, 1, sp_X7_isPlace), (173, 2, (z_rc 110648 sp_X7_holds)), (269, 2, (z_rc 110648 sp_X7_holdersOf))], [], [], [], [], some .int)
set_option maxRecDepth 20000 in
set_option maxHeartbeats 4000000 in
theorem ct_X7_holders (l : Launch) : z_CT l yX7_holders cX7_holders 2 (some .int) (z_rc 110648 sp_X7_holders) 3 := by
  refine z_CT_of G_X7_holders (by decide) (by decide +kernel) (z_pok_of ft_X7 ci_X7 cL_X7_L fo_X7 co_X7 lo_X7 (by decide +kernel)) rfl rfl ?_ ?_ ?_
  · intro as S P Po h0
    obtain ⟨as, rfl, h⟩ := z_rc_of h0
    unfold sp_X7_holders at h
    split at h
    · exact Nat.le_of_ble_eq_true rfl
    · exact h.elim
  · exact List.forall_mem_cons.mpr ⟨z_coS (ct_X7_isPlace l) kb_X7_isPlace ks_X7_203 (by decide) (by decide), List.forall_mem_cons.mpr ⟨z_coV (ct_X7_holds l) kb_X7_holds kv_X7_173 ko_X7 (by decide) (by decide) (by decide), List.forall_mem_cons.mpr ⟨z_coV (ct_X7_holdersOf l) kb_X7_holdersOf kv_X7_269 ko_X7 (by decide) (by decide) (by decide), fun _ h => absurd h List.not_mem_nil⟩⟩⟩
  · intro as S P Po h0 V hV hW
    obtain ⟨as, rfl, h⟩ := z_rc_of h0
    unfold sp_X7_holders at h
    split at h
    · rename_i x1
      obtain ⟨hp0, hpo⟩ := h
      refine hV [] 20 0 _ _ _ _ ?_
      refine z_br (fun (h1 : (f_X7_isPlace S P x1) = false) => ?_) (fun (h1 : (f_X7_isPlace S P x1) = true) => ?_)
      · refine z_hbF (z_hq1 _ _) ?_
        exact z_pi hpo ((if_neg (z_nt h1)).trans rfl) ((if_neg (z_nt h1)).trans rfl) (rfl)
      · refine z_hbT (z_hq0 _ _) ?_
        refine ⟨(show z_le ((va_up S 110648 (upd (S 110648) 0 (nI 0))) 110648 33) 12 by exact z_J_Mclaims hp0), ?_⟩
        exact z_pi hpo ((if_pos h1).trans rfl) ((if_pos h1).trans rfl) (rfl)
    · exact h.elim
def l_X7_may_56 (S : z_MI) (P : z_ML) (x1 : Int32) (x2 : Int32) (x3 : Int32) (k56 : Nat) (a56 : Int32) : Int32 :=
  if a56 = 0 then
    if (S 155969 ((nI k56).toNatClampNeg)) = (nI 2) then
      if (f_X7_has (va_up S 110648 (upd (S 110648) 0 (nI 0))) P (S 153921 ((nI k56).toNatClampNeg)) x3) = true then
        if (f_X7_counts (va_up S 110648 (upd (S 110648) 0 (nI 0))) P (nI k56) x2 (S 110648 1)) = true then
          nI 1
        else
          nI 0
      else
        nI 0
    else
      nI 0
  else
    nI 1
def f_X7_may (S : z_MI) (P : z_ML) (x1 : Int32) (x2 : Int32) (x3 : Int32) : Int32 :=
  if (f_X7_isPeople S P x1) = true then
    if (f_X7_isPlace S P x2) = true then
      if (f_X7_in S P x3 (nI 0) (nI 4)) = true then
        if (f_X7_has (va_up S 110648 (upd (S 110648) 0 (nI 0))) P (f_X7_rightsOf (va_up S 110648 (upd (S 110648) 0 (nI 0))) P x1 x2) x3) = true then
          if (z_fo (fun k56 a56 => l_X7_may_56 S P x1 x2 x3 k56 a56) (nI 0) (S 110648 24).toNatClampNeg) = 0 then
            nI 2
          else
            nI 1
        else
          nI 0
      else
        nI 0
    else
      nI 0
  else
    nI 0
def u_X7_may (S : z_MI) (P : z_ML) (x1 : Int32) (x2 : Int32) (x3 : Int32) : z_MI :=
  if (f_X7_isPeople S P x1) = true then
    if (f_X7_isPlace S P x2) = true then
      if (f_X7_in S P x3 (nI 0) (nI 4)) = true then
        if (f_X7_has (va_up S 110648 (upd (S 110648) 0 (nI 0))) P (f_X7_rightsOf (va_up S 110648 (upd (S 110648) 0 (nI 0))) P x1 x2) x3) = true then
          if (z_fo (fun k56 a56 => l_X7_may_56 S P x1 x2 x3 k56 a56) (nI 0) (S 110648 24).toNatClampNeg) = 0 then
            va_up S 110648 (upd (S 110648) 0 (nI 0))
          else
            va_up S 110648 (upd (S 110648) 0 (nI 0))
        else
          va_up S 110648 (upd (S 110648) 0 (nI 0))
      else
        va_up S 110648 (upd (S 110648) 0 (nI 1))
    else
      va_up S 110648 (upd (S 110648) 0 (nI 1))
  else
    va_up S 110648 (upd (S 110648) 0 (nI 1))
def sp_X7_may : z_SP := fun as S P k => match as with
  | [.int x1, .int x2, .int x3] => z_JM S ∧ k (some (.int (f_X7_may S P x1 x2 x3))) (u_X7_may S P x1 x2 x3) P
  | _ => False
def G_X7_may : z_G := ([(0, .aload_n 0, 1, 0), (1, .iload_n 1, 2, 0), (2, .invokevirtual 187, 5, 0), (5, .ifCond .eq 23, 8, 28), (8, .iload_n 2, 9, 0), (9, .invokestatic 203, 12, 0), (12, .ifCond .eq 16, 15, 28), (15, .iload_n 3, 16, 0), (16, .iconst 0, 17, 0), (17, .iconst 4, 18, 0), (18, .invokestatic 157, 21, 0), (21, .ifCond .eq 7, 24, 28), (24, .iconst 1, 25, 0), (25, .goto 4, 28, 29), (28, .iconst 0, 29, 0), (29, .istore 4, 31, 0), (31, .aload_n 0, 32, 0), (32, .iload 4, 34, 0), (34, .ifCond .eq 7, 37, 41), (37, .iconst 0, 38, 0), (38, .goto 4, 41, 42), (41, .iconst 1, 42, 0), (42, .invokevirtual 173, 45, 0), (45, .ifCond .ne 5, 48, 50), (48, .iconst 0, 49, 0), (49, .ireturn, 50, 0), (50, .iconst 0, 51, 0), (51, .istore 5, 53, 0), (53, .iconst 0, 54, 0), (54, .istore 6, 56, 0), (56, .iload 6, 58, 0), (58, .aload_n 0, 59, 0), (59, .getfield 164, 62, 0), (62, .if_icmp .ge 60, 65, 122), (65, .iload 5, 67, 0), (67, .ifCond .ne 42, 70, 109), (70, .aload_n 0, 71, 0), (71, .getfield 74, 74, 0), (74, .iload 6, 76, 0), (76, .iaload, 77, 0), (77, .iconst 2, 78, 0), (78, .if_icmp .ne 35, 81, 113), (81, .aload_n 0, 82, 0), (82, .getfield 71, 85, 0), (85, .iload 6, 87, 0), (87, .iaload, 88, 0), (88, .iload_n 3, 89, 0), (89, .invokestatic 180, 92, 0), (92, .ifCond .eq 21, 95, 113), (95, .aload_n 0, 96, 0), (96, .iload 6, 98, 0), (98, .iload_n 2, 99, 0), (99, .aload_n 0, 100, 0), (100, .getfield 209, 103, 0), (103, .invokevirtual 237, 106, 0), (106, .ifCond .eq 7, 109, 113), (109, .iconst 1, 110, 0), (110, .goto 4, 113, 114), (113, .iconst 0, 114, 0), (114, .istore 5, 116, 0), (116, .iinc 6 1, 119, 0), (119, .goto (-63), 122, 56), (122, .aload_n 0, 123, 0), (123, .iload_n 1, 124, 0), (124, .iload_n 2, 125, 0), (125, .invokevirtual 272, 128, 0), (128, .iload_n 3, 129, 0), (129, .invokestatic 180, 132, 0), (132, .ifCond .ne 7, 135, 139), (135, .iconst 0, 136, 0), (136, .goto 13, 139, 149), (139, .iload 5, 141, 0), (141, .ifCond .eq 7, 144, 148), (144, .iconst 1, 145, 0), (145, .goto 4, 148, 149), (148, .iconst 2, 149, 0), (149, .ireturn, 150, 0)], [(71, 110648, 27, some 153921), (74, 110648, 28, some 155969), (164, 110648, 24, none), (209, 110648, 1, none)], [(100157, 3, sp_X7_in), (100180, 2, sp_X7_has), (100203, 1, sp_X7_isPlace), (173, 2, (z_rc 110648 sp_X7_holds)), (187, 2, (z_rc 110648 sp_X7_isPeople)), (237, 4, (z_rc 110648 sp_X7_counts)), (272, 3, (z_rc 110648 sp_X7_rightsOf))], [], [], [], [], some .int)
set_option maxRecDepth 20000 in
set_option maxHeartbeats 4000000 in
theorem ct_X7_may (l : Launch) : z_CT l yX7_may cX7_may 7 (some .int) (z_rc 110648 sp_X7_may) 4 := by
  refine z_CT_of G_X7_may (by decide) (by decide +kernel) (z_pok_of ft_X7 ci_X7 cL_X7_L fo_X7 co_X7 lo_X7 (by decide +kernel)) rfl rfl ?_ ?_ ?_
  · intro as S P Po h0
    obtain ⟨as, rfl, h⟩ := z_rc_of h0
    unfold sp_X7_may at h
    split at h
    · exact Nat.le_of_ble_eq_true rfl
    · exact h.elim
  · exact List.forall_mem_cons.mpr ⟨z_coS (ct_X7_in l) kb_X7_in ks_X7_157 (by decide) (by decide), List.forall_mem_cons.mpr ⟨z_coS (ct_X7_has l) kb_X7_has ks_X7_180 (by decide) (by decide), List.forall_mem_cons.mpr ⟨z_coS (ct_X7_isPlace l) kb_X7_isPlace ks_X7_203 (by decide) (by decide), List.forall_mem_cons.mpr ⟨z_coV (ct_X7_holds l) kb_X7_holds kv_X7_173 ko_X7 (by decide) (by decide) (by decide), List.forall_mem_cons.mpr ⟨z_coV (ct_X7_isPeople l) kb_X7_isPeople kv_X7_187 ko_X7 (by decide) (by decide) (by decide), List.forall_mem_cons.mpr ⟨z_coV (ct_X7_counts l) kb_X7_counts kv_X7_237 ko_X7 (by decide) (by decide) (by decide), List.forall_mem_cons.mpr ⟨z_coV (ct_X7_rightsOf l) kb_X7_rightsOf kv_X7_272 ko_X7 (by decide) (by decide) (by decide), fun _ h => absurd h List.not_mem_nil⟩⟩⟩⟩⟩⟩⟩
  · intro as S P Po h0 V hV hW
    obtain ⟨as, rfl, h⟩ := z_rc_of h0
    unfold sp_X7_may at h
    split at h
    · rename_i x1 x2 x3
      obtain ⟨hp0, hpo⟩ := h
      refine hV [56] 82 0 _ _ _ _ ?_
      refine z_br (fun (h1 : (f_X7_isPeople S P x1) = false) => ?_) (fun (h1 : (f_X7_isPeople S P x1) = true) => ?_)
      · refine ⟨fun _ => ?_, fun h => absurd (by decide) h⟩
        refine z_hnF (z_hq1 _ _) ?_
        exact z_pi hpo ((if_neg (z_nt h1)).trans rfl) ((if_neg (z_nt h1)).trans rfl) (rfl)
      · refine z_br (fun (h2 : (f_X7_isPlace S P x2) = false) => ?_) (fun (h2 : (f_X7_isPlace S P x2) = true) => ?_)
        · refine ⟨fun _ => ?_, fun h => absurd (by decide) h⟩
          refine z_hnF (z_hq1 _ _) ?_
          exact z_pi hpo ((if_pos h1).trans ((if_neg (z_nt h2)).trans rfl)) ((if_pos h1).trans ((if_neg (z_nt h2)).trans rfl)) (rfl)
        · refine z_br (fun (h3 : (f_X7_in S P x3 (nI 0) (nI 4)) = false) => ?_) (fun (h3 : (f_X7_in S P x3 (nI 0) (nI 4)) = true) => ?_)
          · refine ⟨fun _ => ?_, fun h => absurd (by decide) h⟩
            refine z_hnF (z_hq1 _ _) ?_
            exact z_pi hpo ((if_pos h1).trans ((if_pos h2).trans ((if_neg (z_nt h3)).trans rfl))) ((if_pos h1).trans ((if_pos h2).trans ((if_neg (z_nt h3)).trans rfl))) (rfl)
          · refine ⟨fun h => absurd h (by decide), fun _ => ?_⟩
            refine z_hnT (z_hq0 _ _) ?_
            obtain ⟨hb56, hN56⟩ := z_le_cl (show z_le (S 110648 24) 40 by exact z_J_Macts hp0) (by decide)
            have hL56 : ∀ (j k56 : Nat) (x900 : Int32) (a56 : Int32), k56 + j = (S 110648 24).toNatClampNeg → x900 = nI k56 → a56 = z_fo (fun k56 a56 => l_X7_may_56 S P x1 x2 x3 k56 a56) (nI 0) k56 → V 56 [(0, .ref 110648), (1, .int x1), (2, .int x2), (3, .int x3), (4, .int (nI 1)), (5, .int a56), (6, .int x900)] [] (va_up S 110648 (upd (S 110648) 0 (nI 0))) P := by
              intro j
              induction j with
              | zero =>
                intro k56 x900 a56 hk56 hx56 ha56
                subst hx56
                have hk9 : k56 = (S 110648 24).toNatClampNeg := by omega
                subst hk9
                subst ha56
                refine hV [56] 82 56 _ _ _ _ ?_
                refine ⟨fun _ => ?_, fun h => absurd ((z_brge hb56 (by omega) (by omega)).mpr (Nat.le_refl _)) h⟩
                refine ⟨(show z_le ((va_up S 110648 (upd (S 110648) 0 (nI 0))) 110648 33) 12 by exact z_J_Mclaims hp0), (show z_le ((va_up S 110648 (upd (S 110648) 0 (nI 0))) 110648 24) 40 by exact z_J_Macts hp0), ?_⟩
                refine z_brn (fun (h5 : (f_X7_has (va_up S 110648 (upd (S 110648) 0 (nI 0))) P (f_X7_rightsOf (va_up S 110648 (upd (S 110648) 0 (nI 0))) P x1 x2) x3) = true) => ?_) (fun (h5 : (f_X7_has (va_up S 110648 (upd (S 110648) 0 (nI 0))) P (f_X7_rightsOf (va_up S 110648 (upd (S 110648) 0 (nI 0))) P x1 x2) x3) = false) => ?_)
                · refine ⟨fun (h6 : (z_fo (fun k56 a56 => l_X7_may_56 S P x1 x2 x3 k56 a56) (nI 0) (S 110648 24).toNatClampNeg) = 0) => ?_, fun (h6 : ¬ ((z_fo (fun k56 a56 => l_X7_may_56 S P x1 x2 x3 k56 a56) (nI 0) (S 110648 24).toNatClampNeg) = 0)) => ?_⟩
                  · exact z_pi hpo ((if_pos h1).trans ((if_pos h2).trans ((if_pos h3).trans ((if_pos h5).trans ((if_pos h6).trans rfl))))) ((if_pos h1).trans ((if_pos h2).trans ((if_pos h3).trans ((if_pos h5).trans ((if_pos h6).trans rfl))))) (rfl)
                  · exact z_pi hpo ((if_pos h1).trans ((if_pos h2).trans ((if_pos h3).trans ((if_pos h5).trans ((if_neg h6).trans rfl))))) ((if_pos h1).trans ((if_pos h2).trans ((if_pos h3).trans ((if_pos h5).trans ((if_neg h6).trans rfl))))) (rfl)
                · exact z_pi hpo ((if_pos h1).trans ((if_pos h2).trans ((if_pos h3).trans ((if_neg (z_nt h5)).trans rfl)))) ((if_pos h1).trans ((if_pos h2).trans ((if_pos h3).trans ((if_neg (z_nt h5)).trans rfl)))) (rfl)
              | succ j ih =>
                intro k56 x900 a56 hk56 hx56 ha56
                subst hx56
                have hk9 : k56 < (S 110648 24).toNatClampNeg := by omega
                subst ha56
                refine hV [56] 82 56 _ _ _ _ ?_
                refine ⟨fun h => absurd ((z_brge hb56 (by omega) (by omega)).mp h) (by omega), fun _ => ?_⟩
                refine ⟨fun (h7 : ¬ ((z_fo (fun k56 a56 => l_X7_may_56 S P x1 x2 x3 k56 a56) (nI 0) k56) = 0)) => ?_, fun (h7 : (z_fo (fun k56 a56 => l_X7_may_56 S P x1 x2 x3 k56 a56) (nI 0) k56) = 0) => ?_⟩
                · exact hW [0, 1, 2, 3, 4, 5, 6] _ _ _ _ _ (ih (k56 + 1) _ (nI 1) (by omega) (nI_add k56 1) (((if_neg h7).trans rfl).symm))
                · refine ⟨(show vp_in (nI k56) 40 by exact vp_in_nI (by omega) (by omega)), ?_⟩
                  refine ⟨fun (h8 : ¬ ((S 155969 ((nI k56).toNatClampNeg)) = (nI 2))) => ?_, fun (h8 : (S 155969 ((nI k56).toNatClampNeg)) = (nI 2)) => ?_⟩
                  · exact hW [0, 1, 2, 3, 4, 5, 6] _ _ _ _ _ (ih (k56 + 1) _ (nI 0) (by omega) (nI_add k56 1) (((if_pos h7).trans ((if_neg h8).trans rfl)).symm))
                  · refine ⟨(show vp_in (nI k56) 40 by exact vp_in_nI (by omega) (by omega)), ?_⟩
                    refine z_br (fun (h9 : (f_X7_has (va_up S 110648 (upd (S 110648) 0 (nI 0))) P (S 153921 ((nI k56).toNatClampNeg)) x3) = false) => ?_) (fun (h9 : (f_X7_has (va_up S 110648 (upd (S 110648) 0 (nI 0))) P (S 153921 ((nI k56).toNatClampNeg)) x3) = true) => ?_)
                    · exact hW [0, 1, 2, 3, 4, 5, 6] _ _ _ _ _ (ih (k56 + 1) _ (nI 0) (by omega) (nI_add k56 1) (((if_pos h7).trans ((if_pos h8).trans ((if_neg (z_nt h9)).trans rfl))).symm))
                    · refine ⟨(show vp_in (nI k56) 40 by exact vp_in_nI (by omega) (by omega)), ?_⟩
                      refine z_br (fun (h10 : (f_X7_counts (va_up S 110648 (upd (S 110648) 0 (nI 0))) P (nI k56) x2 (S 110648 1)) = false) => ?_) (fun (h10 : (f_X7_counts (va_up S 110648 (upd (S 110648) 0 (nI 0))) P (nI k56) x2 (S 110648 1)) = true) => ?_)
                      · exact hW [0, 1, 2, 3, 4, 5, 6] _ _ _ _ _ (ih (k56 + 1) _ (nI 0) (by omega) (nI_add k56 1) (((if_pos h7).trans ((if_pos h8).trans ((if_pos h9).trans ((if_neg (z_nt h10)).trans rfl)))).symm))
                      · exact hW [0, 1, 2, 3, 4, 5, 6] _ _ _ _ _ (ih (k56 + 1) _ (nI 1) (by omega) (nI_add k56 1) (((if_pos h7).trans ((if_pos h8).trans ((if_pos h9).trans ((if_pos h10).trans rfl)))).symm))
            exact hW [0, 1, 2, 3, 4, 5, 6] _ _ _ _ _ (hL56 (S 110648 24).toNatClampNeg 0 _ (nI 0) (Nat.zero_add _) rfl rfl)
    · exact h.elim
def f_X7_notice (S : z_MI) (P : z_ML) (x1 : Int32) (x2 : Int32) (x3 : Int32) (x4 : Int32) (x5 : Int32) : Int32 :=
  if (f_X7_isWhat S P x1 x2 x3 x4 (S 110648 1)) = true then
    if (S 110648 42) = (nI 12) then
      nI 0
    else
      ((S 110648 42) + (nI 1)) - (nI 1)
  else
    nI 0
def u_X7_notice (S : z_MI) (P : z_ML) (x1 : Int32) (x2 : Int32) (x3 : Int32) (x4 : Int32) (x5 : Int32) : z_MI :=
  if (f_X7_isWhat S P x1 x2 x3 x4 (S 110648 1)) = true then
    if (S 110648 42) = (nI 12) then
      va_up S 110648 (upd (S 110648) 0 (nI 2))
    else
      va_up (va_up (va_up (va_up (va_up (va_up (va_up (va_up (va_up S 110648 (upd (S 110648) 0 (nI 0))) 182369 (upd ((va_up S 110648 (upd (S 110648) 0 (nI 0))) 182369) ((S 110648 42).toNatClampNeg) (S 110648 1))) 184417 (upd ((va_up (va_up S 110648 (upd (S 110648) 0 (nI 0))) 182369 (upd ((va_up S 110648 (upd (S 110648) 0 (nI 0))) 182369) ((S 110648 42).toNatClampNeg) (S 110648 1))) 184417) ((S 110648 42).toNatClampNeg) x1)) 186465 (upd ((va_up (va_up (va_up S 110648 (upd (S 110648) 0 (nI 0))) 182369 (upd ((va_up S 110648 (upd (S 110648) 0 (nI 0))) 182369) ((S 110648 42).toNatClampNeg) (S 110648 1))) 184417 (upd ((va_up (va_up S 110648 (upd (S 110648) 0 (nI 0))) 182369 (upd ((va_up S 110648 (upd (S 110648) 0 (nI 0))) 182369) ((S 110648 42).toNatClampNeg) (S 110648 1))) 184417) ((S 110648 42).toNatClampNeg) x1)) 186465) ((S 110648 42).toNatClampNeg) x2)) 188513 (upd ((va_up (va_up (va_up (va_up S 110648 (upd (S 110648) 0 (nI 0))) 182369 (upd ((va_up S 110648 (upd (S 110648) 0 (nI 0))) 182369) ((S 110648 42).toNatClampNeg) (S 110648 1))) 184417 (upd ((va_up (va_up S 110648 (upd (S 110648) 0 (nI 0))) 182369 (upd ((va_up S 110648 (upd (S 110648) 0 (nI 0))) 182369) ((S 110648 42).toNatClampNeg) (S 110648 1))) 184417) ((S 110648 42).toNatClampNeg) x1)) 186465 (upd ((va_up (va_up (va_up S 110648 (upd (S 110648) 0 (nI 0))) 182369 (upd ((va_up S 110648 (upd (S 110648) 0 (nI 0))) 182369) ((S 110648 42).toNatClampNeg) (S 110648 1))) 184417 (upd ((va_up (va_up S 110648 (upd (S 110648) 0 (nI 0))) 182369 (upd ((va_up S 110648 (upd (S 110648) 0 (nI 0))) 182369) ((S 110648 42).toNatClampNeg) (S 110648 1))) 184417) ((S 110648 42).toNatClampNeg) x1)) 186465) ((S 110648 42).toNatClampNeg) x2)) 188513) ((S 110648 42).toNatClampNeg) x3)) 190561 (upd ((va_up (va_up (va_up (va_up (va_up S 110648 (upd (S 110648) 0 (nI 0))) 182369 (upd ((va_up S 110648 (upd (S 110648) 0 (nI 0))) 182369) ((S 110648 42).toNatClampNeg) (S 110648 1))) 184417 (upd ((va_up (va_up S 110648 (upd (S 110648) 0 (nI 0))) 182369 (upd ((va_up S 110648 (upd (S 110648) 0 (nI 0))) 182369) ((S 110648 42).toNatClampNeg) (S 110648 1))) 184417) ((S 110648 42).toNatClampNeg) x1)) 186465 (upd ((va_up (va_up (va_up S 110648 (upd (S 110648) 0 (nI 0))) 182369 (upd ((va_up S 110648 (upd (S 110648) 0 (nI 0))) 182369) ((S 110648 42).toNatClampNeg) (S 110648 1))) 184417 (upd ((va_up (va_up S 110648 (upd (S 110648) 0 (nI 0))) 182369 (upd ((va_up S 110648 (upd (S 110648) 0 (nI 0))) 182369) ((S 110648 42).toNatClampNeg) (S 110648 1))) 184417) ((S 110648 42).toNatClampNeg) x1)) 186465) ((S 110648 42).toNatClampNeg) x2)) 188513 (upd ((va_up (va_up (va_up (va_up S 110648 (upd (S 110648) 0 (nI 0))) 182369 (upd ((va_up S 110648 (upd (S 110648) 0 (nI 0))) 182369) ((S 110648 42).toNatClampNeg) (S 110648 1))) 184417 (upd ((va_up (va_up S 110648 (upd (S 110648) 0 (nI 0))) 182369 (upd ((va_up S 110648 (upd (S 110648) 0 (nI 0))) 182369) ((S 110648 42).toNatClampNeg) (S 110648 1))) 184417) ((S 110648 42).toNatClampNeg) x1)) 186465 (upd ((va_up (va_up (va_up S 110648 (upd (S 110648) 0 (nI 0))) 182369 (upd ((va_up S 110648 (upd (S 110648) 0 (nI 0))) 182369) ((S 110648 42).toNatClampNeg) (S 110648 1))) 184417 (upd ((va_up (va_up S 110648 (upd (S 110648) 0 (nI 0))) 182369 (upd ((va_up S 110648 (upd (S 110648) 0 (nI 0))) 182369) ((S 110648 42).toNatClampNeg) (S 110648 1))) 184417) ((S 110648 42).toNatClampNeg) x1)) 186465) ((S 110648 42).toNatClampNeg) x2)) 188513) ((S 110648 42).toNatClampNeg) x3)) 190561) ((S 110648 42).toNatClampNeg) x4)) 192610 (upd ((va_up (va_up (va_up (va_up (va_up (va_up S 110648 (upd (S 110648) 0 (nI 0))) 182369 (upd ((va_up S 110648 (upd (S 110648) 0 (nI 0))) 182369) ((S 110648 42).toNatClampNeg) (S 110648 1))) 184417 (upd ((va_up (va_up S 110648 (upd (S 110648) 0 (nI 0))) 182369 (upd ((va_up S 110648 (upd (S 110648) 0 (nI 0))) 182369) ((S 110648 42).toNatClampNeg) (S 110648 1))) 184417) ((S 110648 42).toNatClampNeg) x1)) 186465 (upd ((va_up (va_up (va_up S 110648 (upd (S 110648) 0 (nI 0))) 182369 (upd ((va_up S 110648 (upd (S 110648) 0 (nI 0))) 182369) ((S 110648 42).toNatClampNeg) (S 110648 1))) 184417 (upd ((va_up (va_up S 110648 (upd (S 110648) 0 (nI 0))) 182369 (upd ((va_up S 110648 (upd (S 110648) 0 (nI 0))) 182369) ((S 110648 42).toNatClampNeg) (S 110648 1))) 184417) ((S 110648 42).toNatClampNeg) x1)) 186465) ((S 110648 42).toNatClampNeg) x2)) 188513 (upd ((va_up (va_up (va_up (va_up S 110648 (upd (S 110648) 0 (nI 0))) 182369 (upd ((va_up S 110648 (upd (S 110648) 0 (nI 0))) 182369) ((S 110648 42).toNatClampNeg) (S 110648 1))) 184417 (upd ((va_up (va_up S 110648 (upd (S 110648) 0 (nI 0))) 182369 (upd ((va_up S 110648 (upd (S 110648) 0 (nI 0))) 182369) ((S 110648 42).toNatClampNeg) (S 110648 1))) 184417) ((S 110648 42).toNatClampNeg) x1)) 186465 (upd ((va_up (va_up (va_up S 110648 (upd (S 110648) 0 (nI 0))) 182369 (upd ((va_up S 110648 (upd (S 110648) 0 (nI 0))) 182369) ((S 110648 42).toNatClampNeg) (S 110648 1))) 184417 (upd ((va_up (va_up S 110648 (upd (S 110648) 0 (nI 0))) 182369 (upd ((va_up S 110648 (upd (S 110648) 0 (nI 0))) 182369) ((S 110648 42).toNatClampNeg) (S 110648 1))) 184417) ((S 110648 42).toNatClampNeg) x1)) 186465) ((S 110648 42).toNatClampNeg) x2)) 188513) ((S 110648 42).toNatClampNeg) x3)) 190561 (upd ((va_up (va_up (va_up (va_up (va_up S 110648 (upd (S 110648) 0 (nI 0))) 182369 (upd ((va_up S 110648 (upd (S 110648) 0 (nI 0))) 182369) ((S 110648 42).toNatClampNeg) (S 110648 1))) 184417 (upd ((va_up (va_up S 110648 (upd (S 110648) 0 (nI 0))) 182369 (upd ((va_up S 110648 (upd (S 110648) 0 (nI 0))) 182369) ((S 110648 42).toNatClampNeg) (S 110648 1))) 184417) ((S 110648 42).toNatClampNeg) x1)) 186465 (upd ((va_up (va_up (va_up S 110648 (upd (S 110648) 0 (nI 0))) 182369 (upd ((va_up S 110648 (upd (S 110648) 0 (nI 0))) 182369) ((S 110648 42).toNatClampNeg) (S 110648 1))) 184417 (upd ((va_up (va_up S 110648 (upd (S 110648) 0 (nI 0))) 182369 (upd ((va_up S 110648 (upd (S 110648) 0 (nI 0))) 182369) ((S 110648 42).toNatClampNeg) (S 110648 1))) 184417) ((S 110648 42).toNatClampNeg) x1)) 186465) ((S 110648 42).toNatClampNeg) x2)) 188513 (upd ((va_up (va_up (va_up (va_up S 110648 (upd (S 110648) 0 (nI 0))) 182369 (upd ((va_up S 110648 (upd (S 110648) 0 (nI 0))) 182369) ((S 110648 42).toNatClampNeg) (S 110648 1))) 184417 (upd ((va_up (va_up S 110648 (upd (S 110648) 0 (nI 0))) 182369 (upd ((va_up S 110648 (upd (S 110648) 0 (nI 0))) 182369) ((S 110648 42).toNatClampNeg) (S 110648 1))) 184417) ((S 110648 42).toNatClampNeg) x1)) 186465 (upd ((va_up (va_up (va_up S 110648 (upd (S 110648) 0 (nI 0))) 182369 (upd ((va_up S 110648 (upd (S 110648) 0 (nI 0))) 182369) ((S 110648 42).toNatClampNeg) (S 110648 1))) 184417 (upd ((va_up (va_up S 110648 (upd (S 110648) 0 (nI 0))) 182369 (upd ((va_up S 110648 (upd (S 110648) 0 (nI 0))) 182369) ((S 110648 42).toNatClampNeg) (S 110648 1))) 184417) ((S 110648 42).toNatClampNeg) x1)) 186465) ((S 110648 42).toNatClampNeg) x2)) 188513) ((S 110648 42).toNatClampNeg) x3)) 190561) ((S 110648 42).toNatClampNeg) x4)) 192610) ((S 110648 42).toNatClampNeg) (vp_nar .boolean x5))) 202849 (upd ((va_up (va_up (va_up (va_up (va_up (va_up (va_up S 110648 (upd (S 110648) 0 (nI 0))) 182369 (upd ((va_up S 110648 (upd (S 110648) 0 (nI 0))) 182369) ((S 110648 42).toNatClampNeg) (S 110648 1))) 184417 (upd ((va_up (va_up S 110648 (upd (S 110648) 0 (nI 0))) 182369 (upd ((va_up S 110648 (upd (S 110648) 0 (nI 0))) 182369) ((S 110648 42).toNatClampNeg) (S 110648 1))) 184417) ((S 110648 42).toNatClampNeg) x1)) 186465 (upd ((va_up (va_up (va_up S 110648 (upd (S 110648) 0 (nI 0))) 182369 (upd ((va_up S 110648 (upd (S 110648) 0 (nI 0))) 182369) ((S 110648 42).toNatClampNeg) (S 110648 1))) 184417 (upd ((va_up (va_up S 110648 (upd (S 110648) 0 (nI 0))) 182369 (upd ((va_up S 110648 (upd (S 110648) 0 (nI 0))) 182369) ((S 110648 42).toNatClampNeg) (S 110648 1))) 184417) ((S 110648 42).toNatClampNeg) x1)) 186465) ((S 110648 42).toNatClampNeg) x2)) 188513 (upd ((va_up (va_up (va_up (va_up S 110648 (upd (S 110648) 0 (nI 0))) 182369 (upd ((va_up S 110648 (upd (S 110648) 0 (nI 0))) 182369) ((S 110648 42).toNatClampNeg) (S 110648 1))) 184417 (upd ((va_up (va_up S 110648 (upd (S 110648) 0 (nI 0))) 182369 (upd ((va_up S 110648 (upd (S 110648) 0 (nI 0))) 182369) ((S 110648 42).toNatClampNeg) (S 110648 1))) 184417) ((S 110648 42).toNatClampNeg) x1)) 186465 (upd ((va_up (va_up (va_up S 110648 (upd (S 110648) 0 (nI 0))) 182369 (upd ((va_up S 110648 (upd (S 110648) 0 (nI 0))) 182369) ((S 110648 42).toNatClampNeg) (S 110648 1))) 184417 (upd ((va_up (va_up S 110648 (upd (S 110648) 0 (nI 0))) 182369 (upd ((va_up S 110648 (upd (S 110648) 0 (nI 0))) 182369) ((S 110648 42).toNatClampNeg) (S 110648 1))) 184417) ((S 110648 42).toNatClampNeg) x1)) 186465) ((S 110648 42).toNatClampNeg) x2)) 188513) ((S 110648 42).toNatClampNeg) x3)) 190561 (upd ((va_up (va_up (va_up (va_up (va_up S 110648 (upd (S 110648) 0 (nI 0))) 182369 (upd ((va_up S 110648 (upd (S 110648) 0 (nI 0))) 182369) ((S 110648 42).toNatClampNeg) (S 110648 1))) 184417 (upd ((va_up (va_up S 110648 (upd (S 110648) 0 (nI 0))) 182369 (upd ((va_up S 110648 (upd (S 110648) 0 (nI 0))) 182369) ((S 110648 42).toNatClampNeg) (S 110648 1))) 184417) ((S 110648 42).toNatClampNeg) x1)) 186465 (upd ((va_up (va_up (va_up S 110648 (upd (S 110648) 0 (nI 0))) 182369 (upd ((va_up S 110648 (upd (S 110648) 0 (nI 0))) 182369) ((S 110648 42).toNatClampNeg) (S 110648 1))) 184417 (upd ((va_up (va_up S 110648 (upd (S 110648) 0 (nI 0))) 182369 (upd ((va_up S 110648 (upd (S 110648) 0 (nI 0))) 182369) ((S 110648 42).toNatClampNeg) (S 110648 1))) 184417) ((S 110648 42).toNatClampNeg) x1)) 186465) ((S 110648 42).toNatClampNeg) x2)) 188513 (upd ((va_up (va_up (va_up (va_up S 110648 (upd (S 110648) 0 (nI 0))) 182369 (upd ((va_up S 110648 (upd (S 110648) 0 (nI 0))) 182369) ((S 110648 42).toNatClampNeg) (S 110648 1))) 184417 (upd ((va_up (va_up S 110648 (upd (S 110648) 0 (nI 0))) 182369 (upd ((va_up S 110648 (upd (S 110648) 0 (nI 0))) 182369) ((S 110648 42).toNatClampNeg) (S 110648 1))) 184417) ((S 110648 42).toNatClampNeg) x1)) 186465 (upd ((va_up (va_up (va_up S 110648 (upd (S 110648) 0 (nI 0))) 182369 (upd ((va_up S 110648 (upd (S 110648) 0 (nI 0))) 182369) ((S 110648 42).toNatClampNeg) (S 110648 1))) 184417 (upd ((va_up (va_up S 110648 (upd (S 110648) 0 (nI 0))) 182369 (upd ((va_up S 110648 (upd (S 110648) 0 (nI 0))) 182369) ((S 110648 42).toNatClampNeg) (S 110648 1))) 184417) ((S 110648 42).toNatClampNeg) x1)) 186465) ((S 110648 42).toNatClampNeg) x2)) 188513) ((S 110648 42).toNatClampNeg) x3)) 190561) ((S 110648 42).toNatClampNeg) x4)) 192610 (upd ((va_up (va_up (va_up (va_up (va_up (va_up S 110648 (upd (S 110648) 0 (nI 0))) 182369 (upd ((va_up S 110648 (upd (S 110648) 0 (nI 0))) 182369) ((S 110648 42).toNatClampNeg) (S 110648 1))) 184417 (upd ((va_up (va_up S 110648 (upd (S 110648) 0 (nI 0))) 182369 (upd ((va_up S 110648 (upd (S 110648) 0 (nI 0))) 182369) ((S 110648 42).toNatClampNeg) (S 110648 1))) 184417) ((S 110648 42).toNatClampNeg) x1)) 186465 (upd ((va_up (va_up (va_up S 110648 (upd (S 110648) 0 (nI 0))) 182369 (upd ((va_up S 110648 (upd (S 110648) 0 (nI 0))) 182369) ((S 110648 42).toNatClampNeg) (S 110648 1))) 184417 (upd ((va_up (va_up S 110648 (upd (S 110648) 0 (nI 0))) 182369 (upd ((va_up S 110648 (upd (S 110648) 0 (nI 0))) 182369) ((S 110648 42).toNatClampNeg) (S 110648 1))) 184417) ((S 110648 42).toNatClampNeg) x1)) 186465) ((S 110648 42).toNatClampNeg) x2)) 188513 (upd ((va_up (va_up (va_up (va_up S 110648 (upd (S 110648) 0 (nI 0))) 182369 (upd ((va_up S 110648 (upd (S 110648) 0 (nI 0))) 182369) ((S 110648 42).toNatClampNeg) (S 110648 1))) 184417 (upd ((va_up (va_up S 110648 (upd (S 110648) 0 (nI 0))) 182369 (upd ((va_up S 110648 (upd (S 110648) 0 (nI 0))) 182369) ((S 110648 42).toNatClampNeg) (S 110648 1))) 184417) ((S 110648 42).toNatClampNeg) x1)) 186465 (upd ((va_up (va_up (va_up S 110648 (upd (S 110648) 0 (nI 0))) 182369 (upd ((va_up S 110648 (upd (S 110648) 0 (nI 0))) 182369) ((S 110648 42).toNatClampNeg) (S 110648 1))) 184417 (upd ((va_up (va_up S 110648 (upd (S 110648) 0 (nI 0))) 182369 (upd ((va_up S 110648 (upd (S 110648) 0 (nI 0))) 182369) ((S 110648 42).toNatClampNeg) (S 110648 1))) 184417) ((S 110648 42).toNatClampNeg) x1)) 186465) ((S 110648 42).toNatClampNeg) x2)) 188513) ((S 110648 42).toNatClampNeg) x3)) 190561 (upd ((va_up (va_up (va_up (va_up (va_up S 110648 (upd (S 110648) 0 (nI 0))) 182369 (upd ((va_up S 110648 (upd (S 110648) 0 (nI 0))) 182369) ((S 110648 42).toNatClampNeg) (S 110648 1))) 184417 (upd ((va_up (va_up S 110648 (upd (S 110648) 0 (nI 0))) 182369 (upd ((va_up S 110648 (upd (S 110648) 0 (nI 0))) 182369) ((S 110648 42).toNatClampNeg) (S 110648 1))) 184417) ((S 110648 42).toNatClampNeg) x1)) 186465 (upd ((va_up (va_up (va_up S 110648 (upd (S 110648) 0 (nI 0))) 182369 (upd ((va_up S 110648 (upd (S 110648) 0 (nI 0))) 182369) ((S 110648 42).toNatClampNeg) (S 110648 1))) 184417 (upd ((va_up (va_up S 110648 (upd (S 110648) 0 (nI 0))) 182369 (upd ((va_up S 110648 (upd (S 110648) 0 (nI 0))) 182369) ((S 110648 42).toNatClampNeg) (S 110648 1))) 184417) ((S 110648 42).toNatClampNeg) x1)) 186465) ((S 110648 42).toNatClampNeg) x2)) 188513 (upd ((va_up (va_up (va_up (va_up S 110648 (upd (S 110648) 0 (nI 0))) 182369 (upd ((va_up S 110648 (upd (S 110648) 0 (nI 0))) 182369) ((S 110648 42).toNatClampNeg) (S 110648 1))) 184417 (upd ((va_up (va_up S 110648 (upd (S 110648) 0 (nI 0))) 182369 (upd ((va_up S 110648 (upd (S 110648) 0 (nI 0))) 182369) ((S 110648 42).toNatClampNeg) (S 110648 1))) 184417) ((S 110648 42).toNatClampNeg) x1)) 186465 (upd ((va_up (va_up (va_up S 110648 (upd (S 110648) 0 (nI 0))) 182369 (upd ((va_up S 110648 (upd (S 110648) 0 (nI 0))) 182369) ((S 110648 42).toNatClampNeg) (S 110648 1))) 184417 (upd ((va_up (va_up S 110648 (upd (S 110648) 0 (nI 0))) 182369 (upd ((va_up S 110648 (upd (S 110648) 0 (nI 0))) 182369) ((S 110648 42).toNatClampNeg) (S 110648 1))) 184417) ((S 110648 42).toNatClampNeg) x1)) 186465) ((S 110648 42).toNatClampNeg) x2)) 188513) ((S 110648 42).toNatClampNeg) x3)) 190561) ((S 110648 42).toNatClampNeg) x4)) 192610) ((S 110648 42).toNatClampNeg) (vp_nar .boolean x5))) 202849) ((S 110648 42).toNatClampNeg) (-1))) 110648 (upd ((va_up (va_up (va_up (va_up (va_up (va_up (va_up (va_up S 110648 (upd (S 110648) 0 (nI 0))) 182369 (upd ((va_up S 110648 (upd (S 110648) 0 (nI 0))) 182369) ((S 110648 42).toNatClampNeg) (S 110648 1))) 184417 (upd ((va_up (va_up S 110648 (upd (S 110648) 0 (nI 0))) 182369 (upd ((va_up S 110648 (upd (S 110648) 0 (nI 0))) 182369) ((S 110648 42).toNatClampNeg) (S 110648 1))) 184417) ((S 110648 42).toNatClampNeg) x1)) 186465 (upd ((va_up (va_up (va_up S 110648 (upd (S 110648) 0 (nI 0))) 182369 (upd ((va_up S 110648 (upd (S 110648) 0 (nI 0))) 182369) ((S 110648 42).toNatClampNeg) (S 110648 1))) 184417 (upd ((va_up (va_up S 110648 (upd (S 110648) 0 (nI 0))) 182369 (upd ((va_up S 110648 (upd (S 110648) 0 (nI 0))) 182369) ((S 110648 42).toNatClampNeg) (S 110648 1))) 184417) ((S 110648 42).toNatClampNeg) x1)) 186465) ((S 110648 42).toNatClampNeg) x2)) 188513 (upd ((va_up (va_up (va_up (va_up S 110648 (upd (S 110648) 0 (nI 0))) 182369 (upd ((va_up S 110648 (upd (S 110648) 0 (nI 0))) 182369) ((S 110648 42).toNatClampNeg) (S 110648 1))) 184417 (upd ((va_up (va_up S 110648 (upd (S 110648) 0 (nI 0))) 182369 (upd ((va_up S 110648 (upd (S 110648) 0 (nI 0))) 182369) ((S 110648 42).toNatClampNeg) (S 110648 1))) 184417) ((S 110648 42).toNatClampNeg) x1)) 186465 (upd ((va_up (va_up (va_up S 110648 (upd (S 110648) 0 (nI 0))) 182369 (upd ((va_up S 110648 (upd (S 110648) 0 (nI 0))) 182369) ((S 110648 42).toNatClampNeg) (S 110648 1))) 184417 (upd ((va_up (va_up S 110648 (upd (S 110648) 0 (nI 0))) 182369 (upd ((va_up S 110648 (upd (S 110648) 0 (nI 0))) 182369) ((S 110648 42).toNatClampNeg) (S 110648 1))) 184417) ((S 110648 42).toNatClampNeg) x1)) 186465) ((S 110648 42).toNatClampNeg) x2)) 188513) ((S 110648 42).toNatClampNeg) x3)) 190561 (upd ((va_up (va_up (va_up (va_up (va_up S 110648 (upd (S 110648) 0 (nI 0))) 182369 (upd ((va_up S 110648 (upd (S 110648) 0 (nI 0))) 182369) ((S 110648 42).toNatClampNeg) (S 110648 1))) 184417 (upd ((va_up (va_up S 110648 (upd (S 110648) 0 (nI 0))) 182369 (upd ((va_up S 110648 (upd (S 110648) 0 (nI 0))) 182369) ((S 110648 42).toNatClampNeg) (S 110648 1))) 184417) ((S 110648 42).toNatClampNeg) x1)) 186465 (upd ((va_up (va_up (va_up S 110648 (upd (S 110648) 0 (nI 0))) 182369 (upd ((va_up S 110648 (upd (S 110648) 0 (nI 0))) 182369) ((S 110648 42).toNatClampNeg) (S 110648 1))) 184417 (upd ((va_up (va_up S 110648 (upd (S 110648) 0 (nI 0))) 182369 (upd ((va_up S 110648 (upd (S 110648) 0 (nI 0))) 182369) ((S 110648 42).toNatClampNeg) (S 110648 1))) 184417) ((S 110648 42).toNatClampNeg) x1)) 186465) ((S 110648 42).toNatClampNeg) x2)) 188513 (upd ((va_up (va_up (va_up (va_up S 110648 (upd (S 110648) 0 (nI 0))) 182369 (upd ((va_up S 110648 (upd (S 110648) 0 (nI 0))) 182369) ((S 110648 42).toNatClampNeg) (S 110648 1))) 184417 (upd ((va_up (va_up S 110648 (upd (S 110648) 0 (nI 0))) 182369 (upd ((va_up S 110648 (upd (S 110648) 0 (nI 0))) 182369) ((S 110648 42).toNatClampNeg) (S 110648 1))) 184417) ((S 110648 42).toNatClampNeg) x1)) 186465 (upd ((va_up (va_up (va_up S 110648 (upd (S 110648) 0 (nI 0))) 182369 (upd ((va_up S 110648 (upd (S 110648) 0 (nI 0))) 182369) ((S 110648 42).toNatClampNeg) (S 110648 1))) 184417 (upd ((va_up (va_up S 110648 (upd (S 110648) 0 (nI 0))) 182369 (upd ((va_up S 110648 (upd (S 110648) 0 (nI 0))) 182369) ((S 110648 42).toNatClampNeg) (S 110648 1))) 184417) ((S 110648 42).toNatClampNeg) x1)) 186465) ((S 110648 42).toNatClampNeg) x2)) 188513) ((S 110648 42).toNatClampNeg) x3)) 190561) ((S 110648 42).toNatClampNeg) x4)) 192610 (upd ((va_up (va_up (va_up (va_up (va_up (va_up S 110648 (upd (S 110648) 0 (nI 0))) 182369 (upd ((va_up S 110648 (upd (S 110648) 0 (nI 0))) 182369) ((S 110648 42).toNatClampNeg) (S 110648 1))) 184417 (upd ((va_up (va_up S 110648 (upd (S 110648) 0 (nI 0))) 182369 (upd ((va_up S 110648 (upd (S 110648) 0 (nI 0))) 182369) ((S 110648 42).toNatClampNeg) (S 110648 1))) 184417) ((S 110648 42).toNatClampNeg) x1)) 186465 (upd ((va_up (va_up (va_up S 110648 (upd (S 110648) 0 (nI 0))) 182369 (upd ((va_up S 110648 (upd (S 110648) 0 (nI 0))) 182369) ((S 110648 42).toNatClampNeg) (S 110648 1))) 184417 (upd ((va_up (va_up S 110648 (upd (S 110648) 0 (nI 0))) 182369 (upd ((va_up S 110648 (upd (S 110648) 0 (nI 0))) 182369) ((S 110648 42).toNatClampNeg) (S 110648 1))) 184417) ((S 110648 42).toNatClampNeg) x1)) 186465) ((S 110648 42).toNatClampNeg) x2)) 188513 (upd ((va_up (va_up (va_up (va_up S 110648 (upd (S 110648) 0 (nI 0))) 182369 (upd ((va_up S 110648 (upd (S 110648) 0 (nI 0))) 182369) ((S 110648 42).toNatClampNeg) (S 110648 1))) 184417 (upd ((va_up (va_up S 110648 (upd (S 110648) 0 (nI 0))) 182369 (upd ((va_up S 110648 (upd (S 110648) 0 (nI 0))) 182369) ((S 110648 42).toNatClampNeg) (S 110648 1))) 184417) ((S 110648 42).toNatClampNeg) x1)) 186465 (upd ((va_up (va_up (va_up S 110648 (upd (S 110648) 0 (nI 0))) 182369 (upd ((va_up S 110648 (upd (S 110648) 0 (nI 0))) 182369) ((S 110648 42).toNatClampNeg) (S 110648 1))) 184417 (upd ((va_up (va_up S 110648 (upd (S 110648) 0 (nI 0))) 182369 (upd ((va_up S 110648 (upd (S 110648) 0 (nI 0))) 182369) ((S 110648 42).toNatClampNeg) (S 110648 1))) 184417) ((S 110648 42).toNatClampNeg) x1)) 186465) ((S 110648 42).toNatClampNeg) x2)) 188513) ((S 110648 42).toNatClampNeg) x3)) 190561 (upd ((va_up (va_up (va_up (va_up (va_up S 110648 (upd (S 110648) 0 (nI 0))) 182369 (upd ((va_up S 110648 (upd (S 110648) 0 (nI 0))) 182369) ((S 110648 42).toNatClampNeg) (S 110648 1))) 184417 (upd ((va_up (va_up S 110648 (upd (S 110648) 0 (nI 0))) 182369 (upd ((va_up S 110648 (upd (S 110648) 0 (nI 0))) 182369) ((S 110648 42).toNatClampNeg) (S 110648 1))) 184417) ((S 110648 42).toNatClampNeg) x1)) 186465 (upd ((va_up (va_up (va_up S 110648 (upd (S 110648) 0 (nI 0))) 182369 (upd ((va_up S 110648 (upd (S 110648) 0 (nI 0))) 182369) ((S 110648 42).toNatClampNeg) (S 110648 1))) 184417 (upd ((va_up (va_up S 110648 (upd (S 110648) 0 (nI 0))) 182369 (upd ((va_up S 110648 (upd (S 110648) 0 (nI 0))) 182369) ((S 110648 42).toNatClampNeg) (S 110648 1))) 184417) ((S 110648 42).toNatClampNeg) x1)) 186465) ((S 110648 42).toNatClampNeg) x2)) 188513 (upd ((va_up (va_up (va_up (va_up S 110648 (upd (S 110648) 0 (nI 0))) 182369 (upd ((va_up S 110648 (upd (S 110648) 0 (nI 0))) 182369) ((S 110648 42).toNatClampNeg) (S 110648 1))) 184417 (upd ((va_up (va_up S 110648 (upd (S 110648) 0 (nI 0))) 182369 (upd ((va_up S 110648 (upd (S 110648) 0 (nI 0))) 182369) ((S 110648 42).toNatClampNeg) (S 110648 1))) 184417) ((S 110648 42).toNatClampNeg) x1)) 186465 (upd ((va_up (va_up (va_up S 110648 (upd (S 110648) 0 (nI 0))) 182369 (upd ((va_up S 110648 (upd (S 110648) 0 (nI 0))) 182369) ((S 110648 42).toNatClampNeg) (S 110648 1))) 184417 (upd ((va_up (va_up S 110648 (upd (S 110648) 0 (nI 0))) 182369 (upd ((va_up S 110648 (upd (S 110648) 0 (nI 0))) 182369) ((S 110648 42).toNatClampNeg) (S 110648 1))) 184417) ((S 110648 42).toNatClampNeg) x1)) 186465) ((S 110648 42).toNatClampNeg) x2)) 188513) ((S 110648 42).toNatClampNeg) x3)) 190561) ((S 110648 42).toNatClampNeg) x4)) 192610) ((S 110648 42).toNatClampNeg) (vp_nar .boolean x5))) 202849 (upd ((va_up (va_up (va_up (va_up (va_up (va_up (va_up S 110648 (upd (S 110648) 0 (nI 0))) 182369 (upd ((va_up S 110648 (upd (S 110648) 0 (nI 0))) 182369) ((S 110648 42).toNatClampNeg) (S 110648 1))) 184417 (upd ((va_up (va_up S 110648 (upd (S 110648) 0 (nI 0))) 182369 (upd ((va_up S 110648 (upd (S 110648) 0 (nI 0))) 182369) ((S 110648 42).toNatClampNeg) (S 110648 1))) 184417) ((S 110648 42).toNatClampNeg) x1)) 186465 (upd ((va_up (va_up (va_up S 110648 (upd (S 110648) 0 (nI 0))) 182369 (upd ((va_up S 110648 (upd (S 110648) 0 (nI 0))) 182369) ((S 110648 42).toNatClampNeg) (S 110648 1))) 184417 (upd ((va_up (va_up S 110648 (upd (S 110648) 0 (nI 0))) 182369 (upd ((va_up S 110648 (upd (S 110648) 0 (nI 0))) 182369) ((S 110648 42).toNatClampNeg) (S 110648 1))) 184417) ((S 110648 42).toNatClampNeg) x1)) 186465) ((S 110648 42).toNatClampNeg) x2)) 188513 (upd ((va_up (va_up (va_up (va_up S 110648 (upd (S 110648) 0 (nI 0))) 182369 (upd ((va_up S 110648 (upd (S 110648) 0 (nI 0))) 182369) ((S 110648 42).toNatClampNeg) (S 110648 1))) 184417 (upd ((va_up (va_up S 110648 (upd (S 110648) 0 (nI 0))) 182369 (upd ((va_up S 110648 (upd (S 110648) 0 (nI 0))) 182369) ((S 110648 42).toNatClampNeg) (S 110648 1))) 184417) ((S 110648 42).toNatClampNeg) x1)) 186465 (upd ((va_up (va_up (va_up S 110648 (upd (S 110648) 0 (nI 0))) 182369 (upd ((va_up S 110648 (upd (S 110648) 0 (nI 0))) 182369) ((S 110648 42).toNatClampNeg) (S 110648 1))) 184417 (upd ((va_up (va_up S 110648 (upd (S 110648) 0 (nI 0))) 182369 (upd ((va_up S 110648 (upd (S 110648) 0 (nI 0))) 182369) ((S 110648 42).toNatClampNeg) (S 110648 1))) 184417) ((S 110648 42).toNatClampNeg) x1)) 186465) ((S 110648 42).toNatClampNeg) x2)) 188513) ((S 110648 42).toNatClampNeg) x3)) 190561 (upd ((va_up (va_up (va_up (va_up (va_up S 110648 (upd (S 110648) 0 (nI 0))) 182369 (upd ((va_up S 110648 (upd (S 110648) 0 (nI 0))) 182369) ((S 110648 42).toNatClampNeg) (S 110648 1))) 184417 (upd ((va_up (va_up S 110648 (upd (S 110648) 0 (nI 0))) 182369 (upd ((va_up S 110648 (upd (S 110648) 0 (nI 0))) 182369) ((S 110648 42).toNatClampNeg) (S 110648 1))) 184417) ((S 110648 42).toNatClampNeg) x1)) 186465 (upd ((va_up (va_up (va_up S 110648 (upd (S 110648) 0 (nI 0))) 182369 (upd ((va_up S 110648 (upd (S 110648) 0 (nI 0))) 182369) ((S 110648 42).toNatClampNeg) (S 110648 1))) 184417 (upd ((va_up (va_up S 110648 (upd (S 110648) 0 (nI 0))) 182369 (upd ((va_up S 110648 (upd (S 110648) 0 (nI 0))) 182369) ((S 110648 42).toNatClampNeg) (S 110648 1))) 184417) ((S 110648 42).toNatClampNeg) x1)) 186465) ((S 110648 42).toNatClampNeg) x2)) 188513 (upd ((va_up (va_up (va_up (va_up S 110648 (upd (S 110648) 0 (nI 0))) 182369 (upd ((va_up S 110648 (upd (S 110648) 0 (nI 0))) 182369) ((S 110648 42).toNatClampNeg) (S 110648 1))) 184417 (upd ((va_up (va_up S 110648 (upd (S 110648) 0 (nI 0))) 182369 (upd ((va_up S 110648 (upd (S 110648) 0 (nI 0))) 182369) ((S 110648 42).toNatClampNeg) (S 110648 1))) 184417) ((S 110648 42).toNatClampNeg) x1)) 186465 (upd ((va_up (va_up (va_up S 110648 (upd (S 110648) 0 (nI 0))) 182369 (upd ((va_up S 110648 (upd (S 110648) 0 (nI 0))) 182369) ((S 110648 42).toNatClampNeg) (S 110648 1))) 184417 (upd ((va_up (va_up S 110648 (upd (S 110648) 0 (nI 0))) 182369 (upd ((va_up S 110648 (upd (S 110648) 0 (nI 0))) 182369) ((S 110648 42).toNatClampNeg) (S 110648 1))) 184417) ((S 110648 42).toNatClampNeg) x1)) 186465) ((S 110648 42).toNatClampNeg) x2)) 188513) ((S 110648 42).toNatClampNeg) x3)) 190561) ((S 110648 42).toNatClampNeg) x4)) 192610 (upd ((va_up (va_up (va_up (va_up (va_up (va_up S 110648 (upd (S 110648) 0 (nI 0))) 182369 (upd ((va_up S 110648 (upd (S 110648) 0 (nI 0))) 182369) ((S 110648 42).toNatClampNeg) (S 110648 1))) 184417 (upd ((va_up (va_up S 110648 (upd (S 110648) 0 (nI 0))) 182369 (upd ((va_up S 110648 (upd (S 110648) 0 (nI 0))) 182369) ((S 110648 42).toNatClampNeg) (S 110648 1))) 184417) ((S 110648 42).toNatClampNeg) x1)) 186465 (upd ((va_up (va_up (va_up S 110648 (upd (S 110648) 0 (nI 0))) 182369 (upd ((va_up S 110648 (upd (S 110648) 0 (nI 0))) 182369) ((S 110648 42).toNatClampNeg) (S 110648 1))) 184417 (upd ((va_up (va_up S 110648 (upd (S 110648) 0 (nI 0))) 182369 (upd ((va_up S 110648 (upd (S 110648) 0 (nI 0))) 182369) ((S 110648 42).toNatClampNeg) (S 110648 1))) 184417) ((S 110648 42).toNatClampNeg) x1)) 186465) ((S 110648 42).toNatClampNeg) x2)) 188513 (upd ((va_up (va_up (va_up (va_up S 110648 (upd (S 110648) 0 (nI 0))) 182369 (upd ((va_up S 110648 (upd (S 110648) 0 (nI 0))) 182369) ((S 110648 42).toNatClampNeg) (S 110648 1))) 184417 (upd ((va_up (va_up S 110648 (upd (S 110648) 0 (nI 0))) 182369 (upd ((va_up S 110648 (upd (S 110648) 0 (nI 0))) 182369) ((S 110648 42).toNatClampNeg) (S 110648 1))) 184417) ((S 110648 42).toNatClampNeg) x1)) 186465 (upd ((va_up (va_up (va_up S 110648 (upd (S 110648) 0 (nI 0))) 182369 (upd ((va_up S 110648 (upd (S 110648) 0 (nI 0))) 182369) ((S 110648 42).toNatClampNeg) (S 110648 1))) 184417 (upd ((va_up (va_up S 110648 (upd (S 110648) 0 (nI 0))) 182369 (upd ((va_up S 110648 (upd (S 110648) 0 (nI 0))) 182369) ((S 110648 42).toNatClampNeg) (S 110648 1))) 184417) ((S 110648 42).toNatClampNeg) x1)) 186465) ((S 110648 42).toNatClampNeg) x2)) 188513) ((S 110648 42).toNatClampNeg) x3)) 190561 (upd ((va_up (va_up (va_up (va_up (va_up S 110648 (upd (S 110648) 0 (nI 0))) 182369 (upd ((va_up S 110648 (upd (S 110648) 0 (nI 0))) 182369) ((S 110648 42).toNatClampNeg) (S 110648 1))) 184417 (upd ((va_up (va_up S 110648 (upd (S 110648) 0 (nI 0))) 182369 (upd ((va_up S 110648 (upd (S 110648) 0 (nI 0))) 182369) ((S 110648 42).toNatClampNeg) (S 110648 1))) 184417) ((S 110648 42).toNatClampNeg) x1)) 186465 (upd ((va_up (va_up (va_up S 110648 (upd (S 110648) 0 (nI 0))) 182369 (upd ((va_up S 110648 (upd (S 110648) 0 (nI 0))) 182369) ((S 110648 42).toNatClampNeg) (S 110648 1))) 184417 (upd ((va_up (va_up S 110648 (upd (S 110648) 0 (nI 0))) 182369 (upd ((va_up S 110648 (upd (S 110648) 0 (nI 0))) 182369) ((S 110648 42).toNatClampNeg) (S 110648 1))) 184417) ((S 110648 42).toNatClampNeg) x1)) 186465) ((S 110648 42).toNatClampNeg) x2)) 188513 (upd ((va_up (va_up (va_up (va_up S 110648 (upd (S 110648) 0 (nI 0))) 182369 (upd ((va_up S 110648 (upd (S 110648) 0 (nI 0))) 182369) ((S 110648 42).toNatClampNeg) (S 110648 1))) 184417 (upd ((va_up (va_up S 110648 (upd (S 110648) 0 (nI 0))) 182369 (upd ((va_up S 110648 (upd (S 110648) 0 (nI 0))) 182369) ((S 110648 42).toNatClampNeg) (S 110648 1))) 184417) ((S 110648 42).toNatClampNeg) x1)) 186465 (upd ((va_up (va_up (va_up S 110648 (upd (S 110648) 0 (nI 0))) 182369 (upd ((va_up S 110648 (upd (S 110648) 0 (nI 0))) 182369) ((S 110648 42).toNatClampNeg) (S 110648 1))) 184417 (upd ((va_up (va_up S 110648 (upd (S 110648) 0 (nI 0))) 182369 (upd ((va_up S 110648 (upd (S 110648) 0 (nI 0))) 182369) ((S 110648 42).toNatClampNeg) (S 110648 1))) 184417) ((S 110648 42).toNatClampNeg) x1)) 186465) ((S 110648 42).toNatClampNeg) x2)) 188513) ((S 110648 42).toNatClampNeg) x3)) 190561) ((S 110648 42).toNatClampNeg) x4)) 192610) ((S 110648 42).toNatClampNeg) (vp_nar .boolean x5))) 202849) ((S 110648 42).toNatClampNeg) (-1))) 110648) 42 ((S 110648 42) + (nI 1)))
  else
    va_up S 110648 (upd (S 110648) 0 (nI 1))
def sp_X7_notice : z_SP := fun as S P k => match as with
  | [.int x1, .int x2, .int x3, .int x4, .int x5] => z_JM S ∧ k (some (.int (f_X7_notice S P x1 x2 x3 x4 x5))) (u_X7_notice S P x1 x2 x3 x4 x5) P
  | _ => False
def G_X7_notice : z_G := ([(0, .aload_n 0, 1, 0), (1, .iload_n 1, 2, 0), (2, .iload_n 2, 3, 0), (3, .iload_n 3, 4, 0), (4, .iload 4, 6, 0), (6, .aload_n 0, 7, 0), (7, .getfield 209, 10, 0), (10, .invokestatic 226, 13, 0), (13, .ifCond .ne 7, 16, 20), (16, .iconst 1, 17, 0), (17, .goto 17, 20, 34), (20, .aload_n 0, 21, 0), (21, .getfield 170, 24, 0), (24, .bipush 12, 26, 0), (26, .if_icmp .ne 7, 29, 33), (29, .iconst 2, 30, 0), (30, .goto 4, 33, 34), (33, .iconst 0, 34, 0), (34, .invokevirtual 173, 37, 0), (37, .ifCond .ne 5, 40, 42), (40, .iconst 0, 41, 0), (41, .ireturn, 42, 0), (42, .aload_n 0, 43, 0), (43, .getfield 114, 46, 0), (46, .aload_n 0, 47, 0), (47, .getfield 170, 50, 0), (50, .aload_n 0, 51, 0), (51, .getfield 209, 54, 0), (54, .iastore, 55, 0), (55, .aload_n 0, 56, 0), (56, .getfield 117, 59, 0), (59, .aload_n 0, 60, 0), (60, .getfield 170, 63, 0), (63, .iload_n 1, 64, 0), (64, .iastore, 65, 0), (65, .aload_n 0, 66, 0), (66, .getfield 120, 69, 0), (69, .aload_n 0, 70, 0), (70, .getfield 170, 73, 0), (73, .iload_n 2, 74, 0), (74, .iastore, 75, 0), (75, .aload_n 0, 76, 0), (76, .getfield 123, 79, 0), (79, .aload_n 0, 80, 0), (80, .getfield 170, 83, 0), (83, .iload_n 3, 84, 0), (84, .iastore, 85, 0), (85, .aload_n 0, 86, 0), (86, .getfield 126, 89, 0), (89, .aload_n 0, 90, 0), (90, .getfield 170, 93, 0), (93, .iload 4, 95, 0), (95, .iastore, 96, 0), (96, .aload_n 0, 97, 0), (97, .getfield 129, 100, 0), (100, .aload_n 0, 101, 0), (101, .getfield 170, 104, 0), (104, .iload 5, 106, 0), (106, .bastore, 107, 0), (107, .aload_n 0, 108, 0), (108, .getfield 144, 111, 0), (111, .aload_n 0, 112, 0), (112, .getfield 170, 115, 0), (115, .iconst (-1), 116, 0), (116, .iastore, 117, 0), (117, .aload_n 0, 118, 0), (118, .dup, 119, 0), (119, .getfield 170, 122, 0), (122, .iconst 1, 123, 0), (123, .iadd, 124, 0), (124, .putfield 170, 127, 0), (127, .aload_n 0, 128, 0), (128, .getfield 170, 131, 0), (131, .iconst 1, 132, 0), (132, .isub, 133, 0), (133, .ireturn, 134, 0)], [(114, 110648, 43, some 182369), (117, 110648, 44, some 184417), (120, 110648, 45, some 186465), (123, 110648, 46, some 188513), (126, 110648, 47, some 190561), (129, 110648, 48, some 192610), (144, 110648, 53, some 202849), (170, 110648, 42, none), (209, 110648, 1, none)], [(100226, 5, sp_X7_isWhat), (173, 2, (z_rc 110648 sp_X7_holds))], [], [], [], [], some .int)
set_option maxRecDepth 20000 in
set_option maxHeartbeats 4000000 in
theorem ct_X7_notice (l : Launch) : z_CT l yX7_notice cX7_notice 6 (some .int) (z_rc 110648 sp_X7_notice) 2 := by
  refine z_CT_of G_X7_notice (by decide) (by decide +kernel) (z_pok_of ft_X7 ci_X7 cL_X7_L fo_X7 co_X7 lo_X7 (by decide +kernel)) rfl rfl ?_ ?_ ?_
  · intro as S P Po h0
    obtain ⟨as, rfl, h⟩ := z_rc_of h0
    unfold sp_X7_notice at h
    split at h
    · exact Nat.le_of_ble_eq_true rfl
    · exact h.elim
  · exact List.forall_mem_cons.mpr ⟨z_coS (ct_X7_isWhat l) kb_X7_isWhat ks_X7_226 (by decide) (by decide), List.forall_mem_cons.mpr ⟨z_coV (ct_X7_holds l) kb_X7_holds kv_X7_173 ko_X7 (by decide) (by decide) (by decide), fun _ h => absurd h List.not_mem_nil⟩⟩
  · intro as S P Po h0 V hV hW
    obtain ⟨as, rfl, h⟩ := z_rc_of h0
    unfold sp_X7_notice at h
    split at h
    · rename_i x1 x2 x3 x4 x5
      obtain ⟨hp0, hpo⟩ := h
      refine hV [] 81 0 _ _ _ _ ?_
      refine z_brn (fun (h1 : (f_X7_isWhat S P x1 x2 x3 x4 (S 110648 1)) = true) => ?_) (fun (h1 : (f_X7_isWhat S P x1 x2 x3 x4 (S 110648 1)) = false) => ?_)
      · refine ⟨fun (h2 : ¬ ((S 110648 42) = (nI 12))) => ?_, fun (h2 : (S 110648 42) = (nI 12)) => ?_⟩
        · refine z_hnT (z_hq0 _ _) ?_
          refine ⟨(show vp_in (S 110648 42) 12 by exact z_rne (by assumption) (z_J_Mnotices hp0) (by decide)), ?_⟩
          refine ⟨(show vp_in (S 110648 42) 12 by exact z_rne (by assumption) (z_J_Mnotices hp0) (by decide)), ?_⟩
          refine ⟨(show vp_in (S 110648 42) 12 by exact z_rne (by assumption) (z_J_Mnotices hp0) (by decide)), ?_⟩
          refine ⟨(show vp_in (S 110648 42) 12 by exact z_rne (by assumption) (z_J_Mnotices hp0) (by decide)), ?_⟩
          refine ⟨(show vp_in (S 110648 42) 12 by exact z_rne (by assumption) (z_J_Mnotices hp0) (by decide)), ?_⟩
          refine ⟨(show vp_in (S 110648 42) 12 by exact z_rne (by assumption) (z_J_Mnotices hp0) (by decide)), ?_⟩
          refine ⟨(show vp_in (S 110648 42) 12 by exact z_rne (by assumption) (z_J_Mnotices hp0) (by decide)), ?_⟩
          exact z_pi hpo ((if_pos h1).trans ((if_neg h2).trans rfl)) ((if_pos h1).trans ((if_neg h2).trans rfl)) (rfl)
        · refine z_hnF (z_hq2 _ _) ?_
          exact z_pi hpo ((if_pos h1).trans ((if_pos h2).trans rfl)) ((if_pos h1).trans ((if_pos h2).trans rfl)) (rfl)
      · refine z_hnF (z_hq1 _ _) ?_
        exact z_pi hpo ((if_neg (z_nt h1)).trans rfl) ((if_neg (z_nt h1)).trans rfl) (rfl)
    · exact h.elim
def f_X7_agree (S : z_MI) (P : z_ML) (x1 : Int32) (x2 : Int32) : Int32 :=
  if (f_X7_isPeople S P x1) = true then
    if (f_X7_isNotice S P x2) = true then
      if (f_X7_canSpeak S P x1 x2) = true then
        if (f_X7_has S P (S 198753 x2.toNatClampNeg) x1) = true then
          nI 0
        else
          f_X7_bits (va_up (va_up S 110648 (upd (S 110648) 0 (nI 0))) 198753 (upd ((va_up S 110648 (upd (S 110648) 0 (nI 0))) 198753) x2.toNatClampNeg ((S 198753 x2.toNatClampNeg) ||| ((nI 1) <<< (x1 &&& 31))))) P ((f_X7_partiesOf (va_up (va_up S 110648 (upd (S 110648) 0 (nI 0))) 198753 (upd ((va_up S 110648 (upd (S 110648) 0 (nI 0))) 198753) x2.toNatClampNeg ((S 198753 x2.toNatClampNeg) ||| ((nI 1) <<< (x1 &&& 31))))) P x2) &&& (((upd (S 198753) x2.toNatClampNeg ((S 198753 x2.toNatClampNeg) ||| ((nI 1) <<< (x1 &&& 31)))) x2.toNatClampNeg) ^^^ (-1)))
      else
        nI 0
    else
      nI 0
  else
    nI 0
def u_X7_agree (S : z_MI) (P : z_ML) (x1 : Int32) (x2 : Int32) : z_MI :=
  if (f_X7_isPeople S P x1) = true then
    if (f_X7_isNotice S P x2) = true then
      if (f_X7_canSpeak S P x1 x2) = true then
        if (f_X7_has S P (S 198753 x2.toNatClampNeg) x1) = true then
          va_up S 110648 (upd (S 110648) 0 (nI 2))
        else
          va_up (va_up S 110648 (upd (S 110648) 0 (nI 0))) 198753 (upd ((va_up S 110648 (upd (S 110648) 0 (nI 0))) 198753) x2.toNatClampNeg ((S 198753 x2.toNatClampNeg) ||| ((nI 1) <<< (x1 &&& 31))))
      else
        va_up S 110648 (upd (S 110648) 0 (nI 2))
    else
      va_up S 110648 (upd (S 110648) 0 (nI 1))
  else
    va_up S 110648 (upd (S 110648) 0 (nI 1))
def sp_X7_agree : z_SP := fun as S P k => match as with
  | [.int x1, .int x2] => z_JM S ∧ k (some (.int (f_X7_agree S P x1 x2))) (u_X7_agree S P x1 x2) P
  | _ => False
def G_X7_agree : z_G := ([(0, .aload_n 0, 1, 0), (1, .iload_n 1, 2, 0), (2, .invokevirtual 187, 5, 0), (5, .ifCond .eq 15, 8, 20), (8, .aload_n 0, 9, 0), (9, .iload_n 2, 10, 0), (10, .invokevirtual 278, 13, 0), (13, .ifCond .eq 7, 16, 20), (16, .iconst 1, 17, 0), (17, .goto 4, 20, 21), (20, .iconst 0, 21, 0), (21, .istore_n 3, 22, 0), (22, .aload_n 0, 23, 0), (23, .iload_n 3, 24, 0), (24, .ifCond .ne 7, 27, 31), (27, .iconst 1, 28, 0), (28, .goto 30, 31, 58), (31, .aload_n 0, 32, 0), (32, .iload_n 1, 33, 0), (33, .iload_n 2, 34, 0), (34, .invokevirtual 281, 37, 0), (37, .ifCond .eq 16, 40, 53), (40, .aload_n 0, 41, 0), (41, .getfield 138, 44, 0), (44, .iload_n 2, 45, 0), (45, .iaload, 46, 0), (46, .iload_n 1, 47, 0), (47, .invokestatic 180, 50, 0), (50, .ifCond .eq 7, 53, 57), (53, .iconst 2, 54, 0), (54, .goto 4, 57, 58), (57, .iconst 0, 58, 0), (58, .invokevirtual 173, 61, 0), (61, .ifCond .ne 5, 64, 66), (64, .iconst 0, 65, 0), (65, .ireturn, 66, 0), (66, .aload_n 0, 67, 0), (67, .getfield 138, 70, 0), (70, .iload_n 2, 71, 0), (71, .dup2, 72, 0), (72, .iaload, 73, 0), (73, .iconst 1, 74, 0), (74, .iload_n 1, 75, 0), (75, .ishl, 76, 0), (76, .ior, 77, 0), (77, .iastore, 78, 0), (78, .aload_n 0, 79, 0), (79, .iload_n 2, 80, 0), (80, .invokevirtual 275, 83, 0), (83, .aload_n 0, 84, 0), (84, .getfield 138, 87, 0), (87, .iload_n 2, 88, 0), (88, .iaload, 89, 0), (89, .iconst (-1), 90, 0), (90, .ixor, 91, 0), (91, .iand, 92, 0), (92, .invokestatic 194, 95, 0), (95, .ireturn, 96, 0)], [(138, 110648, 51, some 198753)], [(100180, 2, sp_X7_has), (100194, 1, sp_X7_bits), (173, 2, (z_rc 110648 sp_X7_holds)), (187, 2, (z_rc 110648 sp_X7_isPeople)), (275, 2, (z_rc 110648 sp_X7_partiesOf)), (278, 2, (z_rc 110648 sp_X7_isNotice)), (281, 3, (z_rc 110648 sp_X7_canSpeak))], [], [], [], [], some .int)
set_option maxRecDepth 20000 in
set_option maxHeartbeats 4000000 in
theorem ct_X7_agree (l : Launch) : z_CT l yX7_agree cX7_agree 4 (some .int) (z_rc 110648 sp_X7_agree) 3 := by
  refine z_CT_of G_X7_agree (by decide) (by decide +kernel) (z_pok_of ft_X7 ci_X7 cL_X7_L fo_X7 co_X7 lo_X7 (by decide +kernel)) rfl rfl ?_ ?_ ?_
  · intro as S P Po h0
    obtain ⟨as, rfl, h⟩ := z_rc_of h0
    unfold sp_X7_agree at h
    split at h
    · exact Nat.le_of_ble_eq_true rfl
    · exact h.elim
  · exact List.forall_mem_cons.mpr ⟨z_coS (ct_X7_has l) kb_X7_has ks_X7_180 (by decide) (by decide), List.forall_mem_cons.mpr ⟨z_coS (ct_X7_bits l) kb_X7_bits ks_X7_194 (by decide) (by decide), List.forall_mem_cons.mpr ⟨z_coV (ct_X7_holds l) kb_X7_holds kv_X7_173 ko_X7 (by decide) (by decide) (by decide), List.forall_mem_cons.mpr ⟨z_coV (ct_X7_isPeople l) kb_X7_isPeople kv_X7_187 ko_X7 (by decide) (by decide) (by decide), List.forall_mem_cons.mpr ⟨z_coV (ct_X7_partiesOf l) kb_X7_partiesOf kv_X7_275 ko_X7 (by decide) (by decide) (by decide), List.forall_mem_cons.mpr ⟨z_coV (ct_X7_isNotice l) kb_X7_isNotice kv_X7_278 ko_X7 (by decide) (by decide) (by decide), List.forall_mem_cons.mpr ⟨z_coV (ct_X7_canSpeak l) kb_X7_canSpeak kv_X7_281 ko_X7 (by decide) (by decide) (by decide), fun _ h => absurd h List.not_mem_nil⟩⟩⟩⟩⟩⟩⟩
  · intro as S P Po h0 V hV hW
    obtain ⟨as, rfl, h⟩ := z_rc_of h0
    unfold sp_X7_agree at h
    split at h
    · rename_i x1 x2
      obtain ⟨hp0, hpo⟩ := h
      refine hV [] 63 0 _ _ _ _ ?_
      refine z_br (fun (h1 : (f_X7_isPeople S P x1) = false) => ?_) (fun (h1 : (f_X7_isPeople S P x1) = true) => ?_)
      · refine ⟨fun h => absurd (by decide) h, fun _ => ?_⟩
        refine z_hnF (z_hq1 _ _) ?_
        exact z_pi hpo ((if_neg (z_nt h1)).trans rfl) ((if_neg (z_nt h1)).trans rfl) (rfl)
      · refine z_br (fun (h2 : (f_X7_isNotice S P x2) = false) => ?_) (fun (h2 : (f_X7_isNotice S P x2) = true) => ?_)
        · refine ⟨fun h => absurd (by decide) h, fun _ => ?_⟩
          refine z_hnF (z_hq1 _ _) ?_
          exact z_pi hpo ((if_pos h1).trans ((if_neg (z_nt h2)).trans rfl)) ((if_pos h1).trans ((if_neg (z_nt h2)).trans rfl)) (rfl)
        · refine ⟨fun _ => ?_, fun h => absurd h (by decide)⟩
          refine ⟨(show vp_in x2 12 by first | exact m_isClaim hp0 (by assumption) | exact m_isNotice hp0 (by assumption)), (show z_le (S 110648 33) 12 by exact z_J_Mclaims hp0), ?_⟩
          refine z_br (fun (h3 : (f_X7_canSpeak S P x1 x2) = false) => ?_) (fun (h3 : (f_X7_canSpeak S P x1 x2) = true) => ?_)
          · refine z_hnF (z_hq2 _ _) ?_
            exact z_pi hpo ((if_pos h1).trans ((if_pos h2).trans ((if_neg (z_nt h3)).trans rfl))) ((if_pos h1).trans ((if_pos h2).trans ((if_neg (z_nt h3)).trans rfl))) (rfl)
          · refine ⟨(show vp_in x2 12 by first | exact m_isClaim hp0 (by assumption) | exact m_isNotice hp0 (by assumption)), ?_⟩
            refine z_br (fun (h4 : (f_X7_has S P (S 198753 x2.toNatClampNeg) x1) = false) => ?_) (fun (h4 : (f_X7_has S P (S 198753 x2.toNatClampNeg) x1) = true) => ?_)
            · refine z_hnT (z_hq0 _ _) ?_
              refine ⟨(show vp_in x2 12 by first | exact m_isClaim hp0 (by assumption) | exact m_isNotice hp0 (by assumption)), ?_⟩
              refine ⟨(show vp_in x2 12 by first | exact m_isClaim hp0 (by assumption) | exact m_isNotice hp0 (by assumption)), ?_⟩
              refine ⟨(show z_le ((va_up (va_up S 110648 (upd (S 110648) 0 (nI 0))) 198753 (upd ((va_up S 110648 (upd (S 110648) 0 (nI 0))) 198753) x2.toNatClampNeg ((S 198753 x2.toNatClampNeg) ||| ((nI 1) <<< (x1 &&& 31))))) 110648 33) 12 by exact z_J_Mclaims hp0), (show vp_in x2 12 by first | exact m_isClaim hp0 (by assumption) | exact m_isNotice hp0 (by assumption)), ?_⟩
              refine ⟨(show vp_in x2 12 by first | exact m_isClaim hp0 (by assumption) | exact m_isNotice hp0 (by assumption)), ?_⟩
              exact z_pi hpo ((if_pos h1).trans ((if_pos h2).trans ((if_pos h3).trans ((if_neg (z_nt h4)).trans rfl)))) ((if_pos h1).trans ((if_pos h2).trans ((if_pos h3).trans ((if_neg (z_nt h4)).trans rfl)))) (rfl)
            · refine z_hnF (z_hq2 _ _) ?_
              exact z_pi hpo ((if_pos h1).trans ((if_pos h2).trans ((if_pos h3).trans ((if_pos h4).trans rfl)))) ((if_pos h1).trans ((if_pos h2).trans ((if_pos h3).trans ((if_pos h4).trans rfl)))) (rfl)
    · exact h.elim
def u_X7_object (S : z_MI) (P : z_ML) (x1 : Int32) (x2 : Int32) : z_MI :=
  if (f_X7_isPeople S P x1) = true then
    if (f_X7_isNotice S P x2) = true then
      if (f_X7_canSpeak S P x1 x2) = true then
        if (S 192610 x2.toNatClampNeg) = 0 then
          va_up S 110648 (upd (S 110648) 0 (nI 2))
        else
          if (nI 4) < (f_X7_age S P x2) then
            va_up S 110648 (upd (S 110648) 0 (nI 2))
          else
            if (f_X7_has S P (S 200801 x2.toNatClampNeg) x1) = true then
              va_up S 110648 (upd (S 110648) 0 (nI 2))
            else
              va_up (va_up S 110648 (upd (S 110648) 0 (nI 0))) 200801 (upd ((va_up S 110648 (upd (S 110648) 0 (nI 0))) 200801) x2.toNatClampNeg ((S 200801 x2.toNatClampNeg) ||| ((nI 1) <<< (x1 &&& 31))))
      else
        va_up S 110648 (upd (S 110648) 0 (nI 2))
    else
      va_up S 110648 (upd (S 110648) 0 (nI 1))
  else
    va_up S 110648 (upd (S 110648) 0 (nI 1))
def sp_X7_object : z_SP := fun as S P k => match as with
  | [.int x1, .int x2] => z_JM S ∧ k (none) (u_X7_object S P x1 x2) P
  | _ => False
def G_X7_object : z_G := ([(0, .aload_n 0, 1, 0), (1, .iload_n 1, 2, 0), (2, .invokevirtual 187, 5, 0), (5, .ifCond .eq 15, 8, 20), (8, .aload_n 0, 9, 0), (9, .iload_n 2, 10, 0), (10, .invokevirtual 278, 13, 0), (13, .ifCond .eq 7, 16, 20), (16, .iconst 1, 17, 0), (17, .goto 4, 20, 21), (20, .iconst 0, 21, 0), (21, .istore_n 3, 22, 0), (22, .iload_n 3, 23, 0), (23, .ifCond .eq 47, 26, 70), (26, .aload_n 0, 27, 0), (27, .iload_n 1, 28, 0), (28, .iload_n 2, 29, 0), (29, .invokevirtual 281, 32, 0), (32, .ifCond .eq 38, 35, 70), (35, .aload_n 0, 36, 0), (36, .getfield 129, 39, 0), (39, .iload_n 2, 40, 0), (40, .baload, 41, 0), (41, .ifCond .eq 29, 44, 70), (44, .aload_n 0, 45, 0), (45, .iload_n 2, 46, 0), (46, .invokevirtual 284, 49, 0), (49, .iconst 4, 50, 0), (50, .if_icmp .gt 20, 53, 70), (53, .aload_n 0, 54, 0), (54, .getfield 141, 57, 0), (57, .iload_n 2, 58, 0), (58, .iaload, 59, 0), (59, .iload_n 1, 60, 0), (60, .invokestatic 180, 63, 0), (63, .ifCond .ne 7, 66, 70), (66, .iconst 1, 67, 0), (67, .goto 4, 70, 71), (70, .iconst 0, 71, 0), (71, .istore 4, 73, 0), (73, .aload_n 0, 74, 0), (74, .iload_n 3, 75, 0), (75, .ifCond .ne 7, 78, 82), (78, .iconst 1, 79, 0), (79, .goto 13, 82, 92), (82, .iload 4, 84, 0), (84, .ifCond .eq 7, 87, 91), (87, .iconst 0, 88, 0), (88, .goto 4, 91, 92), (91, .iconst 2, 92, 0), (92, .invokevirtual 173, 95, 0), (95, .ifCond .eq 15, 98, 110), (98, .aload_n 0, 99, 0), (99, .getfield 141, 102, 0), (102, .iload_n 2, 103, 0), (103, .dup2, 104, 0), (104, .iaload, 105, 0), (105, .iconst 1, 106, 0), (106, .iload_n 1, 107, 0), (107, .ishl, 108, 0), (108, .ior, 109, 0), (109, .iastore, 110, 0), (110, .return_, 111, 0)], [(129, 110648, 48, some 192610), (141, 110648, 52, some 200801)], [(100180, 2, sp_X7_has), (173, 2, (z_rc 110648 sp_X7_holds)), (187, 2, (z_rc 110648 sp_X7_isPeople)), (278, 2, (z_rc 110648 sp_X7_isNotice)), (281, 3, (z_rc 110648 sp_X7_canSpeak)), (284, 2, (z_rc 110648 sp_X7_age))], [], [], [], [], none)
set_option maxRecDepth 20000 in
set_option maxHeartbeats 4000000 in
theorem ct_X7_object (l : Launch) : z_CT l yX7_object cX7_object 5 (none) (z_rc 110648 sp_X7_object) 3 := by
  refine z_CT_of G_X7_object (by decide) (by decide +kernel) (z_pok_of ft_X7 ci_X7 cL_X7_L fo_X7 co_X7 lo_X7 (by decide +kernel)) rfl rfl ?_ ?_ ?_
  · intro as S P Po h0
    obtain ⟨as, rfl, h⟩ := z_rc_of h0
    unfold sp_X7_object at h
    split at h
    · exact Nat.le_of_ble_eq_true rfl
    · exact h.elim
  · exact List.forall_mem_cons.mpr ⟨z_coS (ct_X7_has l) kb_X7_has ks_X7_180 (by decide) (by decide), List.forall_mem_cons.mpr ⟨z_coV (ct_X7_holds l) kb_X7_holds kv_X7_173 ko_X7 (by decide) (by decide) (by decide), List.forall_mem_cons.mpr ⟨z_coV (ct_X7_isPeople l) kb_X7_isPeople kv_X7_187 ko_X7 (by decide) (by decide) (by decide), List.forall_mem_cons.mpr ⟨z_coV (ct_X7_isNotice l) kb_X7_isNotice kv_X7_278 ko_X7 (by decide) (by decide) (by decide), List.forall_mem_cons.mpr ⟨z_coV (ct_X7_canSpeak l) kb_X7_canSpeak kv_X7_281 ko_X7 (by decide) (by decide) (by decide), List.forall_mem_cons.mpr ⟨z_coV (ct_X7_age l) kb_X7_age kv_X7_284 ko_X7 (by decide) (by decide) (by decide), fun _ h => absurd h List.not_mem_nil⟩⟩⟩⟩⟩⟩
  · intro as S P Po h0 V hV hW
    obtain ⟨as, rfl, h⟩ := z_rc_of h0
    unfold sp_X7_object at h
    split at h
    · rename_i x1 x2
      obtain ⟨hp0, hpo⟩ := h
      refine hV [] 68 0 _ _ _ _ ?_
      refine z_br (fun (h1 : (f_X7_isPeople S P x1) = false) => ?_) (fun (h1 : (f_X7_isPeople S P x1) = true) => ?_)
      · refine ⟨fun _ => ?_, fun h => absurd (by decide) h⟩
        refine ⟨fun h => absurd (by decide) h, fun _ => ?_⟩
        refine z_hbF (z_hq1 _ _) ?_
        exact z_pv hpo ((if_neg (z_nt h1)).trans rfl) (rfl)
      · refine z_br (fun (h2 : (f_X7_isNotice S P x2) = false) => ?_) (fun (h2 : (f_X7_isNotice S P x2) = true) => ?_)
        · refine ⟨fun _ => ?_, fun h => absurd (by decide) h⟩
          refine ⟨fun h => absurd (by decide) h, fun _ => ?_⟩
          refine z_hbF (z_hq1 _ _) ?_
          exact z_pv hpo ((if_pos h1).trans ((if_neg (z_nt h2)).trans rfl)) (rfl)
        · refine ⟨fun h => absurd h (by decide), fun _ => ?_⟩
          refine ⟨(show vp_in x2 12 by first | exact m_isClaim hp0 (by assumption) | exact m_isNotice hp0 (by assumption)), (show z_le (S 110648 33) 12 by exact z_J_Mclaims hp0), ?_⟩
          refine z_br (fun (h3 : (f_X7_canSpeak S P x1 x2) = false) => ?_) (fun (h3 : (f_X7_canSpeak S P x1 x2) = true) => ?_)
          · refine ⟨fun _ => ?_, fun h => absurd h (by decide)⟩
            refine ⟨fun _ => ?_, fun h => absurd (by decide) h⟩
            refine z_hbF (z_hq2 _ _) ?_
            exact z_pv hpo ((if_pos h1).trans ((if_pos h2).trans ((if_neg (z_nt h3)).trans rfl))) (rfl)
          · refine ⟨(show vp_in x2 12 by first | exact m_isClaim hp0 (by assumption) | exact m_isNotice hp0 (by assumption)), ?_⟩
            refine ⟨fun (h4 : (S 192610 x2.toNatClampNeg) = 0) => ?_, fun (h4 : ¬ ((S 192610 x2.toNatClampNeg) = 0)) => ?_⟩
            · refine ⟨fun _ => ?_, fun h => absurd h (by decide)⟩
              refine ⟨fun _ => ?_, fun h => absurd (by decide) h⟩
              refine z_hbF (z_hq2 _ _) ?_
              exact z_pv hpo ((if_pos h1).trans ((if_pos h2).trans ((if_pos h3).trans ((if_pos h4).trans rfl)))) (rfl)
            · refine ⟨(show vp_in x2 12 by first | exact m_isClaim hp0 (by assumption) | exact m_isNotice hp0 (by assumption)), ?_⟩
              refine ⟨fun (h5 : (nI 4) < (f_X7_age S P x2)) => ?_, fun (h5 : ¬ ((nI 4) < (f_X7_age S P x2))) => ?_⟩
              · refine ⟨fun _ => ?_, fun h => absurd h (by decide)⟩
                refine ⟨fun _ => ?_, fun h => absurd (by decide) h⟩
                refine z_hbF (z_hq2 _ _) ?_
                exact z_pv hpo ((if_pos h1).trans ((if_pos h2).trans ((if_pos h3).trans ((if_neg h4).trans ((if_pos h5).trans rfl))))) (rfl)
              · refine ⟨(show vp_in x2 12 by first | exact m_isClaim hp0 (by assumption) | exact m_isNotice hp0 (by assumption)), ?_⟩
                refine z_brn (fun (h6 : (f_X7_has S P (S 200801 x2.toNatClampNeg) x1) = true) => ?_) (fun (h6 : (f_X7_has S P (S 200801 x2.toNatClampNeg) x1) = false) => ?_)
                · refine ⟨fun _ => ?_, fun h => absurd h (by decide)⟩
                  refine ⟨fun _ => ?_, fun h => absurd (by decide) h⟩
                  refine z_hbF (z_hq2 _ _) ?_
                  exact z_pv hpo ((if_pos h1).trans ((if_pos h2).trans ((if_pos h3).trans ((if_neg h4).trans ((if_neg h5).trans ((if_pos h6).trans rfl)))))) (rfl)
                · refine ⟨fun _ => ?_, fun h => absurd h (by decide)⟩
                  refine ⟨fun h => absurd h (by decide), fun _ => ?_⟩
                  refine z_hbT (z_hq0 _ _) ?_
                  refine ⟨(show vp_in x2 12 by first | exact m_isClaim hp0 (by assumption) | exact m_isNotice hp0 (by assumption)), ?_⟩
                  refine ⟨(show vp_in x2 12 by first | exact m_isClaim hp0 (by assumption) | exact m_isNotice hp0 (by assumption)), ?_⟩
                  exact z_pv hpo ((if_pos h1).trans ((if_pos h2).trans ((if_pos h3).trans ((if_neg h4).trans ((if_neg h5).trans ((if_neg (z_nt h6)).trans rfl)))))) (rfl)
    · exact h.elim
def f_X7_decide (S : z_MI) (P : z_ML) (x1 : Int32) (x2 : Int32) : Int32 :=
  if (f_X7_isNotice S P x1) = true then
    if (S 194657 x1.toNatClampNeg) = 0 then
      if (f_X7_age S P x1) < (nI 6) then
        nI 0
      else
        if (S 196706 x1.toNatClampNeg) = 0 then
          if x2 = 0 then
            (upd (S 194657) x1.toNatClampNeg (nI 2)) x1.toNatClampNeg
          else
            (upd (S 194657) x1.toNatClampNeg (nI 0)) x1.toNatClampNeg
        else
          nI 0
    else
      nI 0
  else
    nI 0
def u_X7_decide (S : z_MI) (P : z_ML) (x1 : Int32) (x2 : Int32) : z_MI :=
  if (f_X7_isNotice S P x1) = true then
    if (S 194657 x1.toNatClampNeg) = 0 then
      if (f_X7_age S P x1) < (nI 6) then
        va_up S 110648 (upd (S 110648) 0 (nI 2))
      else
        if (S 196706 x1.toNatClampNeg) = 0 then
          if x2 = 0 then
            va_up (va_up (va_up S 110648 (upd (S 110648) 0 (nI 0))) 196706 (upd ((va_up S 110648 (upd (S 110648) 0 (nI 0))) 196706) x1.toNatClampNeg (vp_nar .boolean x2))) 194657 (upd ((va_up (va_up S 110648 (upd (S 110648) 0 (nI 0))) 196706 (upd ((va_up S 110648 (upd (S 110648) 0 (nI 0))) 196706) x1.toNatClampNeg (vp_nar .boolean x2))) 194657) x1.toNatClampNeg (nI 2))
          else
            va_up (va_up (va_up S 110648 (upd (S 110648) 0 (nI 0))) 196706 (upd ((va_up S 110648 (upd (S 110648) 0 (nI 0))) 196706) x1.toNatClampNeg (vp_nar .boolean x2))) 194657 (upd ((va_up (va_up S 110648 (upd (S 110648) 0 (nI 0))) 196706 (upd ((va_up S 110648 (upd (S 110648) 0 (nI 0))) 196706) x1.toNatClampNeg (vp_nar .boolean x2))) 194657) x1.toNatClampNeg (nI 0))
        else
          va_up S 110648 (upd (S 110648) 0 (nI 2))
    else
      va_up S 110648 (upd (S 110648) 0 (nI 2))
  else
    va_up S 110648 (upd (S 110648) 0 (nI 1))
def sp_X7_decide : z_SP := fun as S P k => match as with
  | [.int x1, .int x2] => z_JM S ∧ k (some (.int (f_X7_decide S P x1 x2))) (u_X7_decide S P x1 x2) P
  | _ => False
def G_X7_decide : z_G := ([(0, .aload_n 0, 1, 0), (1, .iload_n 1, 2, 0), (2, .invokevirtual 278, 5, 0), (5, .istore_n 3, 6, 0), (6, .aload_n 0, 7, 0), (7, .iload_n 3, 8, 0), (8, .ifCond .ne 7, 11, 15), (11, .iconst 1, 12, 0), (12, .goto 36, 15, 48), (15, .aload_n 0, 16, 0), (16, .getfield 132, 19, 0), (19, .iload_n 1, 20, 0), (20, .iaload, 21, 0), (21, .ifCond .ne 22, 24, 43), (24, .aload_n 0, 25, 0), (25, .iload_n 1, 26, 0), (26, .invokevirtual 284, 29, 0), (29, .bipush 6, 31, 0), (31, .if_icmp .lt 12, 34, 43), (34, .aload_n 0, 35, 0), (35, .getfield 135, 38, 0), (38, .iload_n 1, 39, 0), (39, .baload, 40, 0), (40, .ifCond .eq 7, 43, 47), (43, .iconst 2, 44, 0), (44, .goto 4, 47, 48), (47, .iconst 0, 48, 0), (48, .invokevirtual 173, 51, 0), (51, .ifCond .ne 5, 54, 56), (54, .iconst 0, 55, 0), (55, .ireturn, 56, 0), (56, .aload_n 0, 57, 0), (57, .getfield 135, 60, 0), (60, .iload_n 1, 61, 0), (61, .iload_n 2, 62, 0), (62, .bastore, 63, 0), (63, .aload_n 0, 64, 0), (64, .getfield 132, 67, 0), (67, .iload_n 1, 68, 0), (68, .iload_n 2, 69, 0), (69, .ifCond .eq 7, 72, 76), (72, .iconst 0, 73, 0), (73, .goto 4, 76, 77), (76, .iconst 2, 77, 0), (77, .iastore, 78, 0), (78, .aload_n 0, 79, 0), (79, .getfield 132, 82, 0), (82, .iload_n 1, 83, 0), (83, .iaload, 84, 0), (84, .ireturn, 85, 0)], [(132, 110648, 49, some 194657), (135, 110648, 50, some 196706)], [(173, 2, (z_rc 110648 sp_X7_holds)), (278, 2, (z_rc 110648 sp_X7_isNotice)), (284, 2, (z_rc 110648 sp_X7_age))], [], [], [], [], some .int)
set_option maxRecDepth 20000 in
set_option maxHeartbeats 4000000 in
theorem ct_X7_decide (l : Launch) : z_CT l yX7_decide cX7_decide 4 (some .int) (z_rc 110648 sp_X7_decide) 2 := by
  refine z_CT_of G_X7_decide (by decide) (by decide +kernel) (z_pok_of ft_X7 ci_X7 cL_X7_L fo_X7 co_X7 lo_X7 (by decide +kernel)) rfl rfl ?_ ?_ ?_
  · intro as S P Po h0
    obtain ⟨as, rfl, h⟩ := z_rc_of h0
    unfold sp_X7_decide at h
    split at h
    · exact Nat.le_of_ble_eq_true rfl
    · exact h.elim
  · exact List.forall_mem_cons.mpr ⟨z_coV (ct_X7_holds l) kb_X7_holds kv_X7_173 ko_X7 (by decide) (by decide) (by decide), List.forall_mem_cons.mpr ⟨z_coV (ct_X7_isNotice l) kb_X7_isNotice kv_X7_278 ko_X7 (by decide) (by decide) (by decide), List.forall_mem_cons.mpr ⟨z_coV (ct_X7_age l) kb_X7_age kv_X7_284 ko_X7 (by decide) (by decide) (by decide), fun _ h => absurd h List.not_mem_nil⟩⟩⟩
  · intro as S P Po h0 V hV hW
    obtain ⟨as, rfl, h⟩ := z_rc_of h0
    unfold sp_X7_decide at h
    split at h
    · rename_i x1 x2
      obtain ⟨hp0, hpo⟩ := h
      refine hV [] 55 0 _ _ _ _ ?_
      refine z_brn (fun (h1 : (f_X7_isNotice S P x1) = true) => ?_) (fun (h1 : (f_X7_isNotice S P x1) = false) => ?_)
      · refine ⟨(show vp_in x1 12 by first | exact m_isClaim hp0 (by assumption) | exact m_isNotice hp0 (by assumption)), ?_⟩
        refine ⟨fun (h2 : ¬ ((S 194657 x1.toNatClampNeg) = 0)) => ?_, fun (h2 : (S 194657 x1.toNatClampNeg) = 0) => ?_⟩
        · refine z_hnF (z_hq2 _ _) ?_
          exact z_pi hpo ((if_pos h1).trans ((if_neg h2).trans rfl)) ((if_pos h1).trans ((if_neg h2).trans rfl)) (rfl)
        · refine ⟨(show vp_in x1 12 by first | exact m_isClaim hp0 (by assumption) | exact m_isNotice hp0 (by assumption)), ?_⟩
          refine ⟨fun (h3 : (f_X7_age S P x1) < (nI 6)) => ?_, fun (h3 : ¬ ((f_X7_age S P x1) < (nI 6))) => ?_⟩
          · refine z_hnF (z_hq2 _ _) ?_
            exact z_pi hpo ((if_pos h1).trans ((if_pos h2).trans ((if_pos h3).trans rfl))) ((if_pos h1).trans ((if_pos h2).trans ((if_pos h3).trans rfl))) (rfl)
          · refine ⟨(show vp_in x1 12 by first | exact m_isClaim hp0 (by assumption) | exact m_isNotice hp0 (by assumption)), ?_⟩
            refine ⟨fun (h4 : (S 196706 x1.toNatClampNeg) = 0) => ?_, fun (h4 : ¬ ((S 196706 x1.toNatClampNeg) = 0)) => ?_⟩
            · refine z_hnT (z_hq0 _ _) ?_
              refine ⟨(show vp_in x1 12 by first | exact m_isClaim hp0 (by assumption) | exact m_isNotice hp0 (by assumption)), ?_⟩
              refine ⟨fun (h5 : x2 = 0) => ?_, fun (h5 : ¬ (x2 = 0)) => ?_⟩
              · refine ⟨(show vp_in x1 12 by first | exact m_isClaim hp0 (by assumption) | exact m_isNotice hp0 (by assumption)), ?_⟩
                refine ⟨(show vp_in x1 12 by first | exact m_isClaim hp0 (by assumption) | exact m_isNotice hp0 (by assumption)), ?_⟩
                exact z_pi hpo ((if_pos h1).trans ((if_pos h2).trans ((if_neg h3).trans ((if_pos h4).trans ((if_pos h5).trans rfl))))) ((if_pos h1).trans ((if_pos h2).trans ((if_neg h3).trans ((if_pos h4).trans ((if_pos h5).trans rfl))))) (rfl)
              · refine ⟨(show vp_in x1 12 by first | exact m_isClaim hp0 (by assumption) | exact m_isNotice hp0 (by assumption)), ?_⟩
                refine ⟨(show vp_in x1 12 by first | exact m_isClaim hp0 (by assumption) | exact m_isNotice hp0 (by assumption)), ?_⟩
                exact z_pi hpo ((if_pos h1).trans ((if_pos h2).trans ((if_neg h3).trans ((if_pos h4).trans ((if_neg h5).trans rfl))))) ((if_pos h1).trans ((if_pos h2).trans ((if_neg h3).trans ((if_pos h4).trans ((if_neg h5).trans rfl))))) (rfl)
            · refine z_hnF (z_hq2 _ _) ?_
              exact z_pi hpo ((if_pos h1).trans ((if_pos h2).trans ((if_neg h3).trans ((if_neg h4).trans rfl)))) ((if_pos h1).trans ((if_pos h2).trans ((if_neg h3).trans ((if_neg h4).trans rfl)))) (rfl)
      · refine z_hnF (z_hq1 _ _) ?_
        exact z_pi hpo ((if_neg (z_nt h1)).trans rfl) ((if_neg (z_nt h1)).trans rfl) (rfl)
    · exact h.elim
def f_X7_proceed (S : z_MI) (P : z_ML) (x1 : Int32) : Int32 :=
  if (f_X7_isNotice S P x1) = true then
    if (f_X7_canBeDone S P x1) = true then
      if (S 110648 24) = (nI 40) then
        nI 0
      else
        (upd ((u_X7_adds (va_up (va_up S 110648 (upd (S 110648) 0 (nI 0))) 194657 (upd ((va_up S 110648 (upd (S 110648) 0 (nI 0))) 194657) x1.toNatClampNeg (nI 1))) P (S 110648 1) (S 184417 x1.toNatClampNeg) (S 186465 x1.toNatClampNeg) (S 188513 x1.toNatClampNeg) (S 190561 x1.toNatClampNeg)) 202849) x1.toNatClampNeg (f_X7_adds (va_up (va_up S 110648 (upd (S 110648) 0 (nI 0))) 194657 (upd ((va_up S 110648 (upd (S 110648) 0 (nI 0))) 194657) x1.toNatClampNeg (nI 1))) P (S 110648 1) (S 184417 x1.toNatClampNeg) (S 186465 x1.toNatClampNeg) (S 188513 x1.toNatClampNeg) (S 190561 x1.toNatClampNeg))) x1.toNatClampNeg
    else
      nI 0
  else
    nI 0
def u_X7_proceed (S : z_MI) (P : z_ML) (x1 : Int32) : z_MI :=
  if (f_X7_isNotice S P x1) = true then
    if (f_X7_canBeDone S P x1) = true then
      if (S 110648 24) = (nI 40) then
        va_up S 110648 (upd (S 110648) 0 (nI 2))
      else
        va_up (u_X7_adds (va_up (va_up S 110648 (upd (S 110648) 0 (nI 0))) 194657 (upd ((va_up S 110648 (upd (S 110648) 0 (nI 0))) 194657) x1.toNatClampNeg (nI 1))) P (S 110648 1) (S 184417 x1.toNatClampNeg) (S 186465 x1.toNatClampNeg) (S 188513 x1.toNatClampNeg) (S 190561 x1.toNatClampNeg)) 202849 (upd ((u_X7_adds (va_up (va_up S 110648 (upd (S 110648) 0 (nI 0))) 194657 (upd ((va_up S 110648 (upd (S 110648) 0 (nI 0))) 194657) x1.toNatClampNeg (nI 1))) P (S 110648 1) (S 184417 x1.toNatClampNeg) (S 186465 x1.toNatClampNeg) (S 188513 x1.toNatClampNeg) (S 190561 x1.toNatClampNeg)) 202849) x1.toNatClampNeg (f_X7_adds (va_up (va_up S 110648 (upd (S 110648) 0 (nI 0))) 194657 (upd ((va_up S 110648 (upd (S 110648) 0 (nI 0))) 194657) x1.toNatClampNeg (nI 1))) P (S 110648 1) (S 184417 x1.toNatClampNeg) (S 186465 x1.toNatClampNeg) (S 188513 x1.toNatClampNeg) (S 190561 x1.toNatClampNeg)))
    else
      va_up S 110648 (upd (S 110648) 0 (nI 2))
  else
    va_up S 110648 (upd (S 110648) 0 (nI 1))
def sp_X7_proceed : z_SP := fun as S P k => match as with
  | [.int x1] => z_JM S ∧ k (some (.int (f_X7_proceed S P x1))) (u_X7_proceed S P x1) P
  | _ => False
def G_X7_proceed : z_G := ([(0, .aload_n 0, 1, 0), (1, .iload_n 1, 2, 0), (2, .invokevirtual 278, 5, 0), (5, .istore_n 2, 6, 0), (6, .aload_n 0, 7, 0), (7, .iload_n 2, 8, 0), (8, .ifCond .ne 7, 11, 15), (11, .iconst 1, 12, 0), (12, .goto 25, 15, 37), (15, .aload_n 0, 16, 0), (16, .iload_n 1, 17, 0), (17, .invokevirtual 287, 20, 0), (20, .ifCond .eq 12, 23, 32), (23, .aload_n 0, 24, 0), (24, .getfield 164, 27, 0), (27, .bipush 40, 29, 0), (29, .if_icmp .ne 7, 32, 36), (32, .iconst 2, 33, 0), (33, .goto 4, 36, 37), (36, .iconst 0, 37, 0), (37, .invokevirtual 173, 40, 0), (40, .ifCond .ne 5, 43, 45), (43, .iconst 0, 44, 0), (44, .ireturn, 45, 0), (45, .aload_n 0, 46, 0), (46, .getfield 132, 49, 0), (49, .iload_n 1, 50, 0), (50, .iconst 1, 51, 0), (51, .iastore, 52, 0), (52, .aload_n 0, 53, 0), (53, .getfield 144, 56, 0), (56, .iload_n 1, 57, 0), (57, .aload_n 0, 58, 0), (58, .aload_n 0, 59, 0), (59, .getfield 209, 62, 0), (62, .aload_n 0, 63, 0), (63, .getfield 117, 66, 0), (66, .iload_n 1, 67, 0), (67, .iaload, 68, 0), (68, .aload_n 0, 69, 0), (69, .getfield 120, 72, 0), (72, .iload_n 1, 73, 0), (73, .iaload, 74, 0), (74, .aload_n 0, 75, 0), (75, .getfield 123, 78, 0), (78, .iload_n 1, 79, 0), (79, .iaload, 80, 0), (80, .aload_n 0, 81, 0), (81, .getfield 126, 84, 0), (84, .iload_n 1, 85, 0), (85, .iaload, 86, 0), (86, .invokevirtual 230, 89, 0), (89, .iastore, 90, 0), (90, .aload_n 0, 91, 0), (91, .getfield 144, 94, 0), (94, .iload_n 1, 95, 0), (95, .iaload, 96, 0), (96, .ireturn, 97, 0)], [(117, 110648, 44, some 184417), (120, 110648, 45, some 186465), (123, 110648, 46, some 188513), (126, 110648, 47, some 190561), (132, 110648, 49, some 194657), (144, 110648, 53, some 202849), (164, 110648, 24, none), (209, 110648, 1, none)], [(173, 2, (z_rc 110648 sp_X7_holds)), (230, 6, (z_rc 110648 sp_X7_adds)), (278, 2, (z_rc 110648 sp_X7_isNotice)), (287, 2, (z_rc 110648 sp_X7_canBeDone))], [], [], [], [], some .int)
set_option maxRecDepth 20000 in
set_option maxHeartbeats 4000000 in
theorem ct_X7_proceed (l : Launch) : z_CT l yX7_proceed cX7_proceed 3 (some .int) (z_rc 110648 sp_X7_proceed) 3 := by
  refine z_CT_of G_X7_proceed (by decide) (by decide +kernel) (z_pok_of ft_X7 ci_X7 cL_X7_L fo_X7 co_X7 lo_X7 (by decide +kernel)) rfl rfl ?_ ?_ ?_
  · intro as S P Po h0
    obtain ⟨as, rfl, h⟩ := z_rc_of h0
    unfold sp_X7_proceed at h
    split at h
    · exact Nat.le_of_ble_eq_true rfl
    · exact h.elim
  · exact List.forall_mem_cons.mpr ⟨z_coV (ct_X7_holds l) kb_X7_holds kv_X7_173 ko_X7 (by decide) (by decide) (by decide), List.forall_mem_cons.mpr ⟨z_coV (ct_X7_adds l) kb_X7_adds kv_X7_230 ko_X7 (by decide) (by decide) (by decide), List.forall_mem_cons.mpr ⟨z_coV (ct_X7_isNotice l) kb_X7_isNotice kv_X7_278 ko_X7 (by decide) (by decide) (by decide), List.forall_mem_cons.mpr ⟨z_coV (ct_X7_canBeDone l) kb_X7_canBeDone kv_X7_287 ko_X7 (by decide) (by decide) (by decide), fun _ h => absurd h List.not_mem_nil⟩⟩⟩⟩
  · intro as S P Po h0 V hV hW
    obtain ⟨as, rfl, h⟩ := z_rc_of h0
    unfold sp_X7_proceed at h
    split at h
    · rename_i x1
      obtain ⟨hp0, hpo⟩ := h
      refine hV [] 63 0 _ _ _ _ ?_
      refine z_brn (fun (h1 : (f_X7_isNotice S P x1) = true) => ?_) (fun (h1 : (f_X7_isNotice S P x1) = false) => ?_)
      · refine ⟨(show vp_in x1 12 by first | exact m_isClaim hp0 (by assumption) | exact m_isNotice hp0 (by assumption)), (show z_le (S 110648 33) 12 by exact z_J_Mclaims hp0), ?_⟩
        refine z_br (fun (h2 : (f_X7_canBeDone S P x1) = false) => ?_) (fun (h2 : (f_X7_canBeDone S P x1) = true) => ?_)
        · refine z_hnF (z_hq2 _ _) ?_
          exact z_pi hpo ((if_pos h1).trans ((if_neg (z_nt h2)).trans rfl)) ((if_pos h1).trans ((if_neg (z_nt h2)).trans rfl)) (rfl)
        · refine ⟨fun (h3 : ¬ ((S 110648 24) = (nI 40))) => ?_, fun (h3 : (S 110648 24) = (nI 40)) => ?_⟩
          · refine z_hnT (z_hq0 _ _) ?_
            refine ⟨(show vp_in x1 12 by first | exact m_isClaim hp0 (by assumption) | exact m_isNotice hp0 (by assumption)), ?_⟩
            refine ⟨(show vp_in x1 12 by first | exact m_isClaim hp0 (by assumption) | exact m_isNotice hp0 (by assumption)), ?_⟩
            refine ⟨(show vp_in x1 12 by first | exact m_isClaim hp0 (by assumption) | exact m_isNotice hp0 (by assumption)), ?_⟩
            refine ⟨(show vp_in x1 12 by first | exact m_isClaim hp0 (by assumption) | exact m_isNotice hp0 (by assumption)), ?_⟩
            refine ⟨(show vp_in x1 12 by first | exact m_isClaim hp0 (by assumption) | exact m_isNotice hp0 (by assumption)), ?_⟩
            refine ⟨(show vp_in ((va_up (va_up S 110648 (upd (S 110648) 0 (nI 0))) 194657 (upd ((va_up S 110648 (upd (S 110648) 0 (nI 0))) 194657) x1.toNatClampNeg (nI 1))) 110648 24) 40 by exact z_rne (by assumption) (z_J_Macts hp0) (by decide)), ?_⟩
            refine ⟨(show vp_in x1 12 by first | exact m_isClaim hp0 (by assumption) | exact m_isNotice hp0 (by assumption)), ?_⟩
            refine ⟨(show vp_in x1 12 by first | exact m_isClaim hp0 (by assumption) | exact m_isNotice hp0 (by assumption)), ?_⟩
            exact z_pi hpo ((if_pos h1).trans ((if_pos h2).trans ((if_neg h3).trans rfl))) ((if_pos h1).trans ((if_pos h2).trans ((if_neg h3).trans rfl))) (rfl)
          · refine z_hnF (z_hq2 _ _) ?_
            exact z_pi hpo ((if_pos h1).trans ((if_pos h2).trans ((if_pos h3).trans rfl))) ((if_pos h1).trans ((if_pos h2).trans ((if_pos h3).trans rfl))) (rfl)
      · refine z_hnF (z_hq1 _ _) ?_
        exact z_pi hpo ((if_neg (z_nt h1)).trans rfl) ((if_neg (z_nt h1)).trans rfl) (rfl)
    · exact h.elim
def f_X7_ofNotice (S : z_MI) (P : z_ML) (x1 : Int32) (x2 : Int32) : Int32 :=
  if (f_X7_isNotice S P x1) = true then
    if (f_X7_in S P x2 (nI 0) (nI 5)) = true then
      if (nI 3) ≤ x2 then
        if x2 = (nI 3) then
          S 200801 x1.toNatClampNeg
        else
          if x2 = (nI 4) then
            S 182369 x1.toNatClampNeg
          else
            S 202849 x1.toNatClampNeg
      else
        if x2 = 0 then
          S 194657 x1.toNatClampNeg
        else
          if x2 = (nI 1) then
            f_X7_partiesOf (va_up S 110648 (upd (S 110648) 0 (nI 0))) P x1
          else
            S 198753 x1.toNatClampNeg
    else
      nI 0
  else
    nI 0
def u_X7_ofNotice (S : z_MI) (P : z_ML) (x1 : Int32) (x2 : Int32) : z_MI :=
  if (f_X7_isNotice S P x1) = true then
    if (f_X7_in S P x2 (nI 0) (nI 5)) = true then
      if (nI 3) ≤ x2 then
        if x2 = (nI 3) then
          va_up S 110648 (upd (S 110648) 0 (nI 0))
        else
          if x2 = (nI 4) then
            va_up S 110648 (upd (S 110648) 0 (nI 0))
          else
            va_up S 110648 (upd (S 110648) 0 (nI 0))
      else
        if x2 = 0 then
          va_up S 110648 (upd (S 110648) 0 (nI 0))
        else
          if x2 = (nI 1) then
            va_up S 110648 (upd (S 110648) 0 (nI 0))
          else
            va_up S 110648 (upd (S 110648) 0 (nI 0))
    else
      va_up S 110648 (upd (S 110648) 0 (nI 2))
  else
    va_up S 110648 (upd (S 110648) 0 (nI 1))
def sp_X7_ofNotice : z_SP := fun as S P k => match as with
  | [.int x1, .int x2] => z_JM S ∧ k (some (.int (f_X7_ofNotice S P x1 x2))) (u_X7_ofNotice S P x1 x2) P
  | _ => False
def G_X7_ofNotice : z_G := ([(0, .aload_n 0, 1, 0), (1, .aload_n 0, 2, 0), (2, .iload_n 1, 3, 0), (3, .invokevirtual 278, 6, 0), (6, .ifCond .ne 7, 9, 13), (9, .iconst 1, 10, 0), (10, .goto 17, 13, 27), (13, .iload_n 2, 14, 0), (14, .iconst 0, 15, 0), (15, .iconst 5, 16, 0), (16, .invokestatic 157, 19, 0), (19, .ifCond .eq 7, 22, 26), (22, .iconst 0, 23, 0), (23, .goto 4, 26, 27), (26, .iconst 2, 27, 0), (27, .invokevirtual 173, 30, 0), (30, .ifCond .ne 5, 33, 35), (33, .iconst 0, 34, 0), (34, .ireturn, 35, 0), (35, .iload_n 2, 36, 0), (36, .iconst 3, 37, 0), (37, .if_icmp .ge 36, 40, 73), (40, .iload_n 2, 41, 0), (41, .ifCond .ne 12, 44, 53), (44, .aload_n 0, 45, 0), (45, .getfield 132, 48, 0), (48, .iload_n 1, 49, 0), (49, .iaload, 50, 0), (50, .goto 22, 53, 72), (53, .iload_n 2, 54, 0), (54, .iconst 1, 55, 0), (55, .if_icmp .ne 11, 58, 66), (58, .aload_n 0, 59, 0), (59, .iload_n 1, 60, 0), (60, .invokevirtual 275, 63, 0), (63, .goto 9, 66, 72), (66, .aload_n 0, 67, 0), (67, .getfield 138, 70, 0), (70, .iload_n 1, 71, 0), (71, .iaload, 72, 0), (72, .ireturn, 73, 0), (73, .iload_n 2, 74, 0), (74, .iconst 3, 75, 0), (75, .if_icmp .ne 12, 78, 87), (78, .aload_n 0, 79, 0), (79, .getfield 141, 82, 0), (82, .iload_n 1, 83, 0), (83, .iaload, 84, 0), (84, .goto 23, 87, 107), (87, .iload_n 2, 88, 0), (88, .iconst 4, 89, 0), (89, .if_icmp .ne 12, 92, 101), (92, .aload_n 0, 93, 0), (93, .getfield 114, 96, 0), (96, .iload_n 1, 97, 0), (97, .iaload, 98, 0), (98, .goto 9, 101, 107), (101, .aload_n 0, 102, 0), (102, .getfield 144, 105, 0), (105, .iload_n 1, 106, 0), (106, .iaload, 107, 0), (107, .ireturn, 108, 0)], [(114, 110648, 43, some 182369), (132, 110648, 49, some 194657), (138, 110648, 51, some 198753), (141, 110648, 52, some 200801), (144, 110648, 53, some 202849)], [(100157, 3, sp_X7_in), (173, 2, (z_rc 110648 sp_X7_holds)), (275, 2, (z_rc 110648 sp_X7_partiesOf)), (278, 2, (z_rc 110648 sp_X7_isNotice))], [], [], [], [], some .int)
set_option maxRecDepth 20000 in
set_option maxHeartbeats 4000000 in
theorem ct_X7_ofNotice (l : Launch) : z_CT l yX7_ofNotice cX7_ofNotice 3 (some .int) (z_rc 110648 sp_X7_ofNotice) 2 := by
  refine z_CT_of G_X7_ofNotice (by decide) (by decide +kernel) (z_pok_of ft_X7 ci_X7 cL_X7_L fo_X7 co_X7 lo_X7 (by decide +kernel)) rfl rfl ?_ ?_ ?_
  · intro as S P Po h0
    obtain ⟨as, rfl, h⟩ := z_rc_of h0
    unfold sp_X7_ofNotice at h
    split at h
    · exact Nat.le_of_ble_eq_true rfl
    · exact h.elim
  · exact List.forall_mem_cons.mpr ⟨z_coS (ct_X7_in l) kb_X7_in ks_X7_157 (by decide) (by decide), List.forall_mem_cons.mpr ⟨z_coV (ct_X7_holds l) kb_X7_holds kv_X7_173 ko_X7 (by decide) (by decide) (by decide), List.forall_mem_cons.mpr ⟨z_coV (ct_X7_partiesOf l) kb_X7_partiesOf kv_X7_275 ko_X7 (by decide) (by decide) (by decide), List.forall_mem_cons.mpr ⟨z_coV (ct_X7_isNotice l) kb_X7_isNotice kv_X7_278 ko_X7 (by decide) (by decide) (by decide), fun _ h => absurd h List.not_mem_nil⟩⟩⟩⟩
  · intro as S P Po h0 V hV hW
    obtain ⟨as, rfl, h⟩ := z_rc_of h0
    unfold sp_X7_ofNotice at h
    split at h
    · rename_i x1 x2
      obtain ⟨hp0, hpo⟩ := h
      refine hV [] 67 0 _ _ _ _ ?_
      refine z_brn (fun (h1 : (f_X7_isNotice S P x1) = true) => ?_) (fun (h1 : (f_X7_isNotice S P x1) = false) => ?_)
      · refine z_br (fun (h2 : (f_X7_in S P x2 (nI 0) (nI 5)) = false) => ?_) (fun (h2 : (f_X7_in S P x2 (nI 0) (nI 5)) = true) => ?_)
        · refine z_hnF (z_hq2 _ _) ?_
          exact z_pi hpo ((if_pos h1).trans ((if_neg (z_nt h2)).trans rfl)) ((if_pos h1).trans ((if_neg (z_nt h2)).trans rfl)) (rfl)
        · refine z_hnT (z_hq0 _ _) ?_
          refine ⟨fun (h3 : (nI 3) ≤ x2) => ?_, fun (h3 : ¬ ((nI 3) ≤ x2)) => ?_⟩
          · refine ⟨fun (h4 : ¬ (x2 = (nI 3))) => ?_, fun (h4 : x2 = (nI 3)) => ?_⟩
            · refine ⟨fun (h5 : ¬ (x2 = (nI 4))) => ?_, fun (h5 : x2 = (nI 4)) => ?_⟩
              · refine ⟨(show vp_in x1 12 by first | exact m_isClaim hp0 (by assumption) | exact m_isNotice hp0 (by assumption)), ?_⟩
                exact z_pi hpo ((if_pos h1).trans ((if_pos h2).trans ((if_pos h3).trans ((if_neg h4).trans ((if_neg h5).trans rfl))))) ((if_pos h1).trans ((if_pos h2).trans ((if_pos h3).trans ((if_neg h4).trans ((if_neg h5).trans rfl))))) (rfl)
              · refine ⟨(show vp_in x1 12 by first | exact m_isClaim hp0 (by assumption) | exact m_isNotice hp0 (by assumption)), ?_⟩
                exact z_pi hpo ((if_pos h1).trans ((if_pos h2).trans ((if_pos h3).trans ((if_neg h4).trans ((if_pos h5).trans rfl))))) ((if_pos h1).trans ((if_pos h2).trans ((if_pos h3).trans ((if_neg h4).trans ((if_pos h5).trans rfl))))) (rfl)
            · refine ⟨(show vp_in x1 12 by first | exact m_isClaim hp0 (by assumption) | exact m_isNotice hp0 (by assumption)), ?_⟩
              exact z_pi hpo ((if_pos h1).trans ((if_pos h2).trans ((if_pos h3).trans ((if_pos h4).trans rfl)))) ((if_pos h1).trans ((if_pos h2).trans ((if_pos h3).trans ((if_pos h4).trans rfl)))) (rfl)
          · refine ⟨fun (h6 : ¬ (x2 = 0)) => ?_, fun (h6 : x2 = 0) => ?_⟩
            · refine ⟨fun (h7 : ¬ (x2 = (nI 1))) => ?_, fun (h7 : x2 = (nI 1)) => ?_⟩
              · refine ⟨(show vp_in x1 12 by first | exact m_isClaim hp0 (by assumption) | exact m_isNotice hp0 (by assumption)), ?_⟩
                exact z_pi hpo ((if_pos h1).trans ((if_pos h2).trans ((if_neg h3).trans ((if_neg h6).trans ((if_neg h7).trans rfl))))) ((if_pos h1).trans ((if_pos h2).trans ((if_neg h3).trans ((if_neg h6).trans ((if_neg h7).trans rfl))))) (rfl)
              · refine ⟨(show z_le ((va_up S 110648 (upd (S 110648) 0 (nI 0))) 110648 33) 12 by exact z_J_Mclaims hp0), (show vp_in x1 12 by first | exact m_isClaim hp0 (by assumption) | exact m_isNotice hp0 (by assumption)), ?_⟩
                exact z_pi hpo ((if_pos h1).trans ((if_pos h2).trans ((if_neg h3).trans ((if_neg h6).trans ((if_pos h7).trans rfl))))) ((if_pos h1).trans ((if_pos h2).trans ((if_neg h3).trans ((if_neg h6).trans ((if_pos h7).trans rfl))))) (rfl)
            · refine ⟨(show vp_in x1 12 by first | exact m_isClaim hp0 (by assumption) | exact m_isNotice hp0 (by assumption)), ?_⟩
              exact z_pi hpo ((if_pos h1).trans ((if_pos h2).trans ((if_neg h3).trans ((if_pos h6).trans rfl)))) ((if_pos h1).trans ((if_pos h2).trans ((if_neg h3).trans ((if_pos h6).trans rfl)))) (rfl)
      · refine z_hnF (z_hq1 _ _) ?_
        exact z_pi hpo ((if_neg (z_nt h1)).trans rfl) ((if_neg (z_nt h1)).trans rfl) (rfl)
    · exact h.elim
def f_X7_value (S : z_MI) (P : z_ML) (x1 : Int32) (x2 : Int32) : Int32 :=
  if (f_X7_isPlace S P x1) = true then
    if (f_X7_in S P x2 (nI 0) (nI 1000000)) = true then
      S 204929 x1.toNatClampNeg
    else
      nI 0
  else
    nI 0
def u_X7_value (S : z_MI) (P : z_ML) (x1 : Int32) (x2 : Int32) : z_MI :=
  if (f_X7_isPlace S P x1) = true then
    if (f_X7_in S P x2 (nI 0) (nI 1000000)) = true then
      va_up (va_up S 110648 (upd (S 110648) 0 (nI 0))) 204929 (upd ((va_up S 110648 (upd (S 110648) 0 (nI 0))) 204929) x1.toNatClampNeg x2)
    else
      va_up S 110648 (upd (S 110648) 0 (nI 2))
  else
    va_up S 110648 (upd (S 110648) 0 (nI 1))
def sp_X7_value : z_SP := fun as S P k => match as with
  | [.int x1, .int x2] => z_JM S ∧ k (some (.int (f_X7_value S P x1 x2))) (u_X7_value S P x1 x2) P
  | _ => False
def G_X7_value : z_G := ([(0, .aload_n 0, 1, 0), (1, .iload_n 1, 2, 0), (2, .invokestatic 203, 5, 0), (5, .ifCond .ne 7, 8, 12), (8, .iconst 1, 9, 0), (9, .goto 19, 12, 28), (12, .iload_n 2, 13, 0), (13, .iconst 0, 14, 0), (14, .ldc_w 290, 17, 0), (17, .invokestatic 157, 20, 0), (20, .ifCond .eq 7, 23, 27), (23, .iconst 0, 24, 0), (24, .goto 4, 27, 28), (27, .iconst 2, 28, 0), (28, .invokevirtual 173, 31, 0), (31, .ifCond .ne 5, 34, 36), (34, .iconst 0, 35, 0), (35, .ireturn, 36, 0), (36, .aload_n 0, 37, 0), (37, .getfield 147, 40, 0), (40, .iload_n 1, 41, 0), (41, .iaload, 42, 0), (42, .istore_n 3, 43, 0), (43, .aload_n 0, 44, 0), (44, .getfield 147, 47, 0), (47, .iload_n 1, 48, 0), (48, .iload_n 2, 49, 0), (49, .iastore, 50, 0), (50, .iload_n 3, 51, 0), (51, .ireturn, 52, 0)], [(147, 110648, 54, some 204929)], [(100157, 3, sp_X7_in), (100203, 1, sp_X7_isPlace), (173, 2, (z_rc 110648 sp_X7_holds))], [(290, 1000000)], [], [], [], some .int)
set_option maxRecDepth 20000 in
set_option maxHeartbeats 4000000 in
theorem ct_X7_value (l : Launch) : z_CT l yX7_value cX7_value 4 (some .int) (z_rc 110648 sp_X7_value) 2 := by
  refine z_CT_of G_X7_value (by decide) (by decide +kernel) (z_pok_of ft_X7 ci_X7 cL_X7_L fo_X7 co_X7 lo_X7 (by decide +kernel)) rfl rfl ?_ ?_ ?_
  · intro as S P Po h0
    obtain ⟨as, rfl, h⟩ := z_rc_of h0
    unfold sp_X7_value at h
    split at h
    · exact Nat.le_of_ble_eq_true rfl
    · exact h.elim
  · exact List.forall_mem_cons.mpr ⟨z_coS (ct_X7_in l) kb_X7_in ks_X7_157 (by decide) (by decide), List.forall_mem_cons.mpr ⟨z_coS (ct_X7_isPlace l) kb_X7_isPlace ks_X7_203 (by decide) (by decide), List.forall_mem_cons.mpr ⟨z_coV (ct_X7_holds l) kb_X7_holds kv_X7_173 ko_X7 (by decide) (by decide) (by decide), fun _ h => absurd h List.not_mem_nil⟩⟩⟩
  · intro as S P Po h0 V hV hW
    obtain ⟨as, rfl, h⟩ := z_rc_of h0
    unfold sp_X7_value at h
    split at h
    · rename_i x1 x2
      obtain ⟨hp0, hpo⟩ := h
      refine hV [] 35 0 _ _ _ _ ?_
      refine z_brn (fun (h1 : (f_X7_isPlace S P x1) = true) => ?_) (fun (h1 : (f_X7_isPlace S P x1) = false) => ?_)
      · refine z_br (fun (h2 : (f_X7_in S P x2 (nI 0) (nI 1000000)) = false) => ?_) (fun (h2 : (f_X7_in S P x2 (nI 0) (nI 1000000)) = true) => ?_)
        · refine z_hnF (z_hq2 _ _) ?_
          exact z_pi hpo ((if_pos h1).trans ((if_neg (z_nt h2)).trans rfl)) ((if_pos h1).trans ((if_neg (z_nt h2)).trans rfl)) (rfl)
        · refine z_hnT (z_hq0 _ _) ?_
          refine ⟨(show vp_in x1 16 by first | exact m_isPlace (by assumption)), ?_⟩
          refine ⟨(show vp_in x1 16 by first | exact m_isPlace (by assumption)), ?_⟩
          exact z_pi hpo ((if_pos h1).trans ((if_pos h2).trans rfl)) ((if_pos h1).trans ((if_pos h2).trans rfl)) (rfl)
      · refine z_hnF (z_hq1 _ _) ?_
        exact z_pi hpo ((if_neg (z_nt h1)).trans rfl) ((if_neg (z_nt h1)).trans rfl) (rfl)
    · exact h.elim
def f_X7_owed (S : z_MI) (P : z_ML) (x1 : Int32) : Int64 :=
  if (f_X7_isAct S P x1) = true then
    f_X7_owedFor (va_up S 110648 (upd (S 110648) 0 (nI 0))) P x1
  else
    lN 0
def u_X7_owed (S : z_MI) (P : z_ML) (x1 : Int32) : z_MI :=
  if (f_X7_isAct S P x1) = true then
    va_up S 110648 (upd (S 110648) 0 (nI 0))
  else
    va_up S 110648 (upd (S 110648) 0 (nI 1))
def sp_X7_owed : z_SP := fun as S P k => match as with
  | [.int x1] => z_JM S ∧ k (some (.long (f_X7_owed S P x1))) (u_X7_owed S P x1) P
  | _ => False
def G_X7_owed : z_G := ([(0, .aload_n 0, 1, 0), (1, .aload_n 0, 2, 0), (2, .iload_n 1, 3, 0), (3, .invokevirtual 234, 6, 0), (6, .ifCond .eq 7, 9, 13), (9, .iconst 0, 10, 0), (10, .goto 4, 13, 14), (13, .iconst 1, 14, 0), (14, .invokevirtual 173, 17, 0), (17, .ifCond .eq 11, 20, 28), (20, .aload_n 0, 21, 0), (21, .iload_n 1, 22, 0), (22, .invokevirtual 307, 25, 0), (25, .goto 4, 28, 29), (28, .lconst 0, 29, 0), (29, .lreturn, 30, 0)], [], [(173, 2, (z_rc 110648 sp_X7_holds)), (234, 2, (z_rc 110648 sp_X7_isAct)), (307, 2, (z_rc 110648 sp_X7_owedFor))], [], [], [], [], some .long)
set_option maxRecDepth 20000 in
set_option maxHeartbeats 4000000 in
theorem ct_X7_owed (l : Launch) : z_CT l yX7_owed cX7_owed 2 (some .long) (z_rc 110648 sp_X7_owed) 5 := by
  refine z_CT_of G_X7_owed (by decide) (by decide +kernel) (z_pok_of ft_X7 ci_X7 cL_X7_L fo_X7 co_X7 lo_X7 (by decide +kernel)) rfl rfl ?_ ?_ ?_
  · intro as S P Po h0
    obtain ⟨as, rfl, h⟩ := z_rc_of h0
    unfold sp_X7_owed at h
    split at h
    · exact Nat.le_of_ble_eq_true rfl
    · exact h.elim
  · exact List.forall_mem_cons.mpr ⟨z_coV (ct_X7_holds l) kb_X7_holds kv_X7_173 ko_X7 (by decide) (by decide) (by decide), List.forall_mem_cons.mpr ⟨z_coV (ct_X7_isAct l) kb_X7_isAct kv_X7_234 ko_X7 (by decide) (by decide) (by decide), List.forall_mem_cons.mpr ⟨z_coV (ct_X7_owedFor l) kb_X7_owedFor kv_X7_307 ko_X7 (by decide) (by decide) (by decide), fun _ h => absurd h List.not_mem_nil⟩⟩⟩
  · intro as S P Po h0 V hV hW
    obtain ⟨as, rfl, h⟩ := z_rc_of h0
    unfold sp_X7_owed at h
    split at h
    · rename_i x1
      obtain ⟨hp0, hpo⟩ := h
      refine hV [] 21 0 _ _ _ _ ?_
      refine z_br (fun (h1 : (f_X7_isAct S P x1) = false) => ?_) (fun (h1 : (f_X7_isAct S P x1) = true) => ?_)
      · refine z_hbF (z_hq1 _ _) ?_
        exact z_pl hpo ((if_neg (z_nt h1)).trans rfl) ((if_neg (z_nt h1)).trans rfl) (rfl)
      · refine z_hbT (z_hq0 _ _) ?_
        refine ⟨(show vp_in x1 40 by first | exact m_isAct hp0 (by assumption)), (show z_le ((va_up S 110648 (upd (S 110648) 0 (nI 0))) 110648 33) 12 by exact z_J_Mclaims hp0), (show z_le ((va_up S 110648 (upd (S 110648) 0 (nI 0))) 110648 24) 40 by exact z_J_Macts hp0), ?_⟩
        exact z_pl hpo ((if_pos h1).trans rfl) ((if_pos h1).trans rfl) (rfl)
    · exact h.elim
def f_X7_paid (S : z_MI) (P : z_ML) (x1 : Int32) : Int64 :=
  if (f_X7_isPeople S P x1) = true then
    P 116787 x1.toNatClampNeg
  else
    lN 0
def u_X7_paid (S : z_MI) (P : z_ML) (x1 : Int32) : z_MI :=
  if (f_X7_isPeople S P x1) = true then
    va_up S 110648 (upd (S 110648) 0 (nI 0))
  else
    va_up S 110648 (upd (S 110648) 0 (nI 1))
def sp_X7_paid : z_SP := fun as S P k => match as with
  | [.int x1] => z_JM S ∧ k (some (.long (f_X7_paid S P x1))) (u_X7_paid S P x1) P
  | _ => False
def G_X7_paid : z_G := ([(0, .aload_n 0, 1, 0), (1, .aload_n 0, 2, 0), (2, .iload_n 1, 3, 0), (3, .invokevirtual 187, 6, 0), (6, .ifCond .eq 7, 9, 13), (9, .iconst 0, 10, 0), (10, .goto 4, 13, 14), (13, .iconst 1, 14, 0), (14, .invokevirtual 173, 17, 0), (17, .ifCond .eq 12, 20, 29), (20, .aload_n 0, 21, 0), (21, .getfield 16, 24, 0), (24, .iload_n 1, 25, 0), (25, .laload, 26, 0), (26, .goto 4, 29, 30), (29, .lconst 0, 30, 0), (30, .lreturn, 31, 0)], [(16, 110648, 5, some 116787)], [(173, 2, (z_rc 110648 sp_X7_holds)), (187, 2, (z_rc 110648 sp_X7_isPeople))], [], [], [], [], some .long)
set_option maxRecDepth 20000 in
set_option maxHeartbeats 4000000 in
theorem ct_X7_paid (l : Launch) : z_CT l yX7_paid cX7_paid 2 (some .long) (z_rc 110648 sp_X7_paid) 2 := by
  refine z_CT_of G_X7_paid (by decide) (by decide +kernel) (z_pok_of ft_X7 ci_X7 cL_X7_L fo_X7 co_X7 lo_X7 (by decide +kernel)) rfl rfl ?_ ?_ ?_
  · intro as S P Po h0
    obtain ⟨as, rfl, h⟩ := z_rc_of h0
    unfold sp_X7_paid at h
    split at h
    · exact Nat.le_of_ble_eq_true rfl
    · exact h.elim
  · exact List.forall_mem_cons.mpr ⟨z_coV (ct_X7_holds l) kb_X7_holds kv_X7_173 ko_X7 (by decide) (by decide) (by decide), List.forall_mem_cons.mpr ⟨z_coV (ct_X7_isPeople l) kb_X7_isPeople kv_X7_187 ko_X7 (by decide) (by decide) (by decide), fun _ h => absurd h List.not_mem_nil⟩⟩
  · intro as S P Po h0 V hV hW
    obtain ⟨as, rfl, h⟩ := z_rc_of h0
    unfold sp_X7_paid at h
    split at h
    · rename_i x1
      obtain ⟨hp0, hpo⟩ := h
      refine hV [] 22 0 _ _ _ _ ?_
      refine z_br (fun (h1 : (f_X7_isPeople S P x1) = false) => ?_) (fun (h1 : (f_X7_isPeople S P x1) = true) => ?_)
      · refine z_hbF (z_hq1 _ _) ?_
        exact z_pl hpo ((if_neg (z_nt h1)).trans rfl) ((if_neg (z_nt h1)).trans rfl) (rfl)
      · refine z_hbT (z_hq0 _ _) ?_
        refine ⟨(show vp_in x1 6 by first | exact m_isPeople hp0 (by assumption)), ?_⟩
        exact z_pl hpo ((if_pos h1).trans rfl) ((if_pos h1).trans rfl) (rfl)
    · exact h.elim
def f_X7_pass (S : z_MI) (P : z_ML) (x1 : Int32) : Int32 :=
  if (f_X7_in S P x1 (nI 1) (nI 600)) = true then
    if ((S 110648 1) + x1) ≤ (nI 5000) then
      (S 110648 1) + x1
    else
      nI 0
  else
    nI 0
def u_X7_pass (S : z_MI) (P : z_ML) (x1 : Int32) : z_MI :=
  if (f_X7_in S P x1 (nI 1) (nI 600)) = true then
    if ((S 110648 1) + x1) ≤ (nI 5000) then
      va_up (va_up S 110648 (upd (S 110648) 0 (nI 0))) 110648 (upd ((va_up S 110648 (upd (S 110648) 0 (nI 0))) 110648) 1 ((S 110648 1) + x1))
    else
      va_up S 110648 (upd (S 110648) 0 (nI 2))
  else
    va_up S 110648 (upd (S 110648) 0 (nI 1))
def sp_X7_pass : z_SP := fun as S P k => match as with
  | [.int x1] => z_JM S ∧ k (some (.int (f_X7_pass S P x1))) (u_X7_pass S P x1) P
  | _ => False
def G_X7_pass : z_G := ([(0, .aload_n 0, 1, 0), (1, .iload_n 1, 2, 0), (2, .iconst 1, 3, 0), (3, .sipush 600, 6, 0), (6, .invokestatic 157, 9, 0), (9, .ifCond .ne 7, 12, 16), (12, .iconst 1, 13, 0), (13, .goto 20, 16, 33), (16, .aload_n 0, 17, 0), (17, .getfield 209, 20, 0), (20, .iload_n 1, 21, 0), (21, .iadd, 22, 0), (22, .sipush 5000, 25, 0), (25, .if_icmp .le 7, 28, 32), (28, .iconst 2, 29, 0), (29, .goto 4, 32, 33), (32, .iconst 0, 33, 0), (33, .invokevirtual 173, 36, 0), (36, .ifCond .ne 5, 39, 41), (39, .iconst 0, 40, 0), (40, .ireturn, 41, 0), (41, .aload_n 0, 42, 0), (42, .dup, 43, 0), (43, .getfield 209, 46, 0), (46, .iload_n 1, 47, 0), (47, .iadd, 48, 0), (48, .putfield 209, 51, 0), (51, .aload_n 0, 52, 0), (52, .getfield 209, 55, 0), (55, .ireturn, 56, 0)], [(209, 110648, 1, none)], [(100157, 3, sp_X7_in), (173, 2, (z_rc 110648 sp_X7_holds))], [], [], [], [], some .int)
set_option maxRecDepth 20000 in
set_option maxHeartbeats 4000000 in
theorem ct_X7_pass (l : Launch) : z_CT l yX7_pass cX7_pass 2 (some .int) (z_rc 110648 sp_X7_pass) 1 := by
  refine z_CT_of G_X7_pass (by decide) (by decide +kernel) (z_pok_of ft_X7 ci_X7 cL_X7_L fo_X7 co_X7 lo_X7 (by decide +kernel)) rfl rfl ?_ ?_ ?_
  · intro as S P Po h0
    obtain ⟨as, rfl, h⟩ := z_rc_of h0
    unfold sp_X7_pass at h
    split at h
    · exact Nat.le_of_ble_eq_true rfl
    · exact h.elim
  · exact List.forall_mem_cons.mpr ⟨z_coS (ct_X7_in l) kb_X7_in ks_X7_157 (by decide) (by decide), List.forall_mem_cons.mpr ⟨z_coV (ct_X7_holds l) kb_X7_holds kv_X7_173 ko_X7 (by decide) (by decide) (by decide), fun _ h => absurd h List.not_mem_nil⟩⟩
  · intro as S P Po h0 V hV hW
    obtain ⟨as, rfl, h⟩ := z_rc_of h0
    unfold sp_X7_pass at h
    split at h
    · rename_i x1
      obtain ⟨hp0, hpo⟩ := h
      refine hV [] 35 0 _ _ _ _ ?_
      refine z_brn (fun (h1 : (f_X7_in S P x1 (nI 1) (nI 600)) = true) => ?_) (fun (h1 : (f_X7_in S P x1 (nI 1) (nI 600)) = false) => ?_)
      · refine ⟨fun (h2 : ((S 110648 1) + x1) ≤ (nI 5000)) => ?_, fun (h2 : ¬ (((S 110648 1) + x1) ≤ (nI 5000))) => ?_⟩
        · refine z_hnT (z_hq0 _ _) ?_
          exact z_pi hpo ((if_pos h1).trans ((if_pos h2).trans rfl)) ((if_pos h1).trans ((if_pos h2).trans rfl)) (rfl)
        · refine z_hnF (z_hq2 _ _) ?_
          exact z_pi hpo ((if_pos h1).trans ((if_neg h2).trans rfl)) ((if_pos h1).trans ((if_neg h2).trans rfl)) (rfl)
      · refine z_hnF (z_hq1 _ _) ?_
        exact z_pi hpo ((if_neg (z_nt h1)).trans rfl) ((if_neg (z_nt h1)).trans rfl) (rfl)
    · exact h.elim
