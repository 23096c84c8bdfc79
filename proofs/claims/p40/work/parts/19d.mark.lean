def m_sh (T : z_MI) (x5 : Int32) : z_MI :=
  va_up (va_up (va_up (va_up T 41441 (upd (T 41441) x5.toNatClampNeg (T 41441 ((x5 - (nI 1)).toNatClampNeg)))) 43489 (upd ((va_up T 41441 (upd (T 41441) x5.toNatClampNeg (T 41441 ((x5 - (nI 1)).toNatClampNeg)))) 43489) x5.toNatClampNeg (T 43489 ((x5 - (nI 1)).toNatClampNeg)))) 45537 (upd ((va_up (va_up T 41441 (upd (T 41441) x5.toNatClampNeg (T 41441 ((x5 - (nI 1)).toNatClampNeg)))) 43489 (upd ((va_up T 41441 (upd (T 41441) x5.toNatClampNeg (T 41441 ((x5 - (nI 1)).toNatClampNeg)))) 43489) x5.toNatClampNeg (T 43489 ((x5 - (nI 1)).toNatClampNeg)))) 45537) x5.toNatClampNeg (T 45537 ((x5 - (nI 1)).toNatClampNeg)))) 47585 (upd ((va_up (va_up (va_up T 41441 (upd (T 41441) x5.toNatClampNeg (T 41441 ((x5 - (nI 1)).toNatClampNeg)))) 43489 (upd ((va_up T 41441 (upd (T 41441) x5.toNatClampNeg (T 41441 ((x5 - (nI 1)).toNatClampNeg)))) 43489) x5.toNatClampNeg (T 43489 ((x5 - (nI 1)).toNatClampNeg)))) 45537 (upd ((va_up (va_up T 41441 (upd (T 41441) x5.toNatClampNeg (T 41441 ((x5 - (nI 1)).toNatClampNeg)))) 43489 (upd ((va_up T 41441 (upd (T 41441) x5.toNatClampNeg (T 41441 ((x5 - (nI 1)).toNatClampNeg)))) 43489) x5.toNatClampNeg (T 43489 ((x5 - (nI 1)).toNatClampNeg)))) 45537) x5.toNatClampNeg (T 45537 ((x5 - (nI 1)).toNatClampNeg)))) 47585) x5.toNatClampNeg (T 47585 ((x5 - (nI 1)).toNatClampNeg)))
def m_fin (x1 x2 x3 x4 : Int32) (T : z_MI) (x5 : Int32) : z_MI :=
  va_up (va_up (va_up (va_up (va_up T 41441 (upd (T 41441) x5.toNatClampNeg x1)) 43489 (upd ((va_up T 41441 (upd (T 41441) x5.toNatClampNeg x1)) 43489) x5.toNatClampNeg x2)) 45537 (upd ((va_up (va_up T 41441 (upd (T 41441) x5.toNatClampNeg x1)) 43489 (upd ((va_up T 41441 (upd (T 41441) x5.toNatClampNeg x1)) 43489) x5.toNatClampNeg x2)) 45537) x5.toNatClampNeg x3)) 47585 (upd ((va_up (va_up (va_up T 41441 (upd (T 41441) x5.toNatClampNeg x1)) 43489 (upd ((va_up T 41441 (upd (T 41441) x5.toNatClampNeg x1)) 43489) x5.toNatClampNeg x2)) 45537 (upd ((va_up (va_up T 41441 (upd (T 41441) x5.toNatClampNeg x1)) 43489 (upd ((va_up T 41441 (upd (T 41441) x5.toNatClampNeg x1)) 43489) x5.toNatClampNeg x2)) 45537) x5.toNatClampNeg x3)) 47585) x5.toNatClampNeg x4)) 8216 (upd ((va_up (va_up (va_up (va_up T 41441 (upd (T 41441) x5.toNatClampNeg x1)) 43489 (upd ((va_up T 41441 (upd (T 41441) x5.toNatClampNeg x1)) 43489) x5.toNatClampNeg x2)) 45537 (upd ((va_up (va_up T 41441 (upd (T 41441) x5.toNatClampNeg x1)) 43489 (upd ((va_up T 41441 (upd (T 41441) x5.toNatClampNeg x1)) 43489) x5.toNatClampNeg x2)) 45537) x5.toNatClampNeg x3)) 47585 (upd ((va_up (va_up (va_up T 41441 (upd (T 41441) x5.toNatClampNeg x1)) 43489 (upd ((va_up T 41441 (upd (T 41441) x5.toNatClampNeg x1)) 43489) x5.toNatClampNeg x2)) 45537 (upd ((va_up (va_up T 41441 (upd (T 41441) x5.toNatClampNeg x1)) 43489 (upd ((va_up T 41441 (upd (T 41441) x5.toNatClampNeg x1)) 43489) x5.toNatClampNeg x2)) 45537) x5.toNatClampNeg x3)) 47585) x5.toNatClampNeg x4)) 8216) 7 ((T 8216 7) + (nI 1)))
def l_X3_add (x1 x2 x3 x4 : Int32) : Nat → Int32 → z_MI → z_MI
  | 0, x5, T => m_fin x1 x2 x3 x4 T x5
  | a + 1, x5, T => if x5 ≤ 0 then m_fin x1 x2 x3 x4 T x5 else if T 45537 (x5 - nI 1).toNatClampNeg ≤ x3 then m_fin x1 x2 x3 x4 T x5 else l_X3_add x1 x2 x3 x4 a (x5 + (-1)) (m_sh T x5)
def u_X3_add (S : z_MI) (P : z_ML) (x1 : Int32) (x2 : Int32) (x3 : Int32) (x4 : Int32) : z_MI :=
  l_X3_add x1 x2 x3 x4 (S 8216 7).toNatClampNeg (S 8216 7) S
def f_X3_add (S : z_MI) (P : z_ML) (x1 : Int32) (x2 : Int32) (x3 : Int32) (x4 : Int32) : Int32 :=
  u_X3_add S P x1 x2 x3 x4 8216 7
def sp_X3_add : z_SP := fun as S P k => match as with
  | [.int x1, .int x2, .int x3, .int x4] => vp_in (S 8216 7) 60 ∧ k (some (.int (f_X3_add S P x1 x2 x3 x4))) (u_X3_add S P x1 x2 x3 x4) P
  | _ => False
def G_X3_add : z_G := ([(0, .aload_n 0, 1, 0), (1, .getfield 33, 4, 0), (4, .istore 5, 6, 0), (6, .iload 5, 8, 0), (8, .ifCond .le 86, 11, 94), (11, .aload_n 0, 12, 0), (12, .getfield 18, 15, 0), (15, .iload 5, 17, 0), (17, .iconst 1, 18, 0), (18, .isub, 19, 0), (19, .iaload, 20, 0), (20, .iload_n 3, 21, 0), (21, .if_icmp .le 73, 24, 94), (24, .aload_n 0, 25, 0), (25, .getfield 9, 28, 0), (28, .iload 5, 30, 0), (30, .aload_n 0, 31, 0), (31, .getfield 9, 34, 0), (34, .iload 5, 36, 0), (36, .iconst 1, 37, 0), (37, .isub, 38, 0), (38, .iaload, 39, 0), (39, .iastore, 40, 0), (40, .aload_n 0, 41, 0), (41, .getfield 15, 44, 0), (44, .iload 5, 46, 0), (46, .aload_n 0, 47, 0), (47, .getfield 15, 50, 0), (50, .iload 5, 52, 0), (52, .iconst 1, 53, 0), (53, .isub, 54, 0), (54, .iaload, 55, 0), (55, .iastore, 56, 0), (56, .aload_n 0, 57, 0), (57, .getfield 18, 60, 0), (60, .iload 5, 62, 0), (62, .aload_n 0, 63, 0), (63, .getfield 18, 66, 0), (66, .iload 5, 68, 0), (68, .iconst 1, 69, 0), (69, .isub, 70, 0), (70, .iaload, 71, 0), (71, .iastore, 72, 0), (72, .aload_n 0, 73, 0), (73, .getfield 21, 76, 0), (76, .iload 5, 78, 0), (78, .aload_n 0, 79, 0), (79, .getfield 21, 82, 0), (82, .iload 5, 84, 0), (84, .iconst 1, 85, 0), (85, .isub, 86, 0), (86, .iaload, 87, 0), (87, .iastore, 88, 0), (88, .iinc 5 (-1), 91, 0), (91, .goto (-85), 94, 6), (94, .aload_n 0, 95, 0), (95, .getfield 9, 98, 0), (98, .iload 5, 100, 0), (100, .iload_n 1, 101, 0), (101, .iastore, 102, 0), (102, .aload_n 0, 103, 0), (103, .getfield 15, 106, 0), (106, .iload 5, 108, 0), (108, .iload_n 2, 109, 0), (109, .iastore, 110, 0), (110, .aload_n 0, 111, 0), (111, .getfield 18, 114, 0), (114, .iload 5, 116, 0), (116, .iload_n 3, 117, 0), (117, .iastore, 118, 0), (118, .aload_n 0, 119, 0), (119, .getfield 21, 122, 0), (122, .iload 5, 124, 0), (124, .iload 4, 126, 0), (126, .iastore, 127, 0), (127, .aload_n 0, 128, 0), (128, .dup, 129, 0), (129, .getfield 33, 132, 0), (132, .iconst 1, 133, 0), (133, .iadd, 134, 0), (134, .putfield 33, 137, 0), (137, .aload_n 0, 138, 0), (138, .getfield 33, 141, 0), (141, .ireturn, 142, 0)], [(9, 8216, 0, some 41441), (15, 8216, 1, some 43489), (18, 8216, 2, some 45537), (21, 8216, 3, some 47585), (33, 8216, 7, none)], [], [], [], [], [], some .int)
theorem m_dec {a : Nat} (h : a + 1 < 60) : (nI (a + 1) : Int32) - nI 1 = nI a ∧ (nI (a + 1) : Int32) + (-1) = nI a := by
  have e : (nI (a + 1) : Int32) - nI 1 = nI a := by rw [← nI_add a 1]; exact Int32.add_sub_cancel _ _
  refine ⟨e, ?_⟩
  rw [← e, Int32.sub_eq_add_neg]
  rfl
set_option maxRecDepth 20000 in
set_option maxHeartbeats 4000000 in
theorem ct_X3_add (l : Launch) : z_CT l yX3_add cX3_add 6 (some .int) (z_rc 8216 sp_X3_add) 0 := by
  refine z_CT_of G_X3_add (by decide) (by decide +kernel) (z_pok_of ft_X3 ci_X3 cL_X3_L fo_X3 co_X3 lo_X3 (by decide +kernel)) rfl rfl ?_ ?_ ?_
  · intro as S P Po h0
    obtain ⟨as, rfl, h⟩ := z_rc_of h0
    unfold sp_X3_add at h
    split at h
    · exact Nat.le_of_ble_eq_true rfl
    · exact h.elim
  · exact fun _ h => absurd h List.not_mem_nil
  · intro as S P Po h0 V hV hW
    obtain ⟨as, rfl, h⟩ := z_rc_of h0
    unfold sp_X3_add at h
    split at h
    · rename_i x1 x2 x3 x4
      obtain ⟨hp0, hpo⟩ := h
      have hfin : ∀ (x5 : Int32) (T : z_MI), u_X3_add S P x1 x2 x3 x4 = m_fin x1 x2 x3 x4 T x5 → Po (some (.int (m_fin x1 x2 x3 x4 T x5 8216 7))) (m_fin x1 x2 x3 x4 T x5) P := by
        intro x5 T e
        refine z_pi hpo ?_ e rfl
        unfold f_X3_add
        rw [e]
      have hL : ∀ (a : Nat) (x5 : Int32) (T : z_MI), a < 60 → x5 = nI a → u_X3_add S P x1 x2 x3 x4 = l_X3_add x1 x2 x3 x4 a x5 T → V 6 [(0, .ref 8216), (1, .int x1), (2, .int x2), (3, .int x3), (4, .int x4), (5, .int x5)] [] T P := by
        intro a
        induction a with
        | zero =>
          intro x5 T ha hx e
          have hi5 : vp_in x5 60 := by rw [hx]; exact vp_in_nI (by omega) (by omega)
          refine hV [6] 60 6 _ _ _ _ ?_
          refine ⟨fun _ => ?_, fun h => absurd (by rw [hx]; decide) h⟩
          refine ⟨hi5, ?_⟩
          refine ⟨hi5, ?_⟩
          refine ⟨hi5, ?_⟩
          refine ⟨hi5, ?_⟩
          exact hfin x5 T e
        | succ a ih =>
          intro x5 T ha hx e
          have hi5 : vp_in x5 60 := by rw [hx]; exact vp_in_nI (by omega) (by omega)
          have hi4 : vp_in (x5 - nI 1) 60 := by rw [hx, (m_dec ha).1]; exact vp_in_nI (by omega) (by omega)
          unfold l_X3_add at e
          refine hV [6] 60 6 _ _ _ _ ?_
          refine ⟨fun h1 => ?_, fun h1 => ?_⟩
          · rw [if_pos h1] at e
            refine ⟨hi5, ?_⟩
            refine ⟨hi5, ?_⟩
            refine ⟨hi5, ?_⟩
            refine ⟨hi5, ?_⟩
            exact hfin x5 T e
          · rw [if_neg h1] at e
            refine ⟨hi4, ?_⟩
            refine ⟨fun h2 => ?_, fun h2 => ?_⟩
            · rw [if_pos h2] at e
              refine ⟨hi5, ?_⟩
              refine ⟨hi5, ?_⟩
              refine ⟨hi5, ?_⟩
              refine ⟨hi5, ?_⟩
              exact hfin x5 T e
            · rw [if_neg h2] at e
              refine ⟨hi4, ?_⟩
              refine ⟨hi5, ?_⟩
              refine ⟨hi4, ?_⟩
              refine ⟨hi5, ?_⟩
              refine ⟨hi4, ?_⟩
              refine ⟨hi5, ?_⟩
              refine ⟨hi4, ?_⟩
              refine ⟨hi5, ?_⟩
              exact hW [0, 1, 2, 3, 4, 5] _ _ _ _ _ (ih _ _ (by omega) (by rw [hx]; exact (m_dec ha).2) e)
      refine hV [6] 60 0 _ _ _ _ ?_
      obtain ⟨c, hc, hcc⟩ := vp_in_of hp0 (by decide)
      have hc2 : (S 8216 7).toNatClampNeg = c := by rw [hcc]; exact nI_clamp (by omega)
      refine hW [0, 1, 2, 3, 4, 5] _ _ _ _ _ (hL c _ _ hc hcc ?_)
      unfold u_X3_add
      rw [hc2]
    · exact h.elim
def f_X6_mark (S : z_MI) (P : z_ML) (x1 : Int32) (x2 : Int32) (x3 : Int32) (x4 : Int32) : Int32 :=
  if (f_X2_isPeople S P x1) = true then
    if (f_X6_isPlace S P x2) = true then
      if x3 < 0 then
        0
      else
        if (S 2096 8) < x3 then
          0
        else
          if x4 < (nI 1) then
            0
          else
            if x4 ≤ (nI 9) then
              if (S 8216 7) < (nI 60) then
                f_X3_add S P x1 x2 x3 x4
              else
                0
            else
              0
    else
      0
  else
    0
def u_X6_mark (S : z_MI) (P : z_ML) (x1 : Int32) (x2 : Int32) (x3 : Int32) (x4 : Int32) : z_MI :=
  if (f_X2_isPeople S P x1) = true then
    if (f_X6_isPlace S P x2) = true then
      if x3 < 0 then
        S
      else
        if (S 2096 8) < x3 then
          S
        else
          if x4 < (nI 1) then
            S
          else
            if x4 ≤ (nI 9) then
              if (S 8216 7) < (nI 60) then
                u_X3_add S P x1 x2 x3 x4
              else
                S
            else
              S
    else
      S
  else
    S
def e_X6_mark (S : z_MI) (P : z_ML) (x1 : Int32) (x2 : Int32) (x3 : Int32) (x4 : Int32) : Nat :=
  if (f_X2_isPeople S P x1) = true then
    if (f_X6_isPlace S P x2) = true then
      if x3 < 0 then
        2
      else
        if (S 2096 8) < x3 then
          2
        else
          if x4 < (nI 1) then
            2
          else
            if x4 ≤ (nI 9) then
              if (S 8216 7) < (nI 60) then
                0
              else
                3
            else
              2
    else
      1
  else
    1
def sp_X6_mark : z_SX := fun as S P k kx => match as with
  | [.ref 2096, .int x1, .int x2, .int x3, .int x4] => z_J S ∧ (match e_X6_mark S P x1 x2 x3 x4 with
      | 0 => k (some (.int (f_X6_mark S P x1 x2 x3 x4))) (u_X6_mark S P x1 x2 x3 x4) P
      | 1 => kx "java/lang/IndexOutOfBoundsException" S P
      | 2 => kx "java/lang/IllegalArgumentException" S P
      | _ => kx "java/lang/IllegalStateException" S P)
  | _ => False
def G_X6_mark : z_G := ([(0, .aload_n 0, 1, 0), (1, .getfield 10, 4, 0), (4, .iload_n 1, 5, 0), (5, .invokevirtual 102, 8, 0), (8, .ifCond .eq 10, 11, 18), (11, .iload_n 2, 12, 0), (12, .invokestatic 150, 15, 0), (15, .ifCond .ne 13, 18, 28), (18, .new 86, 21, 0), (21, .dup, 22, 0), (22, .ldc 187, 24, 0), (24, .invokespecial 90, 27, 0), (27, .athrow, 28, 0), (28, .iload_n 3, 29, 0), (29, .ifCond .lt 24, 32, 53), (32, .iload_n 3, 33, 0), (33, .aload_n 0, 34, 0), (34, .getfield 59, 37, 0), (37, .if_icmp .gt 16, 40, 53), (40, .iload 4, 42, 0), (42, .iconst 1, 43, 0), (43, .if_icmp .lt 10, 46, 53), (46, .iload 4, 48, 0), (48, .bipush 9, 50, 0), (50, .if_icmp .le 13, 53, 63), (53, .new 63, 56, 0), (56, .dup, 57, 0), (57, .ldc 189, 59, 0), (59, .invokespecial 67, 62, 0), (62, .athrow, 63, 0), (63, .aload_n 0, 64, 0), (64, .getfield 26, 67, 0), (67, .getfield 191, 70, 0), (70, .bipush 60, 72, 0), (72, .if_icmp .lt 13, 75, 85), (75, .new 73, 78, 0), (78, .dup, 79, 0), (79, .ldc 192, 81, 0), (81, .invokespecial 77, 84, 0), (84, .athrow, 85, 0), (85, .aload_n 0, 86, 0), (86, .getfield 26, 89, 0), (89, .iload_n 1, 90, 0), (90, .iload_n 2, 91, 0), (91, .iload_n 3, 92, 0), (92, .iload 4, 94, 0), (94, .invokevirtual 194, 97, 0), (97, .ireturn, 98, 0)], [(10, 2096, 0, some 4112), (26, 2096, 2, some 8216), (59, 2096, 8, none), (191, 8216, 7, none)], [(100150, 1, sp_X6_isPlace), (102, 2, (z_rc 4112 sp_X2_isPeople)), (194, 5, (z_rc 8216 sp_X3_add))], [], [], [(18, "java/lang/IndexOutOfBoundsException"), (53, "java/lang/IllegalArgumentException"), (75, "java/lang/IllegalStateException")], [], some .int)
def ss_X6_mark : List z_ST := [(18, "java/lang/IndexOutOfBoundsException", 86, 187, 90, "no such people or place", false), (53, "java/lang/IllegalArgumentException", 63, 189, 67, "month or weight is out of range", false), (75, "java/lang/IllegalStateException", 73, 192, 77, "there are 60 marks", false)]
set_option maxRecDepth 20000 in
set_option maxHeartbeats 4000000 in
theorem ct_X6_mark (l : Launch) (hl9 : l.stackTraces = false) : z_CX l yX6_mark cX6_mark 5 (some .int) sp_X6_mark 6 := by
  refine z_CX_of G_X6_mark ss_X6_mark hl9 (by decide) (by decide) (by decide +kernel) (z_pok_of ft_X6 ci_X6 cL_X6_L fo_X6 co_X6 lo_X6 (by decide +kernel)) rfl rfl (by decide +kernel) ?_ ?_ ?_
  · intro as S P Po Px h
    unfold sp_X6_mark at h
    split at h
    · exact Nat.le_of_ble_eq_true rfl
    · exact h.elim
  · exact List.forall_mem_cons.mpr ⟨z_coS (ct_X6_isPlace l) kb_X6_isPlace ks_X6_150 (by decide) (by decide), List.forall_mem_cons.mpr ⟨z_coV (ct_X2_isPeople l) kb_X2_isPeople kv_X6_102 ko_X2 (by decide) (by decide) (by decide), List.forall_mem_cons.mpr ⟨z_coV (ct_X3_add l) kb_X3_add kv_X6_194 ko_X3 (by decide) (by decide) (by decide), fun _ h => absurd h List.not_mem_nil⟩⟩⟩
  · intro as S P Po Px h V hV hW
    unfold sp_X6_mark at h
    split at h
    · rename_i x1 x2 x3 x4
      obtain ⟨hp0, hpo⟩ := h
      refine hV [] 53 0 _ _ _ _ ?_
      refine z_br (fun (h1 : (f_X2_isPeople S P x1) = false) => ?_) (fun (h1 : (f_X2_isPeople S P x1) = true) => ?_)
      · have he : e_X6_mark S P x1 x2 x3 x4 = 1 := (if_neg (z_nt h1)).trans rfl
        rw [he] at hpo
        exact hpo
      · refine z_brn (fun (h2 : (f_X6_isPlace S P x2) = true) => ?_) (fun (h2 : (f_X6_isPlace S P x2) = false) => ?_)
        · refine ⟨fun (h3 : x3 < 0) => ?_, fun (h3 : ¬ (x3 < 0)) => ?_⟩
          · have he : e_X6_mark S P x1 x2 x3 x4 = 2 := (if_pos h1).trans ((if_pos h2).trans ((if_pos h3).trans rfl))
            rw [he] at hpo
            exact hpo
          · refine ⟨fun (h4 : (S 2096 8) < x3) => ?_, fun (h4 : ¬ ((S 2096 8) < x3)) => ?_⟩
            · have he : e_X6_mark S P x1 x2 x3 x4 = 2 := (if_pos h1).trans ((if_pos h2).trans ((if_neg h3).trans ((if_pos h4).trans rfl)))
              rw [he] at hpo
              exact hpo
            · refine ⟨fun (h5 : x4 < (nI 1)) => ?_, fun (h5 : ¬ (x4 < (nI 1))) => ?_⟩
              · have he : e_X6_mark S P x1 x2 x3 x4 = 2 := (if_pos h1).trans ((if_pos h2).trans ((if_neg h3).trans ((if_neg h4).trans ((if_pos h5).trans rfl))))
                rw [he] at hpo
                exact hpo
              · refine ⟨fun (h6 : x4 ≤ (nI 9)) => ?_, fun (h6 : ¬ (x4 ≤ (nI 9))) => ?_⟩
                · refine ⟨fun (h7 : (S 8216 7) < (nI 60)) => ?_, fun (h7 : ¬ ((S 8216 7) < (nI 60))) => ?_⟩
                  · refine ⟨(show vp_in (S 8216 7) 60 by first | exact z_room (by assumption) (z_J_marks hp0) (by decide) (by decide) | exact z_roomL (by assumption) (z_J_marks hp0) (by decide) (by decide)), ?_⟩
                    have he : e_X6_mark S P x1 x2 x3 x4 = 0 := (if_pos h1).trans ((if_pos h2).trans ((if_neg h3).trans ((if_neg h4).trans ((if_neg h5).trans ((if_pos h6).trans ((if_pos h7).trans rfl))))))
                    rw [he] at hpo
                    exact z_pi hpo ((if_pos h1).trans ((if_pos h2).trans ((if_neg h3).trans ((if_neg h4).trans ((if_neg h5).trans ((if_pos h6).trans ((if_pos h7).trans rfl))))))) ((if_pos h1).trans ((if_pos h2).trans ((if_neg h3).trans ((if_neg h4).trans ((if_neg h5).trans ((if_pos h6).trans ((if_pos h7).trans rfl))))))) (rfl)
                  · have he : e_X6_mark S P x1 x2 x3 x4 = 3 := (if_pos h1).trans ((if_pos h2).trans ((if_neg h3).trans ((if_neg h4).trans ((if_neg h5).trans ((if_pos h6).trans ((if_neg h7).trans rfl))))))
                    rw [he] at hpo
                    exact hpo
                · have he : e_X6_mark S P x1 x2 x3 x4 = 2 := (if_pos h1).trans ((if_pos h2).trans ((if_neg h3).trans ((if_neg h4).trans ((if_neg h5).trans ((if_neg h6).trans rfl)))))
                  rw [he] at hpo
                  exact hpo
        · have he : e_X6_mark S P x1 x2 x3 x4 = 1 := (if_pos h1).trans ((if_neg (z_nt h2)).trans rfl)
          rw [he] at hpo
          exact hpo
    · exact h.elim
