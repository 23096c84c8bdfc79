def f_J6_bitCount_0f7a4 (S : z_MI) (P : z_ML) (x0 : Int32) : Int32 :=
  (((((((x0 - ((((x0).toUInt32 >>> (((nI 1)).toUInt32 &&& Int32.toUInt32 31)).toInt32) &&& (nI 1431655765))) &&& (nI 858993459)) + (((((x0 - ((((x0).toUInt32 >>> (((nI 1)).toUInt32 &&& Int32.toUInt32 31)).toInt32) &&& (nI 1431655765)))).toUInt32 >>> (((nI 2)).toUInt32 &&& Int32.toUInt32 31)).toInt32) &&& (nI 858993459))) + ((((((x0 - ((((x0).toUInt32 >>> (((nI 1)).toUInt32 &&& Int32.toUInt32 31)).toInt32) &&& (nI 1431655765))) &&& (nI 858993459)) + (((((x0 - ((((x0).toUInt32 >>> (((nI 1)).toUInt32 &&& Int32.toUInt32 31)).toInt32) &&& (nI 1431655765)))).toUInt32 >>> (((nI 2)).toUInt32 &&& Int32.toUInt32 31)).toInt32) &&& (nI 858993459)))).toUInt32 >>> (((nI 4)).toUInt32 &&& Int32.toUInt32 31)).toInt32)) &&& (nI 252645135)) + ((((((((x0 - ((((x0).toUInt32 >>> (((nI 1)).toUInt32 &&& Int32.toUInt32 31)).toInt32) &&& (nI 1431655765))) &&& (nI 858993459)) + (((((x0 - ((((x0).toUInt32 >>> (((nI 1)).toUInt32 &&& Int32.toUInt32 31)).toInt32) &&& (nI 1431655765)))).toUInt32 >>> (((nI 2)).toUInt32 &&& Int32.toUInt32 31)).toInt32) &&& (nI 858993459))) + ((((((x0 - ((((x0).toUInt32 >>> (((nI 1)).toUInt32 &&& Int32.toUInt32 31)).toInt32) &&& (nI 1431655765))) &&& (nI 858993459)) + (((((x0 - ((((x0).toUInt32 >>> (((nI 1)).toUInt32 &&& Int32.toUInt32 31)).toInt32) &&& (nI 1431655765)))).toUInt32 >>> (((nI 2)).toUInt32 &&& Int32.toUInt32 31)).toInt32) &&& (nI 858993459)))).toUInt32 >>> (((nI 4)).toUInt32 &&& Int32.toUInt32 31)).toInt32)) &&& (nI 252645135))).toUInt32 >>> (((nI 8)).toUInt32 &&& Int32.toUInt32 31)).toInt32)) + (((((((((x0 - ((((x0).toUInt32 >>> (((nI 1)).toUInt32 &&& Int32.toUInt32 31)).toInt32) &&& (nI 1431655765))) &&& (nI 858993459)) + (((((x0 - ((((x0).toUInt32 >>> (((nI 1)).toUInt32 &&& Int32.toUInt32 31)).toInt32) &&& (nI 1431655765)))).toUInt32 >>> (((nI 2)).toUInt32 &&& Int32.toUInt32 31)).toInt32) &&& (nI 858993459))) + ((((((x0 - ((((x0).toUInt32 >>> (((nI 1)).toUInt32 &&& Int32.toUInt32 31)).toInt32) &&& (nI 1431655765))) &&& (nI 858993459)) + (((((x0 - ((((x0).toUInt32 >>> (((nI 1)).toUInt32 &&& Int32.toUInt32 31)).toInt32) &&& (nI 1431655765)))).toUInt32 >>> (((nI 2)).toUInt32 &&& Int32.toUInt32 31)).toInt32) &&& (nI 858993459)))).toUInt32 >>> (((nI 4)).toUInt32 &&& Int32.toUInt32 31)).toInt32)) &&& (nI 252645135)) + ((((((((x0 - ((((x0).toUInt32 >>> (((nI 1)).toUInt32 &&& Int32.toUInt32 31)).toInt32) &&& (nI 1431655765))) &&& (nI 858993459)) + (((((x0 - ((((x0).toUInt32 >>> (((nI 1)).toUInt32 &&& Int32.toUInt32 31)).toInt32) &&& (nI 1431655765)))).toUInt32 >>> (((nI 2)).toUInt32 &&& Int32.toUInt32 31)).toInt32) &&& (nI 858993459))) + ((((((x0 - ((((x0).toUInt32 >>> (((nI 1)).toUInt32 &&& Int32.toUInt32 31)).toInt32) &&& (nI 1431655765))) &&& (nI 858993459)) + (((((x0 - ((((x0).toUInt32 >>> (((nI 1)).toUInt32 &&& Int32.toUInt32 31)).toInt32) &&& (nI 1431655765)))).toUInt32 >>> (((nI 2)).toUInt32 &&& Int32.toUInt32 31)).toInt32) &&& (nI 858993459)))).toUInt32 >>> (((nI 4)).toUInt32 &&& Int32.toUInt32 31)).toInt32)) &&& (nI 252645135))).toUInt32 >>> (((nI 8)).toUInt32 &&& Int32.toUInt32 31)).toInt32))).toUInt32 >>> (((nI 16)).toUInt32 &&& Int32.toUInt32 31)).toInt32)) &&& (nI 63)
def sp_J6_bitCount_0f7a4 : z_SP := fun as S P k => match as with
  | [.int x0] => k (some (.int (f_J6_bitCount_0f7a4 S P x0))) S P
  | _ => False
def G_J6_bitCount_0f7a4 : z_G := ([(0, .iload_n 0, 1, 0), (1, .iload_n 0, 2, 0), (2, .iconst 1, 3, 0), (3, .iushr, 4, 0), (4, .ldc_w 265, 7, 0), (7, .iand, 8, 0), (8, .isub, 9, 0), (9, .istore_n 0, 10, 0), (10, .iload_n 0, 11, 0), (11, .ldc_w 266, 14, 0), (14, .iand, 15, 0), (15, .iload_n 0, 16, 0), (16, .iconst 2, 17, 0), (17, .iushr, 18, 0), (18, .ldc_w 266, 21, 0), (21, .iand, 22, 0), (22, .iadd, 23, 0), (23, .istore_n 0, 24, 0), (24, .iload_n 0, 25, 0), (25, .iload_n 0, 26, 0), (26, .iconst 4, 27, 0), (27, .iushr, 28, 0), (28, .iadd, 29, 0), (29, .ldc_w 267, 32, 0), (32, .iand, 33, 0), (33, .istore_n 0, 34, 0), (34, .iload_n 0, 35, 0), (35, .iload_n 0, 36, 0), (36, .bipush 8, 38, 0), (38, .iushr, 39, 0), (39, .iadd, 40, 0), (40, .istore_n 0, 41, 0), (41, .iload_n 0, 42, 0), (42, .iload_n 0, 43, 0), (43, .bipush 16, 45, 0), (45, .iushr, 46, 0), (46, .iadd, 47, 0), (47, .istore_n 0, 48, 0), (48, .iload_n 0, 49, 0), (49, .bipush 63, 51, 0), (51, .iand, 52, 0), (52, .ireturn, 53, 0)], [], [], [(265, 1431655765), (266, 858993459), (267, 252645135)], [], [], [], some .int)
set_option maxRecDepth 20000 in
set_option maxHeartbeats 4000000 in
theorem ct_J6_bitCount_0f7a4 (l : Launch) : z_CT l yJ6_bitCount_0f7a4 cJ6_bitCount_0f7a4 1 (some .int) sp_J6_bitCount_0f7a4 0 := by
  refine z_CT_of G_J6_bitCount_0f7a4 (by decide) (by decide +kernel) (z_pok_of ft_J6 ci_J6 cL_J6_L fo_J6 co_J6 lo_J6 (by decide +kernel)) rfl rfl ?_ ?_ ?_
  · intro as S P Po h
    unfold sp_J6_bitCount_0f7a4 at h
    split at h
    · exact Nat.le_of_ble_eq_true rfl
    · exact h.elim
  · exact fun _ h => absurd h List.not_mem_nil
  · intro as S P Po h V hV hW
    unfold sp_J6_bitCount_0f7a4 at h
    split at h
    · rename_i x0
      have hpo := h
      refine hV [] 47 0 _ _ _ _ ?_
      exact z_pi hpo (rfl) (rfl) (rfl)
    · exact h.elim
def l_X2_membersOf_19 (S : z_MI) (P : z_ML) (x1 : Int32) (k19 : Nat) (a19 : Int32) : (Int32) ⊕ (Int32) :=
  if (f_X2_withNext S P a19 (S 20529 x1.toNatClampNeg)) = a19 then
    .inr (f_X2_withNext S P a19 (S 20529 x1.toNatClampNeg))
  else
    .inl (f_X2_withNext S P a19 (S 20529 x1.toNatClampNeg))
def f_X2_membersOf (S : z_MI) (P : z_ML) (x1 : Int32) : Int32 :=
  if (f_X2_isPeople S P x1) = true then
    Sum.elim (fun a19 =>
      a19) (fun r => r) (z_fx (fun k19 a19 => l_X2_membersOf_19 S P x1 k19 a19) (S 22577 x1.toNatClampNeg) (S 4112 7).toNatClampNeg)
  else
    nI 0
def sp_X2_membersOf : z_SP := fun as S P k => match as with
  | [.int x1] => vp_in x1 6 ∧ z_le (S 4112 7) 30 ∧ k (some (.int (f_X2_membersOf S P x1))) S P
  | _ => False
def G_X2_membersOf : z_G := ([(0, .aload_n 0, 1, 0), (1, .iload_n 1, 2, 0), (2, .invokevirtual 41, 5, 0), (5, .ifCond .ne 5, 8, 10), (8, .iconst 0, 9, 0), (9, .ireturn, 10, 0), (10, .aload_n 0, 11, 0), (11, .getfield 15, 14, 0), (14, .iload_n 1, 15, 0), (15, .iaload, 16, 0), (16, .istore_n 2, 17, 0), (17, .iconst 0, 18, 0), (18, .istore_n 3, 19, 0), (19, .iload_n 3, 20, 0), (20, .aload_n 0, 21, 0), (21, .getfield 34, 24, 0), (24, .if_icmp .ge 33, 27, 57), (27, .iload_n 2, 28, 0), (28, .istore 4, 30, 0), (30, .aload_n 0, 31, 0), (31, .iload_n 2, 32, 0), (32, .aload_n 0, 33, 0), (33, .getfield 9, 36, 0), (36, .iload_n 1, 37, 0), (37, .iaload, 38, 0), (38, .invokevirtual 44, 41, 0), (41, .istore_n 2, 42, 0), (42, .iload_n 2, 43, 0), (43, .iload 4, 45, 0), (45, .if_icmp .ne 6, 48, 51), (48, .goto 9, 51, 57), (51, .iinc 3 1, 54, 0), (54, .goto (-35), 57, 19), (57, .iload_n 2, 58, 0), (58, .ireturn, 59, 0)], [(9, 4112, 0, some 20529), (15, 4112, 1, some 22577), (34, 4112, 7, none)], [(41, 2, (z_rc 4112 sp_X2_isPeople)), (44, 3, (z_rc 4112 sp_X2_withNext))], [], [], [], [], some .int)
set_option maxRecDepth 20000 in
set_option maxHeartbeats 4000000 in
theorem ct_X2_membersOf (l : Launch) : z_CT l yX2_membersOf cX2_membersOf 5 (some .int) (z_rc 4112 sp_X2_membersOf) 3 := by
  refine z_CT_of G_X2_membersOf (by decide) (by decide +kernel) (z_pok_of ft_X2 ci_X2 cL_X2_L fo_X2 co_X2 lo_X2 (by decide +kernel)) rfl rfl ?_ ?_ ?_
  · intro as S P Po h0
    obtain ⟨as, rfl, h⟩ := z_rc_of h0
    unfold sp_X2_membersOf at h
    split at h
    · exact Nat.le_of_ble_eq_true rfl
    · exact h.elim
  · exact List.forall_mem_cons.mpr ⟨z_coV (ct_X2_isPeople l) kb_X2_isPeople kv_X2_41 ko_X2 (by decide) (by decide) (by decide), List.forall_mem_cons.mpr ⟨z_coV (ct_X2_withNext l) kb_X2_withNext kv_X2_44 ko_X2 (by decide) (by decide) (by decide), fun _ h => absurd h List.not_mem_nil⟩⟩
  · intro as S P Po h0 V hV hW
    obtain ⟨as, rfl, h⟩ := z_rc_of h0
    unfold sp_X2_membersOf at h
    split at h
    · rename_i x1
      obtain ⟨hp0, hp1, hpo⟩ := h
      refine hV [19] 40 0 _ _ _ _ ?_
      refine z_brn (fun (h1 : (f_X2_isPeople S P x1) = true) => ?_) (fun (h1 : (f_X2_isPeople S P x1) = false) => ?_)
      · refine ⟨(show vp_in x1 6 by assumption), ?_⟩
        obtain ⟨hb19, hN19⟩ := z_le_cl (show z_le (S 4112 7) 30 by assumption) (by decide)
        have hL19 : ∀ (j k19 : Nat) (x900 : Int32) (a19 : Int32), k19 + j = (S 4112 7).toNatClampNeg → x900 = nI k19 → z_fx (fun k19 a19 => l_X2_membersOf_19 S P x1 k19 a19) (S 22577 x1.toNatClampNeg) k19 = .inl a19 → V 19 [(0, .ref 4112), (1, .int x1), (2, .int a19), (3, .int x900)] [] S P := by
          intro j
          induction j with
          | zero =>
            intro k19 x900 a19 hk19 hx19 ha19
            subst hx19
            have hk9 : k19 = (S 4112 7).toNatClampNeg := by omega
            subst hk9
            refine hV [19] 40 19 _ _ _ _ ?_
            refine ⟨fun _ => ?_, fun h => absurd ((z_brge hb19 (by omega) (by omega)).mpr (Nat.le_refl _)) h⟩
            exact z_pi hpo ((if_pos h1).trans ((congrArg (Sum.elim _ _) ha19).trans rfl)) (rfl) (rfl)
          | succ j ih =>
            intro k19 x900 a19 hk19 hx19 ha19
            subst hx19
            have hk9 : k19 < (S 4112 7).toNatClampNeg := by omega
            refine hV [19] 40 19 _ _ _ _ ?_
            refine ⟨fun h => absurd ((z_brge hb19 (by omega) (by omega)).mp h) (by omega), fun _ => ?_⟩
            refine ⟨(show vp_in x1 6 by assumption), ?_⟩
            refine ⟨(show z_le (S 4112 7) 30 by assumption), ?_⟩
            refine ⟨fun (h3 : ¬ ((f_X2_withNext S P a19 (S 20529 x1.toNatClampNeg)) = a19)) => ?_, fun (h3 : (f_X2_withNext S P a19 (S 20529 x1.toNatClampNeg)) = a19) => ?_⟩
            · exact hW [0, 1, 2, 3] _ _ _ _ _ (ih (k19 + 1) _ (f_X2_withNext S P a19 (S 20529 x1.toNatClampNeg)) (by omega) (nI_add k19 1) ((z_fx_s ha19).trans ((if_neg h3).trans rfl)))
            · have hM := (z_fx_s ha19).trans ((if_pos h3).trans rfl)
              have hM := z_fx_r hM (show _ ≤ (S 4112 7).toNatClampNeg by omega)
              exact z_pi hpo ((if_pos h1).trans ((congrArg (Sum.elim _ _) hM).trans rfl)) (rfl) (rfl)
        exact hW [0, 1, 2, 3] _ _ _ _ _ (hL19 (S 4112 7).toNatClampNeg 0 _ (S 22577 x1.toNatClampNeg) (Nat.zero_add _) rfl rfl)
      · exact z_pi hpo ((if_neg (z_nt h1)).trans rfl) (rfl) (rfl)
    · exact h.elim
def f_X5_isStory (S : z_MI) (P : z_ML) (x1 : Int32) : Bool :=
  if x1 < 0 then
    false
  else
    if (S 6184 4) ≤ x1 then
      false
    else
      true
def sp_X5_isStory : z_SP := fun as S P k => match as with
  | [.int x1] => k (some (.int (z_b (f_X5_isStory S P x1)))) S P
  | _ => False
def G_X5_isStory : z_G := ([(0, .iload_n 1, 1, 0), (1, .ifCond .lt 15, 4, 16), (4, .iload_n 1, 5, 0), (5, .aload_n 0, 6, 0), (6, .getfield 24, 9, 0), (9, .if_icmp .ge 7, 12, 16), (12, .iconst 1, 13, 0), (13, .goto 4, 16, 17), (16, .iconst 0, 17, 0), (17, .ireturn, 18, 0)], [(24, 6184, 4, none)], [], [], [], [], [], some .boolean)
set_option maxRecDepth 20000 in
set_option maxHeartbeats 4000000 in
theorem ct_X5_isStory (l : Launch) : z_CT l yX5_isStory cX5_isStory 2 (some .boolean) (z_rc 6184 sp_X5_isStory) 0 := by
  refine z_CT_of G_X5_isStory (by decide) (by decide +kernel) (z_pok_of ft_X5 ci_X5 cL_X5_L fo_X5 co_X5 lo_X5 (by decide +kernel)) rfl rfl ?_ ?_ ?_
  · intro as S P Po h0
    obtain ⟨as, rfl, h⟩ := z_rc_of h0
    unfold sp_X5_isStory at h
    split at h
    · exact Nat.le_of_ble_eq_true rfl
    · exact h.elim
  · exact fun _ h => absurd h List.not_mem_nil
  · intro as S P Po h0 V hV hW
    obtain ⟨as, rfl, h⟩ := z_rc_of h0
    unfold sp_X5_isStory at h
    split at h
    · rename_i x1
      have hpo := h
      refine hV [] 15 0 _ _ _ _ ?_
      refine ⟨fun (h1 : x1 < 0) => ?_, fun (h1 : ¬ (x1 < 0)) => ?_⟩
      · exact ⟨(by first | rfl | exact z_nb _), z_pb hpo ((if_pos h1).trans rfl) (rfl) (rfl)⟩
      · refine ⟨fun (h2 : (S 6184 4) ≤ x1) => ?_, fun (h2 : ¬ ((S 6184 4) ≤ x1)) => ?_⟩
        · exact ⟨(by first | rfl | exact z_nb _), z_pb hpo ((if_neg h1).trans ((if_pos h2).trans rfl)) (rfl) (rfl)⟩
        · exact ⟨(by first | rfl | exact z_nb _), z_pb hpo ((if_neg h1).trans ((if_neg h2).trans rfl)) (rfl) (rfl)⟩
    · exact h.elim
theorem t_isStory0 {S : z_MI} {P : z_ML} {x : Int32} (hz : z_le (S 6184 4) 10) (h : f_X5_isStory S P x = true) : vp_in x 10 := by
  unfold f_X5_isStory at h
  split at h
  · cases h
  · split at h
    · cases h
    · exact z_ck ‹_› ‹_› hz (by decide)
def f_X5_isPart (S : z_MI) (P : z_ML) (x1 : Int32) (x2 : Int32) : Bool :=
  if (f_X5_isStory S P x1) = true then
    if x2 < 0 then
      false
    else
      if (S 34897 x1.toNatClampNeg) ≤ x2 then
        false
      else
        true
  else
    false
def sp_X5_isPart : z_SP := fun as S P k => match as with
  | [.int x1, .int x2] => z_le (S 6184 4) 10 ∧ k (some (.int (z_b (f_X5_isPart S P x1 x2)))) S P
  | _ => False
def G_X5_isPart : z_G := ([(0, .aload_n 0, 1, 0), (1, .iload_n 1, 2, 0), (2, .invokevirtual 28, 5, 0), (5, .ifCond .eq 21, 8, 26), (8, .iload_n 2, 9, 0), (9, .ifCond .lt 17, 12, 26), (12, .iload_n 2, 13, 0), (13, .aload_n 0, 14, 0), (14, .getfield 15, 17, 0), (17, .iload_n 1, 18, 0), (18, .iaload, 19, 0), (19, .if_icmp .ge 7, 22, 26), (22, .iconst 1, 23, 0), (23, .goto 4, 26, 27), (26, .iconst 0, 27, 0), (27, .ireturn, 28, 0)], [(15, 6184, 1, some 34897)], [(28, 2, (z_rc 6184 sp_X5_isStory))], [], [], [], [], some .boolean)
set_option maxRecDepth 20000 in
set_option maxHeartbeats 4000000 in
theorem ct_X5_isPart (l : Launch) : z_CT l yX5_isPart cX5_isPart 3 (some .boolean) (z_rc 6184 sp_X5_isPart) 1 := by
  refine z_CT_of G_X5_isPart (by decide) (by decide +kernel) (z_pok_of ft_X5 ci_X5 cL_X5_L fo_X5 co_X5 lo_X5 (by decide +kernel)) rfl rfl ?_ ?_ ?_
  · intro as S P Po h0
    obtain ⟨as, rfl, h⟩ := z_rc_of h0
    unfold sp_X5_isPart at h
    split at h
    · exact Nat.le_of_ble_eq_true rfl
    · exact h.elim
  · exact List.forall_mem_cons.mpr ⟨z_coV (ct_X5_isStory l) kb_X5_isStory kv_X5_28 ko_X5 (by decide) (by decide) (by decide), fun _ h => absurd h List.not_mem_nil⟩
  · intro as S P Po h0 V hV hW
    obtain ⟨as, rfl, h⟩ := z_rc_of h0
    unfold sp_X5_isPart at h
    split at h
    · rename_i x1 x2
      obtain ⟨hp0, hpo⟩ := h
      refine hV [] 21 0 _ _ _ _ ?_
      refine z_br (fun (h1 : (f_X5_isStory S P x1) = false) => ?_) (fun (h1 : (f_X5_isStory S P x1) = true) => ?_)
      · exact ⟨(by first | rfl | exact z_nb _), z_pb hpo ((if_neg (z_nt h1)).trans rfl) (rfl) (rfl)⟩
      · refine ⟨fun (h2 : x2 < 0) => ?_, fun (h2 : ¬ (x2 < 0)) => ?_⟩
        · exact ⟨(by first | rfl | exact z_nb _), z_pb hpo ((if_pos h1).trans ((if_pos h2).trans rfl)) (rfl) (rfl)⟩
        · refine ⟨(show vp_in x1 10 by exact t_isStory0 hp0 (by assumption)), ?_⟩
          refine ⟨fun (h3 : (S 34897 x1.toNatClampNeg) ≤ x2) => ?_, fun (h3 : ¬ ((S 34897 x1.toNatClampNeg) ≤ x2)) => ?_⟩
          · exact ⟨(by first | rfl | exact z_nb _), z_pb hpo ((if_pos h1).trans ((if_neg h2).trans ((if_pos h3).trans rfl))) (rfl) (rfl)⟩
          · exact ⟨(by first | rfl | exact z_nb _), z_pb hpo ((if_pos h1).trans ((if_neg h2).trans ((if_neg h3).trans rfl))) (rfl) (rfl)⟩
    · exact h.elim
def f_X5_add (S : z_MI) (P : z_ML) (x1 : Int32) : Int32 :=
  S 6184 4
def u_X5_add (S : z_MI) (P : z_ML) (x1 : Int32) : z_MI :=
  va_up (va_up S 32849 (upd (S 32849) ((S 6184 4).toNatClampNeg) x1)) 6184 (upd ((va_up S 32849 (upd (S 32849) ((S 6184 4).toNatClampNeg) x1)) 6184) 4 ((S 6184 4) + (nI 1)))
def sp_X5_add : z_SP := fun as S P k => match as with
  | [.int x1] => vp_in (S 6184 4) 10 ∧ k (some (.int (f_X5_add S P x1))) (u_X5_add S P x1) P
  | _ => False
def G_X5_add : z_G := ([(0, .aload_n 0, 1, 0), (1, .getfield 24, 4, 0), (4, .istore_n 2, 5, 0), (5, .aload_n 0, 6, 0), (6, .getfield 9, 9, 0), (9, .iload_n 2, 10, 0), (10, .iload_n 1, 11, 0), (11, .iastore, 12, 0), (12, .aload_n 0, 13, 0), (13, .dup, 14, 0), (14, .getfield 24, 17, 0), (17, .iconst 1, 18, 0), (18, .iadd, 19, 0), (19, .putfield 24, 22, 0), (22, .iload_n 2, 23, 0), (23, .ireturn, 24, 0)], [(9, 6184, 0, some 32849), (24, 6184, 4, none)], [], [], [], [], [], some .int)
set_option maxRecDepth 20000 in
set_option maxHeartbeats 4000000 in
theorem ct_X5_add (l : Launch) : z_CT l yX5_add cX5_add 3 (some .int) (z_rc 6184 sp_X5_add) 0 := by
  refine z_CT_of G_X5_add (by decide) (by decide +kernel) (z_pok_of ft_X5 ci_X5 cL_X5_L fo_X5 co_X5 lo_X5 (by decide +kernel)) rfl rfl ?_ ?_ ?_
  · intro as S P Po h0
    obtain ⟨as, rfl, h⟩ := z_rc_of h0
    unfold sp_X5_add at h
    split at h
    · exact Nat.le_of_ble_eq_true rfl
    · exact h.elim
  · exact fun _ h => absurd h List.not_mem_nil
  · intro as S P Po h0 V hV hW
    obtain ⟨as, rfl, h⟩ := z_rc_of h0
    unfold sp_X5_add at h
    split at h
    · rename_i x1
      obtain ⟨hp0, hpo⟩ := h
      refine hV [] 21 0 _ _ _ _ ?_
      refine ⟨(show vp_in (S 6184 4) 10 by assumption), ?_⟩
      exact z_pi hpo (rfl) (rfl) (rfl)
    · exact h.elim
def f_X5_addPart (S : z_MI) (P : z_ML) (x1 : Int32) (x2 : Int32) (x3 : Int32) : Int32 :=
  (upd (S 34897) x1.toNatClampNeg ((S 34897 x1.toNatClampNeg) + (nI 1))) x1.toNatClampNeg
def u_X5_addPart (S : z_MI) (P : z_ML) (x1 : Int32) (x2 : Int32) (x3 : Int32) : z_MI :=
  va_up (va_up (va_up S 37825 (upd (S 37825) (((x1 * (nI 12)) + (S 34897 x1.toNatClampNeg)).toNatClampNeg) x2)) 39873 (upd ((va_up S 37825 (upd (S 37825) (((x1 * (nI 12)) + (S 34897 x1.toNatClampNeg)).toNatClampNeg) x2)) 39873) (((x1 * (nI 12)) + (S 34897 x1.toNatClampNeg)).toNatClampNeg) x3)) 34897 (upd ((va_up (va_up S 37825 (upd (S 37825) (((x1 * (nI 12)) + (S 34897 x1.toNatClampNeg)).toNatClampNeg) x2)) 39873 (upd ((va_up S 37825 (upd (S 37825) (((x1 * (nI 12)) + (S 34897 x1.toNatClampNeg)).toNatClampNeg) x2)) 39873) (((x1 * (nI 12)) + (S 34897 x1.toNatClampNeg)).toNatClampNeg) x3)) 34897) x1.toNatClampNeg ((S 34897 x1.toNatClampNeg) + (nI 1)))
def sp_X5_addPart : z_SP := fun as S P k => match as with
  | [.int x1, .int x2, .int x3] => vp_in x1 10 ∧ vp_in ((x1 * (nI 12)) + (S 34897 x1.toNatClampNeg)) 120 ∧ k (some (.int (f_X5_addPart S P x1 x2 x3))) (u_X5_addPart S P x1 x2 x3) P
  | _ => False
def G_X5_addPart : z_G := ([(0, .iload_n 1, 1, 0), (1, .bipush 12, 3, 0), (3, .imul, 4, 0), (4, .aload_n 0, 5, 0), (5, .getfield 15, 8, 0), (8, .iload_n 1, 9, 0), (9, .iaload, 10, 0), (10, .iadd, 11, 0), (11, .istore 4, 13, 0), (13, .aload_n 0, 14, 0), (14, .getfield 18, 17, 0), (17, .iload 4, 19, 0), (19, .iload_n 2, 20, 0), (20, .iastore, 21, 0), (21, .aload_n 0, 22, 0), (22, .getfield 21, 25, 0), (25, .iload 4, 27, 0), (27, .iload_n 3, 28, 0), (28, .iastore, 29, 0), (29, .aload_n 0, 30, 0), (30, .getfield 15, 33, 0), (33, .iload_n 1, 34, 0), (34, .dup2, 35, 0), (35, .iaload, 36, 0), (36, .iconst 1, 37, 0), (37, .iadd, 38, 0), (38, .iastore, 39, 0), (39, .aload_n 0, 40, 0), (40, .getfield 15, 43, 0), (43, .iload_n 1, 44, 0), (44, .iaload, 45, 0), (45, .ireturn, 46, 0)], [(15, 6184, 1, some 34897), (18, 6184, 2, some 37825), (21, 6184, 3, some 39873)], [], [], [], [], [], some .int)
set_option maxRecDepth 20000 in
set_option maxHeartbeats 4000000 in
theorem ct_X5_addPart (l : Launch) : z_CT l yX5_addPart cX5_addPart 5 (some .int) (z_rc 6184 sp_X5_addPart) 0 := by
  refine z_CT_of G_X5_addPart (by decide) (by decide +kernel) (z_pok_of ft_X5 ci_X5 cL_X5_L fo_X5 co_X5 lo_X5 (by decide +kernel)) rfl rfl ?_ ?_ ?_
  · intro as S P Po h0
    obtain ⟨as, rfl, h⟩ := z_rc_of h0
    unfold sp_X5_addPart at h
    split at h
    · exact Nat.le_of_ble_eq_true rfl
    · exact h.elim
  · exact fun _ h => absurd h List.not_mem_nil
  · intro as S P Po h0 V hV hW
    obtain ⟨as, rfl, h⟩ := z_rc_of h0
    unfold sp_X5_addPart at h
    split at h
    · rename_i x1 x2 x3
      obtain ⟨hp0, hp1, hpo⟩ := h
      refine hV [] 37 0 _ _ _ _ ?_
      refine ⟨(show vp_in x1 10 by assumption), ?_⟩
      refine ⟨(show vp_in ((x1 * (nI 12)) + (S 34897 x1.toNatClampNeg)) 120 by assumption), ?_⟩
      refine ⟨(show vp_in ((x1 * (nI 12)) + (S 34897 x1.toNatClampNeg)) 120 by assumption), ?_⟩
      refine ⟨(show vp_in x1 10 by assumption), ?_⟩
      refine ⟨(show vp_in x1 10 by assumption), ?_⟩
      refine ⟨(show vp_in x1 10 by assumption), ?_⟩
      exact z_pi hpo (rfl) (rfl) (rfl)
    · exact h.elim
def f_X5_placeUpTo (S : z_MI) (P : z_ML) (x1 : Int32) (x2 : Int32) (x3 : Int32) : Int32 :=
  if x3 < (S 39873 (((x1 * (nI 12)) + x2).toNatClampNeg)) then
    (-1)
  else
    S 37825 (((x1 * (nI 12)) + x2).toNatClampNeg)
def sp_X5_placeUpTo : z_SP := fun as S P k => match as with
  | [.int x1, .int x2, .int x3] => vp_in ((x1 * (nI 12)) + x2) 120 ∧ k (some (.int (f_X5_placeUpTo S P x1 x2 x3))) S P
  | _ => False
def G_X5_placeUpTo : z_G := ([(0, .iload_n 1, 1, 0), (1, .bipush 12, 3, 0), (3, .imul, 4, 0), (4, .iload_n 2, 5, 0), (5, .iadd, 6, 0), (6, .istore 4, 8, 0), (8, .aload_n 0, 9, 0), (9, .getfield 21, 12, 0), (12, .iload 4, 14, 0), (14, .iaload, 15, 0), (15, .iload_n 3, 16, 0), (16, .if_icmp .gt 13, 19, 29), (19, .aload_n 0, 20, 0), (20, .getfield 18, 23, 0), (23, .iload 4, 25, 0), (25, .iaload, 26, 0), (26, .goto 4, 29, 30), (29, .iconst (-1), 30, 0), (30, .ireturn, 31, 0)], [(18, 6184, 2, some 37825), (21, 6184, 3, some 39873)], [], [], [], [], [], some .int)
set_option maxRecDepth 20000 in
set_option maxHeartbeats 4000000 in
theorem ct_X5_placeUpTo (l : Launch) : z_CT l yX5_placeUpTo cX5_placeUpTo 5 (some .int) (z_rc 6184 sp_X5_placeUpTo) 0 := by
  refine z_CT_of G_X5_placeUpTo (by decide) (by decide +kernel) (z_pok_of ft_X5 ci_X5 cL_X5_L fo_X5 co_X5 lo_X5 (by decide +kernel)) rfl rfl ?_ ?_ ?_
  · intro as S P Po h0
    obtain ⟨as, rfl, h⟩ := z_rc_of h0
    unfold sp_X5_placeUpTo at h
    split at h
    · exact Nat.le_of_ble_eq_true rfl
    · exact h.elim
  · exact fun _ h => absurd h List.not_mem_nil
  · intro as S P Po h0 V hV hW
    obtain ⟨as, rfl, h⟩ := z_rc_of h0
    unfold sp_X5_placeUpTo at h
    split at h
    · rename_i x1 x2 x3
      obtain ⟨hp0, hpo⟩ := h
      refine hV [] 24 0 _ _ _ _ ?_
      refine ⟨(show vp_in ((x1 * (nI 12)) + x2) 120 by assumption), ?_⟩
      refine ⟨fun (h1 : x3 < (S 39873 (((x1 * (nI 12)) + x2).toNatClampNeg))) => ?_, fun (h1 : ¬ (x3 < (S 39873 (((x1 * (nI 12)) + x2).toNatClampNeg)))) => ?_⟩
      · exact z_pi hpo ((if_pos h1).trans rfl) (rfl) (rfl)
      · refine ⟨(show vp_in ((x1 * (nI 12)) + x2) 120 by assumption), ?_⟩
        exact z_pi hpo ((if_neg h1).trans rfl) (rfl) (rfl)
    · exact h.elim
def l_X5_placesUpTo_5 (S : z_MI) (P : z_ML) (x1 : Int32) (x2 : Int32) (k5 : Nat) (a5 : Int32) : Int32 :=
  if (f_X5_placeUpTo S P x1 (nI k5) x2) = (-1) then
    a5
  else
    f_X6_with S P a5 (f_X5_placeUpTo S P x1 (nI k5) x2) (nI 1)
def f_X5_placesUpTo (S : z_MI) (P : z_ML) (x1 : Int32) (x2 : Int32) : Int32 :=
  (z_fo (fun k5 a5 => l_X5_placesUpTo_5 S P x1 x2 k5 a5) (nI 0) (S 34897 x1.toNatClampNeg).toNatClampNeg)
def sp_X5_placesUpTo : z_SP := fun as S P k => match as with
  | [.int x1, .int x2] => z_le (S 34897 x1.toNatClampNeg) 12 ∧ vp_in x1 10 ∧ k (some (.int (f_X5_placesUpTo S P x1 x2))) S P
  | _ => False
def G_X5_placesUpTo : z_G := ([(0, .iconst 0, 1, 0), (1, .istore_n 3, 2, 0), (2, .iconst 0, 3, 0), (3, .istore 4, 5, 0), (5, .iload 4, 7, 0), (7, .aload_n 0, 8, 0), (8, .getfield 15, 11, 0), (11, .iload_n 1, 12, 0), (12, .iaload, 13, 0), (13, .if_icmp .ge 33, 16, 46), (16, .aload_n 0, 17, 0), (17, .iload_n 1, 18, 0), (18, .iload 4, 20, 0), (20, .iload_n 2, 21, 0), (21, .invokevirtual 32, 24, 0), (24, .istore 5, 26, 0), (26, .iload 5, 28, 0), (28, .iconst (-1), 29, 0), (29, .if_icmp .eq 11, 32, 40), (32, .iload_n 3, 33, 0), (33, .iload 5, 35, 0), (35, .iconst 1, 36, 0), (36, .invokestatic 36, 39, 0), (39, .istore_n 3, 40, 0), (40, .iinc 4 1, 43, 0), (43, .goto (-38), 46, 5), (46, .iload_n 3, 47, 0), (47, .ireturn, 48, 0)], [(15, 6184, 1, some 34897)], [(100036, 3, sp_X6_with), (32, 4, (z_rc 6184 sp_X5_placeUpTo))], [], [], [], [], some .int)
set_option maxRecDepth 20000 in
set_option maxHeartbeats 4000000 in
theorem ct_X5_placesUpTo (l : Launch) : z_CT l yX5_placesUpTo cX5_placesUpTo 6 (some .int) (z_rc 6184 sp_X5_placesUpTo) 1 := by
  refine z_CT_of G_X5_placesUpTo (by decide) (by decide +kernel) (z_pok_of ft_X5 ci_X5 cL_X5_L fo_X5 co_X5 lo_X5 (by decide +kernel)) rfl rfl ?_ ?_ ?_
  · intro as S P Po h0
    obtain ⟨as, rfl, h⟩ := z_rc_of h0
    unfold sp_X5_placesUpTo at h
    split at h
    · exact Nat.le_of_ble_eq_true rfl
    · exact h.elim
  · exact List.forall_mem_cons.mpr ⟨z_coN (host := "Songlinebench") (ct_X6_with l) kb_X6_with kn_X5_36 (by decide) (by decide), List.forall_mem_cons.mpr ⟨z_coV (ct_X5_placeUpTo l) kb_X5_placeUpTo kv_X5_32 ko_X5 (by decide) (by decide) (by decide), fun _ h => absurd h List.not_mem_nil⟩⟩
  · intro as S P Po h0 V hV hW
    obtain ⟨as, rfl, h⟩ := z_rc_of h0
    unfold sp_X5_placesUpTo at h
    split at h
    · rename_i x1 x2
      obtain ⟨hp0, hp1, hpo⟩ := h
      refine hV [5] 33 0 _ _ _ _ ?_
      obtain ⟨hb5, hN5⟩ := z_le_cl (show z_le (S 34897 x1.toNatClampNeg) 12 by assumption) (by decide)
      have hL5 : ∀ (j k5 : Nat) (x900 : Int32) (a5 : Int32), k5 + j = (S 34897 x1.toNatClampNeg).toNatClampNeg → x900 = nI k5 → a5 = z_fo (fun k5 a5 => l_X5_placesUpTo_5 S P x1 x2 k5 a5) (nI 0) k5 → V 5 [(0, .ref 6184), (1, .int x1), (2, .int x2), (3, .int a5), (4, .int x900)] [] S P := by
        intro j
        induction j with
        | zero =>
          intro k5 x900 a5 hk5 hx5 ha5
          subst hx5
          have hk9 : k5 = (S 34897 x1.toNatClampNeg).toNatClampNeg := by omega
          subst hk9
          subst ha5
          refine hV [5] 33 5 _ _ _ _ ?_
          refine ⟨(show vp_in x1 10 by assumption), ?_⟩
          refine ⟨fun _ => ?_, fun h => absurd ((z_brge hb5 (by omega) (by omega)).mpr (Nat.le_refl _)) h⟩
          exact z_pi hpo (rfl) (rfl) (rfl)
        | succ j ih =>
          intro k5 x900 a5 hk5 hx5 ha5
          subst hx5
          have hk9 : k5 < (S 34897 x1.toNatClampNeg).toNatClampNeg := by omega
          subst ha5
          refine hV [5] 33 5 _ _ _ _ ?_
          refine ⟨(show vp_in x1 10 by assumption), ?_⟩
          refine ⟨fun h => absurd ((z_brge hb5 (by omega) (by omega)).mp h) (by omega), fun _ => ?_⟩
          refine ⟨(show vp_in ((x1 * (nI 12)) + (nI k5)) 120 by exact z_in_ma (by assumption) (by omega) (by decide)), ?_⟩
          refine ⟨fun (h2 : (f_X5_placeUpTo S P x1 (nI k5) x2) = (-1)) => ?_, fun (h2 : ¬ ((f_X5_placeUpTo S P x1 (nI k5) x2) = (-1))) => ?_⟩
          · exact hW [0, 1, 2, 3, 4] _ _ _ _ _ (ih (k5 + 1) _ (z_fo (fun k5 a5 => l_X5_placesUpTo_5 S P x1 x2 k5 a5) (nI 0) k5) (by omega) (nI_add k5 1) (((if_pos h2).trans rfl).symm))
          · exact hW [0, 1, 2, 3, 4] _ _ _ _ _ (ih (k5 + 1) _ (f_X6_with S P (z_fo (fun k5 a5 => l_X5_placesUpTo_5 S P x1 x2 k5 a5) (nI 0) k5) (f_X5_placeUpTo S P x1 (nI k5) x2) (nI 1)) (by omega) (nI_add k5 1) (((if_neg h2).trans rfl).symm))
      exact hW [0, 1, 2, 3, 4] _ _ _ _ _ (hL5 (S 34897 x1.toNatClampNeg).toNatClampNeg 0 _ (nI 0) (Nat.zero_add _) rfl rfl)
    · exact h.elim
def f_X3_addExplained (S : z_MI) (P : z_ML) (x1 : Int32) (x2 : Int32) (x3 : Int32) : Int32 :=
  (upd (S 49201) x1.toNatClampNeg ((S 49201 x1.toNatClampNeg) + (nI 1))) x1.toNatClampNeg
def u_X3_addExplained (S : z_MI) (P : z_ML) (x1 : Int32) (x2 : Int32) (x3 : Int32) : z_MI :=
  va_up (va_up (va_up S 51585 (upd (S 51585) (((x1 * (nI 8)) + (S 49201 x1.toNatClampNeg)).toNatClampNeg) x2)) 53633 (upd ((va_up S 51585 (upd (S 51585) (((x1 * (nI 8)) + (S 49201 x1.toNatClampNeg)).toNatClampNeg) x2)) 53633) (((x1 * (nI 8)) + (S 49201 x1.toNatClampNeg)).toNatClampNeg) x3)) 49201 (upd ((va_up (va_up S 51585 (upd (S 51585) (((x1 * (nI 8)) + (S 49201 x1.toNatClampNeg)).toNatClampNeg) x2)) 53633 (upd ((va_up S 51585 (upd (S 51585) (((x1 * (nI 8)) + (S 49201 x1.toNatClampNeg)).toNatClampNeg) x2)) 53633) (((x1 * (nI 8)) + (S 49201 x1.toNatClampNeg)).toNatClampNeg) x3)) 49201) x1.toNatClampNeg ((S 49201 x1.toNatClampNeg) + (nI 1)))
def sp_X3_addExplained : z_SP := fun as S P k => match as with
  | [.int x1, .int x2, .int x3] => vp_in x1 6 ∧ vp_in ((x1 * (nI 8)) + (S 49201 x1.toNatClampNeg)) 48 ∧ k (some (.int (f_X3_addExplained S P x1 x2 x3))) (u_X3_addExplained S P x1 x2 x3) P
  | _ => False
def G_X3_addExplained : z_G := ([(0, .iload_n 1, 1, 0), (1, .bipush 8, 3, 0), (3, .imul, 4, 0), (4, .aload_n 0, 5, 0), (5, .getfield 24, 8, 0), (8, .iload_n 1, 9, 0), (9, .iaload, 10, 0), (10, .iadd, 11, 0), (11, .istore 4, 13, 0), (13, .aload_n 0, 14, 0), (14, .getfield 27, 17, 0), (17, .iload 4, 19, 0), (19, .iload_n 2, 20, 0), (20, .iastore, 21, 0), (21, .aload_n 0, 22, 0), (22, .getfield 30, 25, 0), (25, .iload 4, 27, 0), (27, .iload_n 3, 28, 0), (28, .iastore, 29, 0), (29, .aload_n 0, 30, 0), (30, .getfield 24, 33, 0), (33, .iload_n 1, 34, 0), (34, .dup2, 35, 0), (35, .iaload, 36, 0), (36, .iconst 1, 37, 0), (37, .iadd, 38, 0), (38, .iastore, 39, 0), (39, .aload_n 0, 40, 0), (40, .getfield 24, 43, 0), (43, .iload_n 1, 44, 0), (44, .iaload, 45, 0), (45, .ireturn, 46, 0)], [(24, 8216, 4, some 49201), (27, 8216, 5, some 51585), (30, 8216, 6, some 53633)], [], [], [], [], [], some .int)
set_option maxRecDepth 20000 in
set_option maxHeartbeats 4000000 in
theorem ct_X3_addExplained (l : Launch) : z_CT l yX3_addExplained cX3_addExplained 5 (some .int) (z_rc 8216 sp_X3_addExplained) 0 := by
  refine z_CT_of G_X3_addExplained (by decide) (by decide +kernel) (z_pok_of ft_X3 ci_X3 cL_X3_L fo_X3 co_X3 lo_X3 (by decide +kernel)) rfl rfl ?_ ?_ ?_
  · intro as S P Po h0
    obtain ⟨as, rfl, h⟩ := z_rc_of h0
    unfold sp_X3_addExplained at h
    split at h
    · exact Nat.le_of_ble_eq_true rfl
    · exact h.elim
  · exact fun _ h => absurd h List.not_mem_nil
  · intro as S P Po h0 V hV hW
    obtain ⟨as, rfl, h⟩ := z_rc_of h0
    unfold sp_X3_addExplained at h
    split at h
    · rename_i x1 x2 x3
      obtain ⟨hp0, hp1, hpo⟩ := h
      refine hV [] 37 0 _ _ _ _ ?_
      refine ⟨(show vp_in x1 6 by assumption), ?_⟩
      refine ⟨(show vp_in ((x1 * (nI 8)) + (S 49201 x1.toNatClampNeg)) 48 by assumption), ?_⟩
      refine ⟨(show vp_in ((x1 * (nI 8)) + (S 49201 x1.toNatClampNeg)) 48 by assumption), ?_⟩
      refine ⟨(show vp_in x1 6 by assumption), ?_⟩
      refine ⟨(show vp_in x1 6 by assumption), ?_⟩
      refine ⟨(show vp_in x1 6 by assumption), ?_⟩
      exact z_pi hpo (rfl) (rfl) (rfl)
    · exact h.elim
def l_X3_isExplained_18 (S : z_MI) (P : z_ML) (x1 : Int32) (x2 : Int32) (x3 : Int32) (k18 : Nat) (a18 : Unit) : (Unit) ⊕ (Bool) :=
  if x2 < (S 51585 (((x1 * (nI 8)) + (nI k18)).toNatClampNeg)) then
    .inl ()
  else
    if (S 53633 (((x1 * (nI 8)) + (nI k18)).toNatClampNeg)) < x3 then
      .inl ()
    else
      .inr true
def f_X3_isExplained (S : z_MI) (P : z_ML) (x1 : Int32) (x2 : Int32) (x3 : Int32) : Bool :=
  if x1 < 0 then
    false
  else
    if x1 < (nI 6) then
      Sum.elim (fun a18 =>
        false) (fun r => r) (z_fx (fun k18 a18 => l_X3_isExplained_18 S P x1 x2 x3 k18 a18) () (S 49201 x1.toNatClampNeg).toNatClampNeg)
    else
      false
def sp_X3_isExplained : z_SP := fun as S P k => match as with
  | [.int x1, .int x2, .int x3] => z_le (S 49201 x1.toNatClampNeg) 8 ∧ vp_in x1 6 ∧ k (some (.int (z_b (f_X3_isExplained S P x1 x2 x3)))) S P
  | _ => False
def G_X3_isExplained : z_G := ([(0, .iload_n 1, 1, 0), (1, .ifCond .lt 12, 4, 13), (4, .iload_n 1, 5, 0), (5, .aload_n 0, 6, 0), (6, .getfield 24, 9, 0), (9, .arraylength, 10, 0), (10, .if_icmp .lt 5, 13, 15), (13, .iconst 0, 14, 0), (14, .ireturn, 15, 0), (15, .iconst 0, 16, 0), (16, .istore 4, 18, 0), (18, .iload 4, 20, 0), (20, .aload_n 0, 21, 0), (21, .getfield 24, 24, 0), (24, .iload_n 1, 25, 0), (25, .iaload, 26, 0), (26, .if_icmp .ge 42, 29, 68), (29, .iload_n 1, 30, 0), (30, .bipush 8, 32, 0), (32, .imul, 33, 0), (33, .iload 4, 35, 0), (35, .iadd, 36, 0), (36, .istore 5, 38, 0), (38, .aload_n 0, 39, 0), (39, .getfield 27, 42, 0), (42, .iload 5, 44, 0), (44, .iaload, 45, 0), (45, .iload_n 2, 46, 0), (46, .if_icmp .gt 16, 49, 62), (49, .aload_n 0, 50, 0), (50, .getfield 30, 53, 0), (53, .iload 5, 55, 0), (55, .iaload, 56, 0), (56, .iload_n 3, 57, 0), (57, .if_icmp .lt 5, 60, 62), (60, .iconst 1, 61, 0), (61, .ireturn, 62, 0), (62, .iinc 4 1, 65, 0), (65, .goto (-47), 68, 18), (68, .iconst 0, 69, 0), (69, .ireturn, 70, 0)], [(24, 8216, 4, some 49201), (27, 8216, 5, some 51585), (30, 8216, 6, some 53633)], [], [], [], [], [], some .boolean)
set_option maxRecDepth 20000 in
set_option maxHeartbeats 4000000 in
theorem ct_X3_isExplained (l : Launch) : z_CT l yX3_isExplained cX3_isExplained 6 (some .boolean) (z_rc 8216 sp_X3_isExplained) 0 := by
  refine z_CT_of G_X3_isExplained (by decide) (by decide +kernel) (z_pok_of ft_X3 ci_X3 cL_X3_L fo_X3 co_X3 lo_X3 (by decide +kernel)) rfl rfl ?_ ?_ ?_
  · intro as S P Po h0
    obtain ⟨as, rfl, h⟩ := z_rc_of h0
    unfold sp_X3_isExplained at h
    split at h
    · exact Nat.le_of_ble_eq_true rfl
    · exact h.elim
  · exact fun _ h => absurd h List.not_mem_nil
  · intro as S P Po h0 V hV hW
    obtain ⟨as, rfl, h⟩ := z_rc_of h0
    unfold sp_X3_isExplained at h
    split at h
    · rename_i x1 x2 x3
      obtain ⟨hp0, hp1, hpo⟩ := h
      refine hV [18] 46 0 _ _ _ _ ?_
      refine ⟨fun (h1 : x1 < 0) => ?_, fun (h1 : ¬ (x1 < 0)) => ?_⟩
      · exact ⟨(by first | rfl | exact z_nb _), z_pb hpo ((if_pos h1).trans rfl) (rfl) (rfl)⟩
      · refine ⟨fun (h2 : x1 < (nI 6)) => ?_, fun (h2 : ¬ (x1 < (nI 6))) => ?_⟩
        · obtain ⟨hb18, hN18⟩ := z_le_cl (show z_le (S 49201 x1.toNatClampNeg) 8 by assumption) (by decide)
          have hL18 : ∀ (j k18 : Nat) (x900 : Int32) (a18 : Unit), k18 + j = (S 49201 x1.toNatClampNeg).toNatClampNeg → x900 = nI k18 → z_fx (fun k18 a18 => l_X3_isExplained_18 S P x1 x2 x3 k18 a18) () k18 = .inl a18 → V 18 [(0, .ref 8216), (1, .int x1), (2, .int x2), (3, .int x3), (4, .int x900)] [] S P := by
            intro j
            induction j with
            | zero =>
              intro k18 x900 a18 hk18 hx18 ha18
              subst hx18
              have hk9 : k18 = (S 49201 x1.toNatClampNeg).toNatClampNeg := by omega
              subst hk9
              refine hV [18] 46 18 _ _ _ _ ?_
              refine ⟨(show vp_in x1 6 by assumption), ?_⟩
              refine ⟨fun _ => ?_, fun h => absurd ((z_brge hb18 (by omega) (by omega)).mpr (Nat.le_refl _)) h⟩
              exact ⟨(by first | rfl | exact z_nb _), z_pb hpo ((if_neg h1).trans ((if_pos h2).trans ((congrArg (Sum.elim _ _) ha18).trans rfl))) (rfl) (rfl)⟩
            | succ j ih =>
              intro k18 x900 a18 hk18 hx18 ha18
              subst hx18
              have hk9 : k18 < (S 49201 x1.toNatClampNeg).toNatClampNeg := by omega
              refine hV [18] 46 18 _ _ _ _ ?_
              refine ⟨(show vp_in x1 6 by assumption), ?_⟩
              refine ⟨fun h => absurd ((z_brge hb18 (by omega) (by omega)).mp h) (by omega), fun _ => ?_⟩
              refine ⟨(show vp_in ((x1 * (nI 8)) + (nI k18)) 48 by exact z_in_ma (by assumption) (by omega) (by decide)), ?_⟩
              refine ⟨fun (h4 : x2 < (S 51585 (((x1 * (nI 8)) + (nI k18)).toNatClampNeg))) => ?_, fun (h4 : ¬ (x2 < (S 51585 (((x1 * (nI 8)) + (nI k18)).toNatClampNeg)))) => ?_⟩
              · exact hW [0, 1, 2, 3, 4] _ _ _ _ _ (ih (k18 + 1) _ () (by omega) (nI_add k18 1) ((z_fx_s ha18).trans ((if_pos h4).trans rfl)))
              · refine ⟨(show vp_in ((x1 * (nI 8)) + (nI k18)) 48 by exact z_in_ma (by assumption) (by omega) (by decide)), ?_⟩
                refine ⟨fun (h5 : (S 53633 (((x1 * (nI 8)) + (nI k18)).toNatClampNeg)) < x3) => ?_, fun (h5 : ¬ ((S 53633 (((x1 * (nI 8)) + (nI k18)).toNatClampNeg)) < x3)) => ?_⟩
                · exact hW [0, 1, 2, 3, 4] _ _ _ _ _ (ih (k18 + 1) _ () (by omega) (nI_add k18 1) ((z_fx_s ha18).trans ((if_neg h4).trans ((if_pos h5).trans rfl))))
                · have hM := (z_fx_s ha18).trans ((if_neg h4).trans ((if_neg h5).trans rfl))
                  have hM := z_fx_r hM (show _ ≤ (S 49201 x1.toNatClampNeg).toNatClampNeg by omega)
                  exact ⟨(by first | rfl | exact z_nb _), z_pb hpo ((if_neg h1).trans ((if_pos h2).trans ((congrArg (Sum.elim _ _) hM).trans rfl))) (rfl) (rfl)⟩
          exact hW [0, 1, 2, 3, 4] _ _ _ _ _ (hL18 (S 49201 x1.toNatClampNeg).toNatClampNeg 0 _ () (Nat.zero_add _) rfl rfl)
        · exact ⟨(by first | rfl | exact z_nb _), z_pb hpo ((if_neg h1).trans ((if_neg h2).trans rfl)) (rfl) (rfl)⟩
    · exact h.elim
def f_X3_isGap (S : z_MI) (P : z_ML) (x1 : Int32) (x2 : Int32) (x3 : Int32) : Bool :=
  if (x3 - x2) ≤ (nI 480) then
    false
  else
    if (f_X3_isExplained S P x1 x2 x3) = true then
      false
    else
      true
def sp_X3_isGap : z_SP := fun as S P k => match as with
  | [.int x1, .int x2, .int x3] => z_le (S 49201 x1.toNatClampNeg) 8 ∧ vp_in x1 6 ∧ k (some (.int (z_b (f_X3_isGap S P x1 x2 x3)))) S P
  | _ => False
def G_X3_isGap : z_G := ([(0, .iload_n 3, 1, 0), (1, .iload_n 2, 2, 0), (2, .isub, 3, 0), (3, .sipush 480, 6, 0), (6, .if_icmp .le 17, 9, 23), (9, .aload_n 0, 10, 0), (10, .iload_n 1, 11, 0), (11, .iload_n 2, 12, 0), (12, .iload_n 3, 13, 0), (13, .invokevirtual 41, 16, 0), (16, .ifCond .ne 7, 19, 23), (19, .iconst 1, 20, 0), (20, .goto 4, 23, 24), (23, .iconst 0, 24, 0), (24, .ireturn, 25, 0)], [], [(41, 4, (z_rc 8216 sp_X3_isExplained))], [], [], [], [], some .boolean)
set_option maxRecDepth 20000 in
set_option maxHeartbeats 4000000 in
theorem ct_X3_isGap (l : Launch) : z_CT l yX3_isGap cX3_isGap 4 (some .boolean) (z_rc 8216 sp_X3_isGap) 1 := by
  refine z_CT_of G_X3_isGap (by decide) (by decide +kernel) (z_pok_of ft_X3 ci_X3 cL_X3_L fo_X3 co_X3 lo_X3 (by decide +kernel)) rfl rfl ?_ ?_ ?_
  · intro as S P Po h0
    obtain ⟨as, rfl, h⟩ := z_rc_of h0
    unfold sp_X3_isGap at h
    split at h
    · exact Nat.le_of_ble_eq_true rfl
    · exact h.elim
  · exact List.forall_mem_cons.mpr ⟨z_coV (ct_X3_isExplained l) kb_X3_isExplained kv_X3_41 ko_X3 (by decide) (by decide) (by decide), fun _ h => absurd h List.not_mem_nil⟩
  · intro as S P Po h0 V hV hW
    obtain ⟨as, rfl, h⟩ := z_rc_of h0
    unfold sp_X3_isGap at h
    split at h
    · rename_i x1 x2 x3
      obtain ⟨hp0, hp1, hpo⟩ := h
      refine hV [] 20 0 _ _ _ _ ?_
      refine ⟨fun (h1 : (x3 - x2) ≤ (nI 480)) => ?_, fun (h1 : ¬ ((x3 - x2) ≤ (nI 480))) => ?_⟩
      · exact ⟨(by first | rfl | exact z_nb _), z_pb hpo ((if_pos h1).trans rfl) (rfl) (rfl)⟩
      · refine ⟨(show z_le (S 49201 x1.toNatClampNeg) 8 by assumption), (show vp_in x1 6 by assumption), ?_⟩
        refine z_brn (fun (h2 : (f_X3_isExplained S P x1 x2 x3) = true) => ?_) (fun (h2 : (f_X3_isExplained S P x1 x2 x3) = false) => ?_)
        · exact ⟨(by first | rfl | exact z_nb _), z_pb hpo ((if_neg h1).trans ((if_pos h2).trans rfl)) (rfl) (rfl)⟩
        · exact ⟨(by first | rfl | exact z_nb _), z_pb hpo ((if_neg h1).trans ((if_neg (z_nt h2)).trans rfl)) (rfl) (rfl)⟩
    · exact h.elim
def l_X3_prove_9 (S : z_MI) (P : z_ML) (x1 : Int32) (x2 : Int32) (x3 : Int32) (k9 : Nat) (a9 : Int32 × Int32) : (Int32 × Int32) ⊕ (Bool) :=
  if (S 41441 ((nI k9).toNatClampNeg)) = x1 then
    if (S 43489 ((nI k9).toNatClampNeg)) = x2 then
      if (f_X3_isGap S P x1 a9.1 (S 45537 ((nI k9).toNatClampNeg))) = true then
        .inr false
      else
        .inl (S 45537 ((nI k9).toNatClampNeg), a9.2 + (S 47585 ((nI k9).toNatClampNeg)))
    else
      .inl (a9.1, a9.2)
  else
    .inl (a9.1, a9.2)
def f_X3_prove (S : z_MI) (P : z_ML) (x1 : Int32) (x2 : Int32) (x3 : Int32) : Bool :=
  Sum.elim (fun a9 =>
    if a9.2 < (nI 10) then
      false
    else
      if (f_X3_isGap S P x1 a9.1 x3) = true then
        false
      else
        true) (fun r => r) (z_fx (fun k9 a9 => l_X3_prove_9 S P x1 x2 x3 k9 a9) (nI 0, nI 0) (S 8216 7).toNatClampNeg)
def sp_X3_prove : z_SP := fun as S P k => match as with
  | [.int x1, .int x2, .int x3] => z_le (S 8216 7) 60 ∧ z_le (S 49201 x1.toNatClampNeg) 8 ∧ vp_in x1 6 ∧ k (some (.int (z_b (f_X3_prove S P x1 x2 x3)))) S P
  | _ => False
def G_X3_prove : z_G := ([(0, .iconst 0, 1, 0), (1, .istore 4, 3, 0), (3, .iconst 0, 4, 0), (4, .istore 5, 6, 0), (6, .iconst 0, 7, 0), (7, .istore 6, 9, 0), (9, .iload 6, 11, 0), (11, .aload_n 0, 12, 0), (12, .getfield 33, 15, 0), (15, .if_icmp .ge 71, 18, 86), (18, .aload_n 0, 19, 0), (19, .getfield 9, 22, 0), (22, .iload 6, 24, 0), (24, .iaload, 25, 0), (25, .iload_n 1, 26, 0), (26, .if_icmp .ne 54, 29, 80), (29, .aload_n 0, 30, 0), (30, .getfield 15, 33, 0), (33, .iload 6, 35, 0), (35, .iaload, 36, 0), (36, .iload_n 2, 37, 0), (37, .if_icmp .ne 43, 40, 80), (40, .aload_n 0, 41, 0), (41, .iload_n 1, 42, 0), (42, .iload 4, 44, 0), (44, .aload_n 0, 45, 0), (45, .getfield 18, 48, 0), (48, .iload 6, 50, 0), (50, .iaload, 51, 0), (51, .invokevirtual 37, 54, 0), (54, .ifCond .eq 5, 57, 59), (57, .iconst 0, 58, 0), (58, .ireturn, 59, 0), (59, .aload_n 0, 60, 0), (60, .getfield 18, 63, 0), (63, .iload 6, 65, 0), (65, .iaload, 66, 0), (66, .istore 4, 68, 0), (68, .iload 5, 70, 0), (70, .aload_n 0, 71, 0), (71, .getfield 21, 74, 0), (74, .iload 6, 76, 0), (76, .iaload, 77, 0), (77, .iadd, 78, 0), (78, .istore 5, 80, 0), (80, .iinc 6 1, 83, 0), (83, .goto (-74), 86, 9), (86, .iload 5, 88, 0), (88, .bipush 10, 90, 0), (90, .if_icmp .lt 18, 93, 108), (93, .aload_n 0, 94, 0), (94, .iload_n 1, 95, 0), (95, .iload 4, 97, 0), (97, .iload_n 3, 98, 0), (98, .invokevirtual 37, 101, 0), (101, .ifCond .ne 7, 104, 108), (104, .iconst 1, 105, 0), (105, .goto 4, 108, 109), (108, .iconst 0, 109, 0), (109, .ireturn, 110, 0)], [(9, 8216, 0, some 41441), (15, 8216, 1, some 43489), (18, 8216, 2, some 45537), (21, 8216, 3, some 47585), (33, 8216, 7, none)], [(37, 4, (z_rc 8216 sp_X3_isGap))], [], [], [], [], some .boolean)
set_option maxRecDepth 20000 in
set_option maxHeartbeats 4000000 in
theorem ct_X3_prove (l : Launch) : z_CT l yX3_prove cX3_prove 7 (some .boolean) (z_rc 8216 sp_X3_prove) 2 := by
  refine z_CT_of G_X3_prove (by decide) (by decide +kernel) (z_pok_of ft_X3 ci_X3 cL_X3_L fo_X3 co_X3 lo_X3 (by decide +kernel)) rfl rfl ?_ ?_ ?_
  · intro as S P Po h0
    obtain ⟨as, rfl, h⟩ := z_rc_of h0
    unfold sp_X3_prove at h
    split at h
    · exact Nat.le_of_ble_eq_true rfl
    · exact h.elim
  · exact List.forall_mem_cons.mpr ⟨z_coV (ct_X3_isGap l) kb_X3_isGap kv_X3_37 ko_X3 (by decide) (by decide) (by decide), fun _ h => absurd h List.not_mem_nil⟩
  · intro as S P Po h0 V hV hW
    obtain ⟨as, rfl, h⟩ := z_rc_of h0
    unfold sp_X3_prove at h
    split at h
    · rename_i x1 x2 x3
      obtain ⟨hp0, hp1, hp2, hpo⟩ := h
      refine hV [9] 65 0 _ _ _ _ ?_
      obtain ⟨hb9, hN9⟩ := z_le_cl (show z_le (S 8216 7) 60 by assumption) (by decide)
      have hL9 : ∀ (j k9 : Nat) (x900 : Int32) (a9 : Int32 × Int32), k9 + j = (S 8216 7).toNatClampNeg → x900 = nI k9 → z_fx (fun k9 a9 => l_X3_prove_9 S P x1 x2 x3 k9 a9) (nI 0, nI 0) k9 = .inl a9 → V 9 [(0, .ref 8216), (1, .int x1), (2, .int x2), (3, .int x3), (4, .int a9.1), (5, .int a9.2), (6, .int x900)] [] S P := by
        intro j
        induction j with
        | zero =>
          intro k9 x900 a9 hk9 hx9 ha9
          subst hx9
          have hk9 : k9 = (S 8216 7).toNatClampNeg := by omega
          subst hk9
          refine hV [9] 65 9 _ _ _ _ ?_
          refine ⟨fun _ => ?_, fun h => absurd ((z_brge hb9 (by omega) (by omega)).mpr (Nat.le_refl _)) h⟩
          refine ⟨fun (h2 : a9.2 < (nI 10)) => ?_, fun (h2 : ¬ (a9.2 < (nI 10))) => ?_⟩
          · exact ⟨(by first | rfl | exact z_nb _), z_pb hpo ((congrArg (Sum.elim _ _) ha9).trans ((if_pos h2).trans rfl)) (rfl) (rfl)⟩
          · refine ⟨(show z_le (S 49201 x1.toNatClampNeg) 8 by assumption), (show vp_in x1 6 by assumption), ?_⟩
            refine z_brn (fun (h3 : (f_X3_isGap S P x1 a9.1 x3) = true) => ?_) (fun (h3 : (f_X3_isGap S P x1 a9.1 x3) = false) => ?_)
            · exact ⟨(by first | rfl | exact z_nb _), z_pb hpo ((congrArg (Sum.elim _ _) ha9).trans ((if_neg h2).trans ((if_pos h3).trans rfl))) (rfl) (rfl)⟩
            · exact ⟨(by first | rfl | exact z_nb _), z_pb hpo ((congrArg (Sum.elim _ _) ha9).trans ((if_neg h2).trans ((if_neg (z_nt h3)).trans rfl))) (rfl) (rfl)⟩
        | succ j ih =>
          intro k9 x900 a9 hk9 hx9 ha9
          subst hx9
          have hk9 : k9 < (S 8216 7).toNatClampNeg := by omega
          refine hV [9] 65 9 _ _ _ _ ?_
          refine ⟨fun h => absurd ((z_brge hb9 (by omega) (by omega)).mp h) (by omega), fun _ => ?_⟩
          refine ⟨(show vp_in (nI k9) 60 by exact vp_in_nI (by omega) (by omega)), ?_⟩
          refine ⟨fun (h4 : ¬ ((S 41441 ((nI k9).toNatClampNeg)) = x1)) => ?_, fun (h4 : (S 41441 ((nI k9).toNatClampNeg)) = x1) => ?_⟩
          · exact hW [0, 1, 2, 3, 4, 5, 6] _ _ _ _ _ (ih (k9 + 1) _ (a9.1, a9.2) (by omega) (nI_add k9 1) ((z_fx_s ha9).trans ((if_neg h4).trans rfl)))
          · refine ⟨(show vp_in (nI k9) 60 by exact vp_in_nI (by omega) (by omega)), ?_⟩
            refine ⟨fun (h5 : ¬ ((S 43489 ((nI k9).toNatClampNeg)) = x2)) => ?_, fun (h5 : (S 43489 ((nI k9).toNatClampNeg)) = x2) => ?_⟩
            · exact hW [0, 1, 2, 3, 4, 5, 6] _ _ _ _ _ (ih (k9 + 1) _ (a9.1, a9.2) (by omega) (nI_add k9 1) ((z_fx_s ha9).trans ((if_pos h4).trans ((if_neg h5).trans rfl))))
            · refine ⟨(show vp_in (nI k9) 60 by exact vp_in_nI (by omega) (by omega)), ?_⟩
              refine ⟨(show z_le (S 49201 x1.toNatClampNeg) 8 by assumption), (show vp_in x1 6 by assumption), ?_⟩
              refine z_br (fun (h6 : (f_X3_isGap S P x1 a9.1 (S 45537 ((nI k9).toNatClampNeg))) = false) => ?_) (fun (h6 : (f_X3_isGap S P x1 a9.1 (S 45537 ((nI k9).toNatClampNeg))) = true) => ?_)
              · refine ⟨(show vp_in (nI k9) 60 by exact vp_in_nI (by omega) (by omega)), ?_⟩
                refine ⟨(show vp_in (nI k9) 60 by exact vp_in_nI (by omega) (by omega)), ?_⟩
                exact hW [0, 1, 2, 3, 4, 5, 6] _ _ _ _ _ (ih (k9 + 1) _ (S 45537 ((nI k9).toNatClampNeg), a9.2 + (S 47585 ((nI k9).toNatClampNeg))) (by omega) (nI_add k9 1) ((z_fx_s ha9).trans ((if_pos h4).trans ((if_pos h5).trans ((if_neg (z_nt h6)).trans rfl)))))
              · have hM := (z_fx_s ha9).trans ((if_pos h4).trans ((if_pos h5).trans ((if_pos h6).trans rfl)))
                have hM := z_fx_r hM (show _ ≤ (S 8216 7).toNatClampNeg by omega)
                exact ⟨(by first | rfl | exact z_nb _), z_pb hpo ((congrArg (Sum.elim _ _) hM).trans rfl) (rfl) (rfl)⟩
      exact hW [0, 1, 2, 3, 4, 5, 6] _ _ _ _ _ (hL9 (S 8216 7).toNatClampNeg 0 _ (nI 0, nI 0) (Nat.zero_add _) rfl rfl)
    · exact h.elim
def f_X0_isAct (S : z_MI) (P : z_ML) (x1 : Int32) : Bool :=
  if x1 < 0 then
    false
  else
    if (S 10240 8) ≤ x1 then
      false
    else
      true
def sp_X0_isAct : z_SP := fun as S P k => match as with
  | [.int x1] => k (some (.int (z_b (f_X0_isAct S P x1)))) S P
  | _ => False
def G_X0_isAct : z_G := ([(0, .iload_n 1, 1, 0), (1, .ifCond .lt 15, 4, 16), (4, .iload_n 1, 5, 0), (5, .aload_n 0, 6, 0), (6, .getfield 37, 9, 0), (9, .if_icmp .ge 7, 12, 16), (12, .iconst 1, 13, 0), (13, .goto 4, 16, 17), (16, .iconst 0, 17, 0), (17, .ireturn, 18, 0)], [(37, 10240, 8, none)], [], [], [], [], [], some .boolean)
set_option maxRecDepth 20000 in
set_option maxHeartbeats 4000000 in
theorem ct_X0_isAct (l : Launch) : z_CT l yX0_isAct cX0_isAct 2 (some .boolean) (z_rc 10240 sp_X0_isAct) 0 := by
  refine z_CT_of G_X0_isAct (by decide) (by decide +kernel) (z_pok_of ft_X0 ci_X0 cL_X0_L fo_X0 co_X0 lo_X0 (by decide +kernel)) rfl rfl ?_ ?_ ?_
  · intro as S P Po h0
    obtain ⟨as, rfl, h⟩ := z_rc_of h0
    unfold sp_X0_isAct at h
    split at h
    · exact Nat.le_of_ble_eq_true rfl
    · exact h.elim
  · exact fun _ h => absurd h List.not_mem_nil
  · intro as S P Po h0 V hV hW
    obtain ⟨as, rfl, h⟩ := z_rc_of h0
    unfold sp_X0_isAct at h
    split at h
    · rename_i x1
      have hpo := h
      refine hV [] 15 0 _ _ _ _ ?_
      refine ⟨fun (h1 : x1 < 0) => ?_, fun (h1 : ¬ (x1 < 0)) => ?_⟩
      · exact ⟨(by first | rfl | exact z_nb _), z_pb hpo ((if_pos h1).trans rfl) (rfl) (rfl)⟩
      · refine ⟨fun (h2 : (S 10240 8) ≤ x1) => ?_, fun (h2 : ¬ ((S 10240 8) ≤ x1)) => ?_⟩
        · exact ⟨(by first | rfl | exact z_nb _), z_pb hpo ((if_neg h1).trans ((if_pos h2).trans rfl)) (rfl) (rfl)⟩
        · exact ⟨(by first | rfl | exact z_nb _), z_pb hpo ((if_neg h1).trans ((if_neg h2).trans rfl)) (rfl) (rfl)⟩
    · exact h.elim
def f_X0_add (S : z_MI) (P : z_ML) (x1 : Int32) (x2 : Int32) (x3 : Int32) (x4 : Int32) (x5 : Int32) : Int32 :=
  S 10240 8
def u_X0_add (S : z_MI) (P : z_ML) (x1 : Int32) (x2 : Int32) (x3 : Int32) (x4 : Int32) (x5 : Int32) : z_MI :=
  va_up (va_up (va_up (va_up (va_up (va_up (va_up S 55617 (upd (S 55617) ((S 10240 8).toNatClampNeg) x1)) 57665 (upd ((va_up S 55617 (upd (S 55617) ((S 10240 8).toNatClampNeg) x1)) 57665) ((S 10240 8).toNatClampNeg) x2)) 59713 (upd ((va_up (va_up S 55617 (upd (S 55617) ((S 10240 8).toNatClampNeg) x1)) 57665 (upd ((va_up S 55617 (upd (S 55617) ((S 10240 8).toNatClampNeg) x1)) 57665) ((S 10240 8).toNatClampNeg) x2)) 59713) ((S 10240 8).toNatClampNeg) x3)) 61761 (upd ((va_up (va_up (va_up S 55617 (upd (S 55617) ((S 10240 8).toNatClampNeg) x1)) 57665 (upd ((va_up S 55617 (upd (S 55617) ((S 10240 8).toNatClampNeg) x1)) 57665) ((S 10240 8).toNatClampNeg) x2)) 59713 (upd ((va_up (va_up S 55617 (upd (S 55617) ((S 10240 8).toNatClampNeg) x1)) 57665 (upd ((va_up S 55617 (upd (S 55617) ((S 10240 8).toNatClampNeg) x1)) 57665) ((S 10240 8).toNatClampNeg) x2)) 59713) ((S 10240 8).toNatClampNeg) x3)) 61761) ((S 10240 8).toNatClampNeg) x4)) 63809 (upd ((va_up (va_up (va_up (va_up S 55617 (upd (S 55617) ((S 10240 8).toNatClampNeg) x1)) 57665 (upd ((va_up S 55617 (upd (S 55617) ((S 10240 8).toNatClampNeg) x1)) 57665) ((S 10240 8).toNatClampNeg) x2)) 59713 (upd ((va_up (va_up S 55617 (upd (S 55617) ((S 10240 8).toNatClampNeg) x1)) 57665 (upd ((va_up S 55617 (upd (S 55617) ((S 10240 8).toNatClampNeg) x1)) 57665) ((S 10240 8).toNatClampNeg) x2)) 59713) ((S 10240 8).toNatClampNeg) x3)) 61761 (upd ((va_up (va_up (va_up S 55617 (upd (S 55617) ((S 10240 8).toNatClampNeg) x1)) 57665 (upd ((va_up S 55617 (upd (S 55617) ((S 10240 8).toNatClampNeg) x1)) 57665) ((S 10240 8).toNatClampNeg) x2)) 59713 (upd ((va_up (va_up S 55617 (upd (S 55617) ((S 10240 8).toNatClampNeg) x1)) 57665 (upd ((va_up S 55617 (upd (S 55617) ((S 10240 8).toNatClampNeg) x1)) 57665) ((S 10240 8).toNatClampNeg) x2)) 59713) ((S 10240 8).toNatClampNeg) x3)) 61761) ((S 10240 8).toNatClampNeg) x4)) 63809) ((S 10240 8).toNatClampNeg) x5)) 65857 (upd ((va_up (va_up (va_up (va_up (va_up S 55617 (upd (S 55617) ((S 10240 8).toNatClampNeg) x1)) 57665 (upd ((va_up S 55617 (upd (S 55617) ((S 10240 8).toNatClampNeg) x1)) 57665) ((S 10240 8).toNatClampNeg) x2)) 59713 (upd ((va_up (va_up S 55617 (upd (S 55617) ((S 10240 8).toNatClampNeg) x1)) 57665 (upd ((va_up S 55617 (upd (S 55617) ((S 10240 8).toNatClampNeg) x1)) 57665) ((S 10240 8).toNatClampNeg) x2)) 59713) ((S 10240 8).toNatClampNeg) x3)) 61761 (upd ((va_up (va_up (va_up S 55617 (upd (S 55617) ((S 10240 8).toNatClampNeg) x1)) 57665 (upd ((va_up S 55617 (upd (S 55617) ((S 10240 8).toNatClampNeg) x1)) 57665) ((S 10240 8).toNatClampNeg) x2)) 59713 (upd ((va_up (va_up S 55617 (upd (S 55617) ((S 10240 8).toNatClampNeg) x1)) 57665 (upd ((va_up S 55617 (upd (S 55617) ((S 10240 8).toNatClampNeg) x1)) 57665) ((S 10240 8).toNatClampNeg) x2)) 59713) ((S 10240 8).toNatClampNeg) x3)) 61761) ((S 10240 8).toNatClampNeg) x4)) 63809 (upd ((va_up (va_up (va_up (va_up S 55617 (upd (S 55617) ((S 10240 8).toNatClampNeg) x1)) 57665 (upd ((va_up S 55617 (upd (S 55617) ((S 10240 8).toNatClampNeg) x1)) 57665) ((S 10240 8).toNatClampNeg) x2)) 59713 (upd ((va_up (va_up S 55617 (upd (S 55617) ((S 10240 8).toNatClampNeg) x1)) 57665 (upd ((va_up S 55617 (upd (S 55617) ((S 10240 8).toNatClampNeg) x1)) 57665) ((S 10240 8).toNatClampNeg) x2)) 59713) ((S 10240 8).toNatClampNeg) x3)) 61761 (upd ((va_up (va_up (va_up S 55617 (upd (S 55617) ((S 10240 8).toNatClampNeg) x1)) 57665 (upd ((va_up S 55617 (upd (S 55617) ((S 10240 8).toNatClampNeg) x1)) 57665) ((S 10240 8).toNatClampNeg) x2)) 59713 (upd ((va_up (va_up S 55617 (upd (S 55617) ((S 10240 8).toNatClampNeg) x1)) 57665 (upd ((va_up S 55617 (upd (S 55617) ((S 10240 8).toNatClampNeg) x1)) 57665) ((S 10240 8).toNatClampNeg) x2)) 59713) ((S 10240 8).toNatClampNeg) x3)) 61761) ((S 10240 8).toNatClampNeg) x4)) 63809) ((S 10240 8).toNatClampNeg) x5)) 65857) ((S 10240 8).toNatClampNeg) (-1))) 10240 (upd ((va_up (va_up (va_up (va_up (va_up (va_up S 55617 (upd (S 55617) ((S 10240 8).toNatClampNeg) x1)) 57665 (upd ((va_up S 55617 (upd (S 55617) ((S 10240 8).toNatClampNeg) x1)) 57665) ((S 10240 8).toNatClampNeg) x2)) 59713 (upd ((va_up (va_up S 55617 (upd (S 55617) ((S 10240 8).toNatClampNeg) x1)) 57665 (upd ((va_up S 55617 (upd (S 55617) ((S 10240 8).toNatClampNeg) x1)) 57665) ((S 10240 8).toNatClampNeg) x2)) 59713) ((S 10240 8).toNatClampNeg) x3)) 61761 (upd ((va_up (va_up (va_up S 55617 (upd (S 55617) ((S 10240 8).toNatClampNeg) x1)) 57665 (upd ((va_up S 55617 (upd (S 55617) ((S 10240 8).toNatClampNeg) x1)) 57665) ((S 10240 8).toNatClampNeg) x2)) 59713 (upd ((va_up (va_up S 55617 (upd (S 55617) ((S 10240 8).toNatClampNeg) x1)) 57665 (upd ((va_up S 55617 (upd (S 55617) ((S 10240 8).toNatClampNeg) x1)) 57665) ((S 10240 8).toNatClampNeg) x2)) 59713) ((S 10240 8).toNatClampNeg) x3)) 61761) ((S 10240 8).toNatClampNeg) x4)) 63809 (upd ((va_up (va_up (va_up (va_up S 55617 (upd (S 55617) ((S 10240 8).toNatClampNeg) x1)) 57665 (upd ((va_up S 55617 (upd (S 55617) ((S 10240 8).toNatClampNeg) x1)) 57665) ((S 10240 8).toNatClampNeg) x2)) 59713 (upd ((va_up (va_up S 55617 (upd (S 55617) ((S 10240 8).toNatClampNeg) x1)) 57665 (upd ((va_up S 55617 (upd (S 55617) ((S 10240 8).toNatClampNeg) x1)) 57665) ((S 10240 8).toNatClampNeg) x2)) 59713) ((S 10240 8).toNatClampNeg) x3)) 61761 (upd ((va_up (va_up (va_up S 55617 (upd (S 55617) ((S 10240 8).toNatClampNeg) x1)) 57665 (upd ((va_up S 55617 (upd (S 55617) ((S 10240 8).toNatClampNeg) x1)) 57665) ((S 10240 8).toNatClampNeg) x2)) 59713 (upd ((va_up (va_up S 55617 (upd (S 55617) ((S 10240 8).toNatClampNeg) x1)) 57665 (upd ((va_up S 55617 (upd (S 55617) ((S 10240 8).toNatClampNeg) x1)) 57665) ((S 10240 8).toNatClampNeg) x2)) 59713) ((S 10240 8).toNatClampNeg) x3)) 61761) ((S 10240 8).toNatClampNeg) x4)) 63809) ((S 10240 8).toNatClampNeg) x5)) 65857 (upd ((va_up (va_up (va_up (va_up (va_up S 55617 (upd (S 55617) ((S 10240 8).toNatClampNeg) x1)) 57665 (upd ((va_up S 55617 (upd (S 55617) ((S 10240 8).toNatClampNeg) x1)) 57665) ((S 10240 8).toNatClampNeg) x2)) 59713 (upd ((va_up (va_up S 55617 (upd (S 55617) ((S 10240 8).toNatClampNeg) x1)) 57665 (upd ((va_up S 55617 (upd (S 55617) ((S 10240 8).toNatClampNeg) x1)) 57665) ((S 10240 8).toNatClampNeg) x2)) 59713) ((S 10240 8).toNatClampNeg) x3)) 61761 (upd ((va_up (va_up (va_up S 55617 (upd (S 55617) ((S 10240 8).toNatClampNeg) x1)) 57665 (upd ((va_up S 55617 (upd (S 55617) ((S 10240 8).toNatClampNeg) x1)) 57665) ((S 10240 8).toNatClampNeg) x2)) 59713 (upd ((va_up (va_up S 55617 (upd (S 55617) ((S 10240 8).toNatClampNeg) x1)) 57665 (upd ((va_up S 55617 (upd (S 55617) ((S 10240 8).toNatClampNeg) x1)) 57665) ((S 10240 8).toNatClampNeg) x2)) 59713) ((S 10240 8).toNatClampNeg) x3)) 61761) ((S 10240 8).toNatClampNeg) x4)) 63809 (upd ((va_up (va_up (va_up (va_up S 55617 (upd (S 55617) ((S 10240 8).toNatClampNeg) x1)) 57665 (upd ((va_up S 55617 (upd (S 55617) ((S 10240 8).toNatClampNeg) x1)) 57665) ((S 10240 8).toNatClampNeg) x2)) 59713 (upd ((va_up (va_up S 55617 (upd (S 55617) ((S 10240 8).toNatClampNeg) x1)) 57665 (upd ((va_up S 55617 (upd (S 55617) ((S 10240 8).toNatClampNeg) x1)) 57665) ((S 10240 8).toNatClampNeg) x2)) 59713) ((S 10240 8).toNatClampNeg) x3)) 61761 (upd ((va_up (va_up (va_up S 55617 (upd (S 55617) ((S 10240 8).toNatClampNeg) x1)) 57665 (upd ((va_up S 55617 (upd (S 55617) ((S 10240 8).toNatClampNeg) x1)) 57665) ((S 10240 8).toNatClampNeg) x2)) 59713 (upd ((va_up (va_up S 55617 (upd (S 55617) ((S 10240 8).toNatClampNeg) x1)) 57665 (upd ((va_up S 55617 (upd (S 55617) ((S 10240 8).toNatClampNeg) x1)) 57665) ((S 10240 8).toNatClampNeg) x2)) 59713) ((S 10240 8).toNatClampNeg) x3)) 61761) ((S 10240 8).toNatClampNeg) x4)) 63809) ((S 10240 8).toNatClampNeg) x5)) 65857) ((S 10240 8).toNatClampNeg) (-1))) 10240) 8 ((S 10240 8) + (nI 1)))
def sp_X0_add : z_SP := fun as S P k => match as with
  | [.int x1, .int x2, .int x3, .int x4, .int x5] => vp_in (S 10240 8) 40 ∧ k (some (.int (f_X0_add S P x1 x2 x3 x4 x5))) (u_X0_add S P x1 x2 x3 x4 x5) P
  | _ => False
def G_X0_add : z_G := ([(0, .aload_n 0, 1, 0), (1, .getfield 37, 4, 0), (4, .istore 6, 6, 0), (6, .aload_n 0, 7, 0), (7, .getfield 9, 10, 0), (10, .iload 6, 12, 0), (12, .iload_n 1, 13, 0), (13, .iastore, 14, 0), (14, .aload_n 0, 15, 0), (15, .getfield 15, 18, 0), (18, .iload 6, 20, 0), (20, .iload_n 2, 21, 0), (21, .iastore, 22, 0), (22, .aload_n 0, 23, 0), (23, .getfield 18, 26, 0), (26, .iload 6, 28, 0), (28, .iload_n 3, 29, 0), (29, .iastore, 30, 0), (30, .aload_n 0, 31, 0), (31, .getfield 21, 34, 0), (34, .iload 6, 36, 0), (36, .iload 4, 38, 0), (38, .iastore, 39, 0), (39, .aload_n 0, 40, 0), (40, .getfield 24, 43, 0), (43, .iload 6, 45, 0), (45, .iload 5, 47, 0), (47, .iastore, 48, 0), (48, .aload_n 0, 49, 0), (49, .getfield 27, 52, 0), (52, .iload 6, 54, 0), (54, .iconst (-1), 55, 0), (55, .iastore, 56, 0), (56, .aload_n 0, 57, 0), (57, .dup, 58, 0), (58, .getfield 37, 61, 0), (61, .iconst 1, 62, 0), (62, .iadd, 63, 0), (63, .putfield 37, 66, 0), (66, .iload 6, 68, 0), (68, .ireturn, 69, 0)], [(9, 10240, 0, some 55617), (15, 10240, 1, some 57665), (18, 10240, 2, some 59713), (21, 10240, 3, some 61761), (24, 10240, 4, some 63809), (27, 10240, 5, some 65857), (37, 10240, 8, none)], [], [], [], [], [], some .int)
set_option maxRecDepth 20000 in
set_option maxHeartbeats 4000000 in
theorem ct_X0_add (l : Launch) : z_CT l yX0_add cX0_add 7 (some .int) (z_rc 10240 sp_X0_add) 0 := by
  refine z_CT_of G_X0_add (by decide) (by decide +kernel) (z_pok_of ft_X0 ci_X0 cL_X0_L fo_X0 co_X0 lo_X0 (by decide +kernel)) rfl rfl ?_ ?_ ?_
  · intro as S P Po h0
    obtain ⟨as, rfl, h⟩ := z_rc_of h0
    unfold sp_X0_add at h
    split at h
    · exact Nat.le_of_ble_eq_true rfl
    · exact h.elim
  · exact fun _ h => absurd h List.not_mem_nil
  · intro as S P Po h0 V hV hW
    obtain ⟨as, rfl, h⟩ := z_rc_of h0
    unfold sp_X0_add at h
    split at h
    · rename_i x1 x2 x3 x4 x5
      obtain ⟨hp0, hpo⟩ := h
      refine hV [] 46 0 _ _ _ _ ?_
      refine ⟨(show vp_in (S 10240 8) 40 by assumption), ?_⟩
      refine ⟨(show vp_in (S 10240 8) 40 by assumption), ?_⟩
      refine ⟨(show vp_in (S 10240 8) 40 by assumption), ?_⟩
      refine ⟨(show vp_in (S 10240 8) 40 by assumption), ?_⟩
      refine ⟨(show vp_in (S 10240 8) 40 by assumption), ?_⟩
      refine ⟨(show vp_in (S 10240 8) 40 by assumption), ?_⟩
      exact z_pi hpo (rfl) (rfl) (rfl)
    · exact h.elim
def f_X0_counts (S : z_MI) (P : z_ML) (x1 : Int32) (x2 : Int32) : Bool :=
  if (S 67906 x1.toNatClampNeg) = 0 then
    if x2 < (S 55617 x1.toNatClampNeg) then
      false
    else
      if (S 65857 x1.toNatClampNeg) = (-1) then
        true
      else
        if (S 65857 x1.toNatClampNeg) ≤ x2 then
          false
        else
          true
  else
    false
def sp_X0_counts : z_SP := fun as S P k => match as with
  | [.int x1, .int x2] => vp_in x1 40 ∧ k (some (.int (z_b (f_X0_counts S P x1 x2)))) S P
  | _ => False
def G_X0_counts : z_G := ([(0, .aload_n 0, 1, 0), (1, .getfield 30, 4, 0), (4, .iload_n 1, 5, 0), (5, .baload, 6, 0), (6, .ifCond .ne 37, 9, 43), (9, .aload_n 0, 10, 0), (10, .getfield 9, 13, 0), (13, .iload_n 1, 14, 0), (14, .iaload, 15, 0), (15, .iload_n 2, 16, 0), (16, .if_icmp .gt 27, 19, 43), (19, .aload_n 0, 20, 0), (20, .getfield 27, 23, 0), (23, .iload_n 1, 24, 0), (24, .iaload, 25, 0), (25, .iconst (-1), 26, 0), (26, .if_icmp .eq 13, 29, 39), (29, .aload_n 0, 30, 0), (30, .getfield 27, 33, 0), (33, .iload_n 1, 34, 0), (34, .iaload, 35, 0), (35, .iload_n 2, 36, 0), (36, .if_icmp .le 7, 39, 43), (39, .iconst 1, 40, 0), (40, .goto 4, 43, 44), (43, .iconst 0, 44, 0), (44, .ireturn, 45, 0)], [(9, 10240, 0, some 55617), (27, 10240, 5, some 65857), (30, 10240, 6, some 67906)], [], [], [], [], [], some .boolean)
set_option maxRecDepth 20000 in
set_option maxHeartbeats 4000000 in
theorem ct_X0_counts (l : Launch) : z_CT l yX0_counts cX0_counts 3 (some .boolean) (z_rc 10240 sp_X0_counts) 0 := by
  refine z_CT_of G_X0_counts (by decide) (by decide +kernel) (z_pok_of ft_X0 ci_X0 cL_X0_L fo_X0 co_X0 lo_X0 (by decide +kernel)) rfl rfl ?_ ?_ ?_
  · intro as S P Po h0
    obtain ⟨as, rfl, h⟩ := z_rc_of h0
    unfold sp_X0_counts at h
    split at h
    · exact Nat.le_of_ble_eq_true rfl
    · exact h.elim
  · exact fun _ h => absurd h List.not_mem_nil
  · intro as S P Po h0 V hV hW
    obtain ⟨as, rfl, h⟩ := z_rc_of h0
    unfold sp_X0_counts at h
    split at h
    · rename_i x1 x2
      obtain ⟨hp0, hpo⟩ := h
      refine hV [] 32 0 _ _ _ _ ?_
      refine ⟨(show vp_in x1 40 by assumption), ?_⟩
      refine ⟨fun (h1 : ¬ ((S 67906 x1.toNatClampNeg) = 0)) => ?_, fun (h1 : (S 67906 x1.toNatClampNeg) = 0) => ?_⟩
      · exact ⟨(by first | rfl | exact z_nb _), z_pb hpo ((if_neg h1).trans rfl) (rfl) (rfl)⟩
      · refine ⟨(show vp_in x1 40 by assumption), ?_⟩
        refine ⟨fun (h2 : x2 < (S 55617 x1.toNatClampNeg)) => ?_, fun (h2 : ¬ (x2 < (S 55617 x1.toNatClampNeg))) => ?_⟩
        · exact ⟨(by first | rfl | exact z_nb _), z_pb hpo ((if_pos h1).trans ((if_pos h2).trans rfl)) (rfl) (rfl)⟩
        · refine ⟨(show vp_in x1 40 by assumption), ?_⟩
          refine ⟨fun (h3 : (S 65857 x1.toNatClampNeg) = (-1)) => ?_, fun (h3 : ¬ ((S 65857 x1.toNatClampNeg) = (-1))) => ?_⟩
          · exact ⟨(by first | rfl | exact z_nb _), z_pb hpo ((if_pos h1).trans ((if_neg h2).trans ((if_pos h3).trans rfl))) (rfl) (rfl)⟩
          · refine ⟨(show vp_in x1 40 by assumption), ?_⟩
            refine ⟨fun (h4 : (S 65857 x1.toNatClampNeg) ≤ x2) => ?_, fun (h4 : ¬ ((S 65857 x1.toNatClampNeg) ≤ x2)) => ?_⟩
            · exact ⟨(by first | rfl | exact z_nb _), z_pb hpo ((if_pos h1).trans ((if_neg h2).trans ((if_neg h3).trans ((if_pos h4).trans rfl)))) (rfl) (rfl)⟩
            · exact ⟨(by first | rfl | exact z_nb _), z_pb hpo ((if_pos h1).trans ((if_neg h2).trans ((if_neg h3).trans ((if_neg h4).trans rfl)))) (rfl) (rfl)⟩
    · exact h.elim
def f_X0_takes (S : z_MI) (P : z_ML) (x1 : Int32) (x2 : Int32) (x3 : Int32) : Bool :=
  if (S 61761 x1.toNatClampNeg) = 0 then
    if (f_X6_isIn S P (S 57665 x1.toNatClampNeg) x2) = true then
      if (f_X0_counts S P x1 x3) = true then
        true
      else
        false
    else
      false
  else
    if (S 61761 x1.toNatClampNeg) = (nI 1) then
      if (S 63809 x1.toNatClampNeg) < x3 then
        false
      else
        if (f_X6_isIn S P (S 57665 x1.toNatClampNeg) x2) = true then
          if (f_X0_counts S P x1 x3) = true then
            true
          else
            false
        else
          false
    else
      false
def sp_X0_takes : z_SP := fun as S P k => match as with
  | [.int x1, .int x2, .int x3] => vp_in x1 40 ∧ k (some (.int (z_b (f_X0_takes S P x1 x2 x3)))) S P
  | _ => False
def G_X0_takes : z_G := ([(0, .aload_n 0, 1, 0), (1, .getfield 21, 4, 0), (4, .iload_n 1, 5, 0), (5, .iaload, 6, 0), (6, .ifCond .eq 23, 9, 29), (9, .aload_n 0, 10, 0), (10, .getfield 21, 13, 0), (13, .iload_n 1, 14, 0), (14, .iaload, 15, 0), (15, .iconst 1, 16, 0), (16, .if_icmp .ne 17, 19, 33), (19, .aload_n 0, 20, 0), (20, .getfield 24, 23, 0), (23, .iload_n 1, 24, 0), (24, .iaload, 25, 0), (25, .iload_n 3, 26, 0), (26, .if_icmp .lt 7, 29, 33), (29, .iconst 1, 30, 0), (30, .goto 4, 33, 34), (33, .iconst 0, 34, 0), (34, .istore 4, 36, 0), (36, .iload 4, 38, 0), (38, .ifCond .eq 29, 41, 67), (41, .aload_n 0, 42, 0), (42, .getfield 15, 45, 0), (45, .iload_n 1, 46, 0), (46, .iaload, 47, 0), (47, .iload_n 2, 48, 0), (48, .invokestatic 41, 51, 0), (51, .ifCond .eq 16, 54, 67), (54, .aload_n 0, 55, 0), (55, .iload_n 1, 56, 0), (56, .iload_n 3, 57, 0), (57, .invokevirtual 45, 60, 0), (60, .ifCond .eq 7, 63, 67), (63, .iconst 1, 64, 0), (64, .goto 4, 67, 68), (67, .iconst 0, 68, 0), (68, .ireturn, 69, 0)], [(15, 10240, 1, some 57665), (21, 10240, 3, some 61761), (24, 10240, 4, some 63809)], [(100041, 2, sp_X6_isIn), (45, 3, (z_rc 10240 sp_X0_counts))], [], [], [], [], some .boolean)
set_option maxRecDepth 20000 in
set_option maxHeartbeats 4000000 in
theorem ct_X0_takes (l : Launch) : z_CT l yX0_takes cX0_takes 5 (some .boolean) (z_rc 10240 sp_X0_takes) 1 := by
  refine z_CT_of G_X0_takes (by decide) (by decide +kernel) (z_pok_of ft_X0 ci_X0 cL_X0_L fo_X0 co_X0 lo_X0 (by decide +kernel)) rfl rfl ?_ ?_ ?_
  · intro as S P Po h0
    obtain ⟨as, rfl, h⟩ := z_rc_of h0
    unfold sp_X0_takes at h
    split at h
    · exact Nat.le_of_ble_eq_true rfl
    · exact h.elim
  · exact List.forall_mem_cons.mpr ⟨z_coN (host := "Songlinebench") (ct_X6_isIn l) kb_X6_isIn kn_X0_41 (by decide) (by decide), List.forall_mem_cons.mpr ⟨z_coV (ct_X0_counts l) kb_X0_counts kv_X0_45 ko_X0 (by decide) (by decide) (by decide), fun _ h => absurd h List.not_mem_nil⟩⟩
  · intro as S P Po h0 V hV hW
    obtain ⟨as, rfl, h⟩ := z_rc_of h0
    unfold sp_X0_takes at h
    split at h
    · rename_i x1 x2 x3
      obtain ⟨hp0, hpo⟩ := h
      refine hV [] 44 0 _ _ _ _ ?_
      refine ⟨(show vp_in x1 40 by assumption), ?_⟩
      refine ⟨fun (h1 : (S 61761 x1.toNatClampNeg) = 0) => ?_, fun (h1 : ¬ ((S 61761 x1.toNatClampNeg) = 0)) => ?_⟩
      · refine ⟨fun h => absurd h (by decide), fun _ => ?_⟩
        refine ⟨(show vp_in x1 40 by assumption), ?_⟩
        refine z_br (fun (h2 : (f_X6_isIn S P (S 57665 x1.toNatClampNeg) x2) = false) => ?_) (fun (h2 : (f_X6_isIn S P (S 57665 x1.toNatClampNeg) x2) = true) => ?_)
        · exact ⟨(by first | rfl | exact z_nb _), z_pb hpo ((if_pos h1).trans ((if_neg (z_nt h2)).trans rfl)) (rfl) (rfl)⟩
        · refine ⟨(show vp_in x1 40 by assumption), ?_⟩
          refine z_br (fun (h3 : (f_X0_counts S P x1 x3) = false) => ?_) (fun (h3 : (f_X0_counts S P x1 x3) = true) => ?_)
          · exact ⟨(by first | rfl | exact z_nb _), z_pb hpo ((if_pos h1).trans ((if_pos h2).trans ((if_neg (z_nt h3)).trans rfl))) (rfl) (rfl)⟩
          · exact ⟨(by first | rfl | exact z_nb _), z_pb hpo ((if_pos h1).trans ((if_pos h2).trans ((if_pos h3).trans rfl))) (rfl) (rfl)⟩
      · refine ⟨(show vp_in x1 40 by assumption), ?_⟩
        refine ⟨fun (h4 : ¬ ((S 61761 x1.toNatClampNeg) = (nI 1))) => ?_, fun (h4 : (S 61761 x1.toNatClampNeg) = (nI 1)) => ?_⟩
        · refine ⟨fun _ => ?_, fun h => absurd (by decide) h⟩
          exact ⟨(by first | rfl | exact z_nb _), z_pb hpo ((if_neg h1).trans ((if_neg h4).trans rfl)) (rfl) (rfl)⟩
        · refine ⟨(show vp_in x1 40 by assumption), ?_⟩
          refine ⟨fun (h5 : (S 63809 x1.toNatClampNeg) < x3) => ?_, fun (h5 : ¬ ((S 63809 x1.toNatClampNeg) < x3)) => ?_⟩
          · refine ⟨fun _ => ?_, fun h => absurd (by decide) h⟩
            exact ⟨(by first | rfl | exact z_nb _), z_pb hpo ((if_neg h1).trans ((if_pos h4).trans ((if_pos h5).trans rfl))) (rfl) (rfl)⟩
          · refine ⟨fun h => absurd h (by decide), fun _ => ?_⟩
            refine ⟨(show vp_in x1 40 by assumption), ?_⟩
            refine z_br (fun (h6 : (f_X6_isIn S P (S 57665 x1.toNatClampNeg) x2) = false) => ?_) (fun (h6 : (f_X6_isIn S P (S 57665 x1.toNatClampNeg) x2) = true) => ?_)
            · exact ⟨(by first | rfl | exact z_nb _), z_pb hpo ((if_neg h1).trans ((if_pos h4).trans ((if_neg h5).trans ((if_neg (z_nt h6)).trans rfl)))) (rfl) (rfl)⟩
            · refine ⟨(show vp_in x1 40 by assumption), ?_⟩
              refine z_br (fun (h7 : (f_X0_counts S P x1 x3) = false) => ?_) (fun (h7 : (f_X0_counts S P x1 x3) = true) => ?_)
              · exact ⟨(by first | rfl | exact z_nb _), z_pb hpo ((if_neg h1).trans ((if_pos h4).trans ((if_neg h5).trans ((if_pos h6).trans ((if_neg (z_nt h7)).trans rfl))))) (rfl) (rfl)⟩
              · exact ⟨(by first | rfl | exact z_nb _), z_pb hpo ((if_neg h1).trans ((if_pos h4).trans ((if_neg h5).trans ((if_pos h6).trans ((if_pos h7).trans rfl))))) (rfl) (rfl)⟩
    · exact h.elim
def l_X0_leftAt_6 (S : z_MI) (P : z_ML) (x1 : Int32) (x2 : Int32) (k6 : Nat) (a6 : Int32) : Int32 :=
  if (f_X0_takes S P (nI k6) x1 x2) = true then
    a6 &&& ((S 59713 ((nI k6).toNatClampNeg)) ^^^ (-1))
  else
    a6
def f_X0_leftAt (S : z_MI) (P : z_ML) (x1 : Int32) (x2 : Int32) : Int32 :=
  (z_fo (fun k6 a6 => l_X0_leftAt_6 S P x1 x2 k6 a6) (nI 31) (S 10240 8).toNatClampNeg)
def sp_X0_leftAt : z_SP := fun as S P k => match as with
  | [.int x1, .int x2] => z_le (S 10240 8) 40 ∧ k (some (.int (f_X0_leftAt S P x1 x2))) S P
  | _ => False
def G_X0_leftAt : z_G := ([(0, .bipush 31, 2, 0), (2, .istore_n 3, 3, 0), (3, .iconst 0, 4, 0), (4, .istore 4, 6, 0), (6, .iload 4, 8, 0), (8, .aload_n 0, 9, 0), (9, .getfield 37, 12, 0), (12, .if_icmp .ge 32, 15, 44), (15, .aload_n 0, 16, 0), (16, .iload 4, 18, 0), (18, .iload_n 1, 19, 0), (19, .iload_n 2, 20, 0), (20, .invokevirtual 48, 23, 0), (23, .ifCond .eq 15, 26, 38), (26, .iload_n 3, 27, 0), (27, .aload_n 0, 28, 0), (28, .getfield 18, 31, 0), (31, .iload 4, 33, 0), (33, .iaload, 34, 0), (34, .iconst (-1), 35, 0), (35, .ixor, 36, 0), (36, .iand, 37, 0), (37, .istore_n 3, 38, 0), (38, .iinc 4 1, 41, 0), (41, .goto (-35), 44, 6), (44, .iload_n 3, 45, 0), (45, .ireturn, 46, 0)], [(18, 10240, 2, some 59713), (37, 10240, 8, none)], [(48, 4, (z_rc 10240 sp_X0_takes))], [], [], [], [], some .int)
set_option maxRecDepth 20000 in
set_option maxHeartbeats 4000000 in
theorem ct_X0_leftAt (l : Launch) : z_CT l yX0_leftAt cX0_leftAt 5 (some .int) (z_rc 10240 sp_X0_leftAt) 2 := by
  refine z_CT_of G_X0_leftAt (by decide) (by decide +kernel) (z_pok_of ft_X0 ci_X0 cL_X0_L fo_X0 co_X0 lo_X0 (by decide +kernel)) rfl rfl ?_ ?_ ?_
  · intro as S P Po h0
    obtain ⟨as, rfl, h⟩ := z_rc_of h0
    unfold sp_X0_leftAt at h
    split at h
    · exact Nat.le_of_ble_eq_true rfl
    · exact h.elim
  · exact List.forall_mem_cons.mpr ⟨z_coV (ct_X0_takes l) kb_X0_takes kv_X0_48 ko_X0 (by decide) (by decide) (by decide), fun _ h => absurd h List.not_mem_nil⟩
  · intro as S P Po h0 V hV hW
    obtain ⟨as, rfl, h⟩ := z_rc_of h0
    unfold sp_X0_leftAt at h
    split at h
    · rename_i x1 x2
      obtain ⟨hp0, hpo⟩ := h
      refine hV [6] 32 0 _ _ _ _ ?_
      obtain ⟨hb6, hN6⟩ := z_le_cl (show z_le (S 10240 8) 40 by assumption) (by decide)
      have hL6 : ∀ (j k6 : Nat) (x900 : Int32) (a6 : Int32), k6 + j = (S 10240 8).toNatClampNeg → x900 = nI k6 → a6 = z_fo (fun k6 a6 => l_X0_leftAt_6 S P x1 x2 k6 a6) (nI 31) k6 → V 6 [(0, .ref 10240), (1, .int x1), (2, .int x2), (3, .int a6), (4, .int x900)] [] S P := by
        intro j
        induction j with
        | zero =>
          intro k6 x900 a6 hk6 hx6 ha6
          subst hx6
          have hk9 : k6 = (S 10240 8).toNatClampNeg := by omega
          subst hk9
          subst ha6
          refine hV [6] 32 6 _ _ _ _ ?_
          refine ⟨fun _ => ?_, fun h => absurd ((z_brge hb6 (by omega) (by omega)).mpr (Nat.le_refl _)) h⟩
          exact z_pi hpo (rfl) (rfl) (rfl)
        | succ j ih =>
          intro k6 x900 a6 hk6 hx6 ha6
          subst hx6
          have hk9 : k6 < (S 10240 8).toNatClampNeg := by omega
          subst ha6
          refine hV [6] 32 6 _ _ _ _ ?_
          refine ⟨fun h => absurd ((z_brge hb6 (by omega) (by omega)).mp h) (by omega), fun _ => ?_⟩
          refine ⟨(show vp_in (nI k6) 40 by exact vp_in_nI (by omega) (by omega)), ?_⟩
          refine z_br (fun (h2 : (f_X0_takes S P (nI k6) x1 x2) = false) => ?_) (fun (h2 : (f_X0_takes S P (nI k6) x1 x2) = true) => ?_)
          · exact hW [0, 1, 2, 3, 4] _ _ _ _ _ (ih (k6 + 1) _ (z_fo (fun k6 a6 => l_X0_leftAt_6 S P x1 x2 k6 a6) (nI 31) k6) (by omega) (nI_add k6 1) (((if_neg (z_nt h2)).trans rfl).symm))
          · refine ⟨(show vp_in (nI k6) 40 by exact vp_in_nI (by omega) (by omega)), ?_⟩
            exact hW [0, 1, 2, 3, 4] _ _ _ _ _ (ih (k6 + 1) _ ((z_fo (fun k6 a6 => l_X0_leftAt_6 S P x1 x2 k6 a6) (nI 31) k6) &&& ((S 59713 ((nI k6).toNatClampNeg)) ^^^ (-1))) (by omega) (nI_add k6 1) (((if_pos h2).trans rfl).symm))
      exact hW [0, 1, 2, 3, 4] _ _ _ _ _ (hL6 (S 10240 8).toNatClampNeg 0 _ (nI 31) (Nat.zero_add _) rfl rfl)
    · exact h.elim
def l_X0_isTaken_3 (S : z_MI) (P : z_ML) (x1 : Int32) (x2 : Int32) (x3 : Int32) (k3 : Nat) (a3 : Unit) : (Unit) ⊕ (Bool) :=
  if (f_X6_isIn S P (S 59713 ((nI k3).toNatClampNeg)) x1) = true then
    if (f_X0_takes S P (nI k3) x2 x3) = true then
      .inr true
    else
      .inl ()
  else
    .inl ()
def f_X0_isTaken (S : z_MI) (P : z_ML) (x1 : Int32) (x2 : Int32) (x3 : Int32) : Bool :=
  Sum.elim (fun a3 =>
    false) (fun r => r) (z_fx (fun k3 a3 => l_X0_isTaken_3 S P x1 x2 x3 k3 a3) () (S 10240 8).toNatClampNeg)
def sp_X0_isTaken : z_SP := fun as S P k => match as with
  | [.int x1, .int x2, .int x3] => z_le (S 10240 8) 40 ∧ k (some (.int (z_b (f_X0_isTaken S P x1 x2 x3)))) S P
  | _ => False
def G_X0_isTaken : z_G := ([(0, .iconst 0, 1, 0), (1, .istore 4, 3, 0), (3, .iload 4, 5, 0), (5, .aload_n 0, 6, 0), (6, .getfield 37, 9, 0), (9, .if_icmp .ge 36, 12, 45), (12, .aload_n 0, 13, 0), (13, .getfield 18, 16, 0), (16, .iload 4, 18, 0), (18, .iaload, 19, 0), (19, .iload_n 1, 20, 0), (20, .invokestatic 41, 23, 0), (23, .ifCond .eq 16, 26, 39), (26, .aload_n 0, 27, 0), (27, .iload 4, 29, 0), (29, .iload_n 2, 30, 0), (30, .iload_n 3, 31, 0), (31, .invokevirtual 48, 34, 0), (34, .ifCond .eq 5, 37, 39), (37, .iconst 1, 38, 0), (38, .ireturn, 39, 0), (39, .iinc 4 1, 42, 0), (42, .goto (-39), 45, 3), (45, .iconst 0, 46, 0), (46, .ireturn, 47, 0)], [(18, 10240, 2, some 59713), (37, 10240, 8, none)], [(100041, 2, sp_X6_isIn), (48, 4, (z_rc 10240 sp_X0_takes))], [], [], [], [], some .boolean)
set_option maxRecDepth 20000 in
set_option maxHeartbeats 4000000 in
theorem ct_X0_isTaken (l : Launch) : z_CT l yX0_isTaken cX0_isTaken 5 (some .boolean) (z_rc 10240 sp_X0_isTaken) 2 := by
  refine z_CT_of G_X0_isTaken (by decide) (by decide +kernel) (z_pok_of ft_X0 ci_X0 cL_X0_L fo_X0 co_X0 lo_X0 (by decide +kernel)) rfl rfl ?_ ?_ ?_
  · intro as S P Po h0
    obtain ⟨as, rfl, h⟩ := z_rc_of h0
    unfold sp_X0_isTaken at h
    split at h
    · exact Nat.le_of_ble_eq_true rfl
    · exact h.elim
  · exact List.forall_mem_cons.mpr ⟨z_coN (host := "Songlinebench") (ct_X6_isIn l) kb_X6_isIn kn_X0_41 (by decide) (by decide), List.forall_mem_cons.mpr ⟨z_coV (ct_X0_takes l) kb_X0_takes kv_X0_48 ko_X0 (by decide) (by decide) (by decide), fun _ h => absurd h List.not_mem_nil⟩⟩
  · intro as S P Po h0 V hV hW
    obtain ⟨as, rfl, h⟩ := z_rc_of h0
    unfold sp_X0_isTaken at h
    split at h
    · rename_i x1 x2 x3
      obtain ⟨hp0, hpo⟩ := h
      refine hV [3] 30 0 _ _ _ _ ?_
      obtain ⟨hb3, hN3⟩ := z_le_cl (show z_le (S 10240 8) 40 by assumption) (by decide)
      have hL3 : ∀ (j k3 : Nat) (x900 : Int32) (a3 : Unit), k3 + j = (S 10240 8).toNatClampNeg → x900 = nI k3 → z_fx (fun k3 a3 => l_X0_isTaken_3 S P x1 x2 x3 k3 a3) () k3 = .inl a3 → V 3 [(0, .ref 10240), (1, .int x1), (2, .int x2), (3, .int x3), (4, .int x900)] [] S P := by
        intro j
        induction j with
        | zero =>
          intro k3 x900 a3 hk3 hx3 ha3
          subst hx3
          have hk9 : k3 = (S 10240 8).toNatClampNeg := by omega
          subst hk9
          refine hV [3] 30 3 _ _ _ _ ?_
          refine ⟨fun _ => ?_, fun h => absurd ((z_brge hb3 (by omega) (by omega)).mpr (Nat.le_refl _)) h⟩
          exact ⟨(by first | rfl | exact z_nb _), z_pb hpo ((congrArg (Sum.elim _ _) ha3).trans rfl) (rfl) (rfl)⟩
        | succ j ih =>
          intro k3 x900 a3 hk3 hx3 ha3
          subst hx3
          have hk9 : k3 < (S 10240 8).toNatClampNeg := by omega
          refine hV [3] 30 3 _ _ _ _ ?_
          refine ⟨fun h => absurd ((z_brge hb3 (by omega) (by omega)).mp h) (by omega), fun _ => ?_⟩
          refine ⟨(show vp_in (nI k3) 40 by exact vp_in_nI (by omega) (by omega)), ?_⟩
          refine z_br (fun (h2 : (f_X6_isIn S P (S 59713 ((nI k3).toNatClampNeg)) x1) = false) => ?_) (fun (h2 : (f_X6_isIn S P (S 59713 ((nI k3).toNatClampNeg)) x1) = true) => ?_)
          · exact hW [0, 1, 2, 3, 4] _ _ _ _ _ (ih (k3 + 1) _ () (by omega) (nI_add k3 1) ((z_fx_s ha3).trans ((if_neg (z_nt h2)).trans rfl)))
          · refine ⟨(show vp_in (nI k3) 40 by exact vp_in_nI (by omega) (by omega)), ?_⟩
            refine z_br (fun (h3 : (f_X0_takes S P (nI k3) x2 x3) = false) => ?_) (fun (h3 : (f_X0_takes S P (nI k3) x2 x3) = true) => ?_)
            · exact hW [0, 1, 2, 3, 4] _ _ _ _ _ (ih (k3 + 1) _ () (by omega) (nI_add k3 1) ((z_fx_s ha3).trans ((if_pos h2).trans ((if_neg (z_nt h3)).trans rfl))))
            · have hM := (z_fx_s ha3).trans ((if_pos h2).trans ((if_pos h3).trans rfl))
              have hM := z_fx_r hM (show _ ≤ (S 10240 8).toNatClampNeg by omega)
              exact ⟨(by first | rfl | exact z_nb _), z_pb hpo ((congrArg (Sum.elim _ _) hM).trans rfl) (rfl) (rfl)⟩
      exact hW [0, 1, 2, 3, 4] _ _ _ _ _ (hL3 (S 10240 8).toNatClampNeg 0 _ () (Nat.zero_add _) rfl rfl)
    · exact h.elim
def l_X0_yieldingAt_5 (S : z_MI) (P : z_ML) (x1 : Int32) (x2 : Int32) (k5 : Nat) (a5 : Int32) : Int32 :=
  if (S 61761 ((nI k5).toNatClampNeg)) = (nI 2) then
    if (f_X6_isIn S P (S 57665 ((nI k5).toNatClampNeg)) x1) = true then
      if (f_X0_counts S P (nI k5) x2) = true then
        a5 ||| (S 59713 ((nI k5).toNatClampNeg))
      else
        a5
    else
      a5
  else
    a5
def f_X0_yieldingAt (S : z_MI) (P : z_ML) (x1 : Int32) (x2 : Int32) : Int32 :=
  (z_fo (fun k5 a5 => l_X0_yieldingAt_5 S P x1 x2 k5 a5) (nI 0) (S 10240 8).toNatClampNeg) &&& (f_X0_leftAt S P x1 x2)
def sp_X0_yieldingAt : z_SP := fun as S P k => match as with
  | [.int x1, .int x2] => z_le (S 10240 8) 40 ∧ k (some (.int (f_X0_yieldingAt S P x1 x2))) S P
  | _ => False
def G_X0_yieldingAt : z_G := ([(0, .iconst 0, 1, 0), (1, .istore_n 3, 2, 0), (2, .iconst 0, 3, 0), (3, .istore 4, 5, 0), (5, .iload 4, 7, 0), (7, .aload_n 0, 8, 0), (8, .getfield 37, 11, 0), (11, .if_icmp .ge 54, 14, 65), (14, .aload_n 0, 15, 0), (15, .getfield 21, 18, 0), (18, .iload 4, 20, 0), (20, .iaload, 21, 0), (21, .iconst 2, 22, 0), (22, .if_icmp .ne 37, 25, 59), (25, .aload_n 0, 26, 0), (26, .getfield 15, 29, 0), (29, .iload 4, 31, 0), (31, .iaload, 32, 0), (32, .iload_n 1, 33, 0), (33, .invokestatic 41, 36, 0), (36, .ifCond .eq 23, 39, 59), (39, .aload_n 0, 40, 0), (40, .iload 4, 42, 0), (42, .iload_n 2, 43, 0), (43, .invokevirtual 45, 46, 0), (46, .ifCond .eq 13, 49, 59), (49, .iload_n 3, 50, 0), (50, .aload_n 0, 51, 0), (51, .getfield 18, 54, 0), (54, .iload 4, 56, 0), (56, .iaload, 57, 0), (57, .ior, 58, 0), (58, .istore_n 3, 59, 0), (59, .iinc 4 1, 62, 0), (62, .goto (-57), 65, 5), (65, .iload_n 3, 66, 0), (66, .aload_n 0, 67, 0), (67, .iload_n 1, 68, 0), (68, .iload_n 2, 69, 0), (69, .invokevirtual 52, 72, 0), (72, .iand, 73, 0), (73, .ireturn, 74, 0)], [(15, 10240, 1, some 57665), (18, 10240, 2, some 59713), (21, 10240, 3, some 61761), (37, 10240, 8, none)], [(100041, 2, sp_X6_isIn), (45, 3, (z_rc 10240 sp_X0_counts)), (52, 3, (z_rc 10240 sp_X0_leftAt))], [], [], [], [], some .int)
set_option maxRecDepth 20000 in
set_option maxHeartbeats 4000000 in
theorem ct_X0_yieldingAt (l : Launch) : z_CT l yX0_yieldingAt cX0_yieldingAt 5 (some .int) (z_rc 10240 sp_X0_yieldingAt) 3 := by
  refine z_CT_of G_X0_yieldingAt (by decide) (by decide +kernel) (z_pok_of ft_X0 ci_X0 cL_X0_L fo_X0 co_X0 lo_X0 (by decide +kernel)) rfl rfl ?_ ?_ ?_
  · intro as S P Po h0
    obtain ⟨as, rfl, h⟩ := z_rc_of h0
    unfold sp_X0_yieldingAt at h
    split at h
    · exact Nat.le_of_ble_eq_true rfl
    · exact h.elim
  · exact List.forall_mem_cons.mpr ⟨z_coN (host := "Songlinebench") (ct_X6_isIn l) kb_X6_isIn kn_X0_41 (by decide) (by decide), List.forall_mem_cons.mpr ⟨z_coV (ct_X0_counts l) kb_X0_counts kv_X0_45 ko_X0 (by decide) (by decide) (by decide), List.forall_mem_cons.mpr ⟨z_coV (ct_X0_leftAt l) kb_X0_leftAt kv_X0_52 ko_X0 (by decide) (by decide) (by decide), fun _ h => absurd h List.not_mem_nil⟩⟩⟩
  · intro as S P Po h0 V hV hW
    obtain ⟨as, rfl, h⟩ := z_rc_of h0
    unfold sp_X0_yieldingAt at h
    split at h
    · rename_i x1 x2
      obtain ⟨hp0, hpo⟩ := h
      refine hV [5] 47 0 _ _ _ _ ?_
      obtain ⟨hb5, hN5⟩ := z_le_cl (show z_le (S 10240 8) 40 by assumption) (by decide)
      have hL5 : ∀ (j k5 : Nat) (x900 : Int32) (a5 : Int32), k5 + j = (S 10240 8).toNatClampNeg → x900 = nI k5 → a5 = z_fo (fun k5 a5 => l_X0_yieldingAt_5 S P x1 x2 k5 a5) (nI 0) k5 → V 5 [(0, .ref 10240), (1, .int x1), (2, .int x2), (3, .int a5), (4, .int x900)] [] S P := by
        intro j
        induction j with
        | zero =>
          intro k5 x900 a5 hk5 hx5 ha5
          subst hx5
          have hk9 : k5 = (S 10240 8).toNatClampNeg := by omega
          subst hk9
          subst ha5
          refine hV [5] 47 5 _ _ _ _ ?_
          refine ⟨fun _ => ?_, fun h => absurd ((z_brge hb5 (by omega) (by omega)).mpr (Nat.le_refl _)) h⟩
          refine ⟨(show z_le (S 10240 8) 40 by assumption), ?_⟩
          exact z_pi hpo (rfl) (rfl) (rfl)
        | succ j ih =>
          intro k5 x900 a5 hk5 hx5 ha5
          subst hx5
          have hk9 : k5 < (S 10240 8).toNatClampNeg := by omega
          subst ha5
          refine hV [5] 47 5 _ _ _ _ ?_
          refine ⟨fun h => absurd ((z_brge hb5 (by omega) (by omega)).mp h) (by omega), fun _ => ?_⟩
          refine ⟨(show vp_in (nI k5) 40 by exact vp_in_nI (by omega) (by omega)), ?_⟩
          refine ⟨fun (h2 : ¬ ((S 61761 ((nI k5).toNatClampNeg)) = (nI 2))) => ?_, fun (h2 : (S 61761 ((nI k5).toNatClampNeg)) = (nI 2)) => ?_⟩
          · exact hW [0, 1, 2, 3, 4] _ _ _ _ _ (ih (k5 + 1) _ (z_fo (fun k5 a5 => l_X0_yieldingAt_5 S P x1 x2 k5 a5) (nI 0) k5) (by omega) (nI_add k5 1) (((if_neg h2).trans rfl).symm))
          · refine ⟨(show vp_in (nI k5) 40 by exact vp_in_nI (by omega) (by omega)), ?_⟩
            refine z_br (fun (h3 : (f_X6_isIn S P (S 57665 ((nI k5).toNatClampNeg)) x1) = false) => ?_) (fun (h3 : (f_X6_isIn S P (S 57665 ((nI k5).toNatClampNeg)) x1) = true) => ?_)
            · exact hW [0, 1, 2, 3, 4] _ _ _ _ _ (ih (k5 + 1) _ (z_fo (fun k5 a5 => l_X0_yieldingAt_5 S P x1 x2 k5 a5) (nI 0) k5) (by omega) (nI_add k5 1) (((if_pos h2).trans ((if_neg (z_nt h3)).trans rfl)).symm))
            · refine ⟨(show vp_in (nI k5) 40 by exact vp_in_nI (by omega) (by omega)), ?_⟩
              refine z_br (fun (h4 : (f_X0_counts S P (nI k5) x2) = false) => ?_) (fun (h4 : (f_X0_counts S P (nI k5) x2) = true) => ?_)
              · exact hW [0, 1, 2, 3, 4] _ _ _ _ _ (ih (k5 + 1) _ (z_fo (fun k5 a5 => l_X0_yieldingAt_5 S P x1 x2 k5 a5) (nI 0) k5) (by omega) (nI_add k5 1) (((if_pos h2).trans ((if_pos h3).trans ((if_neg (z_nt h4)).trans rfl))).symm))
              · refine ⟨(show vp_in (nI k5) 40 by exact vp_in_nI (by omega) (by omega)), ?_⟩
                exact hW [0, 1, 2, 3, 4] _ _ _ _ _ (ih (k5 + 1) _ ((z_fo (fun k5 a5 => l_X0_yieldingAt_5 S P x1 x2 k5 a5) (nI 0) k5) ||| (S 59713 ((nI k5).toNatClampNeg))) (by omega) (nI_add k5 1) (((if_pos h2).trans ((if_pos h3).trans ((if_pos h4).trans rfl))).symm))
      exact hW [0, 1, 2, 3, 4] _ _ _ _ _ (hL5 (S 10240 8).toNatClampNeg 0 _ (nI 0) (Nat.zero_add _) rfl rfl)
    · exact h.elim
def f_X0_stillExtinguishes (S : z_MI) (P : z_ML) (x1 : Int32) : Bool :=
  if (S 61761 x1.toNatClampNeg) = 0 then
    if (S 67906 x1.toNatClampNeg) = 0 then
      if (S 65857 x1.toNatClampNeg) = (-1) then
        true
      else
        false
    else
      false
  else
    false
def sp_X0_stillExtinguishes : z_SP := fun as S P k => match as with
  | [.int x1] => vp_in x1 40 ∧ k (some (.int (z_b (f_X0_stillExtinguishes S P x1)))) S P
  | _ => False
def G_X0_stillExtinguishes : z_G := ([(0, .aload_n 0, 1, 0), (1, .getfield 21, 4, 0), (4, .iload_n 1, 5, 0), (5, .iaload, 6, 0), (6, .ifCond .ne 26, 9, 32), (9, .aload_n 0, 10, 0), (10, .getfield 30, 13, 0), (13, .iload_n 1, 14, 0), (14, .baload, 15, 0), (15, .ifCond .ne 17, 18, 32), (18, .aload_n 0, 19, 0), (19, .getfield 27, 22, 0), (22, .iload_n 1, 23, 0), (23, .iaload, 24, 0), (24, .iconst (-1), 25, 0), (25, .if_icmp .ne 7, 28, 32), (28, .iconst 1, 29, 0), (29, .goto 4, 32, 33), (32, .iconst 0, 33, 0), (33, .ireturn, 34, 0)], [(21, 10240, 3, some 61761), (27, 10240, 5, some 65857), (30, 10240, 6, some 67906)], [], [], [], [], [], some .boolean)
set_option maxRecDepth 20000 in
set_option maxHeartbeats 4000000 in
theorem ct_X0_stillExtinguishes (l : Launch) : z_CT l yX0_stillExtinguishes cX0_stillExtinguishes 2 (some .boolean) (z_rc 10240 sp_X0_stillExtinguishes) 0 := by
  refine z_CT_of G_X0_stillExtinguishes (by decide) (by decide +kernel) (z_pok_of ft_X0 ci_X0 cL_X0_L fo_X0 co_X0 lo_X0 (by decide +kernel)) rfl rfl ?_ ?_ ?_
  · intro as S P Po h0
    obtain ⟨as, rfl, h⟩ := z_rc_of h0
    unfold sp_X0_stillExtinguishes at h
    split at h
    · exact Nat.le_of_ble_eq_true rfl
    · exact h.elim
  · exact fun _ h => absurd h List.not_mem_nil
  · intro as S P Po h0 V hV hW
    obtain ⟨as, rfl, h⟩ := z_rc_of h0
    unfold sp_X0_stillExtinguishes at h
    split at h
    · rename_i x1
      obtain ⟨hp0, hpo⟩ := h
      refine hV [] 25 0 _ _ _ _ ?_
      refine ⟨(show vp_in x1 40 by assumption), ?_⟩
      refine ⟨fun (h1 : ¬ ((S 61761 x1.toNatClampNeg) = 0)) => ?_, fun (h1 : (S 61761 x1.toNatClampNeg) = 0) => ?_⟩
      · exact ⟨(by first | rfl | exact z_nb _), z_pb hpo ((if_neg h1).trans rfl) (rfl) (rfl)⟩
      · refine ⟨(show vp_in x1 40 by assumption), ?_⟩
        refine ⟨fun (h2 : ¬ ((S 67906 x1.toNatClampNeg) = 0)) => ?_, fun (h2 : (S 67906 x1.toNatClampNeg) = 0) => ?_⟩
        · exact ⟨(by first | rfl | exact z_nb _), z_pb hpo ((if_pos h1).trans ((if_neg h2).trans rfl)) (rfl) (rfl)⟩
        · refine ⟨(show vp_in x1 40 by assumption), ?_⟩
          refine ⟨fun (h3 : ¬ ((S 65857 x1.toNatClampNeg) = (-1))) => ?_, fun (h3 : (S 65857 x1.toNatClampNeg) = (-1)) => ?_⟩
          · exact ⟨(by first | rfl | exact z_nb _), z_pb hpo ((if_pos h1).trans ((if_pos h2).trans ((if_neg h3).trans rfl))) (rfl) (rfl)⟩
          · exact ⟨(by first | rfl | exact z_nb _), z_pb hpo ((if_pos h1).trans ((if_pos h2).trans ((if_pos h3).trans rfl))) (rfl) (rfl)⟩
    · exact h.elim
def f_X0_isPayable (S : z_MI) (P : z_ML) (x1 : Int32) : Bool :=
  if (f_X0_stillExtinguishes S P x1) = true then
    if (S 69954 x1.toNatClampNeg) = 0 then
      true
    else
      false
  else
    false
def sp_X0_isPayable : z_SP := fun as S P k => match as with
  | [.int x1] => vp_in x1 40 ∧ k (some (.int (z_b (f_X0_isPayable S P x1)))) S P
  | _ => False
def G_X0_isPayable : z_G := ([(0, .aload_n 0, 1, 0), (1, .iload_n 1, 2, 0), (2, .invokevirtual 56, 5, 0), (5, .ifCond .eq 16, 8, 21), (8, .aload_n 0, 9, 0), (9, .getfield 34, 12, 0), (12, .iload_n 1, 13, 0), (13, .baload, 14, 0), (14, .ifCond .ne 7, 17, 21), (17, .iconst 1, 18, 0), (18, .goto 4, 21, 22), (21, .iconst 0, 22, 0), (22, .ireturn, 23, 0)], [(34, 10240, 7, some 69954)], [(56, 2, (z_rc 10240 sp_X0_stillExtinguishes))], [], [], [], [], some .boolean)
set_option maxRecDepth 20000 in
set_option maxHeartbeats 4000000 in
theorem ct_X0_isPayable (l : Launch) : z_CT l yX0_isPayable cX0_isPayable 2 (some .boolean) (z_rc 10240 sp_X0_isPayable) 1 := by
  refine z_CT_of G_X0_isPayable (by decide) (by decide +kernel) (z_pok_of ft_X0 ci_X0 cL_X0_L fo_X0 co_X0 lo_X0 (by decide +kernel)) rfl rfl ?_ ?_ ?_
  · intro as S P Po h0
    obtain ⟨as, rfl, h⟩ := z_rc_of h0
    unfold sp_X0_isPayable at h
    split at h
    · exact Nat.le_of_ble_eq_true rfl
    · exact h.elim
  · exact List.forall_mem_cons.mpr ⟨z_coV (ct_X0_stillExtinguishes l) kb_X0_stillExtinguishes kv_X0_56 ko_X0 (by decide) (by decide) (by decide), fun _ h => absurd h List.not_mem_nil⟩
  · intro as S P Po h0 V hV hW
    obtain ⟨as, rfl, h⟩ := z_rc_of h0
    unfold sp_X0_isPayable at h
    split at h
    · rename_i x1
      obtain ⟨hp0, hpo⟩ := h
      refine hV [] 18 0 _ _ _ _ ?_
      refine ⟨(show vp_in x1 40 by assumption), ?_⟩
      refine z_br (fun (h1 : (f_X0_stillExtinguishes S P x1) = false) => ?_) (fun (h1 : (f_X0_stillExtinguishes S P x1) = true) => ?_)
      · exact ⟨(by first | rfl | exact z_nb _), z_pb hpo ((if_neg (z_nt h1)).trans rfl) (rfl) (rfl)⟩
      · refine ⟨(show vp_in x1 40 by assumption), ?_⟩
        refine ⟨fun (h2 : ¬ ((S 69954 x1.toNatClampNeg) = 0)) => ?_, fun (h2 : (S 69954 x1.toNatClampNeg) = 0) => ?_⟩
        · exact ⟨(by first | rfl | exact z_nb _), z_pb hpo ((if_pos h1).trans ((if_neg h2).trans rfl)) (rfl) (rfl)⟩
        · exact ⟨(by first | rfl | exact z_nb _), z_pb hpo ((if_pos h1).trans ((if_pos h2).trans rfl)) (rfl) (rfl)⟩
    · exact h.elim
def f_X0_isAhead (S : z_MI) (P : z_ML) (x1 : Int32) (x2 : Int32) : Bool :=
  if (S 55617 x1.toNatClampNeg) < (S 55617 x2.toNatClampNeg) then
    true
  else
    if (S 55617 x1.toNatClampNeg) = (S 55617 x2.toNatClampNeg) then
      if x2 ≤ x1 then
        false
      else
        true
    else
      false
def sp_X0_isAhead : z_SP := fun as S P k => match as with
  | [.int x1, .int x2] => vp_in x1 40 ∧ vp_in x2 40 ∧ k (some (.int (z_b (f_X0_isAhead S P x1 x2)))) S P
  | _ => False
def G_X0_isAhead : z_G := ([(0, .aload_n 0, 1, 0), (1, .getfield 9, 4, 0), (4, .iload_n 1, 5, 0), (5, .iaload, 6, 0), (6, .aload_n 0, 7, 0), (7, .getfield 9, 10, 0), (10, .iload_n 2, 11, 0), (11, .iaload, 12, 0), (12, .if_icmp .lt 23, 15, 35), (15, .aload_n 0, 16, 0), (16, .getfield 9, 19, 0), (19, .iload_n 1, 20, 0), (20, .iaload, 21, 0), (21, .aload_n 0, 22, 0), (22, .getfield 9, 25, 0), (25, .iload_n 2, 26, 0), (26, .iaload, 27, 0), (27, .if_icmp .ne 12, 30, 39), (30, .iload_n 1, 31, 0), (31, .iload_n 2, 32, 0), (32, .if_icmp .ge 7, 35, 39), (35, .iconst 1, 36, 0), (36, .goto 4, 39, 40), (39, .iconst 0, 40, 0), (40, .ireturn, 41, 0)], [(9, 10240, 0, some 55617)], [], [], [], [], [], some .boolean)
set_option maxRecDepth 20000 in
set_option maxHeartbeats 4000000 in
theorem ct_X0_isAhead (l : Launch) : z_CT l yX0_isAhead cX0_isAhead 3 (some .boolean) (z_rc 10240 sp_X0_isAhead) 0 := by
  refine z_CT_of G_X0_isAhead (by decide) (by decide +kernel) (z_pok_of ft_X0 ci_X0 cL_X0_L fo_X0 co_X0 lo_X0 (by decide +kernel)) rfl rfl ?_ ?_ ?_
  · intro as S P Po h0
    obtain ⟨as, rfl, h⟩ := z_rc_of h0
    unfold sp_X0_isAhead at h
    split at h
    · exact Nat.le_of_ble_eq_true rfl
    · exact h.elim
  · exact fun _ h => absurd h List.not_mem_nil
  · intro as S P Po h0 V hV hW
    obtain ⟨as, rfl, h⟩ := z_rc_of h0
    unfold sp_X0_isAhead at h
    split at h
    · rename_i x1 x2
      obtain ⟨hp0, hp1, hpo⟩ := h
      refine hV [] 30 0 _ _ _ _ ?_
      refine ⟨(show vp_in x1 40 by assumption), ?_⟩
      refine ⟨(show vp_in x2 40 by assumption), ?_⟩
      refine ⟨fun (h1 : (S 55617 x1.toNatClampNeg) < (S 55617 x2.toNatClampNeg)) => ?_, fun (h1 : ¬ ((S 55617 x1.toNatClampNeg) < (S 55617 x2.toNatClampNeg))) => ?_⟩
      · exact ⟨(by first | rfl | exact z_nb _), z_pb hpo ((if_pos h1).trans rfl) (rfl) (rfl)⟩
      · refine ⟨(show vp_in x1 40 by assumption), ?_⟩
        refine ⟨(show vp_in x2 40 by assumption), ?_⟩
        refine ⟨fun (h2 : ¬ ((S 55617 x1.toNatClampNeg) = (S 55617 x2.toNatClampNeg))) => ?_, fun (h2 : (S 55617 x1.toNatClampNeg) = (S 55617 x2.toNatClampNeg)) => ?_⟩
        · exact ⟨(by first | rfl | exact z_nb _), z_pb hpo ((if_neg h1).trans ((if_neg h2).trans rfl)) (rfl) (rfl)⟩
        · refine ⟨fun (h3 : x2 ≤ x1) => ?_, fun (h3 : ¬ (x2 ≤ x1)) => ?_⟩
          · exact ⟨(by first | rfl | exact z_nb _), z_pb hpo ((if_neg h1).trans ((if_pos h2).trans ((if_pos h3).trans rfl))) (rfl) (rfl)⟩
          · exact ⟨(by first | rfl | exact z_nb _), z_pb hpo ((if_neg h1).trans ((if_pos h2).trans ((if_neg h3).trans rfl))) (rfl) (rfl)⟩
    · exact h.elim
def l_X0_takenBy_10 (S : z_MI) (P : z_ML) (x1 : Int32) (x2 : Int32) (k10 : Nat) (a10 : Int32) : Int32 :=
  if (f_X0_isAhead S P (nI k10) x1) = true then
    if (f_X0_stillExtinguishes S P (nI k10)) = true then
      if (f_X6_isIn S P (S 57665 ((nI k10).toNatClampNeg)) x2) = true then
        a10 &&& ((S 59713 ((nI k10).toNatClampNeg)) ^^^ (-1))
      else
        a10
    else
      a10
  else
    a10
def f_X0_takenBy (S : z_MI) (P : z_ML) (x1 : Int32) (x2 : Int32) : Int32 :=
  (z_fo (fun k10 a10 => l_X0_takenBy_10 S P x1 x2 k10 a10) (S 59713 x1.toNatClampNeg) (S 10240 8).toNatClampNeg)
def sp_X0_takenBy : z_SP := fun as S P k => match as with
  | [.int x1, .int x2] => vp_in x1 40 ∧ z_le (S 10240 8) 40 ∧ k (some (.int (f_X0_takenBy S P x1 x2))) S P
  | _ => False
def G_X0_takenBy : z_G := ([(0, .aload_n 0, 1, 0), (1, .getfield 18, 4, 0), (4, .iload_n 1, 5, 0), (5, .iaload, 6, 0), (6, .istore_n 3, 7, 0), (7, .iconst 0, 8, 0), (8, .istore 4, 10, 0), (10, .iload 4, 12, 0), (12, .aload_n 0, 13, 0), (13, .getfield 37, 16, 0), (16, .if_icmp .ge 54, 19, 70), (19, .aload_n 0, 20, 0), (20, .iload 4, 22, 0), (22, .iload_n 1, 23, 0), (23, .invokevirtual 60, 26, 0), (26, .ifCond .eq 38, 29, 64), (29, .aload_n 0, 30, 0), (30, .iload 4, 32, 0), (32, .invokevirtual 56, 35, 0), (35, .ifCond .eq 29, 38, 64), (38, .aload_n 0, 39, 0), (39, .getfield 15, 42, 0), (42, .iload 4, 44, 0), (44, .iaload, 45, 0), (45, .iload_n 2, 46, 0), (46, .invokestatic 41, 49, 0), (49, .ifCond .eq 15, 52, 64), (52, .iload_n 3, 53, 0), (53, .aload_n 0, 54, 0), (54, .getfield 18, 57, 0), (57, .iload 4, 59, 0), (59, .iaload, 60, 0), (60, .iconst (-1), 61, 0), (61, .ixor, 62, 0), (62, .iand, 63, 0), (63, .istore_n 3, 64, 0), (64, .iinc 4 1, 67, 0), (67, .goto (-57), 70, 10), (70, .iload_n 3, 71, 0), (71, .ireturn, 72, 0)], [(15, 10240, 1, some 57665), (18, 10240, 2, some 59713), (37, 10240, 8, none)], [(100041, 2, sp_X6_isIn), (56, 2, (z_rc 10240 sp_X0_stillExtinguishes)), (60, 3, (z_rc 10240 sp_X0_isAhead))], [], [], [], [], some .int)
set_option maxRecDepth 20000 in
set_option maxHeartbeats 4000000 in
theorem ct_X0_takenBy (l : Launch) : z_CT l yX0_takenBy cX0_takenBy 5 (some .int) (z_rc 10240 sp_X0_takenBy) 1 := by
  refine z_CT_of G_X0_takenBy (by decide) (by decide +kernel) (z_pok_of ft_X0 ci_X0 cL_X0_L fo_X0 co_X0 lo_X0 (by decide +kernel)) rfl rfl ?_ ?_ ?_
  · intro as S P Po h0
    obtain ⟨as, rfl, h⟩ := z_rc_of h0
    unfold sp_X0_takenBy at h
    split at h
    · exact Nat.le_of_ble_eq_true rfl
    · exact h.elim
  · exact List.forall_mem_cons.mpr ⟨z_coN (host := "Songlinebench") (ct_X6_isIn l) kb_X6_isIn kn_X0_41 (by decide) (by decide), List.forall_mem_cons.mpr ⟨z_coV (ct_X0_stillExtinguishes l) kb_X0_stillExtinguishes kv_X0_56 ko_X0 (by decide) (by decide) (by decide), List.forall_mem_cons.mpr ⟨z_coV (ct_X0_isAhead l) kb_X0_isAhead kv_X0_60 ko_X0 (by decide) (by decide) (by decide), fun _ h => absurd h List.not_mem_nil⟩⟩⟩
  · intro as S P Po h0 V hV hW
    obtain ⟨as, rfl, h⟩ := z_rc_of h0
    unfold sp_X0_takenBy at h
    split at h
    · rename_i x1 x2
      obtain ⟨hp0, hp1, hpo⟩ := h
      refine hV [10] 45 0 _ _ _ _ ?_
      refine ⟨(show vp_in x1 40 by assumption), ?_⟩
      obtain ⟨hb10, hN10⟩ := z_le_cl (show z_le (S 10240 8) 40 by assumption) (by decide)
      have hL10 : ∀ (j k10 : Nat) (x900 : Int32) (a10 : Int32), k10 + j = (S 10240 8).toNatClampNeg → x900 = nI k10 → a10 = z_fo (fun k10 a10 => l_X0_takenBy_10 S P x1 x2 k10 a10) (S 59713 x1.toNatClampNeg) k10 → V 10 [(0, .ref 10240), (1, .int x1), (2, .int x2), (3, .int a10), (4, .int x900)] [] S P := by
        intro j
        induction j with
        | zero =>
          intro k10 x900 a10 hk10 hx10 ha10
          subst hx10
          have hk9 : k10 = (S 10240 8).toNatClampNeg := by omega
          subst hk9
          subst ha10
          refine hV [10] 45 10 _ _ _ _ ?_
          refine ⟨fun _ => ?_, fun h => absurd ((z_brge hb10 (by omega) (by omega)).mpr (Nat.le_refl _)) h⟩
          exact z_pi hpo (rfl) (rfl) (rfl)
        | succ j ih =>
          intro k10 x900 a10 hk10 hx10 ha10
          subst hx10
          have hk9 : k10 < (S 10240 8).toNatClampNeg := by omega
          subst ha10
          refine hV [10] 45 10 _ _ _ _ ?_
          refine ⟨fun h => absurd ((z_brge hb10 (by omega) (by omega)).mp h) (by omega), fun _ => ?_⟩
          refine ⟨(show vp_in (nI k10) 40 by exact vp_in_nI (by omega) (by omega)), (show vp_in x1 40 by assumption), ?_⟩
          refine z_br (fun (h2 : (f_X0_isAhead S P (nI k10) x1) = false) => ?_) (fun (h2 : (f_X0_isAhead S P (nI k10) x1) = true) => ?_)
          · exact hW [0, 1, 2, 3, 4] _ _ _ _ _ (ih (k10 + 1) _ (z_fo (fun k10 a10 => l_X0_takenBy_10 S P x1 x2 k10 a10) (S 59713 x1.toNatClampNeg) k10) (by omega) (nI_add k10 1) (((if_neg (z_nt h2)).trans rfl).symm))
          · refine ⟨(show vp_in (nI k10) 40 by exact vp_in_nI (by omega) (by omega)), ?_⟩
            refine z_br (fun (h3 : (f_X0_stillExtinguishes S P (nI k10)) = false) => ?_) (fun (h3 : (f_X0_stillExtinguishes S P (nI k10)) = true) => ?_)
            · exact hW [0, 1, 2, 3, 4] _ _ _ _ _ (ih (k10 + 1) _ (z_fo (fun k10 a10 => l_X0_takenBy_10 S P x1 x2 k10 a10) (S 59713 x1.toNatClampNeg) k10) (by omega) (nI_add k10 1) (((if_pos h2).trans ((if_neg (z_nt h3)).trans rfl)).symm))
            · refine ⟨(show vp_in (nI k10) 40 by exact vp_in_nI (by omega) (by omega)), ?_⟩
              refine z_br (fun (h4 : (f_X6_isIn S P (S 57665 ((nI k10).toNatClampNeg)) x2) = false) => ?_) (fun (h4 : (f_X6_isIn S P (S 57665 ((nI k10).toNatClampNeg)) x2) = true) => ?_)
              · exact hW [0, 1, 2, 3, 4] _ _ _ _ _ (ih (k10 + 1) _ (z_fo (fun k10 a10 => l_X0_takenBy_10 S P x1 x2 k10 a10) (S 59713 x1.toNatClampNeg) k10) (by omega) (nI_add k10 1) (((if_pos h2).trans ((if_pos h3).trans ((if_neg (z_nt h4)).trans rfl))).symm))
              · refine ⟨(show vp_in (nI k10) 40 by exact vp_in_nI (by omega) (by omega)), ?_⟩
                exact hW [0, 1, 2, 3, 4] _ _ _ _ _ (ih (k10 + 1) _ ((z_fo (fun k10 a10 => l_X0_takenBy_10 S P x1 x2 k10 a10) (S 59713 x1.toNatClampNeg) k10) &&& ((S 59713 ((nI k10).toNatClampNeg)) ^^^ (-1))) (by omega) (nI_add k10 1) (((if_pos h2).trans ((if_pos h3).trans ((if_pos h4).trans rfl))).symm))
      exact hW [0, 1, 2, 3, 4] _ _ _ _ _ (hL10 (S 10240 8).toNatClampNeg 0 _ (S 59713 x1.toNatClampNeg) (Nat.zero_add _) rfl rfl)
    · exact h.elim
def f_X1_isClaim (S : z_MI) (P : z_ML) (x1 : Int32) : Bool :=
  if x1 < 0 then
    false
  else
    if (S 12296 8) ≤ x1 then
      false
    else
      true
def sp_X1_isClaim : z_SP := fun as S P k => match as with
  | [.int x1] => k (some (.int (z_b (f_X1_isClaim S P x1)))) S P
  | _ => False
def G_X1_isClaim : z_G := ([(0, .iload_n 1, 1, 0), (1, .ifCond .lt 15, 4, 16), (4, .iload_n 1, 5, 0), (5, .aload_n 0, 6, 0), (6, .getfield 36, 9, 0), (9, .if_icmp .ge 7, 12, 16), (12, .iconst 1, 13, 0), (13, .goto 4, 16, 17), (16, .iconst 0, 17, 0), (17, .ireturn, 18, 0)], [(36, 12296, 8, none)], [], [], [], [], [], some .boolean)
set_option maxRecDepth 20000 in
set_option maxHeartbeats 4000000 in
theorem ct_X1_isClaim (l : Launch) : z_CT l yX1_isClaim cX1_isClaim 2 (some .boolean) (z_rc 12296 sp_X1_isClaim) 0 := by
  refine z_CT_of G_X1_isClaim (by decide) (by decide +kernel) (z_pok_of ft_X1 ci_X1 cL_X1_L fo_X1 co_X1 lo_X1 (by decide +kernel)) rfl rfl ?_ ?_ ?_
  · intro as S P Po h0
    obtain ⟨as, rfl, h⟩ := z_rc_of h0
    unfold sp_X1_isClaim at h
    split at h
    · exact Nat.le_of_ble_eq_true rfl
    · exact h.elim
  · exact fun _ h => absurd h List.not_mem_nil
  · intro as S P Po h0 V hV hW
    obtain ⟨as, rfl, h⟩ := z_rc_of h0
    unfold sp_X1_isClaim at h
    split at h
    · rename_i x1
      have hpo := h
      refine hV [] 15 0 _ _ _ _ ?_
      refine ⟨fun (h1 : x1 < 0) => ?_, fun (h1 : ¬ (x1 < 0)) => ?_⟩
      · exact ⟨(by first | rfl | exact z_nb _), z_pb hpo ((if_pos h1).trans rfl) (rfl) (rfl)⟩
      · refine ⟨fun (h2 : (S 12296 8) ≤ x1) => ?_, fun (h2 : ¬ ((S 12296 8) ≤ x1)) => ?_⟩
        · exact ⟨(by first | rfl | exact z_nb _), z_pb hpo ((if_neg h1).trans ((if_pos h2).trans rfl)) (rfl) (rfl)⟩
        · exact ⟨(by first | rfl | exact z_nb _), z_pb hpo ((if_neg h1).trans ((if_neg h2).trans rfl)) (rfl) (rfl)⟩
    · exact h.elim
def f_X1_add (S : z_MI) (P : z_ML) (x1 : Int32) (x2 : Int32) (x3 : Int32) : Int32 :=
  S 12296 8
def u_X1_add (S : z_MI) (P : z_ML) (x1 : Int32) (x2 : Int32) (x3 : Int32) : z_MI :=
  va_up (va_up (va_up (va_up (va_up (va_up S 71777 (upd (S 71777) ((S 12296 8).toNatClampNeg) x1)) 73825 (upd ((va_up S 71777 (upd (S 71777) ((S 12296 8).toNatClampNeg) x1)) 73825) ((S 12296 8).toNatClampNeg) x2)) 75873 (upd ((va_up (va_up S 71777 (upd (S 71777) ((S 12296 8).toNatClampNeg) x1)) 73825 (upd ((va_up S 71777 (upd (S 71777) ((S 12296 8).toNatClampNeg) x1)) 73825) ((S 12296 8).toNatClampNeg) x2)) 75873) ((S 12296 8).toNatClampNeg) x3)) 77921 (upd ((va_up (va_up (va_up S 71777 (upd (S 71777) ((S 12296 8).toNatClampNeg) x1)) 73825 (upd ((va_up S 71777 (upd (S 71777) ((S 12296 8).toNatClampNeg) x1)) 73825) ((S 12296 8).toNatClampNeg) x2)) 75873 (upd ((va_up (va_up S 71777 (upd (S 71777) ((S 12296 8).toNatClampNeg) x1)) 73825 (upd ((va_up S 71777 (upd (S 71777) ((S 12296 8).toNatClampNeg) x1)) 73825) ((S 12296 8).toNatClampNeg) x2)) 75873) ((S 12296 8).toNatClampNeg) x3)) 77921) ((S 12296 8).toNatClampNeg) (nI 0))) 82017 (upd ((va_up (va_up (va_up (va_up S 71777 (upd (S 71777) ((S 12296 8).toNatClampNeg) x1)) 73825 (upd ((va_up S 71777 (upd (S 71777) ((S 12296 8).toNatClampNeg) x1)) 73825) ((S 12296 8).toNatClampNeg) x2)) 75873 (upd ((va_up (va_up S 71777 (upd (S 71777) ((S 12296 8).toNatClampNeg) x1)) 73825 (upd ((va_up S 71777 (upd (S 71777) ((S 12296 8).toNatClampNeg) x1)) 73825) ((S 12296 8).toNatClampNeg) x2)) 75873) ((S 12296 8).toNatClampNeg) x3)) 77921 (upd ((va_up (va_up (va_up S 71777 (upd (S 71777) ((S 12296 8).toNatClampNeg) x1)) 73825 (upd ((va_up S 71777 (upd (S 71777) ((S 12296 8).toNatClampNeg) x1)) 73825) ((S 12296 8).toNatClampNeg) x2)) 75873 (upd ((va_up (va_up S 71777 (upd (S 71777) ((S 12296 8).toNatClampNeg) x1)) 73825 (upd ((va_up S 71777 (upd (S 71777) ((S 12296 8).toNatClampNeg) x1)) 73825) ((S 12296 8).toNatClampNeg) x2)) 75873) ((S 12296 8).toNatClampNeg) x3)) 77921) ((S 12296 8).toNatClampNeg) (nI 0))) 82017) ((S 12296 8).toNatClampNeg) (-1))) 12296 (upd ((va_up (va_up (va_up (va_up (va_up S 71777 (upd (S 71777) ((S 12296 8).toNatClampNeg) x1)) 73825 (upd ((va_up S 71777 (upd (S 71777) ((S 12296 8).toNatClampNeg) x1)) 73825) ((S 12296 8).toNatClampNeg) x2)) 75873 (upd ((va_up (va_up S 71777 (upd (S 71777) ((S 12296 8).toNatClampNeg) x1)) 73825 (upd ((va_up S 71777 (upd (S 71777) ((S 12296 8).toNatClampNeg) x1)) 73825) ((S 12296 8).toNatClampNeg) x2)) 75873) ((S 12296 8).toNatClampNeg) x3)) 77921 (upd ((va_up (va_up (va_up S 71777 (upd (S 71777) ((S 12296 8).toNatClampNeg) x1)) 73825 (upd ((va_up S 71777 (upd (S 71777) ((S 12296 8).toNatClampNeg) x1)) 73825) ((S 12296 8).toNatClampNeg) x2)) 75873 (upd ((va_up (va_up S 71777 (upd (S 71777) ((S 12296 8).toNatClampNeg) x1)) 73825 (upd ((va_up S 71777 (upd (S 71777) ((S 12296 8).toNatClampNeg) x1)) 73825) ((S 12296 8).toNatClampNeg) x2)) 75873) ((S 12296 8).toNatClampNeg) x3)) 77921) ((S 12296 8).toNatClampNeg) (nI 0))) 82017 (upd ((va_up (va_up (va_up (va_up S 71777 (upd (S 71777) ((S 12296 8).toNatClampNeg) x1)) 73825 (upd ((va_up S 71777 (upd (S 71777) ((S 12296 8).toNatClampNeg) x1)) 73825) ((S 12296 8).toNatClampNeg) x2)) 75873 (upd ((va_up (va_up S 71777 (upd (S 71777) ((S 12296 8).toNatClampNeg) x1)) 73825 (upd ((va_up S 71777 (upd (S 71777) ((S 12296 8).toNatClampNeg) x1)) 73825) ((S 12296 8).toNatClampNeg) x2)) 75873) ((S 12296 8).toNatClampNeg) x3)) 77921 (upd ((va_up (va_up (va_up S 71777 (upd (S 71777) ((S 12296 8).toNatClampNeg) x1)) 73825 (upd ((va_up S 71777 (upd (S 71777) ((S 12296 8).toNatClampNeg) x1)) 73825) ((S 12296 8).toNatClampNeg) x2)) 75873 (upd ((va_up (va_up S 71777 (upd (S 71777) ((S 12296 8).toNatClampNeg) x1)) 73825 (upd ((va_up S 71777 (upd (S 71777) ((S 12296 8).toNatClampNeg) x1)) 73825) ((S 12296 8).toNatClampNeg) x2)) 75873) ((S 12296 8).toNatClampNeg) x3)) 77921) ((S 12296 8).toNatClampNeg) (nI 0))) 82017) ((S 12296 8).toNatClampNeg) (-1))) 12296) 8 ((S 12296 8) + (nI 1)))
def sp_X1_add : z_SP := fun as S P k => match as with
  | [.int x1, .int x2, .int x3] => vp_in (S 12296 8) 12 ∧ k (some (.int (f_X1_add S P x1 x2 x3))) (u_X1_add S P x1 x2 x3) P
  | _ => False
def G_X1_add : z_G := ([(0, .aload_n 0, 1, 0), (1, .getfield 36, 4, 0), (4, .istore 4, 6, 0), (6, .aload_n 0, 7, 0), (7, .getfield 9, 10, 0), (10, .iload 4, 12, 0), (12, .iload_n 1, 13, 0), (13, .iastore, 14, 0), (14, .aload_n 0, 15, 0), (15, .getfield 15, 18, 0), (18, .iload 4, 20, 0), (20, .iload_n 2, 21, 0), (21, .iastore, 22, 0), (22, .aload_n 0, 23, 0), (23, .getfield 18, 26, 0), (26, .iload 4, 28, 0), (28, .iload_n 3, 29, 0), (29, .iastore, 30, 0), (30, .aload_n 0, 31, 0), (31, .getfield 21, 34, 0), (34, .iload 4, 36, 0), (36, .iconst 0, 37, 0), (37, .iastore, 38, 0), (38, .aload_n 0, 39, 0), (39, .getfield 27, 42, 0), (42, .iload 4, 44, 0), (44, .iconst (-1), 45, 0), (45, .iastore, 46, 0), (46, .aload_n 0, 47, 0), (47, .dup, 48, 0), (48, .getfield 36, 51, 0), (51, .iconst 1, 52, 0), (52, .iadd, 53, 0), (53, .putfield 36, 56, 0), (56, .iload 4, 58, 0), (58, .ireturn, 59, 0)], [(9, 12296, 0, some 71777), (15, 12296, 1, some 73825), (18, 12296, 2, some 75873), (21, 12296, 3, some 77921), (27, 12296, 5, some 82017), (36, 12296, 8, none)], [], [], [], [], [], some .int)
set_option maxRecDepth 20000 in
set_option maxHeartbeats 4000000 in
theorem ct_X1_add (l : Launch) : z_CT l yX1_add cX1_add 5 (some .int) (z_rc 12296 sp_X1_add) 0 := by
  refine z_CT_of G_X1_add (by decide) (by decide +kernel) (z_pok_of ft_X1 ci_X1 cL_X1_L fo_X1 co_X1 lo_X1 (by decide +kernel)) rfl rfl ?_ ?_ ?_
  · intro as S P Po h0
    obtain ⟨as, rfl, h⟩ := z_rc_of h0
    unfold sp_X1_add at h
    split at h
    · exact Nat.le_of_ble_eq_true rfl
    · exact h.elim
  · exact fun _ h => absurd h List.not_mem_nil
  · intro as S P Po h0 V hV hW
    obtain ⟨as, rfl, h⟩ := z_rc_of h0
    unfold sp_X1_add at h
    split at h
    · rename_i x1 x2 x3
      obtain ⟨hp0, hpo⟩ := h
      refine hV [] 41 0 _ _ _ _ ?_
      refine ⟨(show vp_in (S 12296 8) 12 by assumption), ?_⟩
      refine ⟨(show vp_in (S 12296 8) 12 by assumption), ?_⟩
      refine ⟨(show vp_in (S 12296 8) 12 by assumption), ?_⟩
      refine ⟨(show vp_in (S 12296 8) 12 by assumption), ?_⟩
      refine ⟨(show vp_in (S 12296 8) 12 by assumption), ?_⟩
      exact z_pi hpo (rfl) (rfl) (rfl)
    · exact h.elim
def u_X1_grant (S : z_MI) (P : z_ML) (x1 : Int32) (x2 : Int32) : z_MI :=
  if x2 = 0 then
    va_up (va_up S 79969 (upd (S 79969) x1.toNatClampNeg x2)) 77921 (upd ((va_up S 79969 (upd (S 79969) x1.toNatClampNeg x2)) 77921) x1.toNatClampNeg (nI 3))
  else
    va_up (va_up S 79969 (upd (S 79969) x1.toNatClampNeg x2)) 77921 (upd ((va_up S 79969 (upd (S 79969) x1.toNatClampNeg x2)) 77921) x1.toNatClampNeg (nI 2))
def sp_X1_grant : z_SP := fun as S P k => match as with
  | [.int x1, .int x2] => vp_in x1 12 ∧ k (none) (u_X1_grant S P x1 x2) P
  | _ => False
def G_X1_grant : z_G := ([(0, .aload_n 0, 1, 0), (1, .getfield 24, 4, 0), (4, .iload_n 1, 5, 0), (5, .iload_n 2, 6, 0), (6, .iastore, 7, 0), (7, .aload_n 0, 8, 0), (8, .getfield 21, 11, 0), (11, .iload_n 1, 12, 0), (12, .iload_n 2, 13, 0), (13, .ifCond .ne 7, 16, 20), (16, .iconst 3, 17, 0), (17, .goto 4, 20, 21), (20, .iconst 2, 21, 0), (21, .iastore, 22, 0), (22, .return_, 23, 0)], [(21, 12296, 3, some 77921), (24, 12296, 4, some 79969)], [], [], [], [], [], none)
set_option maxRecDepth 20000 in
set_option maxHeartbeats 4000000 in
theorem ct_X1_grant (l : Launch) : z_CT l yX1_grant cX1_grant 3 (none) (z_rc 12296 sp_X1_grant) 0 := by
  refine z_CT_of G_X1_grant (by decide) (by decide +kernel) (z_pok_of ft_X1 ci_X1 cL_X1_L fo_X1 co_X1 lo_X1 (by decide +kernel)) rfl rfl ?_ ?_ ?_
  · intro as S P Po h0
    obtain ⟨as, rfl, h⟩ := z_rc_of h0
    unfold sp_X1_grant at h
    split at h
    · exact Nat.le_of_ble_eq_true rfl
    · exact h.elim
  · exact fun _ h => absurd h List.not_mem_nil
  · intro as S P Po h0 V hV hW
    obtain ⟨as, rfl, h⟩ := z_rc_of h0
    unfold sp_X1_grant at h
    split at h
    · rename_i x1 x2
      obtain ⟨hp0, hpo⟩ := h
      refine hV [] 20 0 _ _ _ _ ?_
      refine ⟨(show vp_in x1 12 by assumption), ?_⟩
      refine ⟨fun (h1 : ¬ (x2 = 0)) => ?_, fun (h1 : x2 = 0) => ?_⟩
      · refine ⟨(show vp_in x1 12 by assumption), ?_⟩
        exact z_pv hpo ((if_neg h1).trans rfl) (rfl)
      · refine ⟨(show vp_in x1 12 by assumption), ?_⟩
        exact z_pv hpo ((if_pos h1).trans rfl) (rfl)
    · exact h.elim
def l_X1_isBarred_2 (S : z_MI) (P : z_ML) (x1 : Int32) (k2 : Nat) (a2 : Unit) : (Unit) ⊕ (Bool) :=
  if (nI k2) = x1 then
    .inl ()
  else
    if (S 71777 ((nI k2).toNatClampNeg)) = (S 71777 x1.toNatClampNeg) then
      if (S 77921 ((nI k2).toNatClampNeg)) = (nI 1) then
        if ((S 73825 ((nI k2).toNatClampNeg)) &&& (S 73825 x1.toNatClampNeg)) = 0 then
          .inl ()
        else
          .inr true
      else
        .inl ()
    else
      .inl ()
def f_X1_isBarred (S : z_MI) (P : z_ML) (x1 : Int32) : Bool :=
  Sum.elim (fun a2 =>
    false) (fun r => r) (z_fx (fun k2 a2 => l_X1_isBarred_2 S P x1 k2 a2) () (S 12296 8).toNatClampNeg)
def sp_X1_isBarred : z_SP := fun as S P k => match as with
  | [.int x1] => z_le (S 12296 8) 12 ∧ vp_in x1 12 ∧ k (some (.int (z_b (f_X1_isBarred S P x1)))) S P
  | _ => False
def G_X1_isBarred : z_G := ([(0, .iconst 0, 1, 0), (1, .istore_n 2, 2, 0), (2, .iload_n 2, 3, 0), (3, .aload_n 0, 4, 0), (4, .getfield 36, 7, 0), (7, .if_icmp .ge 57, 10, 64), (10, .iload_n 2, 11, 0), (11, .iload_n 1, 12, 0), (12, .if_icmp .eq 46, 15, 58), (15, .aload_n 0, 16, 0), (16, .getfield 9, 19, 0), (19, .iload_n 2, 20, 0), (20, .iaload, 21, 0), (21, .aload_n 0, 22, 0), (22, .getfield 9, 25, 0), (25, .iload_n 1, 26, 0), (26, .iaload, 27, 0), (27, .if_icmp .ne 31, 30, 58), (30, .aload_n 0, 31, 0), (31, .getfield 21, 34, 0), (34, .iload_n 2, 35, 0), (35, .iaload, 36, 0), (36, .iconst 1, 37, 0), (37, .if_icmp .ne 21, 40, 58), (40, .aload_n 0, 41, 0), (41, .getfield 15, 44, 0), (44, .iload_n 2, 45, 0), (45, .iaload, 46, 0), (46, .aload_n 0, 47, 0), (47, .getfield 15, 50, 0), (50, .iload_n 1, 51, 0), (51, .iaload, 52, 0), (52, .iand, 53, 0), (53, .ifCond .eq 5, 56, 58), (56, .iconst 1, 57, 0), (57, .ireturn, 58, 0), (58, .iinc 2 1, 61, 0), (61, .goto (-59), 64, 2), (64, .iconst 0, 65, 0), (65, .ireturn, 66, 0)], [(9, 12296, 0, some 71777), (15, 12296, 1, some 73825), (21, 12296, 3, some 77921), (36, 12296, 8, none)], [], [], [], [], [], some .boolean)
set_option maxRecDepth 20000 in
set_option maxHeartbeats 4000000 in
theorem ct_X1_isBarred (l : Launch) : z_CT l yX1_isBarred cX1_isBarred 3 (some .boolean) (z_rc 12296 sp_X1_isBarred) 0 := by
  refine z_CT_of G_X1_isBarred (by decide) (by decide +kernel) (z_pok_of ft_X1 ci_X1 cL_X1_L fo_X1 co_X1 lo_X1 (by decide +kernel)) rfl rfl ?_ ?_ ?_
  · intro as S P Po h0
    obtain ⟨as, rfl, h⟩ := z_rc_of h0
    unfold sp_X1_isBarred at h
    split at h
    · exact Nat.le_of_ble_eq_true rfl
    · exact h.elim
  · exact fun _ h => absurd h List.not_mem_nil
  · intro as S P Po h0 V hV hW
    obtain ⟨as, rfl, h⟩ := z_rc_of h0
    unfold sp_X1_isBarred at h
    split at h
    · rename_i x1
      obtain ⟨hp0, hp1, hpo⟩ := h
      refine hV [2] 45 0 _ _ _ _ ?_
      obtain ⟨hb2, hN2⟩ := z_le_cl (show z_le (S 12296 8) 12 by assumption) (by decide)
      have hL2 : ∀ (j k2 : Nat) (x900 : Int32) (a2 : Unit), k2 + j = (S 12296 8).toNatClampNeg → x900 = nI k2 → z_fx (fun k2 a2 => l_X1_isBarred_2 S P x1 k2 a2) () k2 = .inl a2 → V 2 [(0, .ref 12296), (1, .int x1), (2, .int x900)] [] S P := by
        intro j
        induction j with
        | zero =>
          intro k2 x900 a2 hk2 hx2 ha2
          subst hx2
          have hk9 : k2 = (S 12296 8).toNatClampNeg := by omega
          subst hk9
          refine hV [2] 45 2 _ _ _ _ ?_
          refine ⟨fun _ => ?_, fun h => absurd ((z_brge hb2 (by omega) (by omega)).mpr (Nat.le_refl _)) h⟩
          exact ⟨(by first | rfl | exact z_nb _), z_pb hpo ((congrArg (Sum.elim _ _) ha2).trans rfl) (rfl) (rfl)⟩
        | succ j ih =>
          intro k2 x900 a2 hk2 hx2 ha2
          subst hx2
          have hk9 : k2 < (S 12296 8).toNatClampNeg := by omega
          refine hV [2] 45 2 _ _ _ _ ?_
          refine ⟨fun h => absurd ((z_brge hb2 (by omega) (by omega)).mp h) (by omega), fun _ => ?_⟩
          refine ⟨fun (h2 : (nI k2) = x1) => ?_, fun (h2 : ¬ ((nI k2) = x1)) => ?_⟩
          · exact hW [0, 1, 2] _ _ _ _ _ (ih (k2 + 1) _ () (by omega) (nI_add k2 1) ((z_fx_s ha2).trans ((if_pos h2).trans rfl)))
          · refine ⟨(show vp_in (nI k2) 12 by exact vp_in_nI (by omega) (by omega)), ?_⟩
            refine ⟨(show vp_in x1 12 by assumption), ?_⟩
            refine ⟨fun (h3 : ¬ ((S 71777 ((nI k2).toNatClampNeg)) = (S 71777 x1.toNatClampNeg))) => ?_, fun (h3 : (S 71777 ((nI k2).toNatClampNeg)) = (S 71777 x1.toNatClampNeg)) => ?_⟩
            · exact hW [0, 1, 2] _ _ _ _ _ (ih (k2 + 1) _ () (by omega) (nI_add k2 1) ((z_fx_s ha2).trans ((if_neg h2).trans ((if_neg h3).trans rfl))))
            · refine ⟨(show vp_in (nI k2) 12 by exact vp_in_nI (by omega) (by omega)), ?_⟩
              refine ⟨fun (h4 : ¬ ((S 77921 ((nI k2).toNatClampNeg)) = (nI 1))) => ?_, fun (h4 : (S 77921 ((nI k2).toNatClampNeg)) = (nI 1)) => ?_⟩
              · exact hW [0, 1, 2] _ _ _ _ _ (ih (k2 + 1) _ () (by omega) (nI_add k2 1) ((z_fx_s ha2).trans ((if_neg h2).trans ((if_pos h3).trans ((if_neg h4).trans rfl)))))
              · refine ⟨(show vp_in (nI k2) 12 by exact vp_in_nI (by omega) (by omega)), ?_⟩
                refine ⟨(show vp_in x1 12 by assumption), ?_⟩
                refine ⟨fun (h5 : ((S 73825 ((nI k2).toNatClampNeg)) &&& (S 73825 x1.toNatClampNeg)) = 0) => ?_, fun (h5 : ¬ (((S 73825 ((nI k2).toNatClampNeg)) &&& (S 73825 x1.toNatClampNeg)) = 0)) => ?_⟩
                · exact hW [0, 1, 2] _ _ _ _ _ (ih (k2 + 1) _ () (by omega) (nI_add k2 1) ((z_fx_s ha2).trans ((if_neg h2).trans ((if_pos h3).trans ((if_pos h4).trans ((if_pos h5).trans rfl))))))
                · have hM := (z_fx_s ha2).trans ((if_neg h2).trans ((if_pos h3).trans ((if_pos h4).trans ((if_neg h5).trans rfl))))
                  have hM := z_fx_r hM (show _ ≤ (S 12296 8).toNatClampNeg by omega)
                  exact ⟨(by first | rfl | exact z_nb _), z_pb hpo ((congrArg (Sum.elim _ _) hM).trans rfl) (rfl) (rfl)⟩
      exact hW [0, 1, 2] _ _ _ _ _ (hL2 (S 12296 8).toNatClampNeg 0 _ () (Nat.zero_add _) rfl rfl)
    · exact h.elim
def f_X1_stands (S : z_MI) (P : z_ML) (x1 : Int32) : Bool :=
  if (S 77921 x1.toNatClampNeg) = (nI 1) then
    true
  else
    if (S 77921 x1.toNatClampNeg) = (nI 2) then
      true
    else
      false
def sp_X1_stands : z_SP := fun as S P k => match as with
  | [.int x1] => vp_in x1 12 ∧ k (some (.int (z_b (f_X1_stands S P x1)))) S P
  | _ => False
def G_X1_stands : z_G := ([(0, .aload_n 0, 1, 0), (1, .getfield 21, 4, 0), (4, .iload_n 1, 5, 0), (5, .iaload, 6, 0), (6, .iconst 1, 7, 0), (7, .if_icmp .eq 13, 10, 20), (10, .aload_n 0, 11, 0), (11, .getfield 21, 14, 0), (14, .iload_n 1, 15, 0), (15, .iaload, 16, 0), (16, .iconst 2, 17, 0), (17, .if_icmp .ne 7, 20, 24), (20, .iconst 1, 21, 0), (21, .goto 4, 24, 25), (24, .iconst 0, 25, 0), (25, .ireturn, 26, 0)], [(21, 12296, 3, some 77921)], [], [], [], [], [], some .boolean)
set_option maxRecDepth 20000 in
set_option maxHeartbeats 4000000 in
theorem ct_X1_stands (l : Launch) : z_CT l yX1_stands cX1_stands 2 (some .boolean) (z_rc 12296 sp_X1_stands) 0 := by
  refine z_CT_of G_X1_stands (by decide) (by decide +kernel) (z_pok_of ft_X1 ci_X1 cL_X1_L fo_X1 co_X1 lo_X1 (by decide +kernel)) rfl rfl ?_ ?_ ?_
  · intro as S P Po h0
    obtain ⟨as, rfl, h⟩ := z_rc_of h0
    unfold sp_X1_stands at h
    split at h
    · exact Nat.le_of_ble_eq_true rfl
    · exact h.elim
  · exact fun _ h => absurd h List.not_mem_nil
  · intro as S P Po h0 V hV hW
    obtain ⟨as, rfl, h⟩ := z_rc_of h0
    unfold sp_X1_stands at h
    split at h
    · rename_i x1
      obtain ⟨hp0, hpo⟩ := h
      refine hV [] 21 0 _ _ _ _ ?_
      refine ⟨(show vp_in x1 12 by assumption), ?_⟩
      refine ⟨fun (h1 : (S 77921 x1.toNatClampNeg) = (nI 1)) => ?_, fun (h1 : ¬ ((S 77921 x1.toNatClampNeg) = (nI 1))) => ?_⟩
      · exact ⟨(by first | rfl | exact z_nb _), z_pb hpo ((if_pos h1).trans rfl) (rfl) (rfl)⟩
      · refine ⟨(show vp_in x1 12 by assumption), ?_⟩
        refine ⟨fun (h2 : ¬ ((S 77921 x1.toNatClampNeg) = (nI 2))) => ?_, fun (h2 : (S 77921 x1.toNatClampNeg) = (nI 2)) => ?_⟩
        · exact ⟨(by first | rfl | exact z_nb _), z_pb hpo ((if_neg h1).trans ((if_neg h2).trans rfl)) (rfl) (rfl)⟩
        · exact ⟨(by first | rfl | exact z_nb _), z_pb hpo ((if_neg h1).trans ((if_pos h2).trans rfl)) (rfl) (rfl)⟩
    · exact h.elim
def l_X1_rivalsOf_4 (S : z_MI) (P : z_ML) (x1 : Int32) (k4 : Nat) (a4 : Int32) : Int32 :=
  if (S 71777 ((nI k4).toNatClampNeg)) = (S 71777 x1.toNatClampNeg) then
    a4
  else
    if (f_X1_stands S P (nI k4)) = true then
      if ((S 73825 ((nI k4).toNatClampNeg)) &&& (S 73825 x1.toNatClampNeg)) = 0 then
        a4
      else
        f_X6_with S P a4 (nI k4) (nI 1)
    else
      a4
def f_X1_rivalsOf (S : z_MI) (P : z_ML) (x1 : Int32) : Int32 :=
  (z_fo (fun k4 a4 => l_X1_rivalsOf_4 S P x1 k4 a4) (nI 0) (S 12296 8).toNatClampNeg)
def sp_X1_rivalsOf : z_SP := fun as S P k => match as with
  | [.int x1] => z_le (S 12296 8) 12 ∧ vp_in x1 12 ∧ k (some (.int (f_X1_rivalsOf S P x1))) S P
  | _ => False
def G_X1_rivalsOf : z_G := ([(0, .iconst 0, 1, 0), (1, .istore_n 2, 2, 0), (2, .iconst 0, 3, 0), (3, .istore_n 3, 4, 0), (4, .iload_n 3, 5, 0), (5, .aload_n 0, 6, 0), (6, .getfield 36, 9, 0), (9, .if_icmp .ge 55, 12, 64), (12, .aload_n 0, 13, 0), (13, .getfield 9, 16, 0), (16, .iload_n 3, 17, 0), (17, .iaload, 18, 0), (18, .aload_n 0, 19, 0), (19, .getfield 9, 22, 0), (22, .iload_n 1, 23, 0), (23, .iaload, 24, 0), (24, .if_icmp .eq 34, 27, 58), (27, .aload_n 0, 28, 0), (28, .iload_n 3, 29, 0), (29, .invokevirtual 40, 32, 0), (32, .ifCond .eq 26, 35, 58), (35, .aload_n 0, 36, 0), (36, .getfield 15, 39, 0), (39, .iload_n 3, 40, 0), (40, .iaload, 41, 0), (41, .aload_n 0, 42, 0), (42, .getfield 15, 45, 0), (45, .iload_n 1, 46, 0), (46, .iaload, 47, 0), (47, .iand, 48, 0), (48, .ifCond .eq 10, 51, 58), (51, .iload_n 2, 52, 0), (52, .iload_n 3, 53, 0), (53, .iconst 1, 54, 0), (54, .invokestatic 44, 57, 0), (57, .istore_n 2, 58, 0), (58, .iinc 3 1, 61, 0), (61, .goto (-57), 64, 4), (64, .iload_n 2, 65, 0), (65, .ireturn, 66, 0)], [(9, 12296, 0, some 71777), (15, 12296, 1, some 73825), (36, 12296, 8, none)], [(100044, 3, sp_X6_with), (40, 2, (z_rc 12296 sp_X1_stands))], [], [], [], [], some .int)
set_option maxRecDepth 20000 in
set_option maxHeartbeats 4000000 in
theorem ct_X1_rivalsOf (l : Launch) : z_CT l yX1_rivalsOf cX1_rivalsOf 4 (some .int) (z_rc 12296 sp_X1_rivalsOf) 1 := by
  refine z_CT_of G_X1_rivalsOf (by decide) (by decide +kernel) (z_pok_of ft_X1 ci_X1 cL_X1_L fo_X1 co_X1 lo_X1 (by decide +kernel)) rfl rfl ?_ ?_ ?_
  · intro as S P Po h0
    obtain ⟨as, rfl, h⟩ := z_rc_of h0
    unfold sp_X1_rivalsOf at h
    split at h
    · exact Nat.le_of_ble_eq_true rfl
    · exact h.elim
  · exact List.forall_mem_cons.mpr ⟨z_coN (host := "Songlinebench") (ct_X6_with l) kb_X6_with kn_X1_44 (by decide) (by decide), List.forall_mem_cons.mpr ⟨z_coV (ct_X1_stands l) kb_X1_stands kv_X1_40 ko_X1 (by decide) (by decide) (by decide), fun _ h => absurd h List.not_mem_nil⟩⟩
  · intro as S P Po h0 V hV hW
    obtain ⟨as, rfl, h⟩ := z_rc_of h0
    unfold sp_X1_rivalsOf at h
    split at h
    · rename_i x1
      obtain ⟨hp0, hp1, hpo⟩ := h
      refine hV [4] 45 0 _ _ _ _ ?_
      obtain ⟨hb4, hN4⟩ := z_le_cl (show z_le (S 12296 8) 12 by assumption) (by decide)
      have hL4 : ∀ (j k4 : Nat) (x900 : Int32) (a4 : Int32), k4 + j = (S 12296 8).toNatClampNeg → x900 = nI k4 → a4 = z_fo (fun k4 a4 => l_X1_rivalsOf_4 S P x1 k4 a4) (nI 0) k4 → V 4 [(0, .ref 12296), (1, .int x1), (2, .int a4), (3, .int x900)] [] S P := by
        intro j
        induction j with
        | zero =>
          intro k4 x900 a4 hk4 hx4 ha4
          subst hx4
          have hk9 : k4 = (S 12296 8).toNatClampNeg := by omega
          subst hk9
          subst ha4
          refine hV [4] 45 4 _ _ _ _ ?_
          refine ⟨fun _ => ?_, fun h => absurd ((z_brge hb4 (by omega) (by omega)).mpr (Nat.le_refl _)) h⟩
          exact z_pi hpo (rfl) (rfl) (rfl)
        | succ j ih =>
          intro k4 x900 a4 hk4 hx4 ha4
          subst hx4
          have hk9 : k4 < (S 12296 8).toNatClampNeg := by omega
          subst ha4
          refine hV [4] 45 4 _ _ _ _ ?_
          refine ⟨fun h => absurd ((z_brge hb4 (by omega) (by omega)).mp h) (by omega), fun _ => ?_⟩
          refine ⟨(show vp_in (nI k4) 12 by exact vp_in_nI (by omega) (by omega)), ?_⟩
          refine ⟨(show vp_in x1 12 by assumption), ?_⟩
          refine ⟨fun (h2 : (S 71777 ((nI k4).toNatClampNeg)) = (S 71777 x1.toNatClampNeg)) => ?_, fun (h2 : ¬ ((S 71777 ((nI k4).toNatClampNeg)) = (S 71777 x1.toNatClampNeg))) => ?_⟩
          · exact hW [0, 1, 2, 3] _ _ _ _ _ (ih (k4 + 1) _ (z_fo (fun k4 a4 => l_X1_rivalsOf_4 S P x1 k4 a4) (nI 0) k4) (by omega) (nI_add k4 1) (((if_pos h2).trans rfl).symm))
          · refine ⟨(show vp_in (nI k4) 12 by exact vp_in_nI (by omega) (by omega)), ?_⟩
            refine z_br (fun (h3 : (f_X1_stands S P (nI k4)) = false) => ?_) (fun (h3 : (f_X1_stands S P (nI k4)) = true) => ?_)
            · exact hW [0, 1, 2, 3] _ _ _ _ _ (ih (k4 + 1) _ (z_fo (fun k4 a4 => l_X1_rivalsOf_4 S P x1 k4 a4) (nI 0) k4) (by omega) (nI_add k4 1) (((if_neg h2).trans ((if_neg (z_nt h3)).trans rfl)).symm))
            · refine ⟨(show vp_in (nI k4) 12 by exact vp_in_nI (by omega) (by omega)), ?_⟩
              refine ⟨(show vp_in x1 12 by assumption), ?_⟩
              refine ⟨fun (h4 : ((S 73825 ((nI k4).toNatClampNeg)) &&& (S 73825 x1.toNatClampNeg)) = 0) => ?_, fun (h4 : ¬ (((S 73825 ((nI k4).toNatClampNeg)) &&& (S 73825 x1.toNatClampNeg)) = 0)) => ?_⟩
              · exact hW [0, 1, 2, 3] _ _ _ _ _ (ih (k4 + 1) _ (z_fo (fun k4 a4 => l_X1_rivalsOf_4 S P x1 k4 a4) (nI 0) k4) (by omega) (nI_add k4 1) (((if_neg h2).trans ((if_pos h3).trans ((if_pos h4).trans rfl))).symm))
              · exact hW [0, 1, 2, 3] _ _ _ _ _ (ih (k4 + 1) _ (f_X6_with S P (z_fo (fun k4 a4 => l_X1_rivalsOf_4 S P x1 k4 a4) (nI 0) k4) (nI k4) (nI 1)) (by omega) (nI_add k4 1) (((if_neg h2).trans ((if_pos h3).trans ((if_neg h4).trans rfl))).symm))
      exact hW [0, 1, 2, 3] _ _ _ _ _ (hL4 (S 12296 8).toNatClampNeg 0 _ (nI 0) (Nat.zero_add _) rfl rfl)
    · exact h.elim
def f_X1_isHeld (S : z_MI) (P : z_ML) (x1 : Int32) (x2 : Int32) : Bool :=
  if (S 77921 x1.toNatClampNeg) = (nI 2) then
    if (f_X6_isIn S P (S 79969 x1.toNatClampNeg) x2) = true then
      true
    else
      false
  else
    false
def sp_X1_isHeld : z_SP := fun as S P k => match as with
  | [.int x1, .int x2] => vp_in x1 12 ∧ k (some (.int (z_b (f_X1_isHeld S P x1 x2)))) S P
  | _ => False
def G_X1_isHeld : z_G := ([(0, .aload_n 0, 1, 0), (1, .getfield 21, 4, 0), (4, .iload_n 1, 5, 0), (5, .iaload, 6, 0), (6, .iconst 2, 7, 0), (7, .if_icmp .ne 20, 10, 27), (10, .aload_n 0, 11, 0), (11, .getfield 24, 14, 0), (14, .iload_n 1, 15, 0), (15, .iaload, 16, 0), (16, .iload_n 2, 17, 0), (17, .invokestatic 48, 20, 0), (20, .ifCond .eq 7, 23, 27), (23, .iconst 1, 24, 0), (24, .goto 4, 27, 28), (27, .iconst 0, 28, 0), (28, .ireturn, 29, 0)], [(21, 12296, 3, some 77921), (24, 12296, 4, some 79969)], [(100048, 2, sp_X6_isIn)], [], [], [], [], some .boolean)
set_option maxRecDepth 20000 in
set_option maxHeartbeats 4000000 in
theorem ct_X1_isHeld (l : Launch) : z_CT l yX1_isHeld cX1_isHeld 3 (some .boolean) (z_rc 12296 sp_X1_isHeld) 1 := by
  refine z_CT_of G_X1_isHeld (by decide) (by decide +kernel) (z_pok_of ft_X1 ci_X1 cL_X1_L fo_X1 co_X1 lo_X1 (by decide +kernel)) rfl rfl ?_ ?_ ?_
  · intro as S P Po h0
    obtain ⟨as, rfl, h⟩ := z_rc_of h0
    unfold sp_X1_isHeld at h
    split at h
    · exact Nat.le_of_ble_eq_true rfl
    · exact h.elim
  · exact List.forall_mem_cons.mpr ⟨z_coN (host := "Songlinebench") (ct_X6_isIn l) kb_X6_isIn kn_X1_48 (by decide) (by decide), fun _ h => absurd h List.not_mem_nil⟩
  · intro as S P Po h0 V hV hW
    obtain ⟨as, rfl, h⟩ := z_rc_of h0
    unfold sp_X1_isHeld at h
    split at h
    · rename_i x1 x2
      obtain ⟨hp0, hpo⟩ := h
      refine hV [] 22 0 _ _ _ _ ?_
      refine ⟨(show vp_in x1 12 by assumption), ?_⟩
      refine ⟨fun (h1 : ¬ ((S 77921 x1.toNatClampNeg) = (nI 2))) => ?_, fun (h1 : (S 77921 x1.toNatClampNeg) = (nI 2)) => ?_⟩
      · exact ⟨(by first | rfl | exact z_nb _), z_pb hpo ((if_neg h1).trans rfl) (rfl) (rfl)⟩
      · refine ⟨(show vp_in x1 12 by assumption), ?_⟩
        refine z_br (fun (h2 : (f_X6_isIn S P (S 79969 x1.toNatClampNeg) x2) = false) => ?_) (fun (h2 : (f_X6_isIn S P (S 79969 x1.toNatClampNeg) x2) = true) => ?_)
        · exact ⟨(by first | rfl | exact z_nb _), z_pb hpo ((if_pos h1).trans ((if_neg (z_nt h2)).trans rfl)) (rfl) (rfl)⟩
        · exact ⟨(by first | rfl | exact z_nb _), z_pb hpo ((if_pos h1).trans ((if_pos h2).trans rfl)) (rfl) (rfl)⟩
    · exact h.elim
def l_X1_holdersOf_4 (S : z_MI) (P : z_ML) (x1 : Int32) (k4 : Nat) (a4 : Int32) : Int32 :=
  if (f_X1_isHeld S P (nI k4) x1) = true then
    f_X6_with S P a4 (S 71777 ((nI k4).toNatClampNeg)) (nI 1)
  else
    a4
def f_X1_holdersOf (S : z_MI) (P : z_ML) (x1 : Int32) : Int32 :=
  (z_fo (fun k4 a4 => l_X1_holdersOf_4 S P x1 k4 a4) (nI 0) (S 12296 8).toNatClampNeg)
def sp_X1_holdersOf : z_SP := fun as S P k => match as with
  | [.int x1] => z_le (S 12296 8) 12 ∧ k (some (.int (f_X1_holdersOf S P x1))) S P
  | _ => False
def G_X1_holdersOf : z_G := ([(0, .iconst 0, 1, 0), (1, .istore_n 2, 2, 0), (2, .iconst 0, 3, 0), (3, .istore_n 3, 4, 0), (4, .iload_n 3, 5, 0), (5, .aload_n 0, 6, 0), (6, .getfield 36, 9, 0), (9, .if_icmp .ge 30, 12, 39), (12, .aload_n 0, 13, 0), (13, .iload_n 3, 14, 0), (14, .iload_n 1, 15, 0), (15, .invokevirtual 52, 18, 0), (18, .ifCond .eq 15, 21, 33), (21, .iload_n 2, 22, 0), (22, .aload_n 0, 23, 0), (23, .getfield 9, 26, 0), (26, .iload_n 3, 27, 0), (27, .iaload, 28, 0), (28, .iconst 1, 29, 0), (29, .invokestatic 44, 32, 0), (32, .istore_n 2, 33, 0), (33, .iinc 3 1, 36, 0), (36, .goto (-32), 39, 4), (39, .iload_n 2, 40, 0), (40, .ireturn, 41, 0)], [(9, 12296, 0, some 71777), (36, 12296, 8, none)], [(100044, 3, sp_X6_with), (52, 3, (z_rc 12296 sp_X1_isHeld))], [], [], [], [], some .int)
set_option maxRecDepth 20000 in
set_option maxHeartbeats 4000000 in
theorem ct_X1_holdersOf (l : Launch) : z_CT l yX1_holdersOf cX1_holdersOf 4 (some .int) (z_rc 12296 sp_X1_holdersOf) 2 := by
  refine z_CT_of G_X1_holdersOf (by decide) (by decide +kernel) (z_pok_of ft_X1 ci_X1 cL_X1_L fo_X1 co_X1 lo_X1 (by decide +kernel)) rfl rfl ?_ ?_ ?_
  · intro as S P Po h0
    obtain ⟨as, rfl, h⟩ := z_rc_of h0
    unfold sp_X1_holdersOf at h
    split at h
    · exact Nat.le_of_ble_eq_true rfl
    · exact h.elim
  · exact List.forall_mem_cons.mpr ⟨z_coN (host := "Songlinebench") (ct_X6_with l) kb_X6_with kn_X1_44 (by decide) (by decide), List.forall_mem_cons.mpr ⟨z_coV (ct_X1_isHeld l) kb_X1_isHeld kv_X1_52 ko_X1 (by decide) (by decide) (by decide), fun _ h => absurd h List.not_mem_nil⟩⟩
  · intro as S P Po h0 V hV hW
    obtain ⟨as, rfl, h⟩ := z_rc_of h0
    unfold sp_X1_holdersOf at h
    split at h
    · rename_i x1
      obtain ⟨hp0, hpo⟩ := h
      refine hV [4] 30 0 _ _ _ _ ?_
      obtain ⟨hb4, hN4⟩ := z_le_cl (show z_le (S 12296 8) 12 by assumption) (by decide)
      have hL4 : ∀ (j k4 : Nat) (x900 : Int32) (a4 : Int32), k4 + j = (S 12296 8).toNatClampNeg → x900 = nI k4 → a4 = z_fo (fun k4 a4 => l_X1_holdersOf_4 S P x1 k4 a4) (nI 0) k4 → V 4 [(0, .ref 12296), (1, .int x1), (2, .int a4), (3, .int x900)] [] S P := by
        intro j
        induction j with
        | zero =>
          intro k4 x900 a4 hk4 hx4 ha4
          subst hx4
          have hk9 : k4 = (S 12296 8).toNatClampNeg := by omega
          subst hk9
          subst ha4
          refine hV [4] 30 4 _ _ _ _ ?_
          refine ⟨fun _ => ?_, fun h => absurd ((z_brge hb4 (by omega) (by omega)).mpr (Nat.le_refl _)) h⟩
          exact z_pi hpo (rfl) (rfl) (rfl)
        | succ j ih =>
          intro k4 x900 a4 hk4 hx4 ha4
          subst hx4
          have hk9 : k4 < (S 12296 8).toNatClampNeg := by omega
          subst ha4
          refine hV [4] 30 4 _ _ _ _ ?_
          refine ⟨fun h => absurd ((z_brge hb4 (by omega) (by omega)).mp h) (by omega), fun _ => ?_⟩
          refine ⟨(show vp_in (nI k4) 12 by exact vp_in_nI (by omega) (by omega)), ?_⟩
          refine z_br (fun (h2 : (f_X1_isHeld S P (nI k4) x1) = false) => ?_) (fun (h2 : (f_X1_isHeld S P (nI k4) x1) = true) => ?_)
          · exact hW [0, 1, 2, 3] _ _ _ _ _ (ih (k4 + 1) _ (z_fo (fun k4 a4 => l_X1_holdersOf_4 S P x1 k4 a4) (nI 0) k4) (by omega) (nI_add k4 1) (((if_neg (z_nt h2)).trans rfl).symm))
          · refine ⟨(show vp_in (nI k4) 12 by exact vp_in_nI (by omega) (by omega)), ?_⟩
            exact hW [0, 1, 2, 3] _ _ _ _ _ (ih (k4 + 1) _ (f_X6_with S P (z_fo (fun k4 a4 => l_X1_holdersOf_4 S P x1 k4 a4) (nI 0) k4) (S 71777 ((nI k4).toNatClampNeg)) (nI 1)) (by omega) (nI_add k4 1) (((if_pos h2).trans rfl).symm))
      exact hW [0, 1, 2, 3] _ _ _ _ _ (hL4 (S 12296 8).toNatClampNeg 0 _ (nI 0) (Nat.zero_add _) rfl rfl)
    · exact h.elim
def l_X1_grantedTo_5 (S : z_MI) (P : z_ML) (x1 : Int32) (x2 : Int32) (k5 : Nat) (a5 : Int32) : Int32 :=
  if (S 71777 ((nI k5).toNatClampNeg)) = x1 then
    if (f_X1_isHeld S P (nI k5) x2) = true then
      a5 ||| (S 75873 ((nI k5).toNatClampNeg))
    else
      a5
  else
    a5
def f_X1_grantedTo (S : z_MI) (P : z_ML) (x1 : Int32) (x2 : Int32) : Int32 :=
  (z_fo (fun k5 a5 => l_X1_grantedTo_5 S P x1 x2 k5 a5) (nI 0) (S 12296 8).toNatClampNeg)
def sp_X1_grantedTo : z_SP := fun as S P k => match as with
  | [.int x1, .int x2] => z_le (S 12296 8) 12 ∧ k (some (.int (f_X1_grantedTo S P x1 x2))) S P
  | _ => False
def G_X1_grantedTo : z_G := ([(0, .iconst 0, 1, 0), (1, .istore_n 3, 2, 0), (2, .iconst 0, 3, 0), (3, .istore 4, 5, 0), (5, .iload 4, 7, 0), (7, .aload_n 0, 8, 0), (8, .getfield 36, 11, 0), (11, .if_icmp .ge 40, 14, 51), (14, .aload_n 0, 15, 0), (15, .getfield 9, 18, 0), (18, .iload 4, 20, 0), (20, .iaload, 21, 0), (21, .iload_n 1, 22, 0), (22, .if_icmp .ne 23, 25, 45), (25, .aload_n 0, 26, 0), (26, .iload 4, 28, 0), (28, .iload_n 2, 29, 0), (29, .invokevirtual 52, 32, 0), (32, .ifCond .eq 13, 35, 45), (35, .iload_n 3, 36, 0), (36, .aload_n 0, 37, 0), (37, .getfield 18, 40, 0), (40, .iload 4, 42, 0), (42, .iaload, 43, 0), (43, .ior, 44, 0), (44, .istore_n 3, 45, 0), (45, .iinc 4 1, 48, 0), (48, .goto (-43), 51, 5), (51, .iload_n 3, 52, 0), (52, .ireturn, 53, 0)], [(9, 12296, 0, some 71777), (18, 12296, 2, some 75873), (36, 12296, 8, none)], [(52, 3, (z_rc 12296 sp_X1_isHeld))], [], [], [], [], some .int)
set_option maxRecDepth 20000 in
set_option maxHeartbeats 4000000 in
theorem ct_X1_grantedTo (l : Launch) : z_CT l yX1_grantedTo cX1_grantedTo 5 (some .int) (z_rc 12296 sp_X1_grantedTo) 2 := by
  refine z_CT_of G_X1_grantedTo (by decide) (by decide +kernel) (z_pok_of ft_X1 ci_X1 cL_X1_L fo_X1 co_X1 lo_X1 (by decide +kernel)) rfl rfl ?_ ?_ ?_
  · intro as S P Po h0
    obtain ⟨as, rfl, h⟩ := z_rc_of h0
    unfold sp_X1_grantedTo at h
    split at h
    · exact Nat.le_of_ble_eq_true rfl
    · exact h.elim
  · exact List.forall_mem_cons.mpr ⟨z_coV (ct_X1_isHeld l) kb_X1_isHeld kv_X1_52 ko_X1 (by decide) (by decide) (by decide), fun _ h => absurd h List.not_mem_nil⟩
  · intro as S P Po h0 V hV hW
    obtain ⟨as, rfl, h⟩ := z_rc_of h0
    unfold sp_X1_grantedTo at h
    split at h
    · rename_i x1 x2
      obtain ⟨hp0, hpo⟩ := h
      refine hV [5] 35 0 _ _ _ _ ?_
      obtain ⟨hb5, hN5⟩ := z_le_cl (show z_le (S 12296 8) 12 by assumption) (by decide)
      have hL5 : ∀ (j k5 : Nat) (x900 : Int32) (a5 : Int32), k5 + j = (S 12296 8).toNatClampNeg → x900 = nI k5 → a5 = z_fo (fun k5 a5 => l_X1_grantedTo_5 S P x1 x2 k5 a5) (nI 0) k5 → V 5 [(0, .ref 12296), (1, .int x1), (2, .int x2), (3, .int a5), (4, .int x900)] [] S P := by
        intro j
        induction j with
        | zero =>
          intro k5 x900 a5 hk5 hx5 ha5
          subst hx5
          have hk9 : k5 = (S 12296 8).toNatClampNeg := by omega
          subst hk9
          subst ha5
          refine hV [5] 35 5 _ _ _ _ ?_
          refine ⟨fun _ => ?_, fun h => absurd ((z_brge hb5 (by omega) (by omega)).mpr (Nat.le_refl _)) h⟩
          exact z_pi hpo (rfl) (rfl) (rfl)
        | succ j ih =>
          intro k5 x900 a5 hk5 hx5 ha5
          subst hx5
          have hk9 : k5 < (S 12296 8).toNatClampNeg := by omega
          subst ha5
          refine hV [5] 35 5 _ _ _ _ ?_
          refine ⟨fun h => absurd ((z_brge hb5 (by omega) (by omega)).mp h) (by omega), fun _ => ?_⟩
          refine ⟨(show vp_in (nI k5) 12 by exact vp_in_nI (by omega) (by omega)), ?_⟩
          refine ⟨fun (h2 : ¬ ((S 71777 ((nI k5).toNatClampNeg)) = x1)) => ?_, fun (h2 : (S 71777 ((nI k5).toNatClampNeg)) = x1) => ?_⟩
          · exact hW [0, 1, 2, 3, 4] _ _ _ _ _ (ih (k5 + 1) _ (z_fo (fun k5 a5 => l_X1_grantedTo_5 S P x1 x2 k5 a5) (nI 0) k5) (by omega) (nI_add k5 1) (((if_neg h2).trans rfl).symm))
          · refine ⟨(show vp_in (nI k5) 12 by exact vp_in_nI (by omega) (by omega)), ?_⟩
            refine z_br (fun (h3 : (f_X1_isHeld S P (nI k5) x2) = false) => ?_) (fun (h3 : (f_X1_isHeld S P (nI k5) x2) = true) => ?_)
            · exact hW [0, 1, 2, 3, 4] _ _ _ _ _ (ih (k5 + 1) _ (z_fo (fun k5 a5 => l_X1_grantedTo_5 S P x1 x2 k5 a5) (nI 0) k5) (by omega) (nI_add k5 1) (((if_pos h2).trans ((if_neg (z_nt h3)).trans rfl)).symm))
            · refine ⟨(show vp_in (nI k5) 12 by exact vp_in_nI (by omega) (by omega)), ?_⟩
              exact hW [0, 1, 2, 3, 4] _ _ _ _ _ (ih (k5 + 1) _ ((z_fo (fun k5 a5 => l_X1_grantedTo_5 S P x1 x2 k5 a5) (nI 0) k5) ||| (S 75873 ((nI k5).toNatClampNeg))) (by omega) (nI_add k5 1) (((if_pos h2).trans ((if_pos h3).trans rfl)).symm))
      exact hW [0, 1, 2, 3, 4] _ _ _ _ _ (hL5 (S 12296 8).toNatClampNeg 0 _ (nI 0) (Nat.zero_add _) rfl rfl)
    · exact h.elim
def l_X1_partiesAt_5 (S : z_MI) (P : z_ML) (x1 : Int32) (x2 : Int32) (k5 : Nat) (a5 : Int32) : Int32 :=
  if (f_X1_stands S P (nI k5)) = true then
    if x2 < (S 82017 ((nI k5).toNatClampNeg)) then
      a5
    else
      if ((S 73825 ((nI k5).toNatClampNeg)) &&& x1) = 0 then
        a5
      else
        f_X6_with S P a5 (S 71777 ((nI k5).toNatClampNeg)) (nI 1)
  else
    a5
def f_X1_partiesAt (S : z_MI) (P : z_ML) (x1 : Int32) (x2 : Int32) : Int32 :=
  (z_fo (fun k5 a5 => l_X1_partiesAt_5 S P x1 x2 k5 a5) (nI 0) (S 12296 8).toNatClampNeg)
def sp_X1_partiesAt : z_SP := fun as S P k => match as with
  | [.int x1, .int x2] => z_le (S 12296 8) 12 ∧ k (some (.int (f_X1_partiesAt S P x1 x2))) S P
  | _ => False
def G_X1_partiesAt : z_G := ([(0, .iconst 0, 1, 0), (1, .istore_n 3, 2, 0), (2, .iconst 0, 3, 0), (3, .istore 4, 5, 0), (5, .iload 4, 7, 0), (7, .aload_n 0, 8, 0), (8, .getfield 36, 11, 0), (11, .if_icmp .ge 54, 14, 65), (14, .aload_n 0, 15, 0), (15, .iload 4, 17, 0), (17, .invokevirtual 40, 20, 0), (20, .ifCond .eq 39, 23, 59), (23, .aload_n 0, 24, 0), (24, .getfield 27, 27, 0), (27, .iload 4, 29, 0), (29, .iaload, 30, 0), (30, .iload_n 2, 31, 0), (31, .if_icmp .gt 28, 34, 59), (34, .aload_n 0, 35, 0), (35, .getfield 15, 38, 0), (38, .iload 4, 40, 0), (40, .iaload, 41, 0), (41, .iload_n 1, 42, 0), (42, .iand, 43, 0), (43, .ifCond .eq 16, 46, 59), (46, .iload_n 3, 47, 0), (47, .aload_n 0, 48, 0), (48, .getfield 9, 51, 0), (51, .iload 4, 53, 0), (53, .iaload, 54, 0), (54, .iconst 1, 55, 0), (55, .invokestatic 44, 58, 0), (58, .istore_n 3, 59, 0), (59, .iinc 4 1, 62, 0), (62, .goto (-57), 65, 5), (65, .iload_n 3, 66, 0), (66, .ireturn, 67, 0)], [(9, 12296, 0, some 71777), (15, 12296, 1, some 73825), (27, 12296, 5, some 82017), (36, 12296, 8, none)], [(100044, 3, sp_X6_with), (40, 2, (z_rc 12296 sp_X1_stands))], [], [], [], [], some .int)
set_option maxRecDepth 20000 in
set_option maxHeartbeats 4000000 in
theorem ct_X1_partiesAt (l : Launch) : z_CT l yX1_partiesAt cX1_partiesAt 5 (some .int) (z_rc 12296 sp_X1_partiesAt) 1 := by
  refine z_CT_of G_X1_partiesAt (by decide) (by decide +kernel) (z_pok_of ft_X1 ci_X1 cL_X1_L fo_X1 co_X1 lo_X1 (by decide +kernel)) rfl rfl ?_ ?_ ?_
  · intro as S P Po h0
    obtain ⟨as, rfl, h⟩ := z_rc_of h0
    unfold sp_X1_partiesAt at h
    split at h
    · exact Nat.le_of_ble_eq_true rfl
    · exact h.elim
  · exact List.forall_mem_cons.mpr ⟨z_coN (host := "Songlinebench") (ct_X6_with l) kb_X6_with kn_X1_44 (by decide) (by decide), List.forall_mem_cons.mpr ⟨z_coV (ct_X1_stands l) kb_X1_stands kv_X1_40 ko_X1 (by decide) (by decide) (by decide), fun _ h => absurd h List.not_mem_nil⟩⟩
  · intro as S P Po h0 V hV hW
    obtain ⟨as, rfl, h⟩ := z_rc_of h0
    unfold sp_X1_partiesAt at h
    split at h
    · rename_i x1 x2
      obtain ⟨hp0, hpo⟩ := h
      refine hV [5] 42 0 _ _ _ _ ?_
      obtain ⟨hb5, hN5⟩ := z_le_cl (show z_le (S 12296 8) 12 by assumption) (by decide)
      have hL5 : ∀ (j k5 : Nat) (x900 : Int32) (a5 : Int32), k5 + j = (S 12296 8).toNatClampNeg → x900 = nI k5 → a5 = z_fo (fun k5 a5 => l_X1_partiesAt_5 S P x1 x2 k5 a5) (nI 0) k5 → V 5 [(0, .ref 12296), (1, .int x1), (2, .int x2), (3, .int a5), (4, .int x900)] [] S P := by
        intro j
        induction j with
        | zero =>
          intro k5 x900 a5 hk5 hx5 ha5
          subst hx5
          have hk9 : k5 = (S 12296 8).toNatClampNeg := by omega
          subst hk9
          subst ha5
          refine hV [5] 42 5 _ _ _ _ ?_
          refine ⟨fun _ => ?_, fun h => absurd ((z_brge hb5 (by omega) (by omega)).mpr (Nat.le_refl _)) h⟩
          exact z_pi hpo (rfl) (rfl) (rfl)
        | succ j ih =>
          intro k5 x900 a5 hk5 hx5 ha5
          subst hx5
          have hk9 : k5 < (S 12296 8).toNatClampNeg := by omega
          subst ha5
          refine hV [5] 42 5 _ _ _ _ ?_
          refine ⟨fun h => absurd ((z_brge hb5 (by omega) (by omega)).mp h) (by omega), fun _ => ?_⟩
          refine ⟨(show vp_in (nI k5) 12 by exact vp_in_nI (by omega) (by omega)), ?_⟩
          refine z_br (fun (h2 : (f_X1_stands S P (nI k5)) = false) => ?_) (fun (h2 : (f_X1_stands S P (nI k5)) = true) => ?_)
          · exact hW [0, 1, 2, 3, 4] _ _ _ _ _ (ih (k5 + 1) _ (z_fo (fun k5 a5 => l_X1_partiesAt_5 S P x1 x2 k5 a5) (nI 0) k5) (by omega) (nI_add k5 1) (((if_neg (z_nt h2)).trans rfl).symm))
          · refine ⟨(show vp_in (nI k5) 12 by exact vp_in_nI (by omega) (by omega)), ?_⟩
            refine ⟨fun (h3 : x2 < (S 82017 ((nI k5).toNatClampNeg))) => ?_, fun (h3 : ¬ (x2 < (S 82017 ((nI k5).toNatClampNeg)))) => ?_⟩
            · exact hW [0, 1, 2, 3, 4] _ _ _ _ _ (ih (k5 + 1) _ (z_fo (fun k5 a5 => l_X1_partiesAt_5 S P x1 x2 k5 a5) (nI 0) k5) (by omega) (nI_add k5 1) (((if_pos h2).trans ((if_pos h3).trans rfl)).symm))
            · refine ⟨(show vp_in (nI k5) 12 by exact vp_in_nI (by omega) (by omega)), ?_⟩
              refine ⟨fun (h4 : ((S 73825 ((nI k5).toNatClampNeg)) &&& x1) = 0) => ?_, fun (h4 : ¬ (((S 73825 ((nI k5).toNatClampNeg)) &&& x1) = 0)) => ?_⟩
              · exact hW [0, 1, 2, 3, 4] _ _ _ _ _ (ih (k5 + 1) _ (z_fo (fun k5 a5 => l_X1_partiesAt_5 S P x1 x2 k5 a5) (nI 0) k5) (by omega) (nI_add k5 1) (((if_pos h2).trans ((if_neg h3).trans ((if_pos h4).trans rfl))).symm))
              · refine ⟨(show vp_in (nI k5) 12 by exact vp_in_nI (by omega) (by omega)), ?_⟩
                exact hW [0, 1, 2, 3, 4] _ _ _ _ _ (ih (k5 + 1) _ (f_X6_with S P (z_fo (fun k5 a5 => l_X1_partiesAt_5 S P x1 x2 k5 a5) (nI 0) k5) (S 71777 ((nI k5).toNatClampNeg)) (nI 1)) (by omega) (nI_add k5 1) (((if_pos h2).trans ((if_neg h3).trans ((if_neg h4).trans rfl))).symm))
      exact hW [0, 1, 2, 3, 4] _ _ _ _ _ (hL5 (S 12296 8).toNatClampNeg 0 _ (nI 0) (Nat.zero_add _) rfl rfl)
    · exact h.elim
def f_X4_isNotice (S : z_MI) (P : z_ML) (x1 : Int32) : Bool :=
  if x1 < 0 then
    false
  else
    if (S 14368 11) ≤ x1 then
      false
    else
      true
def sp_X4_isNotice : z_SP := fun as S P k => match as with
  | [.int x1] => k (some (.int (z_b (f_X4_isNotice S P x1)))) S P
  | _ => False
def G_X4_isNotice : z_G := ([(0, .iload_n 1, 1, 0), (1, .ifCond .lt 15, 4, 16), (4, .iload_n 1, 5, 0), (5, .aload_n 0, 6, 0), (6, .getfield 46, 9, 0), (9, .if_icmp .ge 7, 12, 16), (12, .iconst 1, 13, 0), (13, .goto 4, 16, 17), (16, .iconst 0, 17, 0), (17, .ireturn, 18, 0)], [(46, 14368, 11, none)], [], [], [], [], [], some .boolean)
set_option maxRecDepth 20000 in
set_option maxHeartbeats 4000000 in
theorem ct_X4_isNotice (l : Launch) : z_CT l yX4_isNotice cX4_isNotice 2 (some .boolean) (z_rc 14368 sp_X4_isNotice) 0 := by
  refine z_CT_of G_X4_isNotice (by decide) (by decide +kernel) (z_pok_of ft_X4 ci_X4 cL_X4_L fo_X4 co_X4 lo_X4 (by decide +kernel)) rfl rfl ?_ ?_ ?_
  · intro as S P Po h0
    obtain ⟨as, rfl, h⟩ := z_rc_of h0
    unfold sp_X4_isNotice at h
    split at h
    · exact Nat.le_of_ble_eq_true rfl
    · exact h.elim
  · exact fun _ h => absurd h List.not_mem_nil
  · intro as S P Po h0 V hV hW
    obtain ⟨as, rfl, h⟩ := z_rc_of h0
    unfold sp_X4_isNotice at h
    split at h
    · rename_i x1
      have hpo := h
      refine hV [] 15 0 _ _ _ _ ?_
      refine ⟨fun (h1 : x1 < 0) => ?_, fun (h1 : ¬ (x1 < 0)) => ?_⟩
      · exact ⟨(by first | rfl | exact z_nb _), z_pb hpo ((if_pos h1).trans rfl) (rfl) (rfl)⟩
      · refine ⟨fun (h2 : (S 14368 11) ≤ x1) => ?_, fun (h2 : ¬ ((S 14368 11) ≤ x1)) => ?_⟩
        · exact ⟨(by first | rfl | exact z_nb _), z_pb hpo ((if_neg h1).trans ((if_pos h2).trans rfl)) (rfl) (rfl)⟩
        · exact ⟨(by first | rfl | exact z_nb _), z_pb hpo ((if_neg h1).trans ((if_neg h2).trans rfl)) (rfl) (rfl)⟩
    · exact h.elim
def f_X4_add (S : z_MI) (P : z_ML) (x1 : Int32) (x2 : Int32) : Int32 :=
  S 14368 11
def u_X4_add (S : z_MI) (P : z_ML) (x1 : Int32) (x2 : Int32) : z_MI :=
  va_up (va_up (va_up (va_up (va_up S 88161 (upd (S 88161) ((S 14368 11).toNatClampNeg) x1)) 106594 (upd ((va_up S 88161 (upd (S 88161) ((S 14368 11).toNatClampNeg) x1)) 106594) ((S 14368 11).toNatClampNeg) (vp_nar .boolean x2))) 98401 (upd ((va_up (va_up S 88161 (upd (S 88161) ((S 14368 11).toNatClampNeg) x1)) 106594 (upd ((va_up S 88161 (upd (S 88161) ((S 14368 11).toNatClampNeg) x1)) 106594) ((S 14368 11).toNatClampNeg) (vp_nar .boolean x2))) 98401) ((S 14368 11).toNatClampNeg) (nI 0))) 104545 (upd ((va_up (va_up (va_up S 88161 (upd (S 88161) ((S 14368 11).toNatClampNeg) x1)) 106594 (upd ((va_up S 88161 (upd (S 88161) ((S 14368 11).toNatClampNeg) x1)) 106594) ((S 14368 11).toNatClampNeg) (vp_nar .boolean x2))) 98401 (upd ((va_up (va_up S 88161 (upd (S 88161) ((S 14368 11).toNatClampNeg) x1)) 106594 (upd ((va_up S 88161 (upd (S 88161) ((S 14368 11).toNatClampNeg) x1)) 106594) ((S 14368 11).toNatClampNeg) (vp_nar .boolean x2))) 98401) ((S 14368 11).toNatClampNeg) (nI 0))) 104545) ((S 14368 11).toNatClampNeg) (-1))) 14368 (upd ((va_up (va_up (va_up (va_up S 88161 (upd (S 88161) ((S 14368 11).toNatClampNeg) x1)) 106594 (upd ((va_up S 88161 (upd (S 88161) ((S 14368 11).toNatClampNeg) x1)) 106594) ((S 14368 11).toNatClampNeg) (vp_nar .boolean x2))) 98401 (upd ((va_up (va_up S 88161 (upd (S 88161) ((S 14368 11).toNatClampNeg) x1)) 106594 (upd ((va_up S 88161 (upd (S 88161) ((S 14368 11).toNatClampNeg) x1)) 106594) ((S 14368 11).toNatClampNeg) (vp_nar .boolean x2))) 98401) ((S 14368 11).toNatClampNeg) (nI 0))) 104545 (upd ((va_up (va_up (va_up S 88161 (upd (S 88161) ((S 14368 11).toNatClampNeg) x1)) 106594 (upd ((va_up S 88161 (upd (S 88161) ((S 14368 11).toNatClampNeg) x1)) 106594) ((S 14368 11).toNatClampNeg) (vp_nar .boolean x2))) 98401 (upd ((va_up (va_up S 88161 (upd (S 88161) ((S 14368 11).toNatClampNeg) x1)) 106594 (upd ((va_up S 88161 (upd (S 88161) ((S 14368 11).toNatClampNeg) x1)) 106594) ((S 14368 11).toNatClampNeg) (vp_nar .boolean x2))) 98401) ((S 14368 11).toNatClampNeg) (nI 0))) 104545) ((S 14368 11).toNatClampNeg) (-1))) 14368) 11 ((S 14368 11) + (nI 1)))
def sp_X4_add : z_SP := fun as S P k => match as with
  | [.int x1, .int x2] => vp_in (S 14368 11) 12 ∧ k (some (.int (f_X4_add S P x1 x2))) (u_X4_add S P x1 x2) P
  | _ => False
def G_X4_add : z_G := ([(0, .aload_n 0, 1, 0), (1, .getfield 46, 4, 0), (4, .istore_n 3, 5, 0), (5, .aload_n 0, 6, 0), (6, .getfield 9, 9, 0), (9, .iload_n 3, 10, 0), (10, .iload_n 1, 11, 0), (11, .iastore, 12, 0), (12, .aload_n 0, 13, 0), (13, .getfield 39, 16, 0), (16, .iload_n 3, 17, 0), (17, .iload_n 2, 18, 0), (18, .bastore, 19, 0), (19, .aload_n 0, 20, 0), (20, .getfield 27, 23, 0), (23, .iload_n 3, 24, 0), (24, .iconst 0, 25, 0), (25, .iastore, 26, 0), (26, .aload_n 0, 27, 0), (27, .getfield 36, 30, 0), (30, .iload_n 3, 31, 0), (31, .iconst (-1), 32, 0), (32, .iastore, 33, 0), (33, .aload_n 0, 34, 0), (34, .dup, 35, 0), (35, .getfield 46, 38, 0), (38, .iconst 1, 39, 0), (39, .iadd, 40, 0), (40, .putfield 46, 43, 0), (43, .iload_n 3, 44, 0), (44, .ireturn, 45, 0)], [(9, 14368, 0, some 88161), (27, 14368, 5, some 98401), (36, 14368, 8, some 104545), (39, 14368, 9, some 106594), (46, 14368, 11, none)], [], [], [], [], [], some .int)
set_option maxRecDepth 20000 in
set_option maxHeartbeats 4000000 in
theorem ct_X4_add (l : Launch) : z_CT l yX4_add cX4_add 4 (some .int) (z_rc 14368 sp_X4_add) 0 := by
  refine z_CT_of G_X4_add (by decide) (by decide +kernel) (z_pok_of ft_X4 ci_X4 cL_X4_L fo_X4 co_X4 lo_X4 (by decide +kernel)) rfl rfl ?_ ?_ ?_
  · intro as S P Po h0
    obtain ⟨as, rfl, h⟩ := z_rc_of h0
    unfold sp_X4_add at h
    split at h
    · exact Nat.le_of_ble_eq_true rfl
    · exact h.elim
  · exact fun _ h => absurd h List.not_mem_nil
  · intro as S P Po h0 V hV hW
    obtain ⟨as, rfl, h⟩ := z_rc_of h0
    unfold sp_X4_add at h
    split at h
    · rename_i x1 x2
      obtain ⟨hp0, hpo⟩ := h
      refine hV [] 36 0 _ _ _ _ ?_
      refine ⟨(show vp_in (S 14368 11) 12 by assumption), ?_⟩
      refine ⟨(show vp_in (S 14368 11) 12 by assumption), ?_⟩
      refine ⟨(show vp_in (S 14368 11) 12 by assumption), ?_⟩
      refine ⟨(show vp_in (S 14368 11) 12 by assumption), ?_⟩
      exact z_pi hpo (rfl) (rfl) (rfl)
    · exact h.elim
def u_X4_tell (S : z_MI) (P : z_ML) (x1 : Int32) (x2 : Int32) (x3 : Int32) (x4 : Int32) (x5 : Int32) : z_MI :=
  va_up (va_up (va_up (va_up S 90209 (upd (S 90209) x1.toNatClampNeg x2)) 92257 (upd ((va_up S 90209 (upd (S 90209) x1.toNatClampNeg x2)) 92257) x1.toNatClampNeg x3)) 94305 (upd ((va_up (va_up S 90209 (upd (S 90209) x1.toNatClampNeg x2)) 92257 (upd ((va_up S 90209 (upd (S 90209) x1.toNatClampNeg x2)) 92257) x1.toNatClampNeg x3)) 94305) x1.toNatClampNeg x4)) 96353 (upd ((va_up (va_up (va_up S 90209 (upd (S 90209) x1.toNatClampNeg x2)) 92257 (upd ((va_up S 90209 (upd (S 90209) x1.toNatClampNeg x2)) 92257) x1.toNatClampNeg x3)) 94305 (upd ((va_up (va_up S 90209 (upd (S 90209) x1.toNatClampNeg x2)) 92257 (upd ((va_up S 90209 (upd (S 90209) x1.toNatClampNeg x2)) 92257) x1.toNatClampNeg x3)) 94305) x1.toNatClampNeg x4)) 96353) x1.toNatClampNeg x5)
def sp_X4_tell : z_SP := fun as S P k => match as with
  | [.int x1, .int x2, .int x3, .int x4, .int x5] => vp_in x1 12 ∧ k (none) (u_X4_tell S P x1 x2 x3 x4 x5) P
  | _ => False
def G_X4_tell : z_G := ([(0, .aload_n 0, 1, 0), (1, .getfield 15, 4, 0), (4, .iload_n 1, 5, 0), (5, .iload_n 2, 6, 0), (6, .iastore, 7, 0), (7, .aload_n 0, 8, 0), (8, .getfield 18, 11, 0), (11, .iload_n 1, 12, 0), (12, .iload_n 3, 13, 0), (13, .iastore, 14, 0), (14, .aload_n 0, 15, 0), (15, .getfield 21, 18, 0), (18, .iload_n 1, 19, 0), (19, .iload 4, 21, 0), (21, .iastore, 22, 0), (22, .aload_n 0, 23, 0), (23, .getfield 24, 26, 0), (26, .iload_n 1, 27, 0), (27, .iload 5, 29, 0), (29, .iastore, 30, 0), (30, .return_, 31, 0)], [(15, 14368, 1, some 90209), (18, 14368, 2, some 92257), (21, 14368, 3, some 94305), (24, 14368, 4, some 96353)], [], [], [], [], [], none)
set_option maxRecDepth 20000 in
set_option maxHeartbeats 4000000 in
theorem ct_X4_tell (l : Launch) : z_CT l yX4_tell cX4_tell 6 (none) (z_rc 14368 sp_X4_tell) 0 := by
  refine z_CT_of G_X4_tell (by decide) (by decide +kernel) (z_pok_of ft_X4 ci_X4 cL_X4_L fo_X4 co_X4 lo_X4 (by decide +kernel)) rfl rfl ?_ ?_ ?_
  · intro as S P Po h0
    obtain ⟨as, rfl, h⟩ := z_rc_of h0
    unfold sp_X4_tell at h
    split at h
    · exact Nat.le_of_ble_eq_true rfl
    · exact h.elim
  · exact fun _ h => absurd h List.not_mem_nil
  · intro as S P Po h0 V hV hW
    obtain ⟨as, rfl, h⟩ := z_rc_of h0
    unfold sp_X4_tell at h
    split at h
    · rename_i x1 x2 x3 x4 x5
      obtain ⟨hp0, hpo⟩ := h
      refine hV [] 26 0 _ _ _ _ ?_
      refine ⟨(show vp_in x1 12 by assumption), ?_⟩
      refine ⟨(show vp_in x1 12 by assumption), ?_⟩
      refine ⟨(show vp_in x1 12 by assumption), ?_⟩
      refine ⟨(show vp_in x1 12 by assumption), ?_⟩
      exact z_pv hpo (rfl) (rfl)
    · exact h.elim
def f_X4_isOpenToObject (S : z_MI) (P : z_ML) (x1 : Int32) (x2 : Int32) : Bool :=
  if (S 98401 x1.toNatClampNeg) = 0 then
    if (S 106594 x1.toNatClampNeg) = 0 then
      false
    else
      if (nI 4) < (x2 - (S 88161 x1.toNatClampNeg)) then
        false
      else
        true
  else
    false
def sp_X4_isOpenToObject : z_SP := fun as S P k => match as with
  | [.int x1, .int x2] => vp_in x1 12 ∧ k (some (.int (z_b (f_X4_isOpenToObject S P x1 x2)))) S P
  | _ => False
def G_X4_isOpenToObject : z_G := ([(0, .aload_n 0, 1, 0), (1, .getfield 27, 4, 0), (4, .iload_n 1, 5, 0), (5, .iaload, 6, 0), (6, .ifCond .ne 28, 9, 34), (9, .aload_n 0, 10, 0), (10, .getfield 39, 13, 0), (13, .iload_n 1, 14, 0), (14, .baload, 15, 0), (15, .ifCond .eq 19, 18, 34), (18, .iload_n 2, 19, 0), (19, .aload_n 0, 20, 0), (20, .getfield 9, 23, 0), (23, .iload_n 1, 24, 0), (24, .iaload, 25, 0), (25, .isub, 26, 0), (26, .iconst 4, 27, 0), (27, .if_icmp .gt 7, 30, 34), (30, .iconst 1, 31, 0), (31, .goto 4, 34, 35), (34, .iconst 0, 35, 0), (35, .ireturn, 36, 0)], [(9, 14368, 0, some 88161), (27, 14368, 5, some 98401), (39, 14368, 9, some 106594)], [], [], [], [], [], some .boolean)
set_option maxRecDepth 20000 in
set_option maxHeartbeats 4000000 in
theorem ct_X4_isOpenToObject (l : Launch) : z_CT l yX4_isOpenToObject cX4_isOpenToObject 3 (some .boolean) (z_rc 14368 sp_X4_isOpenToObject) 0 := by
  refine z_CT_of G_X4_isOpenToObject (by decide) (by decide +kernel) (z_pok_of ft_X4 ci_X4 cL_X4_L fo_X4 co_X4 lo_X4 (by decide +kernel)) rfl rfl ?_ ?_ ?_
  · intro as S P Po h0
    obtain ⟨as, rfl, h⟩ := z_rc_of h0
    unfold sp_X4_isOpenToObject at h
    split at h
    · exact Nat.le_of_ble_eq_true rfl
    · exact h.elim
  · exact fun _ h => absurd h List.not_mem_nil
  · intro as S P Po h0 V hV hW
    obtain ⟨as, rfl, h⟩ := z_rc_of h0
    unfold sp_X4_isOpenToObject at h
    split at h
    · rename_i x1 x2
      obtain ⟨hp0, hpo⟩ := h
      refine hV [] 27 0 _ _ _ _ ?_
      refine ⟨(show vp_in x1 12 by assumption), ?_⟩
      refine ⟨fun (h1 : ¬ ((S 98401 x1.toNatClampNeg) = 0)) => ?_, fun (h1 : (S 98401 x1.toNatClampNeg) = 0) => ?_⟩
      · exact ⟨(by first | rfl | exact z_nb _), z_pb hpo ((if_neg h1).trans rfl) (rfl) (rfl)⟩
      · refine ⟨(show vp_in x1 12 by assumption), ?_⟩
        refine ⟨fun (h2 : (S 106594 x1.toNatClampNeg) = 0) => ?_, fun (h2 : ¬ ((S 106594 x1.toNatClampNeg) = 0)) => ?_⟩
        · exact ⟨(by first | rfl | exact z_nb _), z_pb hpo ((if_pos h1).trans ((if_pos h2).trans rfl)) (rfl) (rfl)⟩
        · refine ⟨(show vp_in x1 12 by assumption), ?_⟩
          refine ⟨fun (h3 : (nI 4) < (x2 - (S 88161 x1.toNatClampNeg))) => ?_, fun (h3 : ¬ ((nI 4) < (x2 - (S 88161 x1.toNatClampNeg)))) => ?_⟩
          · exact ⟨(by first | rfl | exact z_nb _), z_pb hpo ((if_pos h1).trans ((if_neg h2).trans ((if_pos h3).trans rfl))) (rfl) (rfl)⟩
          · exact ⟨(by first | rfl | exact z_nb _), z_pb hpo ((if_pos h1).trans ((if_neg h2).trans ((if_neg h3).trans rfl))) (rfl) (rfl)⟩
    · exact h.elim
def f_X4_isOpenToDecide (S : z_MI) (P : z_ML) (x1 : Int32) (x2 : Int32) : Bool :=
  if (S 98401 x1.toNatClampNeg) = 0 then
    if (S 108642 x1.toNatClampNeg) = 0 then
      if (x2 - (S 88161 x1.toNatClampNeg)) < (nI 6) then
        false
      else
        true
    else
      false
  else
    false
def sp_X4_isOpenToDecide : z_SP := fun as S P k => match as with
  | [.int x1, .int x2] => vp_in x1 12 ∧ k (some (.int (z_b (f_X4_isOpenToDecide S P x1 x2)))) S P
  | _ => False
def G_X4_isOpenToDecide : z_G := ([(0, .aload_n 0, 1, 0), (1, .getfield 27, 4, 0), (4, .iload_n 1, 5, 0), (5, .iaload, 6, 0), (6, .ifCond .ne 29, 9, 35), (9, .aload_n 0, 10, 0), (10, .getfield 43, 13, 0), (13, .iload_n 1, 14, 0), (14, .baload, 15, 0), (15, .ifCond .ne 20, 18, 35), (18, .iload_n 2, 19, 0), (19, .aload_n 0, 20, 0), (20, .getfield 9, 23, 0), (23, .iload_n 1, 24, 0), (24, .iaload, 25, 0), (25, .isub, 26, 0), (26, .bipush 6, 28, 0), (28, .if_icmp .lt 7, 31, 35), (31, .iconst 1, 32, 0), (32, .goto 4, 35, 36), (35, .iconst 0, 36, 0), (36, .ireturn, 37, 0)], [(9, 14368, 0, some 88161), (27, 14368, 5, some 98401), (43, 14368, 10, some 108642)], [], [], [], [], [], some .boolean)
set_option maxRecDepth 20000 in
set_option maxHeartbeats 4000000 in
theorem ct_X4_isOpenToDecide (l : Launch) : z_CT l yX4_isOpenToDecide cX4_isOpenToDecide 3 (some .boolean) (z_rc 14368 sp_X4_isOpenToDecide) 0 := by
  refine z_CT_of G_X4_isOpenToDecide (by decide) (by decide +kernel) (z_pok_of ft_X4 ci_X4 cL_X4_L fo_X4 co_X4 lo_X4 (by decide +kernel)) rfl rfl ?_ ?_ ?_
  · intro as S P Po h0
    obtain ⟨as, rfl, h⟩ := z_rc_of h0
    unfold sp_X4_isOpenToDecide at h
    split at h
    · exact Nat.le_of_ble_eq_true rfl
    · exact h.elim
  · exact fun _ h => absurd h List.not_mem_nil
  · intro as S P Po h0 V hV hW
    obtain ⟨as, rfl, h⟩ := z_rc_of h0
    unfold sp_X4_isOpenToDecide at h
    split at h
    · rename_i x1 x2
      obtain ⟨hp0, hpo⟩ := h
      refine hV [] 27 0 _ _ _ _ ?_
      refine ⟨(show vp_in x1 12 by assumption), ?_⟩
      refine ⟨fun (h1 : ¬ ((S 98401 x1.toNatClampNeg) = 0)) => ?_, fun (h1 : (S 98401 x1.toNatClampNeg) = 0) => ?_⟩
      · exact ⟨(by first | rfl | exact z_nb _), z_pb hpo ((if_neg h1).trans rfl) (rfl) (rfl)⟩
      · refine ⟨(show vp_in x1 12 by assumption), ?_⟩
        refine ⟨fun (h2 : ¬ ((S 108642 x1.toNatClampNeg) = 0)) => ?_, fun (h2 : (S 108642 x1.toNatClampNeg) = 0) => ?_⟩
        · exact ⟨(by first | rfl | exact z_nb _), z_pb hpo ((if_pos h1).trans ((if_neg h2).trans rfl)) (rfl) (rfl)⟩
        · refine ⟨(show vp_in x1 12 by assumption), ?_⟩
          refine ⟨fun (h3 : (x2 - (S 88161 x1.toNatClampNeg)) < (nI 6)) => ?_, fun (h3 : ¬ ((x2 - (S 88161 x1.toNatClampNeg)) < (nI 6))) => ?_⟩
          · exact ⟨(by first | rfl | exact z_nb _), z_pb hpo ((if_pos h1).trans ((if_pos h2).trans ((if_pos h3).trans rfl))) (rfl) (rfl)⟩
          · exact ⟨(by first | rfl | exact z_nb _), z_pb hpo ((if_pos h1).trans ((if_pos h2).trans ((if_neg h3).trans rfl))) (rfl) (rfl)⟩
    · exact h.elim
def f_X4_isRipe (S : z_MI) (P : z_ML) (x1 : Int32) (x2 : Int32) (x3 : Int32) : Bool :=
  if (x2 - (S 88161 x1.toNatClampNeg)) ≤ (nI 3) then
    if (S 106594 x1.toNatClampNeg) = 0 then
      if (S 98401 x1.toNatClampNeg) = 0 then
        if (S 108642 x1.toNatClampNeg) = 0 then
          false
        else
          true
      else
        false
    else
      if (x2 - (S 88161 x1.toNatClampNeg)) ≤ (nI 4) then
        if (S 98401 x1.toNatClampNeg) = 0 then
          if (S 108642 x1.toNatClampNeg) = 0 then
            false
          else
            true
        else
          false
      else
        if (S 102497 x1.toNatClampNeg) = 0 then
          if (S 98401 x1.toNatClampNeg) = 0 then
            true
          else
            false
        else
          if (S 98401 x1.toNatClampNeg) = 0 then
            if (S 108642 x1.toNatClampNeg) = 0 then
              false
            else
              true
          else
            false
  else
    if (x3 &&& ((S 100449 x1.toNatClampNeg) ^^^ (-1))) = 0 then
      if (S 106594 x1.toNatClampNeg) = 0 then
        if (S 98401 x1.toNatClampNeg) = 0 then
          true
        else
          false
      else
        if (x2 - (S 88161 x1.toNatClampNeg)) ≤ (nI 4) then
          if (S 98401 x1.toNatClampNeg) = 0 then
            true
          else
            false
        else
          if (S 102497 x1.toNatClampNeg) = 0 then
            if (S 98401 x1.toNatClampNeg) = 0 then
              true
            else
              false
          else
            if (S 98401 x1.toNatClampNeg) = 0 then
              true
            else
              false
    else
      if (S 106594 x1.toNatClampNeg) = 0 then
        if (S 98401 x1.toNatClampNeg) = 0 then
          if (S 108642 x1.toNatClampNeg) = 0 then
            false
          else
            true
        else
          false
      else
        if (x2 - (S 88161 x1.toNatClampNeg)) ≤ (nI 4) then
          if (S 98401 x1.toNatClampNeg) = 0 then
            if (S 108642 x1.toNatClampNeg) = 0 then
              false
            else
              true
          else
            false
        else
          if (S 102497 x1.toNatClampNeg) = 0 then
            if (S 98401 x1.toNatClampNeg) = 0 then
              true
            else
              false
          else
            if (S 98401 x1.toNatClampNeg) = 0 then
              if (S 108642 x1.toNatClampNeg) = 0 then
                false
              else
                true
            else
              false
def sp_X4_isRipe : z_SP := fun as S P k => match as with
  | [.int x1, .int x2, .int x3] => vp_in x1 12 ∧ k (some (.int (z_b (f_X4_isRipe S P x1 x2 x3)))) S P
  | _ => False
def G_X4_isRipe : z_G := ([(0, .iload_n 2, 1, 0), (1, .aload_n 0, 2, 0), (2, .getfield 9, 5, 0), (5, .iload_n 1, 6, 0), (6, .iaload, 7, 0), (7, .isub, 8, 0), (8, .istore 4, 10, 0), (10, .iload 4, 12, 0), (12, .iconst 3, 13, 0), (13, .if_icmp .le 20, 16, 33), (16, .iload_n 3, 17, 0), (17, .aload_n 0, 18, 0), (18, .getfield 30, 21, 0), (21, .iload_n 1, 22, 0), (22, .iaload, 23, 0), (23, .iconst (-1), 24, 0), (24, .ixor, 25, 0), (25, .iand, 26, 0), (26, .ifCond .ne 7, 29, 33), (29, .iconst 1, 30, 0), (30, .goto 4, 33, 34), (33, .iconst 0, 34, 0), (34, .istore 5, 36, 0), (36, .aload_n 0, 37, 0), (37, .getfield 39, 40, 0), (40, .iload_n 1, 41, 0), (41, .baload, 42, 0), (42, .ifCond .eq 22, 45, 64), (45, .iload 4, 47, 0), (47, .iconst 4, 48, 0), (48, .if_icmp .le 16, 51, 64), (51, .aload_n 0, 52, 0), (52, .getfield 33, 55, 0), (55, .iload_n 1, 56, 0), (56, .iaload, 57, 0), (57, .ifCond .ne 7, 60, 64), (60, .iconst 1, 61, 0), (61, .goto 4, 64, 65), (64, .iconst 0, 65, 0), (65, .istore 6, 67, 0), (67, .aload_n 0, 68, 0), (68, .getfield 27, 71, 0), (71, .iload_n 1, 72, 0), (72, .iaload, 73, 0), (73, .ifCond .ne 26, 76, 99), (76, .iload 5, 78, 0), (78, .ifCond .ne 17, 81, 95), (81, .iload 6, 83, 0), (83, .ifCond .ne 12, 86, 95), (86, .aload_n 0, 87, 0), (87, .getfield 43, 90, 0), (90, .iload_n 1, 91, 0), (91, .baload, 92, 0), (92, .ifCond .eq 7, 95, 99), (95, .iconst 1, 96, 0), (96, .goto 4, 99, 100), (99, .iconst 0, 100, 0), (100, .ireturn, 101, 0)], [(9, 14368, 0, some 88161), (27, 14368, 5, some 98401), (30, 14368, 6, some 100449), (33, 14368, 7, some 102497), (39, 14368, 9, some 106594), (43, 14368, 10, some 108642)], [], [], [], [], [], some .boolean)
set_option maxRecDepth 20000 in
set_option maxHeartbeats 4000000 in
theorem ct_X4_isRipe (l : Launch) : z_CT l yX4_isRipe cX4_isRipe 7 (some .boolean) (z_rc 14368 sp_X4_isRipe) 0 := by
  refine z_CT_of G_X4_isRipe (by decide) (by decide +kernel) (z_pok_of ft_X4 ci_X4 cL_X4_L fo_X4 co_X4 lo_X4 (by decide +kernel)) rfl rfl ?_ ?_ ?_
  · intro as S P Po h0
    obtain ⟨as, rfl, h⟩ := z_rc_of h0
    unfold sp_X4_isRipe at h
    split at h
    · exact Nat.le_of_ble_eq_true rfl
    · exact h.elim
  · exact fun _ h => absurd h List.not_mem_nil
  · intro as S P Po h0 V hV hW
    obtain ⟨as, rfl, h⟩ := z_rc_of h0
    unfold sp_X4_isRipe at h
    split at h
    · rename_i x1 x2 x3
      obtain ⟨hp0, hpo⟩ := h
      refine hV [] 63 0 _ _ _ _ ?_
      refine ⟨(show vp_in x1 12 by assumption), ?_⟩
      refine ⟨fun (h1 : (x2 - (S 88161 x1.toNatClampNeg)) ≤ (nI 3)) => ?_, fun (h1 : ¬ ((x2 - (S 88161 x1.toNatClampNeg)) ≤ (nI 3))) => ?_⟩
      · refine ⟨(show vp_in x1 12 by assumption), ?_⟩
        refine ⟨fun (h2 : (S 106594 x1.toNatClampNeg) = 0) => ?_, fun (h2 : ¬ ((S 106594 x1.toNatClampNeg) = 0)) => ?_⟩
        · refine ⟨(show vp_in x1 12 by assumption), ?_⟩
          refine ⟨fun (h3 : ¬ ((S 98401 x1.toNatClampNeg) = 0)) => ?_, fun (h3 : (S 98401 x1.toNatClampNeg) = 0) => ?_⟩
          · exact ⟨(by first | rfl | exact z_nb _), z_pb hpo ((if_pos h1).trans ((if_pos h2).trans ((if_neg h3).trans rfl))) (rfl) (rfl)⟩
          · refine ⟨fun h => absurd (by decide) h, fun _ => ?_⟩
            refine ⟨fun h => absurd (by decide) h, fun _ => ?_⟩
            refine ⟨(show vp_in x1 12 by assumption), ?_⟩
            refine ⟨fun (h4 : (S 108642 x1.toNatClampNeg) = 0) => ?_, fun (h4 : ¬ ((S 108642 x1.toNatClampNeg) = 0)) => ?_⟩
            · exact ⟨(by first | rfl | exact z_nb _), z_pb hpo ((if_pos h1).trans ((if_pos h2).trans ((if_pos h3).trans ((if_pos h4).trans rfl)))) (rfl) (rfl)⟩
            · exact ⟨(by first | rfl | exact z_nb _), z_pb hpo ((if_pos h1).trans ((if_pos h2).trans ((if_pos h3).trans ((if_neg h4).trans rfl)))) (rfl) (rfl)⟩
        · refine ⟨fun (h5 : (x2 - (S 88161 x1.toNatClampNeg)) ≤ (nI 4)) => ?_, fun (h5 : ¬ ((x2 - (S 88161 x1.toNatClampNeg)) ≤ (nI 4))) => ?_⟩
          · refine ⟨(show vp_in x1 12 by assumption), ?_⟩
            refine ⟨fun (h6 : ¬ ((S 98401 x1.toNatClampNeg) = 0)) => ?_, fun (h6 : (S 98401 x1.toNatClampNeg) = 0) => ?_⟩
            · exact ⟨(by first | rfl | exact z_nb _), z_pb hpo ((if_pos h1).trans ((if_neg h2).trans ((if_pos h5).trans ((if_neg h6).trans rfl)))) (rfl) (rfl)⟩
            · refine ⟨fun h => absurd (by decide) h, fun _ => ?_⟩
              refine ⟨fun h => absurd (by decide) h, fun _ => ?_⟩
              refine ⟨(show vp_in x1 12 by assumption), ?_⟩
              refine ⟨fun (h7 : (S 108642 x1.toNatClampNeg) = 0) => ?_, fun (h7 : ¬ ((S 108642 x1.toNatClampNeg) = 0)) => ?_⟩
              · exact ⟨(by first | rfl | exact z_nb _), z_pb hpo ((if_pos h1).trans ((if_neg h2).trans ((if_pos h5).trans ((if_pos h6).trans ((if_pos h7).trans rfl))))) (rfl) (rfl)⟩
              · exact ⟨(by first | rfl | exact z_nb _), z_pb hpo ((if_pos h1).trans ((if_neg h2).trans ((if_pos h5).trans ((if_pos h6).trans ((if_neg h7).trans rfl))))) (rfl) (rfl)⟩
          · refine ⟨(show vp_in x1 12 by assumption), ?_⟩
            refine ⟨fun (h8 : ¬ ((S 102497 x1.toNatClampNeg) = 0)) => ?_, fun (h8 : (S 102497 x1.toNatClampNeg) = 0) => ?_⟩
            · refine ⟨(show vp_in x1 12 by assumption), ?_⟩
              refine ⟨fun (h9 : ¬ ((S 98401 x1.toNatClampNeg) = 0)) => ?_, fun (h9 : (S 98401 x1.toNatClampNeg) = 0) => ?_⟩
              · exact ⟨(by first | rfl | exact z_nb _), z_pb hpo ((if_pos h1).trans ((if_neg h2).trans ((if_neg h5).trans ((if_neg h8).trans ((if_neg h9).trans rfl))))) (rfl) (rfl)⟩
              · refine ⟨fun h => absurd (by decide) h, fun _ => ?_⟩
                refine ⟨fun h => absurd (by decide) h, fun _ => ?_⟩
                refine ⟨(show vp_in x1 12 by assumption), ?_⟩
                refine ⟨fun (h10 : (S 108642 x1.toNatClampNeg) = 0) => ?_, fun (h10 : ¬ ((S 108642 x1.toNatClampNeg) = 0)) => ?_⟩
                · exact ⟨(by first | rfl | exact z_nb _), z_pb hpo ((if_pos h1).trans ((if_neg h2).trans ((if_neg h5).trans ((if_neg h8).trans ((if_pos h9).trans ((if_pos h10).trans rfl)))))) (rfl) (rfl)⟩
                · exact ⟨(by first | rfl | exact z_nb _), z_pb hpo ((if_pos h1).trans ((if_neg h2).trans ((if_neg h5).trans ((if_neg h8).trans ((if_pos h9).trans ((if_neg h10).trans rfl)))))) (rfl) (rfl)⟩
            · refine ⟨(show vp_in x1 12 by assumption), ?_⟩
              refine ⟨fun (h11 : ¬ ((S 98401 x1.toNatClampNeg) = 0)) => ?_, fun (h11 : (S 98401 x1.toNatClampNeg) = 0) => ?_⟩
              · exact ⟨(by first | rfl | exact z_nb _), z_pb hpo ((if_pos h1).trans ((if_neg h2).trans ((if_neg h5).trans ((if_pos h8).trans ((if_neg h11).trans rfl))))) (rfl) (rfl)⟩
              · refine ⟨fun h => absurd (by decide) h, fun _ => ?_⟩
                refine ⟨fun _ => ?_, fun h => absurd h (by decide)⟩
                exact ⟨(by first | rfl | exact z_nb _), z_pb hpo ((if_pos h1).trans ((if_neg h2).trans ((if_neg h5).trans ((if_pos h8).trans ((if_pos h11).trans rfl))))) (rfl) (rfl)⟩
      · refine ⟨(show vp_in x1 12 by assumption), ?_⟩
        refine ⟨fun (h12 : ¬ ((x3 &&& ((S 100449 x1.toNatClampNeg) ^^^ (-1))) = 0)) => ?_, fun (h12 : (x3 &&& ((S 100449 x1.toNatClampNeg) ^^^ (-1))) = 0) => ?_⟩
        · refine ⟨(show vp_in x1 12 by assumption), ?_⟩
          refine ⟨fun (h13 : (S 106594 x1.toNatClampNeg) = 0) => ?_, fun (h13 : ¬ ((S 106594 x1.toNatClampNeg) = 0)) => ?_⟩
          · refine ⟨(show vp_in x1 12 by assumption), ?_⟩
            refine ⟨fun (h14 : ¬ ((S 98401 x1.toNatClampNeg) = 0)) => ?_, fun (h14 : (S 98401 x1.toNatClampNeg) = 0) => ?_⟩
            · exact ⟨(by first | rfl | exact z_nb _), z_pb hpo ((if_neg h1).trans ((if_neg h12).trans ((if_pos h13).trans ((if_neg h14).trans rfl)))) (rfl) (rfl)⟩
            · refine ⟨fun h => absurd (by decide) h, fun _ => ?_⟩
              refine ⟨fun h => absurd (by decide) h, fun _ => ?_⟩
              refine ⟨(show vp_in x1 12 by assumption), ?_⟩
              refine ⟨fun (h15 : (S 108642 x1.toNatClampNeg) = 0) => ?_, fun (h15 : ¬ ((S 108642 x1.toNatClampNeg) = 0)) => ?_⟩
              · exact ⟨(by first | rfl | exact z_nb _), z_pb hpo ((if_neg h1).trans ((if_neg h12).trans ((if_pos h13).trans ((if_pos h14).trans ((if_pos h15).trans rfl))))) (rfl) (rfl)⟩
              · exact ⟨(by first | rfl | exact z_nb _), z_pb hpo ((if_neg h1).trans ((if_neg h12).trans ((if_pos h13).trans ((if_pos h14).trans ((if_neg h15).trans rfl))))) (rfl) (rfl)⟩
          · refine ⟨fun (h16 : (x2 - (S 88161 x1.toNatClampNeg)) ≤ (nI 4)) => ?_, fun (h16 : ¬ ((x2 - (S 88161 x1.toNatClampNeg)) ≤ (nI 4))) => ?_⟩
            · refine ⟨(show vp_in x1 12 by assumption), ?_⟩
              refine ⟨fun (h17 : ¬ ((S 98401 x1.toNatClampNeg) = 0)) => ?_, fun (h17 : (S 98401 x1.toNatClampNeg) = 0) => ?_⟩
              · exact ⟨(by first | rfl | exact z_nb _), z_pb hpo ((if_neg h1).trans ((if_neg h12).trans ((if_neg h13).trans ((if_pos h16).trans ((if_neg h17).trans rfl))))) (rfl) (rfl)⟩
              · refine ⟨fun h => absurd (by decide) h, fun _ => ?_⟩
                refine ⟨fun h => absurd (by decide) h, fun _ => ?_⟩
                refine ⟨(show vp_in x1 12 by assumption), ?_⟩
                refine ⟨fun (h18 : (S 108642 x1.toNatClampNeg) = 0) => ?_, fun (h18 : ¬ ((S 108642 x1.toNatClampNeg) = 0)) => ?_⟩
                · exact ⟨(by first | rfl | exact z_nb _), z_pb hpo ((if_neg h1).trans ((if_neg h12).trans ((if_neg h13).trans ((if_pos h16).trans ((if_pos h17).trans ((if_pos h18).trans rfl)))))) (rfl) (rfl)⟩
                · exact ⟨(by first | rfl | exact z_nb _), z_pb hpo ((if_neg h1).trans ((if_neg h12).trans ((if_neg h13).trans ((if_pos h16).trans ((if_pos h17).trans ((if_neg h18).trans rfl)))))) (rfl) (rfl)⟩
            · refine ⟨(show vp_in x1 12 by assumption), ?_⟩
              refine ⟨fun (h19 : ¬ ((S 102497 x1.toNatClampNeg) = 0)) => ?_, fun (h19 : (S 102497 x1.toNatClampNeg) = 0) => ?_⟩
              · refine ⟨(show vp_in x1 12 by assumption), ?_⟩
                refine ⟨fun (h20 : ¬ ((S 98401 x1.toNatClampNeg) = 0)) => ?_, fun (h20 : (S 98401 x1.toNatClampNeg) = 0) => ?_⟩
                · exact ⟨(by first | rfl | exact z_nb _), z_pb hpo ((if_neg h1).trans ((if_neg h12).trans ((if_neg h13).trans ((if_neg h16).trans ((if_neg h19).trans ((if_neg h20).trans rfl)))))) (rfl) (rfl)⟩
                · refine ⟨fun h => absurd (by decide) h, fun _ => ?_⟩
                  refine ⟨fun h => absurd (by decide) h, fun _ => ?_⟩
                  refine ⟨(show vp_in x1 12 by assumption), ?_⟩
                  refine ⟨fun (h21 : (S 108642 x1.toNatClampNeg) = 0) => ?_, fun (h21 : ¬ ((S 108642 x1.toNatClampNeg) = 0)) => ?_⟩
                  · exact ⟨(by first | rfl | exact z_nb _), z_pb hpo ((if_neg h1).trans ((if_neg h12).trans ((if_neg h13).trans ((if_neg h16).trans ((if_neg h19).trans ((if_pos h20).trans ((if_pos h21).trans rfl))))))) (rfl) (rfl)⟩
                  · exact ⟨(by first | rfl | exact z_nb _), z_pb hpo ((if_neg h1).trans ((if_neg h12).trans ((if_neg h13).trans ((if_neg h16).trans ((if_neg h19).trans ((if_pos h20).trans ((if_neg h21).trans rfl))))))) (rfl) (rfl)⟩
              · refine ⟨(show vp_in x1 12 by assumption), ?_⟩
                refine ⟨fun (h22 : ¬ ((S 98401 x1.toNatClampNeg) = 0)) => ?_, fun (h22 : (S 98401 x1.toNatClampNeg) = 0) => ?_⟩
                · exact ⟨(by first | rfl | exact z_nb _), z_pb hpo ((if_neg h1).trans ((if_neg h12).trans ((if_neg h13).trans ((if_neg h16).trans ((if_pos h19).trans ((if_neg h22).trans rfl)))))) (rfl) (rfl)⟩
                · refine ⟨fun h => absurd (by decide) h, fun _ => ?_⟩
                  refine ⟨fun _ => ?_, fun h => absurd h (by decide)⟩
                  exact ⟨(by first | rfl | exact z_nb _), z_pb hpo ((if_neg h1).trans ((if_neg h12).trans ((if_neg h13).trans ((if_neg h16).trans ((if_pos h19).trans ((if_pos h22).trans rfl)))))) (rfl) (rfl)⟩
        · refine ⟨(show vp_in x1 12 by assumption), ?_⟩
          refine ⟨fun (h23 : (S 106594 x1.toNatClampNeg) = 0) => ?_, fun (h23 : ¬ ((S 106594 x1.toNatClampNeg) = 0)) => ?_⟩
          · refine ⟨(show vp_in x1 12 by assumption), ?_⟩
            refine ⟨fun (h24 : ¬ ((S 98401 x1.toNatClampNeg) = 0)) => ?_, fun (h24 : (S 98401 x1.toNatClampNeg) = 0) => ?_⟩
            · exact ⟨(by first | rfl | exact z_nb _), z_pb hpo ((if_neg h1).trans ((if_pos h12).trans ((if_pos h23).trans ((if_neg h24).trans rfl)))) (rfl) (rfl)⟩
            · refine ⟨fun _ => ?_, fun h => absurd h (by decide)⟩
              exact ⟨(by first | rfl | exact z_nb _), z_pb hpo ((if_neg h1).trans ((if_pos h12).trans ((if_pos h23).trans ((if_pos h24).trans rfl)))) (rfl) (rfl)⟩
          · refine ⟨fun (h25 : (x2 - (S 88161 x1.toNatClampNeg)) ≤ (nI 4)) => ?_, fun (h25 : ¬ ((x2 - (S 88161 x1.toNatClampNeg)) ≤ (nI 4))) => ?_⟩
            · refine ⟨(show vp_in x1 12 by assumption), ?_⟩
              refine ⟨fun (h26 : ¬ ((S 98401 x1.toNatClampNeg) = 0)) => ?_, fun (h26 : (S 98401 x1.toNatClampNeg) = 0) => ?_⟩
              · exact ⟨(by first | rfl | exact z_nb _), z_pb hpo ((if_neg h1).trans ((if_pos h12).trans ((if_neg h23).trans ((if_pos h25).trans ((if_neg h26).trans rfl))))) (rfl) (rfl)⟩
              · refine ⟨fun _ => ?_, fun h => absurd h (by decide)⟩
                exact ⟨(by first | rfl | exact z_nb _), z_pb hpo ((if_neg h1).trans ((if_pos h12).trans ((if_neg h23).trans ((if_pos h25).trans ((if_pos h26).trans rfl))))) (rfl) (rfl)⟩
            · refine ⟨(show vp_in x1 12 by assumption), ?_⟩
              refine ⟨fun (h27 : ¬ ((S 102497 x1.toNatClampNeg) = 0)) => ?_, fun (h27 : (S 102497 x1.toNatClampNeg) = 0) => ?_⟩
              · refine ⟨(show vp_in x1 12 by assumption), ?_⟩
                refine ⟨fun (h28 : ¬ ((S 98401 x1.toNatClampNeg) = 0)) => ?_, fun (h28 : (S 98401 x1.toNatClampNeg) = 0) => ?_⟩
                · exact ⟨(by first | rfl | exact z_nb _), z_pb hpo ((if_neg h1).trans ((if_pos h12).trans ((if_neg h23).trans ((if_neg h25).trans ((if_neg h27).trans ((if_neg h28).trans rfl)))))) (rfl) (rfl)⟩
                · refine ⟨fun _ => ?_, fun h => absurd h (by decide)⟩
                  exact ⟨(by first | rfl | exact z_nb _), z_pb hpo ((if_neg h1).trans ((if_pos h12).trans ((if_neg h23).trans ((if_neg h25).trans ((if_neg h27).trans ((if_pos h28).trans rfl)))))) (rfl) (rfl)⟩
              · refine ⟨(show vp_in x1 12 by assumption), ?_⟩
                refine ⟨fun (h29 : ¬ ((S 98401 x1.toNatClampNeg) = 0)) => ?_, fun (h29 : (S 98401 x1.toNatClampNeg) = 0) => ?_⟩
                · exact ⟨(by first | rfl | exact z_nb _), z_pb hpo ((if_neg h1).trans ((if_pos h12).trans ((if_neg h23).trans ((if_neg h25).trans ((if_pos h27).trans ((if_neg h29).trans rfl)))))) (rfl) (rfl)⟩
                · refine ⟨fun _ => ?_, fun h => absurd h (by decide)⟩
                  exact ⟨(by first | rfl | exact z_nb _), z_pb hpo ((if_neg h1).trans ((if_pos h12).trans ((if_neg h23).trans ((if_neg h25).trans ((if_pos h27).trans ((if_pos h29).trans rfl)))))) (rfl) (rfl)⟩
    · exact h.elim
def f_X4_isPast (S : z_MI) (P : z_ML) (x1 : Int32) (x2 : Int32) : Bool :=
  if (S 94305 x1.toNatClampNeg) = (nI 1) then
    if x2 ≤ (S 96353 x1.toNatClampNeg) then
      false
    else
      true
  else
    false
def sp_X4_isPast : z_SP := fun as S P k => match as with
  | [.int x1, .int x2] => vp_in x1 12 ∧ k (some (.int (z_b (f_X4_isPast S P x1 x2)))) S P
  | _ => False
def G_X4_isPast : z_G := ([(0, .aload_n 0, 1, 0), (1, .getfield 21, 4, 0), (4, .iload_n 1, 5, 0), (5, .iaload, 6, 0), (6, .iconst 1, 7, 0), (7, .if_icmp .ne 17, 10, 24), (10, .aload_n 0, 11, 0), (11, .getfield 24, 14, 0), (14, .iload_n 1, 15, 0), (15, .iaload, 16, 0), (16, .iload_n 2, 17, 0), (17, .if_icmp .ge 7, 20, 24), (20, .iconst 1, 21, 0), (21, .goto 4, 24, 25), (24, .iconst 0, 25, 0), (25, .ireturn, 26, 0)], [(21, 14368, 3, some 94305), (24, 14368, 4, some 96353)], [], [], [], [], [], some .boolean)
set_option maxRecDepth 20000 in
set_option maxHeartbeats 4000000 in
theorem ct_X4_isPast (l : Launch) : z_CT l yX4_isPast cX4_isPast 3 (some .boolean) (z_rc 14368 sp_X4_isPast) 0 := by
  refine z_CT_of G_X4_isPast (by decide) (by decide +kernel) (z_pok_of ft_X4 ci_X4 cL_X4_L fo_X4 co_X4 lo_X4 (by decide +kernel)) rfl rfl ?_ ?_ ?_
  · intro as S P Po h0
    obtain ⟨as, rfl, h⟩ := z_rc_of h0
    unfold sp_X4_isPast at h
    split at h
    · exact Nat.le_of_ble_eq_true rfl
    · exact h.elim
  · exact fun _ h => absurd h List.not_mem_nil
  · intro as S P Po h0 V hV hW
    obtain ⟨as, rfl, h⟩ := z_rc_of h0
    unfold sp_X4_isPast at h
    split at h
    · rename_i x1 x2
      obtain ⟨hp0, hpo⟩ := h
      refine hV [] 21 0 _ _ _ _ ?_
      refine ⟨(show vp_in x1 12 by assumption), ?_⟩
      refine ⟨fun (h1 : ¬ ((S 94305 x1.toNatClampNeg) = (nI 1))) => ?_, fun (h1 : (S 94305 x1.toNatClampNeg) = (nI 1)) => ?_⟩
      · exact ⟨(by first | rfl | exact z_nb _), z_pb hpo ((if_neg h1).trans rfl) (rfl) (rfl)⟩
      · refine ⟨(show vp_in x1 12 by assumption), ?_⟩
        refine ⟨fun (h2 : x2 ≤ (S 96353 x1.toNatClampNeg)) => ?_, fun (h2 : ¬ (x2 ≤ (S 96353 x1.toNatClampNeg))) => ?_⟩
        · exact ⟨(by first | rfl | exact z_nb _), z_pb hpo ((if_pos h1).trans ((if_pos h2).trans rfl)) (rfl) (rfl)⟩
        · exact ⟨(by first | rfl | exact z_nb _), z_pb hpo ((if_pos h1).trans ((if_neg h2).trans rfl)) (rfl) (rfl)⟩
    · exact h.elim
