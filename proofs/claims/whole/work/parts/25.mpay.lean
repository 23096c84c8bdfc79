theorem m_or64 {a c : Int32} (h : vp_in a 64) (hc : vp_in c 6) : vp_in (a ||| ((nI 1) <<< (c &&& 31))) 64 := by
  obtain ⟨i, hi, rfl⟩ := vp_in_of h (by decide)
  obtain ⟨j, hj, rfl⟩ := vp_in_of hc (by decide)
  have q : ∀ (x : Fin 64) (y : Fin 6), ∃ z : Fin 64, (nI x.1 : Int32) ||| ((nI 1) <<< (nI y.1 &&& 31)) = nI z.1 := by decide +kernel
  obtain ⟨z, hz⟩ := q ⟨i, hi⟩ ⟨j, hj⟩
  rw [show (nI i : Int32) ||| ((nI 1) <<< (nI j &&& 31)) = nI z.1 from hz]
  exact vp_in_nI z.2 (by decide)
theorem m_or640 {a : Int32} (h : vp_in a 64) : vp_in (a ||| nI 0) 64 := by
  rw [show (nI 0 : Int32) = 0 from rfl, Int32.or_zero]
  exact h
theorem m_hold64 {S : z_MI} {P : z_ML} {x : Int32} (hJ : z_JM S) : vp_in (f_X7_holdersOf S P x) 64 := by
  unfold f_X7_holdersOf
  generalize (S 110648 33).toNatClampNeg = n
  induction n with
  | zero => exact vp_in_nI (by decide) (by decide)
  | succ n ih =>
    show vp_in (l_X7_holdersOf_4 S P x n (z_fo _ _ n)) 64
    unfold l_X7_holdersOf_4
    split
    · exact m_or64 ih (z_J_Mclp hJ _)
    · exact m_or640 ih
theorem m_bits64 {S : z_MI} {P : z_ML} {x : Int32} (h : vp_in x 64) (h0 : ¬ x = 0) : ¬ f_X7_bits S P x = 0 := by
  obtain ⟨i, hi, rfl⟩ := vp_in_of h (by decide)
  have q : ∀ (x : Fin 64), ¬ (nI x.1 : Int32) = 0 → ¬ f_X7_bits (fun _ _ => 0) (fun _ _ => 0) (nI x.1) = 0 := by decide +kernel
  exact q ⟨i, hi⟩ h0
theorem m_share {S : z_MI} {P Q : z_ML} {x y : Int32} (hJ : z_JM S) (h : ¬ lg_cmp (f_X7_owedAt S P x y) (lN 0) ≤ 0) : ¬ f_X7_bits S Q (f_X7_holdersOf S P y) = 0 := by
  refine m_bits64 (m_hold64 hJ) (fun q => h ?_)
  unfold f_X7_owedAt
  rw [if_pos q]
  split <;> decide
theorem z_JM_hs {S : z_MI} {v : Int32} (h : z_JM S) : z_JM (va_up S 110648 (upd (S 110648) 0 v)) := h
def l_X7_pay_47 (S : z_MI) (P : z_ML) (x1 : Int32) (k47 : Nat) (a47 : z_ML) : z_ML :=
  if (lg_cmp (f_X7_owedAt (va_up S 110648 (upd (S 110648) 0 (nI 0))) a47 x1 (nI k47)) (lN 0)) ≤ 0 then
    a47
  else
    v_X7_shares (va_up S 110648 (upd (S 110648) 0 (nI 0))) a47 (f_X7_owedAt (va_up S 110648 (upd (S 110648) 0 (nI 0))) a47 x1 (nI k47)) (f_X7_holdersOf (va_up S 110648 (upd (S 110648) 0 (nI 0))) a47 (nI k47))
def f_X7_pay (S : z_MI) (P : z_ML) (x1 : Int32) : Int64 :=
  if (f_X7_isAct S P x1) = true then
    if (lg_cmp (f_X7_owedFor S P x1) (lN 0)) = 0 then
      lN 0
    else
      f_X7_owedFor (va_up S 110648 (upd (S 110648) 0 (nI 0))) P x1
  else
    lN 0
def u_X7_pay (S : z_MI) (P : z_ML) (x1 : Int32) : z_MI :=
  if (f_X7_isAct S P x1) = true then
    if (lg_cmp (f_X7_owedFor S P x1) (lN 0)) = 0 then
      va_up S 110648 (upd (S 110648) 0 (nI 2))
    else
      va_up (va_up S 110648 (upd (S 110648) 0 (nI 0))) 164162 (upd ((va_up S 110648 (upd (S 110648) 0 (nI 0))) 164162) x1.toNatClampNeg (vp_nar .boolean (nI 1)))
  else
    va_up S 110648 (upd (S 110648) 0 (nI 1))
def v_X7_pay (S : z_MI) (P : z_ML) (x1 : Int32) : z_ML :=
  if (f_X7_isAct S P x1) = true then
    if (lg_cmp (f_X7_owedFor S P x1) (lN 0)) = 0 then
      P
    else
      (z_fo (fun k47 a47 => l_X7_pay_47 S P x1 k47 a47) P 16)
  else
    P
def sp_X7_pay : z_SP := fun as S P k => match as with
  | [.int x1] => z_JM S ∧ k (some (.long (f_X7_pay S P x1))) (u_X7_pay S P x1) (v_X7_pay S P x1)
  | _ => False
def G_X7_pay : z_G := ([(0, .aload_n 0, 1, 0), (1, .iload_n 1, 2, 0), (2, .invokevirtual 234, 5, 0), (5, .istore_n 2, 6, 0), (6, .aload_n 0, 7, 0), (7, .iload_n 2, 8, 0), (8, .ifCond .ne 7, 11, 15), (11, .iconst 1, 12, 0), (12, .goto 18, 15, 30), (15, .aload_n 0, 16, 0), (16, .iload_n 1, 17, 0), (17, .invokevirtual 307, 20, 0), (20, .lconst 0, 21, 0), (21, .lcmp, 22, 0), (22, .ifCond .ne 7, 25, 29), (25, .iconst 2, 26, 0), (26, .goto 4, 29, 30), (29, .iconst 0, 30, 0), (30, .invokevirtual 173, 33, 0), (33, .ifCond .ne 5, 36, 38), (36, .lconst 0, 37, 0), (37, .lreturn, 38, 0), (38, .aload_n 0, 39, 0), (39, .iload_n 1, 40, 0), (40, .invokevirtual 307, 43, 0), (43, .lstore_n 3, 44, 0), (44, .iconst 0, 45, 0), (45, .istore 5, 47, 0), (47, .iload 5, 49, 0), (49, .bipush 16, 51, 0), (51, .if_icmp .ge 37, 54, 88), (54, .aload_n 0, 55, 0), (55, .iload_n 1, 56, 0), (56, .iload 5, 58, 0), (58, .invokevirtual 303, 61, 0), (61, .lstore 6, 63, 0), (63, .lload 6, 65, 0), (65, .lconst 0, 66, 0), (66, .lcmp, 67, 0), (67, .ifCond .le 15, 70, 82), (70, .aload_n 0, 71, 0), (71, .lload 6, 73, 0), (73, .aload_n 0, 74, 0), (74, .iload 5, 76, 0), (76, .invokevirtual 269, 79, 0), (79, .invokevirtual 311, 82, 0), (82, .iinc 5 1, 85, 0), (85, .goto (-38), 88, 47), (88, .aload_n 0, 89, 0), (89, .getfield 87, 92, 0), (92, .iload_n 1, 93, 0), (93, .iconst 1, 94, 0), (94, .bastore, 95, 0), (95, .lload_n 3, 96, 0), (96, .lreturn, 97, 0)], [(87, 110648, 32, some 164162)], [(173, 2, (z_rc 110648 sp_X7_holds)), (234, 2, (z_rc 110648 sp_X7_isAct)), (269, 2, (z_rc 110648 sp_X7_holdersOf)), (303, 3, (z_rc 110648 sp_X7_owedAt)), (307, 2, (z_rc 110648 sp_X7_owedFor)), (311, 3, (z_rc 110648 sp_X7_shares))], [], [], [], [], some .long)
set_option maxRecDepth 20000 in
set_option maxHeartbeats 4000000 in
theorem ct_X7_pay (l : Launch) : z_CT l yX7_pay cX7_pay 8 (some .long) (z_rc 110648 sp_X7_pay) 5 := by
  refine z_CT_of G_X7_pay (by decide) (by decide +kernel) (z_pok_of ft_X7 ci_X7 cL_X7_L fo_X7 co_X7 lo_X7 (by decide +kernel)) rfl rfl ?_ ?_ ?_
  · intro as S P Po h0
    obtain ⟨as, rfl, h⟩ := z_rc_of h0
    unfold sp_X7_pay at h
    split at h
    · exact Nat.le_of_ble_eq_true rfl
    · exact h.elim
  · exact List.forall_mem_cons.mpr ⟨z_coV (ct_X7_holds l) kb_X7_holds kv_X7_173 ko_X7 (by decide) (by decide) (by decide), List.forall_mem_cons.mpr ⟨z_coV (ct_X7_isAct l) kb_X7_isAct kv_X7_234 ko_X7 (by decide) (by decide) (by decide), List.forall_mem_cons.mpr ⟨z_coV (ct_X7_holdersOf l) kb_X7_holdersOf kv_X7_269 ko_X7 (by decide) (by decide) (by decide), List.forall_mem_cons.mpr ⟨z_coV (ct_X7_owedAt l) kb_X7_owedAt kv_X7_303 ko_X7 (by decide) (by decide) (by decide), List.forall_mem_cons.mpr ⟨z_coV (ct_X7_owedFor l) kb_X7_owedFor kv_X7_307 ko_X7 (by decide) (by decide) (by decide), List.forall_mem_cons.mpr ⟨z_coV (ct_X7_shares l) kb_X7_shares kv_X7_311 ko_X7 (by decide) (by decide) (by decide), fun _ h => absurd h List.not_mem_nil⟩⟩⟩⟩⟩⟩
  · intro as S P Po h0 V hV hW
    obtain ⟨as, rfl, h⟩ := z_rc_of h0
    unfold sp_X7_pay at h
    split at h
    · rename_i x1
      obtain ⟨hp0, hpo⟩ := h
      refine hV [47] 60 0 _ _ _ _ ?_
      refine z_brn (fun (h1 : (f_X7_isAct S P x1) = true) => ?_) (fun (h1 : (f_X7_isAct S P x1) = false) => ?_)
      · refine ⟨(show vp_in x1 40 by first | exact m_isAct hp0 (by assumption)), (show z_le (S 110648 33) 12 by exact z_J_Mclaims hp0), (show z_le (S 110648 24) 40 by exact z_J_Macts hp0), ?_⟩
        refine ⟨fun (h2 : ¬ ((lg_cmp (f_X7_owedFor S P x1) (lN 0)) = 0)) => ?_, fun (h2 : (lg_cmp (f_X7_owedFor S P x1) (lN 0)) = 0) => ?_⟩
        · refine z_hnT (z_hq0 _ _) ?_
          refine ⟨(show vp_in x1 40 by first | exact m_isAct hp0 (by assumption)), (show z_le ((va_up S 110648 (upd (S 110648) 0 (nI 0))) 110648 33) 12 by exact z_J_Mclaims hp0), (show z_le ((va_up S 110648 (upd (S 110648) 0 (nI 0))) 110648 24) 40 by exact z_J_Macts hp0), ?_⟩
          have hb47 : ((nI 16) : Int32) = (nI 16) := rfl
          have hL47 : ∀ (j k47 : Nat) (x900 : Int32) (a47 : z_ML), k47 + j = 16 → x900 = nI k47 → a47 = z_fo (fun k47 a47 => l_X7_pay_47 S P x1 k47 a47) P k47 → V 47 [(0, .ref 110648), (1, .int x1), (2, .int (z_b (f_X7_isAct S P x1))), (3, .long (f_X7_owedFor (va_up S 110648 (upd (S 110648) 0 (nI 0))) P x1)), (5, .int x900)] [] (va_up S 110648 (upd (S 110648) 0 (nI 0))) a47 := by
            intro j
            induction j with
            | zero =>
              intro k47 x900 a47 hk47 hx47 ha47
              subst hx47
              have hk9 : k47 = 16 := by omega
              subst hk9
              subst ha47
              refine hV [47] 60 47 _ _ _ _ ?_
              refine ⟨fun _ => ?_, fun h => absurd ((z_brge hb47 (by omega) (by omega)).mpr (Nat.le_refl _)) h⟩
              refine ⟨(show vp_in x1 40 by first | exact m_isAct hp0 (by assumption)), ?_⟩
              exact z_pl hpo ((if_pos h1).trans ((if_neg h2).trans rfl)) ((if_pos h1).trans ((if_neg h2).trans rfl)) ((if_pos h1).trans ((if_neg h2).trans rfl))
            | succ j ih =>
              intro k47 x900 a47 hk47 hx47 ha47
              subst hx47
              have hk9 : k47 < 16 := by omega
              subst ha47
              refine hV [47] 60 47 _ _ _ _ ?_
              refine ⟨fun h => absurd ((z_brge hb47 (by omega) (by omega)).mp h) (by omega), fun _ => ?_⟩
              refine ⟨(show vp_in x1 40 by first | exact m_isAct hp0 (by assumption)), (show z_le ((va_up S 110648 (upd (S 110648) 0 (nI 0))) 110648 33) 12 by exact z_J_Mclaims hp0), (show z_le ((va_up S 110648 (upd (S 110648) 0 (nI 0))) 110648 24) 40 by exact z_J_Macts hp0), (show vp_in (nI k47) 16 by exact vp_in_nI (by omega) (by omega)), ?_⟩
              refine ⟨fun (h4 : (lg_cmp (f_X7_owedAt (va_up S 110648 (upd (S 110648) 0 (nI 0))) (z_fo (fun k47 a47 => l_X7_pay_47 S P x1 k47 a47) P k47) x1 (nI k47)) (lN 0)) ≤ 0) => ?_, fun (h4 : ¬ ((lg_cmp (f_X7_owedAt (va_up S 110648 (upd (S 110648) 0 (nI 0))) (z_fo (fun k47 a47 => l_X7_pay_47 S P x1 k47 a47) P k47) x1 (nI k47)) (lN 0)) ≤ 0)) => ?_⟩
              · exact hW [0, 1, 2, 3, 5] _ _ _ _ _ (ih (k47 + 1) _ (z_fo (fun k47 a47 => l_X7_pay_47 S P x1 k47 a47) P k47) (by omega) (nI_add k47 1) (((if_pos h4).trans rfl).symm))
              · refine ⟨(show z_le ((va_up S 110648 (upd (S 110648) 0 (nI 0))) 110648 33) 12 by exact z_J_Mclaims hp0), ?_⟩
                refine ⟨(show ¬ (f_X7_bits (va_up S 110648 (upd (S 110648) 0 (nI 0))) (z_fo (fun k47 a47 => l_X7_pay_47 S P x1 k47 a47) P k47) (f_X7_holdersOf (va_up S 110648 (upd (S 110648) 0 (nI 0))) (z_fo (fun k47 a47 => l_X7_pay_47 S P x1 k47 a47) P k47) (nI k47))) = 0 by exact m_share (z_JM_hs hp0) (by assumption)), (show z_le ((va_up S 110648 (upd (S 110648) 0 (nI 0))) 110648 2) 6 by exact z_J_Mpeoples hp0), ?_⟩
                exact hW [0, 1, 2, 3, 5] _ _ _ _ _ (ih (k47 + 1) _ (v_X7_shares (va_up S 110648 (upd (S 110648) 0 (nI 0))) (z_fo (fun k47 a47 => l_X7_pay_47 S P x1 k47 a47) P k47) (f_X7_owedAt (va_up S 110648 (upd (S 110648) 0 (nI 0))) (z_fo (fun k47 a47 => l_X7_pay_47 S P x1 k47 a47) P k47) x1 (nI k47)) (f_X7_holdersOf (va_up S 110648 (upd (S 110648) 0 (nI 0))) (z_fo (fun k47 a47 => l_X7_pay_47 S P x1 k47 a47) P k47) (nI k47))) (by omega) (nI_add k47 1) (((if_neg h4).trans rfl).symm))
          exact hW [0, 1, 2, 3, 5] _ _ _ _ _ (hL47 16 0 _ P (Nat.zero_add _) rfl rfl)
        · refine z_hnF (z_hq2 _ _) ?_
          exact z_pl hpo ((if_pos h1).trans ((if_pos h2).trans rfl)) ((if_pos h1).trans ((if_pos h2).trans rfl)) ((if_pos h1).trans ((if_pos h2).trans rfl))
      · refine z_hnF (z_hq1 _ _) ?_
        exact z_pl hpo ((if_neg (z_nt h1)).trans rfl) ((if_neg (z_nt h1)).trans rfl) ((if_neg (z_nt h1)).trans rfl)
    · exact h.elim
