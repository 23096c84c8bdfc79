def l_X7_nextMonth_9 (S : z_MI) (P : z_ML) (x1 : Int32) (x2 : Int32) (x3 : Int32) (k9 : Nat) (a9 : Int32) : Int32 :=
  if (S 135649 ((nI k9).toNatClampNeg)) = x1 then
    if (S 137697 ((nI k9).toNatClampNeg)) = x2 then
      if (S 139745 ((nI k9).toNatClampNeg)) ≤ x3 then
        a9
      else
        if a9 ≤ (S 139745 ((nI k9).toNatClampNeg)) then
          a9
        else
          S 139745 ((nI k9).toNatClampNeg)
    else
      a9
  else
    a9
def f_X7_nextMonth (S : z_MI) (P : z_ML) (x1 : Int32) (x2 : Int32) (x3 : Int32) : Int32 :=
  (z_fo (fun k9 a9 => l_X7_nextMonth_9 S P x1 x2 x3 k9 a9) (S 110648 1) (S 110648 16).toNatClampNeg)
def sp_X7_nextMonth : z_SP := fun as S P k => match as with
  | [.int x1, .int x2, .int x3] => z_le (S 110648 16) 60 ∧ k (some (.int (f_X7_nextMonth S P x1 x2 x3))) S P
  | _ => False
def G_X7_nextMonth : z_G := ([(0, .aload_n 0, 1, 0), (1, .getfield 209, 4, 0), (4, .istore 4, 6, 0), (6, .iconst 0, 7, 0), (7, .istore 5, 9, 0), (9, .iload 5, 11, 0), (11, .aload_n 0, 12, 0), (12, .getfield 212, 15, 0), (15, .if_icmp .ge 80, 18, 95), (18, .aload_n 0, 19, 0), (19, .getfield 44, 22, 0), (22, .iload 5, 24, 0), (24, .iaload, 25, 0), (25, .iload_n 1, 26, 0), (26, .if_icmp .ne 29, 29, 55), (29, .aload_n 0, 30, 0), (30, .getfield 47, 33, 0), (33, .iload 5, 35, 0), (35, .iaload, 36, 0), (36, .iload_n 2, 37, 0), (37, .if_icmp .ne 18, 40, 55), (40, .aload_n 0, 41, 0), (41, .getfield 50, 44, 0), (44, .iload 5, 46, 0), (46, .iaload, 47, 0), (47, .iload_n 3, 48, 0), (48, .if_icmp .le 7, 51, 55), (51, .iconst 1, 52, 0), (52, .goto 4, 55, 56), (55, .iconst 0, 56, 0), (56, .istore 6, 58, 0), (58, .iload 6, 60, 0), (60, .ifCond .eq 25, 63, 85), (63, .aload_n 0, 64, 0), (64, .getfield 50, 67, 0), (67, .iload 5, 69, 0), (69, .iaload, 70, 0), (70, .iload 4, 72, 0), (72, .if_icmp .ge 13, 75, 85), (75, .aload_n 0, 76, 0), (76, .getfield 50, 79, 0), (79, .iload 5, 81, 0), (81, .iaload, 82, 0), (82, .goto 5, 85, 87), (85, .iload 4, 87, 0), (87, .istore 4, 89, 0), (89, .iinc 5 1, 92, 0), (92, .goto (-83), 95, 9), (95, .iload 4, 97, 0), (97, .ireturn, 98, 0)], [(44, 110648, 17, some 135649), (47, 110648, 18, some 137697), (50, 110648, 19, some 139745), (209, 110648, 1, none), (212, 110648, 16, none)], [], [], [], [], [], some .int)
set_option maxRecDepth 20000 in
set_option maxHeartbeats 4000000 in
theorem ct_X7_nextMonth (l : Launch) : z_CT l yX7_nextMonth cX7_nextMonth 7 (some .int) (z_rc 110648 sp_X7_nextMonth) 0 := by
  refine z_CT_of G_X7_nextMonth (by decide) (by decide +kernel) (z_pok_of ft_X7 ci_X7 cL_X7_L fo_X7 co_X7 lo_X7 (by decide +kernel)) rfl rfl ?_ ?_ ?_
  · intro as S P Po h0
    obtain ⟨as, rfl, h⟩ := z_rc_of h0
    unfold sp_X7_nextMonth at h
    split at h
    · exact Nat.le_of_ble_eq_true rfl
    · exact h.elim
  · exact fun _ h => absurd h List.not_mem_nil
  · intro as S P Po h0 V hV hW
    obtain ⟨as, rfl, h⟩ := z_rc_of h0
    unfold sp_X7_nextMonth at h
    split at h
    · rename_i x1 x2 x3
      obtain ⟨hp0, hpo⟩ := h
      refine hV [9] 55 0 _ _ _ _ ?_
      obtain ⟨hb9, hN9⟩ := z_le_cl (show z_le (S 110648 16) 60 by assumption) (by decide)
      have hL9 : ∀ (j k9 : Nat) (x900 : Int32) (a9 : Int32), k9 + j = (S 110648 16).toNatClampNeg → x900 = nI k9 → a9 = z_fo (fun k9 a9 => l_X7_nextMonth_9 S P x1 x2 x3 k9 a9) (S 110648 1) k9 → V 9 [(0, .ref 110648), (1, .int x1), (2, .int x2), (3, .int x3), (4, .int a9), (5, .int x900)] [] S P := by
        intro j
        induction j with
        | zero =>
          intro k9 x900 a9 hk9 hx9 ha9
          subst hx9
          have hk9 : k9 = (S 110648 16).toNatClampNeg := by omega
          subst hk9
          subst ha9
          refine hV [9] 55 9 _ _ _ _ ?_
          refine ⟨fun _ => ?_, fun h => absurd ((z_brge hb9 (by omega) (by omega)).mpr (Nat.le_refl _)) h⟩
          exact z_pi hpo (rfl) (rfl) (rfl)
        | succ j ih =>
          intro k9 x900 a9 hk9 hx9 ha9
          subst hx9
          have hk9 : k9 < (S 110648 16).toNatClampNeg := by omega
          subst ha9
          refine hV [9] 55 9 _ _ _ _ ?_
          refine ⟨fun h => absurd ((z_brge hb9 (by omega) (by omega)).mp h) (by omega), fun _ => ?_⟩
          refine ⟨(show vp_in (nI k9) 60 by exact vp_in_nI (by omega) (by omega)), ?_⟩
          refine ⟨fun (h2 : ¬ ((S 135649 ((nI k9).toNatClampNeg)) = x1)) => ?_, fun (h2 : (S 135649 ((nI k9).toNatClampNeg)) = x1) => ?_⟩
          · refine ⟨fun _ => ?_, fun h => absurd (by decide) h⟩
            exact hW [0, 1, 2, 3, 4, 5] _ _ _ _ _ (ih (k9 + 1) _ (z_fo (fun k9 a9 => l_X7_nextMonth_9 S P x1 x2 x3 k9 a9) (S 110648 1) k9) (by omega) (nI_add k9 1) (((if_neg h2).trans rfl).symm))
          · refine ⟨(show vp_in (nI k9) 60 by exact vp_in_nI (by omega) (by omega)), ?_⟩
            refine ⟨fun (h3 : ¬ ((S 137697 ((nI k9).toNatClampNeg)) = x2)) => ?_, fun (h3 : (S 137697 ((nI k9).toNatClampNeg)) = x2) => ?_⟩
            · refine ⟨fun _ => ?_, fun h => absurd (by decide) h⟩
              exact hW [0, 1, 2, 3, 4, 5] _ _ _ _ _ (ih (k9 + 1) _ (z_fo (fun k9 a9 => l_X7_nextMonth_9 S P x1 x2 x3 k9 a9) (S 110648 1) k9) (by omega) (nI_add k9 1) (((if_pos h2).trans ((if_neg h3).trans rfl)).symm))
            · refine ⟨(show vp_in (nI k9) 60 by exact vp_in_nI (by omega) (by omega)), ?_⟩
              refine ⟨fun (h4 : (S 139745 ((nI k9).toNatClampNeg)) ≤ x3) => ?_, fun (h4 : ¬ ((S 139745 ((nI k9).toNatClampNeg)) ≤ x3)) => ?_⟩
              · refine ⟨fun _ => ?_, fun h => absurd (by decide) h⟩
                exact hW [0, 1, 2, 3, 4, 5] _ _ _ _ _ (ih (k9 + 1) _ (z_fo (fun k9 a9 => l_X7_nextMonth_9 S P x1 x2 x3 k9 a9) (S 110648 1) k9) (by omega) (nI_add k9 1) (((if_pos h2).trans ((if_pos h3).trans ((if_pos h4).trans rfl))).symm))
              · refine ⟨fun h => absurd h (by decide), fun _ => ?_⟩
                refine ⟨(show vp_in (nI k9) 60 by exact vp_in_nI (by omega) (by omega)), ?_⟩
                refine ⟨fun (h5 : (z_fo (fun k9 a9 => l_X7_nextMonth_9 S P x1 x2 x3 k9 a9) (S 110648 1) k9) ≤ (S 139745 ((nI k9).toNatClampNeg))) => ?_, fun (h5 : ¬ ((z_fo (fun k9 a9 => l_X7_nextMonth_9 S P x1 x2 x3 k9 a9) (S 110648 1) k9) ≤ (S 139745 ((nI k9).toNatClampNeg)))) => ?_⟩
                · exact hW [0, 1, 2, 3, 4, 5] _ _ _ _ _ (ih (k9 + 1) _ (z_fo (fun k9 a9 => l_X7_nextMonth_9 S P x1 x2 x3 k9 a9) (S 110648 1) k9) (by omega) (nI_add k9 1) (((if_pos h2).trans ((if_pos h3).trans ((if_neg h4).trans ((if_pos h5).trans rfl)))).symm))
                · refine ⟨(show vp_in (nI k9) 60 by exact vp_in_nI (by omega) (by omega)), ?_⟩
                  exact hW [0, 1, 2, 3, 4, 5] _ _ _ _ _ (ih (k9 + 1) _ (S 139745 ((nI k9).toNatClampNeg)) (by omega) (nI_add k9 1) (((if_pos h2).trans ((if_pos h3).trans ((if_neg h4).trans ((if_neg h5).trans rfl)))).symm))
      exact hW [0, 1, 2, 3, 4, 5] _ _ _ _ _ (hL9 (S 110648 16).toNatClampNeg 0 _ (S 110648 1) (Nat.zero_add _) rfl rfl)
    · exact h.elim
def l_X7_isExplained_9 (S : z_MI) (P : z_ML) (x1 : Int32) (x2 : Int32) (x3 : Int32) (k9 : Nat) (a9 : Int32) : Int32 :=
  if a9 = 0 then
    if x2 < (S 145793 ((((nI 8) * x1) + (nI k9)).toNatClampNeg)) then
      nI 0
    else
      if (S 147841 ((((nI 8) * x1) + (nI k9)).toNatClampNeg)) < x3 then
        nI 0
      else
        nI 1
  else
    nI 1
def f_X7_isExplained (S : z_MI) (P : z_ML) (x1 : Int32) (x2 : Int32) (x3 : Int32) : Bool :=
  z_i2b (z_fo (fun k9 a9 => l_X7_isExplained_9 S P x1 x2 x3 k9 a9) (nI 0) (S 143409 x1.toNatClampNeg).toNatClampNeg)
def sp_X7_isExplained : z_SP := fun as S P k => match as with
  | [.int x1, .int x2, .int x3] => vp_in x1 6 ∧ z_le (S 143409 x1.toNatClampNeg) 8 ∧ k (some (.int (z_b (f_X7_isExplained S P x1 x2 x3)))) S P
  | _ => False
def G_X7_isExplained : z_G := ([(0, .iconst 0, 1, 0), (1, .istore 4, 3, 0), (3, .bipush 8, 5, 0), (5, .iload_n 1, 6, 0), (6, .imul, 7, 0), (7, .istore 5, 9, 0), (9, .iload 5, 11, 0), (11, .bipush 8, 13, 0), (13, .iload_n 1, 14, 0), (14, .imul, 15, 0), (15, .aload_n 0, 16, 0), (16, .getfield 56, 19, 0), (19, .iload_n 1, 20, 0), (20, .iaload, 21, 0), (21, .iadd, 22, 0), (22, .if_icmp .ge 43, 25, 65), (25, .iload 4, 27, 0), (27, .ifCond .ne 25, 30, 52), (30, .aload_n 0, 31, 0), (31, .getfield 59, 34, 0), (34, .iload 5, 36, 0), (36, .iaload, 37, 0), (37, .iload_n 2, 38, 0), (38, .if_icmp .gt 18, 41, 56), (41, .aload_n 0, 42, 0), (42, .getfield 62, 45, 0), (45, .iload 5, 47, 0), (47, .iaload, 48, 0), (48, .iload_n 3, 49, 0), (49, .if_icmp .lt 7, 52, 56), (52, .iconst 1, 53, 0), (53, .goto 4, 56, 57), (56, .iconst 0, 57, 0), (57, .istore 4, 59, 0), (59, .iinc 5 1, 62, 0), (62, .goto (-53), 65, 9), (65, .iload 4, 67, 0), (67, .ireturn, 68, 0)], [(56, 110648, 21, some 143409), (59, 110648, 22, some 145793), (62, 110648, 23, some 147841)], [], [], [], [], [], some .boolean)
set_option maxRecDepth 20000 in
set_option maxHeartbeats 4000000 in
theorem ct_X7_isExplained (l : Launch) : z_CT l yX7_isExplained cX7_isExplained 6 (some .boolean) (z_rc 110648 sp_X7_isExplained) 0 := by
  refine z_CT_of G_X7_isExplained (by decide) (by decide +kernel) (z_pok_of ft_X7 ci_X7 cL_X7_L fo_X7 co_X7 lo_X7 (by decide +kernel)) rfl rfl ?_ ?_ ?_
  · intro as S P Po h0
    obtain ⟨as, rfl, h⟩ := z_rc_of h0
    unfold sp_X7_isExplained at h
    split at h
    · exact Nat.le_of_ble_eq_true rfl
    · exact h.elim
  · exact fun _ h => absurd h List.not_mem_nil
  · intro as S P Po h0 V hV hW
    obtain ⟨as, rfl, h⟩ := z_rc_of h0
    unfold sp_X7_isExplained at h
    split at h
    · rename_i x1 x2 x3
      obtain ⟨hp0, hp1, hpo⟩ := h
      refine hV [9] 43 0 _ _ _ _ ?_
      obtain ⟨m9, hm9, hB9⟩ := z_base8 hp0
      obtain ⟨hb9, hN9⟩ := z_le_cl (show z_le (S 143409 x1.toNatClampNeg) 8 by assumption) (by decide)
      have hL9 : ∀ (j k9 : Nat) (x900 : Int32) (a9 : Int32), k9 + j = (S 143409 x1.toNatClampNeg).toNatClampNeg → x900 = ((nI 8) * x1) + nI k9 → a9 = z_fo (fun k9 a9 => l_X7_isExplained_9 S P x1 x2 x3 k9 a9) (nI 0) k9 → V 9 [(0, .ref 110648), (1, .int x1), (2, .int x2), (3, .int x3), (4, .int a9), (5, .int x900)] [] S P := by
        intro j
        induction j with
        | zero =>
          intro k9 x900 a9 hk9 hx9 ha9
          subst hx9
          have hk9 : k9 = (S 143409 x1.toNatClampNeg).toNatClampNeg := by omega
          subst hk9
          subst ha9
          refine hV [9] 43 9 _ _ _ _ ?_
          refine ⟨(show vp_in x1 6 by assumption), ?_⟩
          refine ⟨fun _ => ?_, fun h => absurd ((z_brbs hB9 hb9 (by omega) (by omega)).mpr (Nat.le_refl _)) h⟩
          exact z_pbi hpo (rfl) (rfl) (rfl) ((z_bi_fo (Or.inl rfl) (fun k b _ => by unfold l_X7_isExplained_9; (repeat' split); all_goals first | exact Or.inl rfl | exact Or.inr rfl)))
        | succ j ih =>
          intro k9 x900 a9 hk9 hx9 ha9
          subst hx9
          have hk9 : k9 < (S 143409 x1.toNatClampNeg).toNatClampNeg := by omega
          subst ha9
          refine hV [9] 43 9 _ _ _ _ ?_
          refine ⟨(show vp_in x1 6 by assumption), ?_⟩
          refine ⟨fun h => absurd ((z_brbs hB9 hb9 (by omega) (by omega)).mp h) (by omega), fun _ => ?_⟩
          refine ⟨fun (h2 : ¬ ((z_fo (fun k9 a9 => l_X7_isExplained_9 S P x1 x2 x3 k9 a9) (nI 0) k9) = 0)) => ?_, fun (h2 : (z_fo (fun k9 a9 => l_X7_isExplained_9 S P x1 x2 x3 k9 a9) (nI 0) k9) = 0) => ?_⟩
          · exact hW [0, 1, 2, 3, 4, 5] _ _ _ _ _ (ih (k9 + 1) _ (nI 1) (by omega) (z_bsS _ _) (((if_neg h2).trans rfl).symm))
          · refine ⟨(show vp_in (((nI 8) * x1) + (nI k9)) 48 by exact z_in_m (by assumption) (vp_in_nI (by omega) (by omega)) (by decide) (by decide)), ?_⟩
            refine ⟨fun (h3 : x2 < (S 145793 ((((nI 8) * x1) + (nI k9)).toNatClampNeg))) => ?_, fun (h3 : ¬ (x2 < (S 145793 ((((nI 8) * x1) + (nI k9)).toNatClampNeg)))) => ?_⟩
            · exact hW [0, 1, 2, 3, 4, 5] _ _ _ _ _ (ih (k9 + 1) _ (nI 0) (by omega) (z_bsS _ _) (((if_pos h2).trans ((if_pos h3).trans rfl)).symm))
            · refine ⟨(show vp_in (((nI 8) * x1) + (nI k9)) 48 by exact z_in_m (by assumption) (vp_in_nI (by omega) (by omega)) (by decide) (by decide)), ?_⟩
              refine ⟨fun (h4 : (S 147841 ((((nI 8) * x1) + (nI k9)).toNatClampNeg)) < x3) => ?_, fun (h4 : ¬ ((S 147841 ((((nI 8) * x1) + (nI k9)).toNatClampNeg)) < x3)) => ?_⟩
              · exact hW [0, 1, 2, 3, 4, 5] _ _ _ _ _ (ih (k9 + 1) _ (nI 0) (by omega) (z_bsS _ _) (((if_pos h2).trans ((if_neg h3).trans ((if_pos h4).trans rfl))).symm))
              · exact hW [0, 1, 2, 3, 4, 5] _ _ _ _ _ (ih (k9 + 1) _ (nI 1) (by omega) (z_bsS _ _) (((if_pos h2).trans ((if_neg h3).trans ((if_neg h4).trans rfl))).symm))
      exact hW [0, 1, 2, 3, 4, 5] _ _ _ _ _ (hL9 (S 143409 x1.toNatClampNeg).toNatClampNeg 0 _ (nI 0) (Nat.zero_add _) (z_bs0 _) rfl)
    · exact h.elim
def m_pv (S : z_MI) (P : z_ML) (x1 : Int32) (x2 : Int32) : Nat → Int32 → Int32 → Int32
  | 0, x4, _ => x4
  | n + 1, x4, x5 =>
    if x4 = 0 then
      x4
    else
      if (S 110648 1) ≤ x5 then
        x4
      else
        if ((f_X7_nextMonth S P x1 x2 x5) - x5) ≤ (nI 480) then
          m_pv S P x1 x2 n (nI 1) (f_X7_nextMonth S P x1 x2 x5)
        else
          if (f_X7_isExplained S P x1 x5 (f_X7_nextMonth S P x1 x2 x5)) = true then
            m_pv S P x1 x2 n (nI 1) (f_X7_nextMonth S P x1 x2 x5)
          else
            m_pv S P x1 x2 n (nI 0) (f_X7_nextMonth S P x1 x2 x5)
def l_X7_proves_5 (S : z_MI) (P : z_ML) (x1 : Int32) (x2 : Int32) (k5 : Nat) (a5 : Int32) : Int32 :=
  if (S 135649 ((nI k5).toNatClampNeg)) = x1 then
    if (S 137697 ((nI k5).toNatClampNeg)) = x2 then
      a5 + (S 141793 ((nI k5).toNatClampNeg))
    else
      a5 + (nI 0)
  else
    a5 + (nI 0)
def p_X7_proves (S : z_MI) (P : z_ML) (x1 : Int32) (x2 : Int32) : Int32 :=
  if (z_fo (fun k5 a5 => l_X7_proves_5 S P x1 x2 k5 a5) (nI 0) (S 110648 16).toNatClampNeg) < (nI 10) then
    m_pv S P x1 x2 5001 (nI 0) (nI 0)
  else
    m_pv S P x1 x2 5001 (nI 1) (nI 0)
def f_X7_proves (S : z_MI) (P : z_ML) (x1 : Int32) (x2 : Int32) : Bool := z_i2b (p_X7_proves S P x1 x2)
def sp_X7_proves : z_SP := fun as S P k => match as with
  | [.int x1, .int x2] => z_le (S 110648 16) 60 ∧ vp_in x1 6 ∧ z_le (S 143409 x1.toNatClampNeg) 8 ∧ z_le (S 110648 1) 5000 ∧ k (some (.int (z_b (f_X7_proves S P x1 x2)))) S P
  | _ => False
theorem m_btw {a b : Nat} {v : Int32} (h1 : nI a < v) (h2 : v < nI b) (hb : b < 2 ^ 31) (ha : a < 2 ^ 31) : ∃ c, v = nI c ∧ a < c ∧ c ≤ b := by
  rw [Int32.lt_iff_toInt_lt, nI_toInt (by omega)] at h1 h2
  have h3 : vp_in v b := by rw [vp_in_iff]; omega
  obtain ⟨c, hc, rfl⟩ := vp_in_of h3 hb
  rw [nI_toInt (by omega)] at h1
  exact ⟨c, rfl, by omega, by omega⟩
theorem m_nm {S : z_MI} {P : z_ML} {x1 x2 : Int32} {a c : Nat} (hn : S 110648 1 = nI c) (hc : c ≤ 5000) (ha : a < c) : ∃ b, f_X7_nextMonth S P x1 x2 (nI a) = nI b ∧ a < b ∧ b ≤ c := by
  unfold f_X7_nextMonth
  rw [hn]
  generalize (S 110648 16).toNatClampNeg = n
  induction n with
  | zero => exact ⟨c, rfl, ha, Nat.le_refl _⟩
  | succ n ih =>
    obtain ⟨b, hb, hb1, hb2⟩ := ih
    show ∃ b, l_X7_nextMonth_9 S P x1 x2 (nI a) n (z_fo _ _ n) = nI b ∧ a < b ∧ b ≤ c
    rw [hb]
    unfold l_X7_nextMonth_9
    repeat' split
    all_goals first
      | exact ⟨b, rfl, hb1, hb2⟩
      | (obtain ⟨v, hv, hv1, hv2⟩ := m_btw (a := a) (b := b) (Int32.not_le.mp ‹_›) (Int32.not_le.mp ‹_›) (by omega) (by omega)
         exact ⟨v, hv, hv1, by omega⟩)
def G_X7_proves : z_G := ([(0, .iconst 0, 1, 0), (1, .istore_n 3, 2, 0), (2, .iconst 0, 3, 0), (3, .istore 4, 5, 0), (5, .iload 4, 7, 0), (7, .aload_n 0, 8, 0), (8, .getfield 212, 11, 0), (11, .if_icmp .ge 45, 14, 56), (14, .iload_n 3, 15, 0), (15, .aload_n 0, 16, 0), (16, .getfield 44, 19, 0), (19, .iload 4, 21, 0), (21, .iaload, 22, 0), (22, .iload_n 1, 23, 0), (23, .if_icmp .ne 24, 26, 47), (26, .aload_n 0, 27, 0), (27, .getfield 47, 30, 0), (30, .iload 4, 32, 0), (32, .iaload, 33, 0), (33, .iload_n 2, 34, 0), (34, .if_icmp .ne 13, 37, 47), (37, .aload_n 0, 38, 0), (38, .getfield 53, 41, 0), (41, .iload 4, 43, 0), (43, .iaload, 44, 0), (44, .goto 4, 47, 48), (47, .iconst 0, 48, 0), (48, .iadd, 49, 0), (49, .istore_n 3, 50, 0), (50, .iinc 4 1, 53, 0), (53, .goto (-48), 56, 5), (56, .iload_n 3, 57, 0), (57, .bipush 10, 59, 0), (59, .if_icmp .lt 7, 62, 66), (62, .iconst 1, 63, 0), (63, .goto 4, 66, 67), (66, .iconst 0, 67, 0), (67, .istore 4, 69, 0), (69, .iconst 0, 70, 0), (70, .istore 5, 72, 0), (72, .iload 4, 74, 0), (74, .ifCond .eq 59, 77, 133), (77, .iload 5, 79, 0), (79, .aload_n 0, 80, 0), (80, .getfield 209, 83, 0), (83, .if_icmp .ge 50, 86, 133), (86, .aload_n 0, 87, 0), (87, .iload_n 1, 88, 0), (88, .iload_n 2, 89, 0), (89, .iload 5, 91, 0), (91, .invokevirtual 215, 94, 0), (94, .istore 6, 96, 0), (96, .iload 6, 98, 0), (98, .iload 5, 100, 0), (100, .isub, 101, 0), (101, .sipush 480, 104, 0), (104, .if_icmp .le 15, 107, 119), (107, .aload_n 0, 108, 0), (108, .iload_n 1, 109, 0), (109, .iload 5, 111, 0), (111, .iload 6, 113, 0), (113, .invokevirtual 219, 116, 0), (116, .ifCond .eq 7, 119, 123), (119, .iconst 1, 120, 0), (120, .goto 4, 123, 124), (123, .iconst 0, 124, 0), (124, .istore 4, 126, 0), (126, .iload 6, 128, 0), (128, .istore 5, 130, 0), (130, .goto (-58), 133, 72), (133, .iload 4, 135, 0), (135, .ireturn, 136, 0)], [(44, 110648, 17, some 135649), (47, 110648, 18, some 137697), (53, 110648, 20, some 141793), (209, 110648, 1, none), (212, 110648, 16, none)], [(215, 4, (z_rc 110648 sp_X7_nextMonth)), (219, 4, (z_rc 110648 sp_X7_isExplained))], [], [], [], [], some .boolean)
set_option maxRecDepth 20000 in
set_option maxHeartbeats 4000000 in
theorem ct_X7_proves (l : Launch) : z_CT l yX7_proves cX7_proves 7 (some .boolean) (z_rc 110648 sp_X7_proves) 1 := by
  refine z_CT_of G_X7_proves (by decide) (by decide +kernel) (z_pok_of ft_X7 ci_X7 cL_X7_L fo_X7 co_X7 lo_X7 (by decide +kernel)) rfl rfl ?_ ?_ ?_
  · intro as S P Po h0
    obtain ⟨as, rfl, h⟩ := z_rc_of h0
    unfold sp_X7_proves at h
    split at h
    · exact Nat.le_of_ble_eq_true rfl
    · exact h.elim
  · exact List.forall_mem_cons.mpr ⟨z_coV (ct_X7_nextMonth l) kb_X7_nextMonth kv_X7_215 ko_X7 (by decide) (by decide) (by decide), List.forall_mem_cons.mpr ⟨z_coV (ct_X7_isExplained l) kb_X7_isExplained kv_X7_219 ko_X7 (by decide) (by decide) (by decide), fun _ h => absurd h List.not_mem_nil⟩⟩
  · intro as S P Po h0 V hV hW
    obtain ⟨as, rfl, h⟩ := z_rc_of h0
    unfold sp_X7_proves at h
    split at h
    · rename_i x1 x2
      obtain ⟨hp0, hp1, hp2, hp3, hpo⟩ := h
      obtain ⟨c, hcN, hnow⟩ := hp3
      have hL : ∀ (n : Nat) (x4 x5 : Int32), (x4 = nI 0 ∨ x4 = nI 1) → (∃ a, x5 = nI a ∧ a ≤ c ∧ c ≤ a + n) → p_X7_proves S P x1 x2 = m_pv S P x1 x2 n x4 x5 → V 72 [(0, .ref 110648), (1, .int x1), (2, .int x2), (4, .int x4), (5, .int x5)] [] S P := by
        intro n
        induction n with
        | zero =>
          intro x4 x5 hx ⟨a, hxa, ha1, ha2⟩ he
          have hpo' : Po (some (.int (z_b (z_i2b x4)))) S P := by
            rw [show x4 = p_X7_proves S P x1 x2 from he.symm]
            exact hpo
          refine hV [5, 72] 85 72 _ _ _ _ ?_
          refine ⟨fun h1 => z_pbi hpo' rfl rfl rfl hx, fun h1 => ?_⟩
          refine ⟨fun h2 => z_pbi hpo' rfl rfl rfl hx, fun h2 => absurd ?_ h2⟩
          rw [hnow, hxa]
          exact (nI_leI (by omega) (by omega)).mpr (by omega)
        | succ n ih =>
          intro x4 x5 hx ⟨a, hxa, ha1, ha2⟩ he
          refine hV [5, 72] 85 72 _ _ _ _ ?_
          refine ⟨fun (h1 : x4 = 0) => ?_, fun (h1 : ¬ x4 = 0) => ?_⟩
          · refine z_pbi hpo ?_ rfl rfl hx
            show z_i2b _ = _
            rw [he.trans (if_pos h1)]
          · refine ⟨fun (h2 : S 110648 1 ≤ x5) => ?_, fun (h2 : ¬ (S 110648 1 ≤ x5)) => ?_⟩
            · refine z_pbi hpo ?_ rfl rfl hx
              show z_i2b _ = _
              rw [he.trans ((if_neg h1).trans (if_pos h2))]
            · have hac : a < c := by
                rw [hnow, hxa, nI_leI (by omega) (by omega)] at h2
                omega
              obtain ⟨b, hb, hb1, hb2⟩ := m_nm (P := P) (x1 := x1) (x2 := x2) hnow hcN hac
              rw [← hxa] at hb
              refine ⟨(show z_le (S 110648 16) 60 by assumption), ?_⟩
              refine ⟨fun (h3 : ((f_X7_nextMonth S P x1 x2 x5) - x5) ≤ (nI 480)) => ?_, fun (h3 : ¬ (((f_X7_nextMonth S P x1 x2 x5) - x5) ≤ (nI 480))) => ?_⟩
              · exact hW [0, 1, 2, 4, 5] _ _ _ _ _ (ih _ _ (by first | exact Or.inl rfl | exact Or.inr rfl) ⟨b, hb, by omega, by omega⟩ (he.trans ((if_neg h1).trans ((if_neg h2).trans ((if_pos h3).trans rfl)))))
              · refine ⟨(show vp_in x1 6 by assumption), (show z_le (S 143409 x1.toNatClampNeg) 8 by assumption), ?_⟩
                refine z_br (fun (h4 : (f_X7_isExplained S P x1 x5 (f_X7_nextMonth S P x1 x2 x5)) = false) => ?_) (fun (h4 : (f_X7_isExplained S P x1 x5 (f_X7_nextMonth S P x1 x2 x5)) = true) => ?_)
                · exact hW [0, 1, 2, 4, 5] _ _ _ _ _ (ih _ _ (by first | exact Or.inl rfl | exact Or.inr rfl) ⟨b, hb, by omega, by omega⟩ (he.trans ((if_neg h1).trans ((if_neg h2).trans ((if_neg h3).trans ((if_neg (z_nt h4)).trans rfl))))))
                · exact hW [0, 1, 2, 4, 5] _ _ _ _ _ (ih _ _ (by first | exact Or.inl rfl | exact Or.inr rfl) ⟨b, hb, by omega, by omega⟩ (he.trans ((if_neg h1).trans ((if_neg h2).trans ((if_neg h3).trans ((if_pos h4).trans rfl))))))
      refine hV [5, 72] 85 0 _ _ _ _ ?_
      obtain ⟨hb5, hN5⟩ := z_le_cl (show z_le (S 110648 16) 60 by assumption) (by decide)
      have hL5 : ∀ (j k5 : Nat) (x900 : Int32) (a5 : Int32), k5 + j = (S 110648 16).toNatClampNeg → x900 = nI k5 → a5 = z_fo (fun k5 a5 => l_X7_proves_5 S P x1 x2 k5 a5) (nI 0) k5 → V 5 [(0, .ref 110648), (1, .int x1), (2, .int x2), (3, .int a5), (4, .int x900)] [] S P := by
        intro j
        induction j with
        | zero =>
          intro k5 x900 a5 hk5 hx5 ha5
          subst hx5
          have hk9 : k5 = (S 110648 16).toNatClampNeg := by omega
          subst hk9
          subst ha5
          refine hV [5, 72] 77 5 _ _ _ _ ?_
          refine ⟨fun _ => ?_, fun h => absurd ((z_brge hb5 (by omega) (by omega)).mpr (Nat.le_refl _)) h⟩
          refine ⟨fun (h6 : (z_fo (fun k5 a5 => l_X7_proves_5 S P x1 x2 k5 a5) (nI 0) (S 110648 16).toNatClampNeg) < (nI 10)) => ?_, fun (h6 : ¬ ((z_fo (fun k5 a5 => l_X7_proves_5 S P x1 x2 k5 a5) (nI 0) (S 110648 16).toNatClampNeg) < (nI 10))) => ?_⟩
          · exact hW [0, 1, 2, 4, 5] _ _ _ _ _ (hL 5001 _ _ (by first | exact Or.inl rfl | exact Or.inr rfl) ⟨0, rfl, by omega, by omega⟩ ((if_pos h6).trans rfl))
          · exact hW [0, 1, 2, 4, 5] _ _ _ _ _ (hL 5001 _ _ (by first | exact Or.inl rfl | exact Or.inr rfl) ⟨0, rfl, by omega, by omega⟩ ((if_neg h6).trans rfl))
        | succ j ih =>
          intro k5 x900 a5 hk5 hx5 ha5
          subst hx5
          have hk9 : k5 < (S 110648 16).toNatClampNeg := by omega
          subst ha5
          refine hV [5, 72] 77 5 _ _ _ _ ?_
          refine ⟨fun h => absurd ((z_brge hb5 (by omega) (by omega)).mp h) (by omega), fun _ => ?_⟩
          refine ⟨(show vp_in (nI k5) 60 by exact vp_in_nI (by omega) (by omega)), ?_⟩
          refine ⟨fun (h7 : ¬ ((S 135649 ((nI k5).toNatClampNeg)) = x1)) => ?_, fun (h7 : (S 135649 ((nI k5).toNatClampNeg)) = x1) => ?_⟩
          · exact hW [0, 1, 2, 3, 4] _ _ _ _ _ (ih (k5 + 1) _ ((z_fo (fun k5 a5 => l_X7_proves_5 S P x1 x2 k5 a5) (nI 0) k5) + (nI 0)) (by omega) (nI_add k5 1) (((if_neg h7).trans rfl).symm))
          · refine ⟨(show vp_in (nI k5) 60 by exact vp_in_nI (by omega) (by omega)), ?_⟩
            refine ⟨fun (h8 : ¬ ((S 137697 ((nI k5).toNatClampNeg)) = x2)) => ?_, fun (h8 : (S 137697 ((nI k5).toNatClampNeg)) = x2) => ?_⟩
            · exact hW [0, 1, 2, 3, 4] _ _ _ _ _ (ih (k5 + 1) _ ((z_fo (fun k5 a5 => l_X7_proves_5 S P x1 x2 k5 a5) (nI 0) k5) + (nI 0)) (by omega) (nI_add k5 1) (((if_pos h7).trans ((if_neg h8).trans rfl)).symm))
            · refine ⟨(show vp_in (nI k5) 60 by exact vp_in_nI (by omega) (by omega)), ?_⟩
              exact hW [0, 1, 2, 3, 4] _ _ _ _ _ (ih (k5 + 1) _ ((z_fo (fun k5 a5 => l_X7_proves_5 S P x1 x2 k5 a5) (nI 0) k5) + (S 141793 ((nI k5).toNatClampNeg))) (by omega) (nI_add k5 1) (((if_pos h7).trans ((if_pos h8).trans rfl)).symm))
      exact hW [0, 1, 2, 3, 4] _ _ _ _ _ (hL5 (S 110648 16).toNatClampNeg 0 _ (nI 0) (Nat.zero_add _) rfl rfl)
    · exact h.elim
def l_X7_membersOf_19 (S : z_MI) (P : z_ML) (x1 : Int32) (k19 : Nat) (a19 : Int32) : Int32 :=
  if (S 112689 x1.toNatClampNeg) = (nI 1) then
    if (S 112689 x1.toNatClampNeg) = 0 then
      if (f_X7_isIn S P a19 (S 123121 ((nI k19).toNatClampNeg))) = true then
        a19 ||| ((nI 1) <<< ((nI k19) &&& 31))
      else
        a19 ||| (nI 0)
    else
      if (f_X7_isIn S P a19 (S 121073 ((nI k19).toNatClampNeg))) = true then
        a19 ||| ((nI 1) <<< ((nI k19) &&& 31))
      else
        if (f_X7_isIn S P a19 (S 123121 ((nI k19).toNatClampNeg))) = true then
          a19 ||| ((nI 1) <<< ((nI k19) &&& 31))
        else
          a19 ||| (nI 0)
  else
    if (f_X7_isIn S P a19 (S 119025 ((nI k19).toNatClampNeg))) = true then
      a19 ||| ((nI 1) <<< ((nI k19) &&& 31))
    else
      if (S 112689 x1.toNatClampNeg) = 0 then
        if (f_X7_isIn S P a19 (S 123121 ((nI k19).toNatClampNeg))) = true then
          a19 ||| ((nI 1) <<< ((nI k19) &&& 31))
        else
          a19 ||| (nI 0)
      else
        if (f_X7_isIn S P a19 (S 121073 ((nI k19).toNatClampNeg))) = true then
          a19 ||| ((nI 1) <<< ((nI k19) &&& 31))
        else
          if (f_X7_isIn S P a19 (S 123121 ((nI k19).toNatClampNeg))) = true then
            a19 ||| ((nI 1) <<< ((nI k19) &&& 31))
          else
            a19 ||| (nI 0)
def m_mo (S : z_MI) (P : z_ML) (x1 : Int32) (x2 : Int32) : Int32 :=
  z_fo (fun k19 a19 => l_X7_membersOf_19 S P x1 k19 a19) x2 (S 110648 6).toNatClampNeg
def m_U (x : Int32) : Nat := x.toBitVec.toNat
theorem m_U_or (x y : Int32) : m_U x ≤ m_U (x ||| y) := by
  unfold m_U
  rw [Int32.toBitVec_or, BitVec.toNat_or]
  exact Nat.left_le_or
theorem m_U_ne {x y : Int32} (h : m_U x = m_U y) : x = y := Int32.toBitVec_inj.mp (BitVec.eq_of_toNat_eq h)
theorem m_mo_le (S : z_MI) (P : z_ML) (x1 x2 : Int32) : m_U x2 ≤ m_U (m_mo S P x1 x2) := by
  unfold m_mo
  generalize ((S 110648 6)).toNatClampNeg = n
  induction n with
  | zero => exact Nat.le_refl _
  | succ n ih =>
    refine Nat.le_trans ih ?_
    show _ ≤ m_U (l_X7_membersOf_19 S P x1 n (z_fo _ _ n))
    generalize z_fo _ _ n = a
    unfold l_X7_membersOf_19
    repeat' split
    all_goals exact m_U_or _ _
def m_w (S : z_MI) (P : z_ML) (x1 : Int32) : Nat → Int32 → Int32 → Int32
  | 0, x2, _ => x2
  | n + 1, x2, x3 => if x2 = x3 then x2 else m_w S P x1 n (m_mo S P x1 x2) x2
theorem m_mo_n {S : z_MI} {P : z_ML} {x1 x2 x3 : Int32} {n : Nat} (hc : x2 = x3 ∨ 2 ^ 32 - m_U x2 < n + 1) (h0 : ¬ x2 = x3) : m_mo S P x1 x2 = x2 ∨ 2 ^ 32 - m_U (m_mo S P x1 x2) < n := by
  rcases hc with hc | hc
  · exact absurd hc h0
  · by_cases h : m_U (m_mo S P x1 x2) = m_U x2
    · exact Or.inl (m_U_ne h)
    · right
      have h1 := m_mo_le S P x1 x2
      have h2 : m_U (m_mo S P x1 x2) < 2 ^ 32 := BitVec.isLt _
      omega
def m_N : Nat := 2 ^ 32 + 1
def f_X7_membersOf (S : z_MI) (P : z_ML) (x1 : Int32) : Int32 :=
  m_w S P x1 m_N (S 114737 x1.toNatClampNeg) (-1)
def sp_X7_membersOf : z_SP := fun as S P k => match as with
  | [.int x1] => vp_in x1 6 ∧ z_le (S 110648 6) 30 ∧ k (some (.int (f_X7_membersOf S P x1))) S P
  | _ => False
def G_X7_membersOf : z_G := ([(0, .aload_n 0, 1, 0), (1, .getfield 13, 4, 0), (4, .iload_n 1, 5, 0), (5, .iaload, 6, 0), (6, .istore_n 2, 7, 0), (7, .iconst (-1), 8, 0), (8, .istore_n 3, 9, 0), (9, .iload_n 2, 10, 0), (10, .iload_n 3, 11, 0), (11, .if_icmp .eq 110, 14, 121), (14, .iload_n 2, 15, 0), (15, .istore_n 3, 16, 0), (16, .iconst 0, 17, 0), (17, .istore 4, 19, 0), (19, .iload 4, 21, 0), (21, .aload_n 0, 22, 0), (22, .getfield 161, 25, 0), (25, .if_icmp .ge 93, 28, 118), (28, .aload_n 0, 29, 0), (29, .getfield 7, 32, 0), (32, .iload_n 1, 33, 0), (33, .iaload, 34, 0), (34, .iconst 1, 35, 0), (35, .if_icmp .eq 17, 38, 52), (38, .iload_n 2, 39, 0), (39, .aload_n 0, 40, 0), (40, .getfield 20, 43, 0), (43, .iload 4, 45, 0), (45, .iaload, 46, 0), (46, .invokestatic 184, 49, 0), (49, .ifCond .ne 40, 52, 89), (52, .aload_n 0, 53, 0), (53, .getfield 7, 56, 0), (56, .iload_n 1, 57, 0), (57, .iaload, 58, 0), (58, .ifCond .eq 17, 61, 75), (61, .iload_n 2, 62, 0), (62, .aload_n 0, 63, 0), (63, .getfield 23, 66, 0), (66, .iload 4, 68, 0), (68, .iaload, 69, 0), (69, .invokestatic 184, 72, 0), (72, .ifCond .ne 17, 75, 89), (75, .iload_n 2, 76, 0), (76, .aload_n 0, 77, 0), (77, .getfield 26, 80, 0), (80, .iload 4, 82, 0), (82, .iaload, 83, 0), (83, .invokestatic 184, 86, 0), (86, .ifCond .eq 7, 89, 93), (89, .iconst 1, 90, 0), (90, .goto 4, 93, 94), (93, .iconst 0, 94, 0), (94, .istore 5, 96, 0), (96, .iload_n 2, 97, 0), (97, .iload 5, 99, 0), (99, .ifCond .eq 10, 102, 109), (102, .iconst 1, 103, 0), (103, .iload 4, 105, 0), (105, .ishl, 106, 0), (106, .goto 4, 109, 110), (109, .iconst 0, 110, 0), (110, .ior, 111, 0), (111, .istore_n 2, 112, 0), (112, .iinc 4 1, 115, 0), (115, .goto (-96), 118, 19), (118, .goto (-109), 121, 9), (121, .iload_n 2, 122, 0), (122, .ireturn, 123, 0)], [(7, 110648, 3, some 112689), (13, 110648, 4, some 114737), (20, 110648, 7, some 119025), (23, 110648, 8, some 121073), (26, 110648, 9, some 123121), (161, 110648, 6, none)], [(100184, 2, sp_X7_isIn)], [], [], [], [], some .int)
set_option maxRecDepth 20000 in
set_option maxHeartbeats 4000000 in
theorem ct_X7_membersOf (l : Launch) : z_CT l yX7_membersOf cX7_membersOf 6 (some .int) (z_rc 110648 sp_X7_membersOf) 2 := by
  refine z_CT_of G_X7_membersOf (by decide) (by decide +kernel) (z_pok_of ft_X7 ci_X7 cL_X7_L fo_X7 co_X7 lo_X7 (by decide +kernel)) rfl rfl ?_ ?_ ?_
  · intro as S P Po h0
    obtain ⟨as, rfl, h⟩ := z_rc_of h0
    unfold sp_X7_membersOf at h
    split at h
    · exact Nat.le_of_ble_eq_true rfl
    · exact h.elim
  · exact List.forall_mem_cons.mpr ⟨z_coS (ct_X7_isIn l) kb_X7_isIn ks_X7_184 (by decide) (by decide), fun _ h => absurd h List.not_mem_nil⟩
  · intro as S P Po h0 V hV hW
    obtain ⟨as, rfl, h⟩ := z_rc_of h0
    unfold sp_X7_membersOf at h
    split at h
    · rename_i x1
      obtain ⟨hp0, hp1, hpo⟩ := h
      have hL : ∀ (n : Nat) (x2 x3 : Int32), (x2 = x3 ∨ 2 ^ 32 - m_U x2 < n) → f_X7_membersOf S P x1 = m_w S P x1 n x2 x3 → V 9 [(0, .ref 110648), (1, .int x1), (2, .int x2), (3, .int x3)] [] S P := by
        intro n
        induction n with
        | zero =>
          intro x2 x3 hc he
          refine hV [9, 19] 75 9 _ _ _ _ ?_
          refine ⟨fun h0 => z_pi hpo he rfl rfl, fun h0 => absurd (hc.resolve_right (Nat.not_lt_zero _)) h0⟩
        | succ n ih =>
          intro x2 x3 hc he
          refine hV [9, 19] 75 9 _ _ _ _ ?_
          refine ⟨fun h0 => z_pi hpo (he.trans (if_pos h0)) rfl rfl, fun h0 => ?_⟩
          obtain ⟨hb19, hN19⟩ := z_le_cl (show z_le (S 110648 6) 30 by assumption) (by decide)
          have hL19 : ∀ (j k19 : Nat) (x900 : Int32) (a19 : Int32), k19 + j = (S 110648 6).toNatClampNeg → x900 = nI k19 → a19 = z_fo (fun k19 a19 => l_X7_membersOf_19 S P x1 k19 a19) x2 k19 → V 19 [(0, .ref 110648), (1, .int x1), (2, .int a19), (3, .int x2), (4, .int x900)] [] S P := by
            intro j
            induction j with
            | zero =>
              intro k19 x900 a19 hk19 hx19 ha19
              subst hx19
              have hk9 : k19 = (S 110648 6).toNatClampNeg := by omega
              subst hk9
              subst ha19
              refine hV [9, 19] 74 19 _ _ _ _ ?_
              refine ⟨fun _ => ?_, fun h => absurd ((z_brge hb19 (by omega) (by omega)).mpr (Nat.le_refl _)) h⟩
              exact hW [0, 1, 2, 3] _ _ _ _ _ (ih (m_mo S P x1 x2) x2 (m_mo_n hc h0) (he.trans (if_neg h0)))
            | succ j ih =>
              intro k19 x900 a19 hk19 hx19 ha19
              subst hx19
              have hk9 : k19 < (S 110648 6).toNatClampNeg := by omega
              subst ha19
              refine hV [9, 19] 74 19 _ _ _ _ ?_
              refine ⟨fun h => absurd ((z_brge hb19 (by omega) (by omega)).mp h) (by omega), fun _ => ?_⟩
              refine ⟨(show vp_in x1 6 by assumption), ?_⟩
              refine ⟨fun (h2 : (S 112689 x1.toNatClampNeg) = (nI 1)) => ?_, fun (h2 : ¬ ((S 112689 x1.toNatClampNeg) = (nI 1))) => ?_⟩
              · refine ⟨(show vp_in x1 6 by assumption), ?_⟩
                refine ⟨fun (h3 : (S 112689 x1.toNatClampNeg) = 0) => ?_, fun (h3 : ¬ ((S 112689 x1.toNatClampNeg) = 0)) => ?_⟩
                · refine ⟨(show vp_in (nI k19) 30 by exact vp_in_nI (by omega) (by omega)), ?_⟩
                  refine z_br (fun (h4 : (f_X7_isIn S P (z_fo (fun k19 a19 => l_X7_membersOf_19 S P x1 k19 a19) x2 k19) (S 123121 ((nI k19).toNatClampNeg))) = false) => ?_) (fun (h4 : (f_X7_isIn S P (z_fo (fun k19 a19 => l_X7_membersOf_19 S P x1 k19 a19) x2 k19) (S 123121 ((nI k19).toNatClampNeg))) = true) => ?_)
                  · refine ⟨fun _ => ?_, fun h => absurd (by decide) h⟩
                    exact hW [0, 1, 2, 3, 4] _ _ _ _ _ (ih (k19 + 1) _ ((z_fo (fun k19 a19 => l_X7_membersOf_19 S P x1 k19 a19) x2 k19) ||| (nI 0)) (by omega) (nI_add k19 1) (((if_pos h2).trans ((if_pos h3).trans ((if_neg (z_nt h4)).trans rfl))).symm))
                  · refine ⟨fun h => absurd h (by decide), fun _ => ?_⟩
                    exact hW [0, 1, 2, 3, 4] _ _ _ _ _ (ih (k19 + 1) _ ((z_fo (fun k19 a19 => l_X7_membersOf_19 S P x1 k19 a19) x2 k19) ||| ((nI 1) <<< ((nI k19) &&& 31))) (by omega) (nI_add k19 1) (((if_pos h2).trans ((if_pos h3).trans ((if_pos h4).trans rfl))).symm))
                · refine ⟨(show vp_in (nI k19) 30 by exact vp_in_nI (by omega) (by omega)), ?_⟩
                  refine z_brn (fun (h5 : (f_X7_isIn S P (z_fo (fun k19 a19 => l_X7_membersOf_19 S P x1 k19 a19) x2 k19) (S 121073 ((nI k19).toNatClampNeg))) = true) => ?_) (fun (h5 : (f_X7_isIn S P (z_fo (fun k19 a19 => l_X7_membersOf_19 S P x1 k19 a19) x2 k19) (S 121073 ((nI k19).toNatClampNeg))) = false) => ?_)
                  · refine ⟨fun h => absurd h (by decide), fun _ => ?_⟩
                    exact hW [0, 1, 2, 3, 4] _ _ _ _ _ (ih (k19 + 1) _ ((z_fo (fun k19 a19 => l_X7_membersOf_19 S P x1 k19 a19) x2 k19) ||| ((nI 1) <<< ((nI k19) &&& 31))) (by omega) (nI_add k19 1) (((if_pos h2).trans ((if_neg h3).trans ((if_pos h5).trans rfl))).symm))
                  · refine ⟨(show vp_in (nI k19) 30 by exact vp_in_nI (by omega) (by omega)), ?_⟩
                    refine z_br (fun (h6 : (f_X7_isIn S P (z_fo (fun k19 a19 => l_X7_membersOf_19 S P x1 k19 a19) x2 k19) (S 123121 ((nI k19).toNatClampNeg))) = false) => ?_) (fun (h6 : (f_X7_isIn S P (z_fo (fun k19 a19 => l_X7_membersOf_19 S P x1 k19 a19) x2 k19) (S 123121 ((nI k19).toNatClampNeg))) = true) => ?_)
                    · refine ⟨fun _ => ?_, fun h => absurd (by decide) h⟩
                      exact hW [0, 1, 2, 3, 4] _ _ _ _ _ (ih (k19 + 1) _ ((z_fo (fun k19 a19 => l_X7_membersOf_19 S P x1 k19 a19) x2 k19) ||| (nI 0)) (by omega) (nI_add k19 1) (((if_pos h2).trans ((if_neg h3).trans ((if_neg (z_nt h5)).trans ((if_neg (z_nt h6)).trans rfl)))).symm))
                    · refine ⟨fun h => absurd h (by decide), fun _ => ?_⟩
                      exact hW [0, 1, 2, 3, 4] _ _ _ _ _ (ih (k19 + 1) _ ((z_fo (fun k19 a19 => l_X7_membersOf_19 S P x1 k19 a19) x2 k19) ||| ((nI 1) <<< ((nI k19) &&& 31))) (by omega) (nI_add k19 1) (((if_pos h2).trans ((if_neg h3).trans ((if_neg (z_nt h5)).trans ((if_pos h6).trans rfl)))).symm))
              · refine ⟨(show vp_in (nI k19) 30 by exact vp_in_nI (by omega) (by omega)), ?_⟩
                refine z_brn (fun (h7 : (f_X7_isIn S P (z_fo (fun k19 a19 => l_X7_membersOf_19 S P x1 k19 a19) x2 k19) (S 119025 ((nI k19).toNatClampNeg))) = true) => ?_) (fun (h7 : (f_X7_isIn S P (z_fo (fun k19 a19 => l_X7_membersOf_19 S P x1 k19 a19) x2 k19) (S 119025 ((nI k19).toNatClampNeg))) = false) => ?_)
                · refine ⟨fun h => absurd h (by decide), fun _ => ?_⟩
                  exact hW [0, 1, 2, 3, 4] _ _ _ _ _ (ih (k19 + 1) _ ((z_fo (fun k19 a19 => l_X7_membersOf_19 S P x1 k19 a19) x2 k19) ||| ((nI 1) <<< ((nI k19) &&& 31))) (by omega) (nI_add k19 1) (((if_neg h2).trans ((if_pos h7).trans rfl)).symm))
                · refine ⟨(show vp_in x1 6 by assumption), ?_⟩
                  refine ⟨fun (h8 : (S 112689 x1.toNatClampNeg) = 0) => ?_, fun (h8 : ¬ ((S 112689 x1.toNatClampNeg) = 0)) => ?_⟩
                  · refine ⟨(show vp_in (nI k19) 30 by exact vp_in_nI (by omega) (by omega)), ?_⟩
                    refine z_br (fun (h9 : (f_X7_isIn S P (z_fo (fun k19 a19 => l_X7_membersOf_19 S P x1 k19 a19) x2 k19) (S 123121 ((nI k19).toNatClampNeg))) = false) => ?_) (fun (h9 : (f_X7_isIn S P (z_fo (fun k19 a19 => l_X7_membersOf_19 S P x1 k19 a19) x2 k19) (S 123121 ((nI k19).toNatClampNeg))) = true) => ?_)
                    · refine ⟨fun _ => ?_, fun h => absurd (by decide) h⟩
                      exact hW [0, 1, 2, 3, 4] _ _ _ _ _ (ih (k19 + 1) _ ((z_fo (fun k19 a19 => l_X7_membersOf_19 S P x1 k19 a19) x2 k19) ||| (nI 0)) (by omega) (nI_add k19 1) (((if_neg h2).trans ((if_neg (z_nt h7)).trans ((if_pos h8).trans ((if_neg (z_nt h9)).trans rfl)))).symm))
                    · refine ⟨fun h => absurd h (by decide), fun _ => ?_⟩
                      exact hW [0, 1, 2, 3, 4] _ _ _ _ _ (ih (k19 + 1) _ ((z_fo (fun k19 a19 => l_X7_membersOf_19 S P x1 k19 a19) x2 k19) ||| ((nI 1) <<< ((nI k19) &&& 31))) (by omega) (nI_add k19 1) (((if_neg h2).trans ((if_neg (z_nt h7)).trans ((if_pos h8).trans ((if_pos h9).trans rfl)))).symm))
                  · refine ⟨(show vp_in (nI k19) 30 by exact vp_in_nI (by omega) (by omega)), ?_⟩
                    refine z_brn (fun (h10 : (f_X7_isIn S P (z_fo (fun k19 a19 => l_X7_membersOf_19 S P x1 k19 a19) x2 k19) (S 121073 ((nI k19).toNatClampNeg))) = true) => ?_) (fun (h10 : (f_X7_isIn S P (z_fo (fun k19 a19 => l_X7_membersOf_19 S P x1 k19 a19) x2 k19) (S 121073 ((nI k19).toNatClampNeg))) = false) => ?_)
                    · refine ⟨fun h => absurd h (by decide), fun _ => ?_⟩
                      exact hW [0, 1, 2, 3, 4] _ _ _ _ _ (ih (k19 + 1) _ ((z_fo (fun k19 a19 => l_X7_membersOf_19 S P x1 k19 a19) x2 k19) ||| ((nI 1) <<< ((nI k19) &&& 31))) (by omega) (nI_add k19 1) (((if_neg h2).trans ((if_neg (z_nt h7)).trans ((if_neg h8).trans ((if_pos h10).trans rfl)))).symm))
                    · refine ⟨(show vp_in (nI k19) 30 by exact vp_in_nI (by omega) (by omega)), ?_⟩
                      refine z_br (fun (h11 : (f_X7_isIn S P (z_fo (fun k19 a19 => l_X7_membersOf_19 S P x1 k19 a19) x2 k19) (S 123121 ((nI k19).toNatClampNeg))) = false) => ?_) (fun (h11 : (f_X7_isIn S P (z_fo (fun k19 a19 => l_X7_membersOf_19 S P x1 k19 a19) x2 k19) (S 123121 ((nI k19).toNatClampNeg))) = true) => ?_)
                      · refine ⟨fun _ => ?_, fun h => absurd (by decide) h⟩
                        exact hW [0, 1, 2, 3, 4] _ _ _ _ _ (ih (k19 + 1) _ ((z_fo (fun k19 a19 => l_X7_membersOf_19 S P x1 k19 a19) x2 k19) ||| (nI 0)) (by omega) (nI_add k19 1) (((if_neg h2).trans ((if_neg (z_nt h7)).trans ((if_neg h8).trans ((if_neg (z_nt h10)).trans ((if_neg (z_nt h11)).trans rfl))))).symm))
                      · refine ⟨fun h => absurd h (by decide), fun _ => ?_⟩
                        exact hW [0, 1, 2, 3, 4] _ _ _ _ _ (ih (k19 + 1) _ ((z_fo (fun k19 a19 => l_X7_membersOf_19 S P x1 k19 a19) x2 k19) ||| ((nI 1) <<< ((nI k19) &&& 31))) (by omega) (nI_add k19 1) (((if_neg h2).trans ((if_neg (z_nt h7)).trans ((if_neg h8).trans ((if_neg (z_nt h10)).trans ((if_pos h11).trans rfl))))).symm))
          exact hW [0, 1, 2, 3, 4] _ _ _ _ _ (hL19 (S 110648 6).toNatClampNeg 0 _ x2 (Nat.zero_add _) rfl rfl)
      refine hV [9, 19] 75 0 _ _ _ _ ?_
      refine ⟨hp0, ?_⟩
      exact hW [0, 1, 2, 3] _ _ _ _ _ (hL m_N _ _ (Or.inr (by unfold m_N; omega)) rfl)
    · exact h.elim
