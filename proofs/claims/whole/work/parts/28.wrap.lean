def w_c (a b c : Nat) (e : Nat) : Int32 := match e with
  | 0 => nI 0
  | 1 => nI a
  | 2 => nI b
  | _ => nI c
def w_d {α : Type} (e : Nat) (x y : α) : α := match e with
  | 0 => y
  | _ => x
def z_b64 (b : Bool) : Int64 := match b with
  | true => lN 1
  | false => lN 0
def sp_L_people : z_SP := fun as S P k => match as with
  | [.ref 2096, .int x1, .ref 206859] => z_J S ∧ k (some (.int (w_c 0 1 2 (e_X6_people S P x1)))) (w_d (e_X6_people S P x1) S (u_X6_people S P x1)) (w_d (e_X6_people S P x1) P (va_up P 206859 (vp_updL (P 206859) 0 ((f_X6_people S P x1).toInt64))))
  | _ => False
def G_L_people : z_G := ([(0, .aload_n 2, 1, 0), (1, .iconst 0, 2, 0), (2, .aload_n 0, 3, 0), (3, .iload_n 1, 4, 0), (4, .invokevirtual 7, 7, 0), (7, .i2l, 8, 0), (8, .lastore, 9, 0), (9, .goto 9, 12, 18), (12, .astore_n 3, 13, 0), (13, .iconst 1, 14, 0), (14, .ireturn, 15, 0), (15, .astore_n 3, 16, 0), (16, .iconst 2, 17, 0), (17, .ireturn, 18, 0), (18, .iconst 0, 19, 0), (19, .ireturn, 20, 0)], [], [], [], [], [], [], some .int)
def hs_L_people : List z_HS := [("java/lang/IllegalArgumentException", 1, .astore_n 3, 1), ("java/lang/IllegalStateException", 2, .astore_n 3, 1)]
def hh_L_people : List (Nat × Nat × Nat × Nat) := [(0, 9, 12, 13), (0, 9, 15, 15)]
theorem w_L_people_e (S : z_MI) (P : z_ML) (x1 : Int32) : e_X6_people S P x1 = 0 ∨ e_X6_people S P x1 = 2 ∨ e_X6_people S P x1 = 3 := by
  unfold e_X6_people
  repeat' split
  all_goals first | exact Or.inl rfl | exact Or.inr rfl | exact Or.inr (Or.inl rfl) | exact Or.inr (Or.inr rfl) | exact Or.inr (Or.inr (Or.inl rfl)) | exact Or.inr (Or.inr (Or.inr rfl))
set_option maxRecDepth 20000 in
set_option maxHeartbeats 4000000 in
theorem cw_L_people (l : Launch) (hl9 : l.stackTraces = false) : z_CW l yL_people cL_people 4 hh_L_people sp_L_people 7 := by
  refine z_CW_of G_L_people hs_L_people 4 7 1 2096 (ct_X6_people l hl9) kb_X6_people kv_L_7 ko_X6 (by decide) (by decide) (by decide) (by decide +kernel) (z_pok_of ft_L ci_L cL_L_L fo_L co_L lo_L (by decide +kernel)) rfl rfl rfl (by decide +kernel) (by decide +kernel) ?_ ?_
  · intro as S P Po h
    unfold sp_L_people at h
    split at h
    · exact Nat.le_of_ble_eq_true rfl
    · exact h.elim
  · intro as S P Po h V0 V1 h0 h1 hcall
    unfold sp_L_people at h
    split at h
    · rename_i x1
      obtain ⟨hJ, hpo⟩ := h
      refine h0 [4] 21 0 _ _ _ _ ?_
      refine hcall _ [.int x1] [.int (nI 0), .ref 206859] S P rfl (by decide) ?_
      refine ⟨hJ, ?_⟩
      have he9 : e_X6_people S P x1 = 0 ∨ e_X6_people S P x1 = 2 ∨ e_X6_people S P x1 = 3 := by
        exact w_L_people_e S P x1
      rcases he9 with he | he | he
      · rw [he] at hpo ⊢
        refine h1 [] 21 _ _ _ _ _ ?_
        refine ⟨vp_in_nI (by decide) (by decide), ?_⟩
        exact hpo
      · rw [he] at hpo ⊢
        exact ⟨_, List.mem_cons_self, rfl, hpo⟩
      · rw [he] at hpo ⊢
        exact ⟨_, List.mem_cons_of_mem _ (List.mem_cons_self), rfl, hpo⟩
    · exact h.elim
def sp_L_person : z_SP := fun as S P k => match as with
  | [.ref 2096, .int x1, .int x2, .ref 206859] => z_J S ∧ k (some (.int (w_c 1 2 3 (e_X6_person S P x1 x2)))) (w_d (e_X6_person S P x1 x2) S (u_X6_person S P x1 x2)) (w_d (e_X6_person S P x1 x2) P (va_up P 206859 (vp_updL (P 206859) 0 ((f_X6_person S P x1 x2).toInt64))))
  | _ => False
def G_L_person : z_G := ([(0, .aload_n 3, 1, 0), (1, .iconst 0, 2, 0), (2, .aload_n 0, 3, 0), (3, .iload_n 1, 4, 0), (4, .iload_n 2, 5, 0), (5, .invokevirtual 17, 8, 0), (8, .i2l, 9, 0), (9, .lastore, 10, 0), (10, .goto 15, 13, 25), (13, .astore 4, 15, 0), (15, .iconst 1, 16, 0), (16, .ireturn, 17, 0), (17, .astore 4, 19, 0), (19, .iconst 2, 20, 0), (20, .ireturn, 21, 0), (21, .astore 4, 23, 0), (23, .iconst 3, 24, 0), (24, .ireturn, 25, 0), (25, .iconst 0, 26, 0), (26, .ireturn, 27, 0)], [], [], [], [], [], [], some .int)
def hs_L_person : List z_HS := [("java/lang/IndexOutOfBoundsException", 1, .astore 4, 2), ("java/lang/IllegalArgumentException", 2, .astore 4, 2), ("java/lang/IllegalStateException", 3, .astore 4, 2)]
def hh_L_person : List (Nat × Nat × Nat × Nat) := [(0, 10, 13, 21), (0, 10, 17, 13), (0, 10, 21, 15)]
theorem w_L_person_e (S : z_MI) (P : z_ML) (x1 : Int32) (x2 : Int32) : e_X6_person S P x1 x2 = 0 ∨ e_X6_person S P x1 x2 = 1 ∨ e_X6_person S P x1 x2 = 2 ∨ e_X6_person S P x1 x2 = 3 := by
  unfold e_X6_person
  repeat' split
  all_goals first | exact Or.inl rfl | exact Or.inr rfl | exact Or.inr (Or.inl rfl) | exact Or.inr (Or.inr rfl) | exact Or.inr (Or.inr (Or.inl rfl)) | exact Or.inr (Or.inr (Or.inr rfl))
set_option maxRecDepth 20000 in
set_option maxHeartbeats 4000000 in
theorem cw_L_person (l : Launch) (hl9 : l.stackTraces = false) : z_CW l yL_person cL_person 5 hh_L_person sp_L_person 7 := by
  refine z_CW_of G_L_person hs_L_person 5 17 2 2096 (ct_X6_person l hl9) kb_X6_person kv_L_17 ko_X6 (by decide) (by decide) (by decide) (by decide +kernel) (z_pok_of ft_L ci_L cL_L_L fo_L co_L lo_L (by decide +kernel)) rfl rfl rfl (by decide +kernel) (by decide +kernel) ?_ ?_
  · intro as S P Po h
    unfold sp_L_person at h
    split at h
    · exact Nat.le_of_ble_eq_true rfl
    · exact h.elim
  · intro as S P Po h V0 V1 h0 h1 hcall
    unfold sp_L_person at h
    split at h
    · rename_i x1 x2
      obtain ⟨hJ, hpo⟩ := h
      refine h0 [5] 25 0 _ _ _ _ ?_
      refine hcall _ [.int x1, .int x2] [.int (nI 0), .ref 206859] S P rfl (by decide) ?_
      refine ⟨hJ, ?_⟩
      have he9 : e_X6_person S P x1 x2 = 0 ∨ e_X6_person S P x1 x2 = 1 ∨ e_X6_person S P x1 x2 = 2 ∨ e_X6_person S P x1 x2 = 3 := by
        exact w_L_person_e S P x1 x2
      rcases he9 with he | he | he | he
      · rw [he] at hpo ⊢
        refine h1 [] 25 _ _ _ _ _ ?_
        refine ⟨vp_in_nI (by decide) (by decide), ?_⟩
        exact hpo
      · rw [he] at hpo ⊢
        exact ⟨_, List.mem_cons_self, rfl, hpo⟩
      · rw [he] at hpo ⊢
        exact ⟨_, List.mem_cons_of_mem _ (List.mem_cons_self), rfl, hpo⟩
      · rw [he] at hpo ⊢
        exact ⟨_, List.mem_cons_of_mem _ (List.mem_cons_of_mem _ (List.mem_cons_self)), rfl, hpo⟩
    · exact h.elim
def sp_L_root : z_SP := fun as S P k => match as with
  | [.ref 2096, .int x1, .int x2, .int x3, .ref 206859] => z_J S ∧ k (some (.int (w_c 1 0 0 (e_X6_root S P x1 x2 x3)))) (w_d (e_X6_root S P x1 x2 x3) S (u_X6_root S P x1 x2 x3)) (w_d (e_X6_root S P x1 x2 x3) P (va_up P 206859 (vp_updL (P 206859) 0 ((f_X6_root S P x1 x2 x3).toInt64))))
  | _ => False
def G_L_root : z_G := ([(0, .aload 4, 2, 0), (2, .iconst 0, 3, 0), (3, .aload_n 0, 4, 0), (4, .iload_n 1, 5, 0), (5, .iload_n 2, 6, 0), (6, .iload_n 3, 7, 0), (7, .invokevirtual 23, 10, 0), (10, .i2l, 11, 0), (11, .lastore, 12, 0), (12, .goto 7, 15, 19), (15, .astore 5, 17, 0), (17, .iconst 1, 18, 0), (18, .ireturn, 19, 0), (19, .iconst 0, 20, 0), (20, .ireturn, 21, 0)], [], [], [], [], [], [], some .int)
def hs_L_root : List z_HS := [("java/lang/IndexOutOfBoundsException", 1, .astore 5, 2)]
def hh_L_root : List (Nat × Nat × Nat × Nat) := [(0, 12, 15, 21)]
theorem w_L_root_e (S : z_MI) (P : z_ML) (x1 : Int32) (x2 : Int32) (x3 : Int32) : e_X6_root S P x1 x2 x3 = 0 ∨ e_X6_root S P x1 x2 x3 = 1 := by
  unfold e_X6_root
  repeat' split
  all_goals first | exact Or.inl rfl | exact Or.inr rfl | exact Or.inr (Or.inl rfl) | exact Or.inr (Or.inr rfl) | exact Or.inr (Or.inr (Or.inl rfl)) | exact Or.inr (Or.inr (Or.inr rfl))
set_option maxRecDepth 20000 in
set_option maxHeartbeats 4000000 in
theorem cw_L_root (l : Launch) (hl9 : l.stackTraces = false) : z_CW l yL_root cL_root 6 hh_L_root sp_L_root 7 := by
  refine z_CW_of G_L_root hs_L_root 7 23 3 2096 (ct_X6_root l hl9) kb_X6_root kv_L_23 ko_X6 (by decide) (by decide) (by decide) (by decide +kernel) (z_pok_of ft_L ci_L cL_L_L fo_L co_L lo_L (by decide +kernel)) rfl rfl rfl (by decide +kernel) (by decide +kernel) ?_ ?_
  · intro as S P Po h
    unfold sp_L_root at h
    split at h
    · exact Nat.le_of_ble_eq_true rfl
    · exact h.elim
  · intro as S P Po h V0 V1 h0 h1 hcall
    unfold sp_L_root at h
    split at h
    · rename_i x1 x2 x3
      obtain ⟨hJ, hpo⟩ := h
      refine h0 [7] 20 0 _ _ _ _ ?_
      refine hcall _ [.int x1, .int x2, .int x3] [.int (nI 0), .ref 206859] S P rfl (by decide) ?_
      refine ⟨hJ, ?_⟩
      have he9 : e_X6_root S P x1 x2 x3 = 0 ∨ e_X6_root S P x1 x2 x3 = 1 := by
        exact w_L_root_e S P x1 x2 x3
      rcases he9 with he | he
      · rw [he] at hpo ⊢
        refine h1 [] 20 _ _ _ _ _ ?_
        refine ⟨vp_in_nI (by decide) (by decide), ?_⟩
        exact hpo
      · rw [he] at hpo ⊢
        exact ⟨_, List.mem_cons_self, rfl, hpo⟩
    · exact h.elim
def sp_L_adopt : z_SP := fun as S P k => match as with
  | [.ref 2096, .int x1, .int x2, .ref 206859] => z_J S ∧ k (some (.int (w_c 1 2 0 (e_X6_adopt S P x1 x2)))) (w_d (e_X6_adopt S P x1 x2) S (u_X6_adopt S P x1 x2)) (w_d (e_X6_adopt S P x1 x2) P (va_up P 206859 (vp_updL (P 206859) 0 ((f_X6_adopt S P x1 x2).toInt64))))
  | _ => False
def G_L_adopt : z_G := ([(0, .aload_n 3, 1, 0), (1, .iconst 0, 2, 0), (2, .aload_n 0, 3, 0), (3, .iload_n 1, 4, 0), (4, .iload_n 2, 5, 0), (5, .invokevirtual 27, 8, 0), (8, .i2l, 9, 0), (9, .lastore, 10, 0), (10, .goto 11, 13, 21), (13, .astore 4, 15, 0), (15, .iconst 1, 16, 0), (16, .ireturn, 17, 0), (17, .astore 4, 19, 0), (19, .iconst 2, 20, 0), (20, .ireturn, 21, 0), (21, .iconst 0, 22, 0), (22, .ireturn, 23, 0)], [], [], [], [], [], [], some .int)
def hs_L_adopt : List z_HS := [("java/lang/IndexOutOfBoundsException", 1, .astore 4, 2), ("java/lang/IllegalArgumentException", 2, .astore 4, 2)]
def hh_L_adopt : List (Nat × Nat × Nat × Nat) := [(0, 10, 13, 21), (0, 10, 17, 13)]
theorem w_L_adopt_e (S : z_MI) (P : z_ML) (x1 : Int32) (x2 : Int32) : e_X6_adopt S P x1 x2 = 0 ∨ e_X6_adopt S P x1 x2 = 1 ∨ e_X6_adopt S P x1 x2 = 2 := by
  unfold e_X6_adopt
  repeat' split
  all_goals first | exact Or.inl rfl | exact Or.inr rfl | exact Or.inr (Or.inl rfl) | exact Or.inr (Or.inr rfl) | exact Or.inr (Or.inr (Or.inl rfl)) | exact Or.inr (Or.inr (Or.inr rfl))
set_option maxRecDepth 20000 in
set_option maxHeartbeats 4000000 in
theorem cw_L_adopt (l : Launch) (hl9 : l.stackTraces = false) : z_CW l yL_adopt cL_adopt 5 hh_L_adopt sp_L_adopt 7 := by
  refine z_CW_of G_L_adopt hs_L_adopt 5 27 2 2096 (ct_X6_adopt l hl9) kb_X6_adopt kv_L_27 ko_X6 (by decide) (by decide) (by decide) (by decide +kernel) (z_pok_of ft_L ci_L cL_L_L fo_L co_L lo_L (by decide +kernel)) rfl rfl rfl (by decide +kernel) (by decide +kernel) ?_ ?_
  · intro as S P Po h
    unfold sp_L_adopt at h
    split at h
    · exact Nat.le_of_ble_eq_true rfl
    · exact h.elim
  · intro as S P Po h V0 V1 h0 h1 hcall
    unfold sp_L_adopt at h
    split at h
    · rename_i x1 x2
      obtain ⟨hJ, hpo⟩ := h
      refine h0 [5] 22 0 _ _ _ _ ?_
      refine hcall _ [.int x1, .int x2] [.int (nI 0), .ref 206859] S P rfl (by decide) ?_
      refine ⟨hJ, ?_⟩
      have he9 : e_X6_adopt S P x1 x2 = 0 ∨ e_X6_adopt S P x1 x2 = 1 ∨ e_X6_adopt S P x1 x2 = 2 := by
        exact w_L_adopt_e S P x1 x2
      rcases he9 with he | he | he
      · rw [he] at hpo ⊢
        refine h1 [] 22 _ _ _ _ _ ?_
        refine ⟨vp_in_nI (by decide) (by decide), ?_⟩
        exact hpo
      · rw [he] at hpo ⊢
        exact ⟨_, List.mem_cons_self, rfl, hpo⟩
      · rw [he] at hpo ⊢
        exact ⟨_, List.mem_cons_of_mem _ (List.mem_cons_self), rfl, hpo⟩
    · exact h.elim
def sp_L_raise : z_SP := fun as S P k => match as with
  | [.ref 2096, .int x1, .ref 206859] => z_J S ∧ k (some (.int (w_c 1 0 2 (e_X6_raise S P x1)))) (w_d (e_X6_raise S P x1) S (u_X6_raise S P x1)) (w_d (e_X6_raise S P x1) P (va_up P 206859 (vp_updL (P 206859) 0 ((f_X6_raise S P x1).toInt64))))
  | _ => False
def G_L_raise : z_G := ([(0, .aload_n 2, 1, 0), (1, .iconst 0, 2, 0), (2, .aload_n 0, 3, 0), (3, .iload_n 1, 4, 0), (4, .invokevirtual 30, 7, 0), (7, .i2l, 8, 0), (8, .lastore, 9, 0), (9, .goto 9, 12, 18), (12, .astore_n 3, 13, 0), (13, .iconst 1, 14, 0), (14, .ireturn, 15, 0), (15, .astore_n 3, 16, 0), (16, .iconst 2, 17, 0), (17, .ireturn, 18, 0), (18, .iconst 0, 19, 0), (19, .ireturn, 20, 0)], [], [], [], [], [], [], some .int)
def hs_L_raise : List z_HS := [("java/lang/IndexOutOfBoundsException", 1, .astore_n 3, 1), ("java/lang/IllegalStateException", 2, .astore_n 3, 1)]
def hh_L_raise : List (Nat × Nat × Nat × Nat) := [(0, 9, 12, 21), (0, 9, 15, 15)]
theorem w_L_raise_e (S : z_MI) (P : z_ML) (x1 : Int32) : e_X6_raise S P x1 = 0 ∨ e_X6_raise S P x1 = 1 ∨ e_X6_raise S P x1 = 3 := by
  unfold e_X6_raise
  repeat' split
  all_goals first | exact Or.inl rfl | exact Or.inr rfl | exact Or.inr (Or.inl rfl) | exact Or.inr (Or.inr rfl) | exact Or.inr (Or.inr (Or.inl rfl)) | exact Or.inr (Or.inr (Or.inr rfl))
set_option maxRecDepth 20000 in
set_option maxHeartbeats 4000000 in
theorem cw_L_raise (l : Launch) (hl9 : l.stackTraces = false) : z_CW l yL_raise cL_raise 4 hh_L_raise sp_L_raise 7 := by
  refine z_CW_of G_L_raise hs_L_raise 4 30 1 2096 (ct_X6_raise l hl9) kb_X6_raise kv_L_30 ko_X6 (by decide) (by decide) (by decide) (by decide +kernel) (z_pok_of ft_L ci_L cL_L_L fo_L co_L lo_L (by decide +kernel)) rfl rfl rfl (by decide +kernel) (by decide +kernel) ?_ ?_
  · intro as S P Po h
    unfold sp_L_raise at h
    split at h
    · exact Nat.le_of_ble_eq_true rfl
    · exact h.elim
  · intro as S P Po h V0 V1 h0 h1 hcall
    unfold sp_L_raise at h
    split at h
    · rename_i x1
      obtain ⟨hJ, hpo⟩ := h
      refine h0 [4] 21 0 _ _ _ _ ?_
      refine hcall _ [.int x1] [.int (nI 0), .ref 206859] S P rfl (by decide) ?_
      refine ⟨hJ, ?_⟩
      have he9 : e_X6_raise S P x1 = 0 ∨ e_X6_raise S P x1 = 1 ∨ e_X6_raise S P x1 = 3 := by
        exact w_L_raise_e S P x1
      rcases he9 with he | he | he
      · rw [he] at hpo ⊢
        refine h1 [] 21 _ _ _ _ _ ?_
        refine ⟨vp_in_nI (by decide) (by decide), ?_⟩
        exact hpo
      · rw [he] at hpo ⊢
        exact ⟨_, List.mem_cons_self, rfl, hpo⟩
      · rw [he] at hpo ⊢
        exact ⟨_, List.mem_cons_of_mem _ (List.mem_cons_self), rfl, hpo⟩
    · exact h.elim
def sp_L_members : z_SP := fun as S P k => match as with
  | [.ref 2096, .int x1, .ref 206859] => z_J S ∧ k (some (.int (w_c 1 0 0 (e_X6_members S P x1)))) (w_d (e_X6_members S P x1) S S) (w_d (e_X6_members S P x1) P (va_up P 206859 (vp_updL (P 206859) 0 ((f_X6_members S P x1).toInt64))))
  | _ => False
def G_L_members : z_G := ([(0, .aload_n 2, 1, 0), (1, .iconst 0, 2, 0), (2, .aload_n 0, 3, 0), (3, .iload_n 1, 4, 0), (4, .invokevirtual 33, 7, 0), (7, .i2l, 8, 0), (8, .lastore, 9, 0), (9, .goto 6, 12, 15), (12, .astore_n 3, 13, 0), (13, .iconst 1, 14, 0), (14, .ireturn, 15, 0), (15, .iconst 0, 16, 0), (16, .ireturn, 17, 0)], [], [], [], [], [], [], some .int)
def hs_L_members : List z_HS := [("java/lang/IndexOutOfBoundsException", 1, .astore_n 3, 1)]
def hh_L_members : List (Nat × Nat × Nat × Nat) := [(0, 9, 12, 21)]
theorem w_L_members_e (S : z_MI) (P : z_ML) (x1 : Int32) : e_X6_members S P x1 = 0 ∨ e_X6_members S P x1 = 1 := by
  unfold e_X6_members
  repeat' split
  all_goals first | exact Or.inl rfl | exact Or.inr rfl | exact Or.inr (Or.inl rfl) | exact Or.inr (Or.inr rfl) | exact Or.inr (Or.inr (Or.inl rfl)) | exact Or.inr (Or.inr (Or.inr rfl))
set_option maxRecDepth 20000 in
set_option maxHeartbeats 4000000 in
theorem cw_L_members (l : Launch) (hl9 : l.stackTraces = false) : z_CW l yL_members cL_members 4 hh_L_members sp_L_members 7 := by
  refine z_CW_of G_L_members hs_L_members 4 33 1 2096 (ct_X6_members l hl9) kb_X6_members kv_L_33 ko_X6 (by decide) (by decide) (by decide) (by decide +kernel) (z_pok_of ft_L ci_L cL_L_L fo_L co_L lo_L (by decide +kernel)) rfl rfl rfl (by decide +kernel) (by decide +kernel) ?_ ?_
  · intro as S P Po h
    unfold sp_L_members at h
    split at h
    · exact Nat.le_of_ble_eq_true rfl
    · exact h.elim
  · intro as S P Po h V0 V1 h0 h1 hcall
    unfold sp_L_members at h
    split at h
    · rename_i x1
      obtain ⟨hJ, hpo⟩ := h
      refine h0 [4] 18 0 _ _ _ _ ?_
      refine hcall _ [.int x1] [.int (nI 0), .ref 206859] S P rfl (by decide) ?_
      refine ⟨hJ, ?_⟩
      have he9 : e_X6_members S P x1 = 0 ∨ e_X6_members S P x1 = 1 := by
        exact w_L_members_e S P x1
      rcases he9 with he | he
      · rw [he] at hpo ⊢
        refine h1 [] 18 _ _ _ _ _ ?_
        refine ⟨vp_in_nI (by decide) (by decide), ?_⟩
        exact hpo
      · rw [he] at hpo ⊢
        exact ⟨_, List.mem_cons_self, rfl, hpo⟩
    · exact h.elim
def sp_L_story : z_SP := fun as S P k => match as with
  | [.ref 2096, .int x1, .ref 206859] => z_J S ∧ k (some (.int (w_c 1 0 2 (e_X6_story S P x1)))) (w_d (e_X6_story S P x1) S (u_X6_story S P x1)) (w_d (e_X6_story S P x1) P (va_up P 206859 (vp_updL (P 206859) 0 ((f_X6_story S P x1).toInt64))))
  | _ => False
def G_L_story : z_G := ([(0, .aload_n 2, 1, 0), (1, .iconst 0, 2, 0), (2, .aload_n 0, 3, 0), (3, .iload_n 1, 4, 0), (4, .invokevirtual 36, 7, 0), (7, .i2l, 8, 0), (8, .lastore, 9, 0), (9, .goto 9, 12, 18), (12, .astore_n 3, 13, 0), (13, .iconst 1, 14, 0), (14, .ireturn, 15, 0), (15, .astore_n 3, 16, 0), (16, .iconst 2, 17, 0), (17, .ireturn, 18, 0), (18, .iconst 0, 19, 0), (19, .ireturn, 20, 0)], [], [], [], [], [], [], some .int)
def hs_L_story : List z_HS := [("java/lang/IndexOutOfBoundsException", 1, .astore_n 3, 1), ("java/lang/IllegalStateException", 2, .astore_n 3, 1)]
def hh_L_story : List (Nat × Nat × Nat × Nat) := [(0, 9, 12, 21), (0, 9, 15, 15)]
theorem w_L_story_e (S : z_MI) (P : z_ML) (x1 : Int32) : e_X6_story S P x1 = 0 ∨ e_X6_story S P x1 = 1 ∨ e_X6_story S P x1 = 3 := by
  unfold e_X6_story
  repeat' split
  all_goals first | exact Or.inl rfl | exact Or.inr rfl | exact Or.inr (Or.inl rfl) | exact Or.inr (Or.inr rfl) | exact Or.inr (Or.inr (Or.inl rfl)) | exact Or.inr (Or.inr (Or.inr rfl))
set_option maxRecDepth 20000 in
set_option maxHeartbeats 4000000 in
theorem cw_L_story (l : Launch) (hl9 : l.stackTraces = false) : z_CW l yL_story cL_story 4 hh_L_story sp_L_story 7 := by
  refine z_CW_of G_L_story hs_L_story 4 36 1 2096 (ct_X6_story l hl9) kb_X6_story kv_L_36 ko_X6 (by decide) (by decide) (by decide) (by decide +kernel) (z_pok_of ft_L ci_L cL_L_L fo_L co_L lo_L (by decide +kernel)) rfl rfl rfl (by decide +kernel) (by decide +kernel) ?_ ?_
  · intro as S P Po h
    unfold sp_L_story at h
    split at h
    · exact Nat.le_of_ble_eq_true rfl
    · exact h.elim
  · intro as S P Po h V0 V1 h0 h1 hcall
    unfold sp_L_story at h
    split at h
    · rename_i x1
      obtain ⟨hJ, hpo⟩ := h
      refine h0 [4] 21 0 _ _ _ _ ?_
      refine hcall _ [.int x1] [.int (nI 0), .ref 206859] S P rfl (by decide) ?_
      refine ⟨hJ, ?_⟩
      have he9 : e_X6_story S P x1 = 0 ∨ e_X6_story S P x1 = 1 ∨ e_X6_story S P x1 = 3 := by
        exact w_L_story_e S P x1
      rcases he9 with he | he | he
      · rw [he] at hpo ⊢
        refine h1 [] 21 _ _ _ _ _ ?_
        refine ⟨vp_in_nI (by decide) (by decide), ?_⟩
        exact hpo
      · rw [he] at hpo ⊢
        exact ⟨_, List.mem_cons_self, rfl, hpo⟩
      · rw [he] at hpo ⊢
        exact ⟨_, List.mem_cons_of_mem _ (List.mem_cons_self), rfl, hpo⟩
    · exact h.elim
def sp_L_part : z_SP := fun as S P k => match as with
  | [.ref 2096, .int x1, .int x2, .int x3, .ref 206859] => z_J S ∧ k (some (.int (w_c 1 2 3 (e_X6_part S P x1 x2 x3)))) (w_d (e_X6_part S P x1 x2 x3) S (u_X6_part S P x1 x2 x3)) (w_d (e_X6_part S P x1 x2 x3) P (va_up P 206859 (vp_updL (P 206859) 0 ((f_X6_part S P x1 x2 x3).toInt64))))
  | _ => False
def G_L_part : z_G := ([(0, .aload 4, 2, 0), (2, .iconst 0, 3, 0), (3, .aload_n 0, 4, 0), (4, .iload_n 1, 5, 0), (5, .iload_n 2, 6, 0), (6, .iload_n 3, 7, 0), (7, .invokevirtual 39, 10, 0), (10, .i2l, 11, 0), (11, .lastore, 12, 0), (12, .goto 15, 15, 27), (15, .astore 5, 17, 0), (17, .iconst 1, 18, 0), (18, .ireturn, 19, 0), (19, .astore 5, 21, 0), (21, .iconst 2, 22, 0), (22, .ireturn, 23, 0), (23, .astore 5, 25, 0), (25, .iconst 3, 26, 0), (26, .ireturn, 27, 0), (27, .iconst 0, 28, 0), (28, .ireturn, 29, 0)], [], [], [], [], [], [], some .int)
def hs_L_part : List z_HS := [("java/lang/IndexOutOfBoundsException", 1, .astore 5, 2), ("java/lang/IllegalArgumentException", 2, .astore 5, 2), ("java/lang/IllegalStateException", 3, .astore 5, 2)]
def hh_L_part : List (Nat × Nat × Nat × Nat) := [(0, 12, 15, 21), (0, 12, 19, 13), (0, 12, 23, 15)]
theorem w_L_part_e (S : z_MI) (P : z_ML) (x1 : Int32) (x2 : Int32) (x3 : Int32) : e_X6_part S P x1 x2 x3 = 0 ∨ e_X6_part S P x1 x2 x3 = 1 ∨ e_X6_part S P x1 x2 x3 = 2 ∨ e_X6_part S P x1 x2 x3 = 3 := by
  unfold e_X6_part
  repeat' split
  all_goals first | exact Or.inl rfl | exact Or.inr rfl | exact Or.inr (Or.inl rfl) | exact Or.inr (Or.inr rfl) | exact Or.inr (Or.inr (Or.inl rfl)) | exact Or.inr (Or.inr (Or.inr rfl))
set_option maxRecDepth 20000 in
set_option maxHeartbeats 4000000 in
theorem cw_L_part (l : Launch) (hl9 : l.stackTraces = false) : z_CW l yL_part cL_part 6 hh_L_part sp_L_part 7 := by
  refine z_CW_of G_L_part hs_L_part 7 39 3 2096 (ct_X6_part l hl9) kb_X6_part kv_L_39 ko_X6 (by decide) (by decide) (by decide) (by decide +kernel) (z_pok_of ft_L ci_L cL_L_L fo_L co_L lo_L (by decide +kernel)) rfl rfl rfl (by decide +kernel) (by decide +kernel) ?_ ?_
  · intro as S P Po h
    unfold sp_L_part at h
    split at h
    · exact Nat.le_of_ble_eq_true rfl
    · exact h.elim
  · intro as S P Po h V0 V1 h0 h1 hcall
    unfold sp_L_part at h
    split at h
    · rename_i x1 x2 x3
      obtain ⟨hJ, hpo⟩ := h
      refine h0 [7] 26 0 _ _ _ _ ?_
      refine hcall _ [.int x1, .int x2, .int x3] [.int (nI 0), .ref 206859] S P rfl (by decide) ?_
      refine ⟨hJ, ?_⟩
      have he9 : e_X6_part S P x1 x2 x3 = 0 ∨ e_X6_part S P x1 x2 x3 = 1 ∨ e_X6_part S P x1 x2 x3 = 2 ∨ e_X6_part S P x1 x2 x3 = 3 := by
        exact w_L_part_e S P x1 x2 x3
      rcases he9 with he | he | he | he
      · rw [he] at hpo ⊢
        refine h1 [] 26 _ _ _ _ _ ?_
        refine ⟨vp_in_nI (by decide) (by decide), ?_⟩
        exact hpo
      · rw [he] at hpo ⊢
        exact ⟨_, List.mem_cons_self, rfl, hpo⟩
      · rw [he] at hpo ⊢
        exact ⟨_, List.mem_cons_of_mem _ (List.mem_cons_self), rfl, hpo⟩
      · rw [he] at hpo ⊢
        exact ⟨_, List.mem_cons_of_mem _ (List.mem_cons_of_mem _ (List.mem_cons_self)), rfl, hpo⟩
    · exact h.elim
def sp_L_hears : z_SP := fun as S P k => match as with
  | [.ref 2096, .int x1, .int x2, .int x3, .ref 206859] => z_J S ∧ k (some (.int (w_c 1 0 0 (e_X6_hears S P x1 x2 x3)))) (w_d (e_X6_hears S P x1 x2 x3) S S) (w_d (e_X6_hears S P x1 x2 x3) P (va_up P 206859 (vp_updL (P 206859) 0 ((f_X6_hears S P x1 x2 x3).toInt64))))
  | _ => False
def G_L_hears : z_G := ([(0, .aload 4, 2, 0), (2, .iconst 0, 3, 0), (3, .aload_n 0, 4, 0), (4, .iload_n 1, 5, 0), (5, .iload_n 2, 6, 0), (6, .iload_n 3, 7, 0), (7, .invokevirtual 43, 10, 0), (10, .i2l, 11, 0), (11, .lastore, 12, 0), (12, .goto 7, 15, 19), (15, .astore 5, 17, 0), (17, .iconst 1, 18, 0), (18, .ireturn, 19, 0), (19, .iconst 0, 20, 0), (20, .ireturn, 21, 0)], [], [], [], [], [], [], some .int)
def hs_L_hears : List z_HS := [("java/lang/IndexOutOfBoundsException", 1, .astore 5, 2)]
def hh_L_hears : List (Nat × Nat × Nat × Nat) := [(0, 12, 15, 21)]
theorem w_L_hears_e (S : z_MI) (P : z_ML) (x1 : Int32) (x2 : Int32) (x3 : Int32) : e_X6_hears S P x1 x2 x3 = 0 ∨ e_X6_hears S P x1 x2 x3 = 1 := by
  unfold e_X6_hears
  repeat' split
  all_goals first | exact Or.inl rfl | exact Or.inr rfl | exact Or.inr (Or.inl rfl) | exact Or.inr (Or.inr rfl) | exact Or.inr (Or.inr (Or.inl rfl)) | exact Or.inr (Or.inr (Or.inr rfl))
set_option maxRecDepth 20000 in
set_option maxHeartbeats 4000000 in
theorem cw_L_hears (l : Launch) (hl9 : l.stackTraces = false) : z_CW l yL_hears cL_hears 6 hh_L_hears sp_L_hears 7 := by
  refine z_CW_of G_L_hears hs_L_hears 7 43 3 2096 (ct_X6_hears l hl9) kb_X6_hears kv_L_43 ko_X6 (by decide) (by decide) (by decide) (by decide +kernel) (z_pok_of ft_L ci_L cL_L_L fo_L co_L lo_L (by decide +kernel)) rfl rfl rfl (by decide +kernel) (by decide +kernel) ?_ ?_
  · intro as S P Po h
    unfold sp_L_hears at h
    split at h
    · exact Nat.le_of_ble_eq_true rfl
    · exact h.elim
  · intro as S P Po h V0 V1 h0 h1 hcall
    unfold sp_L_hears at h
    split at h
    · rename_i x1 x2 x3
      obtain ⟨hJ, hpo⟩ := h
      refine h0 [7] 20 0 _ _ _ _ ?_
      refine hcall _ [.int x1, .int x2, .int x3] [.int (nI 0), .ref 206859] S P rfl (by decide) ?_
      refine ⟨hJ, ?_⟩
      have he9 : e_X6_hears S P x1 x2 x3 = 0 ∨ e_X6_hears S P x1 x2 x3 = 1 := by
        exact w_L_hears_e S P x1 x2 x3
      rcases he9 with he | he
      · rw [he] at hpo ⊢
        refine h1 [] 20 _ _ _ _ _ ?_
        refine ⟨vp_in_nI (by decide) (by decide), ?_⟩
        exact hpo
      · rw [he] at hpo ⊢
        exact ⟨_, List.mem_cons_self, rfl, hpo⟩
    · exact h.elim
def sp_L_told : z_SP := fun as S P k => match as with
  | [.ref 2096, .int x1, .ref 206859] => z_J S ∧ k (some (.int (w_c 1 0 0 (e_X6_told S P x1)))) (w_d (e_X6_told S P x1) S S) (w_d (e_X6_told S P x1) P (va_up P 206859 (vp_updL (P 206859) 0 ((f_X6_told S P x1).toInt64))))
  | _ => False
def G_L_told : z_G := ([(0, .aload_n 2, 1, 0), (1, .iconst 0, 2, 0), (2, .aload_n 0, 3, 0), (3, .iload_n 1, 4, 0), (4, .invokevirtual 46, 7, 0), (7, .i2l, 8, 0), (8, .lastore, 9, 0), (9, .goto 6, 12, 15), (12, .astore_n 3, 13, 0), (13, .iconst 1, 14, 0), (14, .ireturn, 15, 0), (15, .iconst 0, 16, 0), (16, .ireturn, 17, 0)], [], [], [], [], [], [], some .int)
def hs_L_told : List z_HS := [("java/lang/IndexOutOfBoundsException", 1, .astore_n 3, 1)]
def hh_L_told : List (Nat × Nat × Nat × Nat) := [(0, 9, 12, 21)]
theorem w_L_told_e (S : z_MI) (P : z_ML) (x1 : Int32) : e_X6_told S P x1 = 0 ∨ e_X6_told S P x1 = 1 := by
  unfold e_X6_told
  repeat' split
  all_goals first | exact Or.inl rfl | exact Or.inr rfl | exact Or.inr (Or.inl rfl) | exact Or.inr (Or.inr rfl) | exact Or.inr (Or.inr (Or.inl rfl)) | exact Or.inr (Or.inr (Or.inr rfl))
set_option maxRecDepth 20000 in
set_option maxHeartbeats 4000000 in
theorem cw_L_told (l : Launch) (hl9 : l.stackTraces = false) : z_CW l yL_told cL_told 4 hh_L_told sp_L_told 7 := by
  refine z_CW_of G_L_told hs_L_told 4 46 1 2096 (ct_X6_told l hl9) kb_X6_told kv_L_46 ko_X6 (by decide) (by decide) (by decide) (by decide +kernel) (z_pok_of ft_L ci_L cL_L_L fo_L co_L lo_L (by decide +kernel)) rfl rfl rfl (by decide +kernel) (by decide +kernel) ?_ ?_
  · intro as S P Po h
    unfold sp_L_told at h
    split at h
    · exact Nat.le_of_ble_eq_true rfl
    · exact h.elim
  · intro as S P Po h V0 V1 h0 h1 hcall
    unfold sp_L_told at h
    split at h
    · rename_i x1
      obtain ⟨hJ, hpo⟩ := h
      refine h0 [4] 18 0 _ _ _ _ ?_
      refine hcall _ [.int x1] [.int (nI 0), .ref 206859] S P rfl (by decide) ?_
      refine ⟨hJ, ?_⟩
      have he9 : e_X6_told S P x1 = 0 ∨ e_X6_told S P x1 = 1 := by
        exact w_L_told_e S P x1
      rcases he9 with he | he
      · rw [he] at hpo ⊢
        refine h1 [] 18 _ _ _ _ _ ?_
        refine ⟨vp_in_nI (by decide) (by decide), ?_⟩
        exact hpo
      · rw [he] at hpo ⊢
        exact ⟨_, List.mem_cons_self, rfl, hpo⟩
    · exact h.elim
def sp_L_mark : z_SP := fun as S P k => match as with
  | [.ref 2096, .int x1, .int x2, .int x3, .int x4, .ref 206859] => z_J S ∧ k (some (.int (w_c 1 2 3 (e_X6_mark S P x1 x2 x3 x4)))) (w_d (e_X6_mark S P x1 x2 x3 x4) S (u_X6_mark S P x1 x2 x3 x4)) (w_d (e_X6_mark S P x1 x2 x3 x4) P (va_up P 206859 (vp_updL (P 206859) 0 ((f_X6_mark S P x1 x2 x3 x4).toInt64))))
  | _ => False
def G_L_mark : z_G := ([(0, .aload 5, 2, 0), (2, .iconst 0, 3, 0), (3, .aload_n 0, 4, 0), (4, .iload_n 1, 5, 0), (5, .iload_n 2, 6, 0), (6, .iload_n 3, 7, 0), (7, .iload 4, 9, 0), (9, .invokevirtual 49, 12, 0), (12, .i2l, 13, 0), (13, .lastore, 14, 0), (14, .goto 15, 17, 29), (17, .astore 6, 19, 0), (19, .iconst 1, 20, 0), (20, .ireturn, 21, 0), (21, .astore 6, 23, 0), (23, .iconst 2, 24, 0), (24, .ireturn, 25, 0), (25, .astore 6, 27, 0), (27, .iconst 3, 28, 0), (28, .ireturn, 29, 0), (29, .iconst 0, 30, 0), (30, .ireturn, 31, 0)], [], [], [], [], [], [], some .int)
def hs_L_mark : List z_HS := [("java/lang/IndexOutOfBoundsException", 1, .astore 6, 2), ("java/lang/IllegalArgumentException", 2, .astore 6, 2), ("java/lang/IllegalStateException", 3, .astore 6, 2)]
def hh_L_mark : List (Nat × Nat × Nat × Nat) := [(0, 14, 17, 21), (0, 14, 21, 13), (0, 14, 25, 15)]
theorem w_L_mark_e (S : z_MI) (P : z_ML) (x1 : Int32) (x2 : Int32) (x3 : Int32) (x4 : Int32) : e_X6_mark S P x1 x2 x3 x4 = 0 ∨ e_X6_mark S P x1 x2 x3 x4 = 1 ∨ e_X6_mark S P x1 x2 x3 x4 = 2 ∨ e_X6_mark S P x1 x2 x3 x4 = 3 := by
  unfold e_X6_mark
  repeat' split
  all_goals first | exact Or.inl rfl | exact Or.inr rfl | exact Or.inr (Or.inl rfl) | exact Or.inr (Or.inr rfl) | exact Or.inr (Or.inr (Or.inl rfl)) | exact Or.inr (Or.inr (Or.inr rfl))
set_option maxRecDepth 20000 in
set_option maxHeartbeats 4000000 in
theorem cw_L_mark (l : Launch) (hl9 : l.stackTraces = false) : z_CW l yL_mark cL_mark 7 hh_L_mark sp_L_mark 7 := by
  refine z_CW_of G_L_mark hs_L_mark 9 49 4 2096 (ct_X6_mark l hl9) kb_X6_mark kv_L_49 ko_X6 (by decide) (by decide) (by decide) (by decide +kernel) (z_pok_of ft_L ci_L cL_L_L fo_L co_L lo_L (by decide +kernel)) rfl rfl rfl (by decide +kernel) (by decide +kernel) ?_ ?_
  · intro as S P Po h
    unfold sp_L_mark at h
    split at h
    · exact Nat.le_of_ble_eq_true rfl
    · exact h.elim
  · intro as S P Po h V0 V1 h0 h1 hcall
    unfold sp_L_mark at h
    split at h
    · rename_i x1 x2 x3 x4
      obtain ⟨hJ, hpo⟩ := h
      refine h0 [9] 27 0 _ _ _ _ ?_
      refine hcall _ [.int x1, .int x2, .int x3, .int x4] [.int (nI 0), .ref 206859] S P rfl (by decide) ?_
      refine ⟨hJ, ?_⟩
      have he9 : e_X6_mark S P x1 x2 x3 x4 = 0 ∨ e_X6_mark S P x1 x2 x3 x4 = 1 ∨ e_X6_mark S P x1 x2 x3 x4 = 2 ∨ e_X6_mark S P x1 x2 x3 x4 = 3 := by
        exact w_L_mark_e S P x1 x2 x3 x4
      rcases he9 with he | he | he | he
      · rw [he] at hpo ⊢
        refine h1 [] 27 _ _ _ _ _ ?_
        refine ⟨vp_in_nI (by decide) (by decide), ?_⟩
        exact hpo
      · rw [he] at hpo ⊢
        exact ⟨_, List.mem_cons_self, rfl, hpo⟩
      · rw [he] at hpo ⊢
        exact ⟨_, List.mem_cons_of_mem _ (List.mem_cons_self), rfl, hpo⟩
      · rw [he] at hpo ⊢
        exact ⟨_, List.mem_cons_of_mem _ (List.mem_cons_of_mem _ (List.mem_cons_self)), rfl, hpo⟩
    · exact h.elim
def sp_L_explain : z_SP := fun as S P k => match as with
  | [.ref 2096, .int x1, .int x2, .int x3, .ref 206859] => z_J S ∧ k (some (.int (w_c 1 2 3 (e_X6_explain S P x1 x2 x3)))) (w_d (e_X6_explain S P x1 x2 x3) S (u_X6_explain S P x1 x2 x3)) (w_d (e_X6_explain S P x1 x2 x3) P (va_up P 206859 (vp_updL (P 206859) 0 ((f_X6_explain S P x1 x2 x3).toInt64))))
  | _ => False
def G_L_explain : z_G := ([(0, .aload 4, 2, 0), (2, .iconst 0, 3, 0), (3, .aload_n 0, 4, 0), (4, .iload_n 1, 5, 0), (5, .iload_n 2, 6, 0), (6, .iload_n 3, 7, 0), (7, .invokevirtual 53, 10, 0), (10, .i2l, 11, 0), (11, .lastore, 12, 0), (12, .goto 15, 15, 27), (15, .astore 5, 17, 0), (17, .iconst 1, 18, 0), (18, .ireturn, 19, 0), (19, .astore 5, 21, 0), (21, .iconst 2, 22, 0), (22, .ireturn, 23, 0), (23, .astore 5, 25, 0), (25, .iconst 3, 26, 0), (26, .ireturn, 27, 0), (27, .iconst 0, 28, 0), (28, .ireturn, 29, 0)], [], [], [], [], [], [], some .int)
def hs_L_explain : List z_HS := [("java/lang/IndexOutOfBoundsException", 1, .astore 5, 2), ("java/lang/IllegalArgumentException", 2, .astore 5, 2), ("java/lang/IllegalStateException", 3, .astore 5, 2)]
def hh_L_explain : List (Nat × Nat × Nat × Nat) := [(0, 12, 15, 21), (0, 12, 19, 13), (0, 12, 23, 15)]
theorem w_L_explain_e (S : z_MI) (P : z_ML) (x1 : Int32) (x2 : Int32) (x3 : Int32) : e_X6_explain S P x1 x2 x3 = 0 ∨ e_X6_explain S P x1 x2 x3 = 1 ∨ e_X6_explain S P x1 x2 x3 = 2 ∨ e_X6_explain S P x1 x2 x3 = 3 := by
  unfold e_X6_explain
  repeat' split
  all_goals first | exact Or.inl rfl | exact Or.inr rfl | exact Or.inr (Or.inl rfl) | exact Or.inr (Or.inr rfl) | exact Or.inr (Or.inr (Or.inl rfl)) | exact Or.inr (Or.inr (Or.inr rfl))
set_option maxRecDepth 20000 in
set_option maxHeartbeats 4000000 in
theorem cw_L_explain (l : Launch) (hl9 : l.stackTraces = false) : z_CW l yL_explain cL_explain 6 hh_L_explain sp_L_explain 7 := by
  refine z_CW_of G_L_explain hs_L_explain 7 53 3 2096 (ct_X6_explain l hl9) kb_X6_explain kv_L_53 ko_X6 (by decide) (by decide) (by decide) (by decide +kernel) (z_pok_of ft_L ci_L cL_L_L fo_L co_L lo_L (by decide +kernel)) rfl rfl rfl (by decide +kernel) (by decide +kernel) ?_ ?_
  · intro as S P Po h
    unfold sp_L_explain at h
    split at h
    · exact Nat.le_of_ble_eq_true rfl
    · exact h.elim
  · intro as S P Po h V0 V1 h0 h1 hcall
    unfold sp_L_explain at h
    split at h
    · rename_i x1 x2 x3
      obtain ⟨hJ, hpo⟩ := h
      refine h0 [7] 26 0 _ _ _ _ ?_
      refine hcall _ [.int x1, .int x2, .int x3] [.int (nI 0), .ref 206859] S P rfl (by decide) ?_
      refine ⟨hJ, ?_⟩
      have he9 : e_X6_explain S P x1 x2 x3 = 0 ∨ e_X6_explain S P x1 x2 x3 = 1 ∨ e_X6_explain S P x1 x2 x3 = 2 ∨ e_X6_explain S P x1 x2 x3 = 3 := by
        exact w_L_explain_e S P x1 x2 x3
      rcases he9 with he | he | he | he
      · rw [he] at hpo ⊢
        refine h1 [] 26 _ _ _ _ _ ?_
        refine ⟨vp_in_nI (by decide) (by decide), ?_⟩
        exact hpo
      · rw [he] at hpo ⊢
        exact ⟨_, List.mem_cons_self, rfl, hpo⟩
      · rw [he] at hpo ⊢
        exact ⟨_, List.mem_cons_of_mem _ (List.mem_cons_self), rfl, hpo⟩
      · rw [he] at hpo ⊢
        exact ⟨_, List.mem_cons_of_mem _ (List.mem_cons_of_mem _ (List.mem_cons_self)), rfl, hpo⟩
    · exact h.elim
def sp_L_isProved : z_SP := fun as S P k => match as with
  | [.ref 2096, .int x1, .int x2, .ref 206859] => z_J S ∧ k (some (.int (w_c 1 0 0 (e_X6_isProved S P x1 x2)))) (w_d (e_X6_isProved S P x1 x2) S S) (w_d (e_X6_isProved S P x1 x2) P (va_up P 206859 (vp_updL (P 206859) 0 (z_b64 (f_X6_isProved S P x1 x2)))))
  | _ => False
def G_L_isProved : z_G := ([(0, .aload_n 3, 1, 0), (1, .iconst 0, 2, 0), (2, .aload_n 0, 3, 0), (3, .iload_n 1, 4, 0), (4, .iload_n 2, 5, 0), (5, .invokevirtual 56, 8, 0), (8, .ifCond .eq 7, 11, 15), (11, .lconst 1, 12, 0), (12, .goto 4, 15, 16), (15, .lconst 0, 16, 0), (16, .lastore, 17, 0), (17, .goto 7, 20, 24), (20, .astore 4, 22, 0), (22, .iconst 1, 23, 0), (23, .ireturn, 24, 0), (24, .iconst 0, 25, 0), (25, .ireturn, 26, 0)], [], [], [], [], [], [], some .int)
def hs_L_isProved : List z_HS := [("java/lang/IndexOutOfBoundsException", 1, .astore 4, 2)]
def hh_L_isProved : List (Nat × Nat × Nat × Nat) := [(0, 17, 20, 21)]
theorem w_L_isProved_e (S : z_MI) (P : z_ML) (x1 : Int32) (x2 : Int32) : e_X6_isProved S P x1 x2 = 0 ∨ e_X6_isProved S P x1 x2 = 1 := by
  unfold e_X6_isProved
  repeat' split
  all_goals first | exact Or.inl rfl | exact Or.inr rfl | exact Or.inr (Or.inl rfl) | exact Or.inr (Or.inr rfl) | exact Or.inr (Or.inr (Or.inl rfl)) | exact Or.inr (Or.inr (Or.inr rfl))
set_option maxRecDepth 20000 in
set_option maxHeartbeats 4000000 in
theorem cw_L_isProved (l : Launch) (hl9 : l.stackTraces = false) : z_CW l yL_isProved cL_isProved 5 hh_L_isProved sp_L_isProved 7 := by
  refine z_CW_of G_L_isProved hs_L_isProved 5 56 2 2096 (ct_X6_isProved l hl9) kb_X6_isProved kv_L_56 ko_X6 (by decide) (by decide) (by decide) (by decide +kernel) (z_pok_of ft_L ci_L cL_L_L fo_L co_L lo_L (by decide +kernel)) rfl rfl rfl (by decide +kernel) (by decide +kernel) ?_ ?_
  · intro as S P Po h
    unfold sp_L_isProved at h
    split at h
    · exact Nat.le_of_ble_eq_true rfl
    · exact h.elim
  · intro as S P Po h V0 V1 h0 h1 hcall
    unfold sp_L_isProved at h
    split at h
    · rename_i x1 x2
      obtain ⟨hJ, hpo⟩ := h
      refine h0 [5] 22 0 _ _ _ _ ?_
      refine hcall _ [.int x1, .int x2] [.int (nI 0), .ref 206859] S P rfl (by decide) ?_
      refine ⟨hJ, ?_⟩
      have he9 : e_X6_isProved S P x1 x2 = 0 ∨ e_X6_isProved S P x1 x2 = 1 := by
        exact w_L_isProved_e S P x1 x2
      rcases he9 with he | he
      · rw [he] at hpo ⊢
        refine h1 [] 22 _ _ _ _ _ ?_
        refine z_br (fun (hb : (f_X6_isProved S P x1 x2) = false) => ?_) (fun (hb : (f_X6_isProved S P x1 x2) = true) => ?_)
        · refine ⟨vp_in_nI (by decide) (by decide), ?_⟩
          rw [hb] at hpo
          exact hpo
        · refine ⟨vp_in_nI (by decide) (by decide), ?_⟩
          rw [hb] at hpo
          exact hpo
      · rw [he] at hpo ⊢
        exact ⟨_, List.mem_cons_self, rfl, hpo⟩
    · exact h.elim
def sp_L_act : z_SP := fun as S P k => match as with
  | [.ref 2096, .int x1, .int x2, .int x3, .int x4, .int x5, .ref 206859] => z_J S ∧ k (some (.int (w_c 0 1 2 (e_X6_act S P x1 x2 x3 x4 x5)))) (w_d (e_X6_act S P x1 x2 x3 x4 x5) S (u_X6_act S P x1 x2 x3 x4 x5)) (w_d (e_X6_act S P x1 x2 x3 x4 x5) P (va_up P 206859 (vp_updL (P 206859) 0 ((f_X6_act S P x1 x2 x3 x4 x5).toInt64))))
  | _ => False
def G_L_act : z_G := ([(0, .aload 6, 2, 0), (2, .iconst 0, 3, 0), (3, .aload_n 0, 4, 0), (4, .iload_n 1, 5, 0), (5, .iload_n 2, 6, 0), (6, .iload_n 3, 7, 0), (7, .iload 4, 9, 0), (9, .iload 5, 11, 0), (11, .invokevirtual 60, 14, 0), (14, .i2l, 15, 0), (15, .lastore, 16, 0), (16, .goto 11, 19, 27), (19, .astore 7, 21, 0), (21, .iconst 1, 22, 0), (22, .ireturn, 23, 0), (23, .astore 7, 25, 0), (25, .iconst 2, 26, 0), (26, .ireturn, 27, 0), (27, .iconst 0, 28, 0), (28, .ireturn, 29, 0)], [], [], [], [], [], [], some .int)
def hs_L_act : List z_HS := [("java/lang/IllegalArgumentException", 1, .astore 7, 2), ("java/lang/IllegalStateException", 2, .astore 7, 2)]
def hh_L_act : List (Nat × Nat × Nat × Nat) := [(0, 16, 19, 13), (0, 16, 23, 15)]
theorem w_L_act_e (S : z_MI) (P : z_ML) (x1 : Int32) (x2 : Int32) (x3 : Int32) (x4 : Int32) (x5 : Int32) : e_X6_act S P x1 x2 x3 x4 x5 = 0 ∨ e_X6_act S P x1 x2 x3 x4 x5 = 2 ∨ e_X6_act S P x1 x2 x3 x4 x5 = 3 := by
  unfold e_X6_act
  repeat' split
  all_goals first | exact Or.inl rfl | exact Or.inr rfl | exact Or.inr (Or.inl rfl) | exact Or.inr (Or.inr rfl) | exact Or.inr (Or.inr (Or.inl rfl)) | exact Or.inr (Or.inr (Or.inr rfl))
set_option maxRecDepth 20000 in
set_option maxHeartbeats 4000000 in
theorem cw_L_act (l : Launch) (hl9 : l.stackTraces = false) : z_CW l yL_act cL_act 8 hh_L_act sp_L_act 7 := by
  refine z_CW_of G_L_act hs_L_act 11 60 5 2096 (ct_X6_act l hl9) kb_X6_act kv_L_60 ko_X6 (by decide) (by decide) (by decide) (by decide +kernel) (z_pok_of ft_L ci_L cL_L_L fo_L co_L lo_L (by decide +kernel)) rfl rfl rfl (by decide +kernel) (by decide +kernel) ?_ ?_
  · intro as S P Po h
    unfold sp_L_act at h
    split at h
    · exact Nat.le_of_ble_eq_true rfl
    · exact h.elim
  · intro as S P Po h V0 V1 h0 h1 hcall
    unfold sp_L_act at h
    split at h
    · rename_i x1 x2 x3 x4 x5
      obtain ⟨hJ, hpo⟩ := h
      refine h0 [11] 25 0 _ _ _ _ ?_
      refine hcall _ [.int x1, .int x2, .int x3, .int x4, .int x5] [.int (nI 0), .ref 206859] S P rfl (by decide) ?_
      refine ⟨hJ, ?_⟩
      have he9 : e_X6_act S P x1 x2 x3 x4 x5 = 0 ∨ e_X6_act S P x1 x2 x3 x4 x5 = 2 ∨ e_X6_act S P x1 x2 x3 x4 x5 = 3 := by
        exact w_L_act_e S P x1 x2 x3 x4 x5
      rcases he9 with he | he | he
      · rw [he] at hpo ⊢
        refine h1 [] 25 _ _ _ _ _ ?_
        refine ⟨vp_in_nI (by decide) (by decide), ?_⟩
        exact hpo
      · rw [he] at hpo ⊢
        exact ⟨_, List.mem_cons_self, rfl, hpo⟩
      · rw [he] at hpo ⊢
        exact ⟨_, List.mem_cons_of_mem _ (List.mem_cons_self), rfl, hpo⟩
    · exact h.elim
def sp_L_voids : z_SP := fun as S P k => match as with
  | [.ref 2096, .int x1, .int x2, .ref 206859] => z_J S ∧ k (some (.int (w_c 1 0 0 (e_X6_voids S P x1 x2)))) (w_d (e_X6_voids S P x1 x2) S (u_X6_voids S P x1 x2)) (w_d (e_X6_voids S P x1 x2) P (va_up P 206859 (vp_updL (P 206859) 0 (z_b64 (f_X6_voids S P x1 x2)))))
  | _ => False
def G_L_voids : z_G := ([(0, .aload_n 3, 1, 0), (1, .iconst 0, 2, 0), (2, .aload_n 0, 3, 0), (3, .iload_n 1, 4, 0), (4, .iload_n 2, 5, 0), (5, .invokevirtual 64, 8, 0), (8, .ifCond .eq 7, 11, 15), (11, .lconst 1, 12, 0), (12, .goto 4, 15, 16), (15, .lconst 0, 16, 0), (16, .lastore, 17, 0), (17, .goto 7, 20, 24), (20, .astore 4, 22, 0), (22, .iconst 1, 23, 0), (23, .ireturn, 24, 0), (24, .iconst 0, 25, 0), (25, .ireturn, 26, 0)], [], [], [], [], [], [], some .int)
def hs_L_voids : List z_HS := [("java/lang/IndexOutOfBoundsException", 1, .astore 4, 2)]
def hh_L_voids : List (Nat × Nat × Nat × Nat) := [(0, 17, 20, 21)]
theorem w_L_voids_e (S : z_MI) (P : z_ML) (x1 : Int32) (x2 : Int32) : e_X6_voids S P x1 x2 = 0 ∨ e_X6_voids S P x1 x2 = 1 := by
  unfold e_X6_voids
  repeat' split
  all_goals first | exact Or.inl rfl | exact Or.inr rfl | exact Or.inr (Or.inl rfl) | exact Or.inr (Or.inr rfl) | exact Or.inr (Or.inr (Or.inl rfl)) | exact Or.inr (Or.inr (Or.inr rfl))
set_option maxRecDepth 20000 in
set_option maxHeartbeats 4000000 in
theorem cw_L_voids (l : Launch) (hl9 : l.stackTraces = false) : z_CW l yL_voids cL_voids 5 hh_L_voids sp_L_voids 7 := by
  refine z_CW_of G_L_voids hs_L_voids 5 64 2 2096 (ct_X6_voids l hl9) kb_X6_voids kv_L_64 ko_X6 (by decide) (by decide) (by decide) (by decide +kernel) (z_pok_of ft_L ci_L cL_L_L fo_L co_L lo_L (by decide +kernel)) rfl rfl rfl (by decide +kernel) (by decide +kernel) ?_ ?_
  · intro as S P Po h
    unfold sp_L_voids at h
    split at h
    · exact Nat.le_of_ble_eq_true rfl
    · exact h.elim
  · intro as S P Po h V0 V1 h0 h1 hcall
    unfold sp_L_voids at h
    split at h
    · rename_i x1 x2
      obtain ⟨hJ, hpo⟩ := h
      refine h0 [5] 22 0 _ _ _ _ ?_
      refine hcall _ [.int x1, .int x2] [.int (nI 0), .ref 206859] S P rfl (by decide) ?_
      refine ⟨hJ, ?_⟩
      have he9 : e_X6_voids S P x1 x2 = 0 ∨ e_X6_voids S P x1 x2 = 1 := by
        exact w_L_voids_e S P x1 x2
      rcases he9 with he | he
      · rw [he] at hpo ⊢
        refine h1 [] 22 _ _ _ _ _ ?_
        refine z_br (fun (hb : (f_X6_voids S P x1 x2) = false) => ?_) (fun (hb : (f_X6_voids S P x1 x2) = true) => ?_)
        · refine ⟨vp_in_nI (by decide) (by decide), ?_⟩
          rw [hb] at hpo
          exact hpo
        · refine ⟨vp_in_nI (by decide) (by decide), ?_⟩
          rw [hb] at hpo
          exact hpo
      · rw [he] at hpo ⊢
        exact ⟨_, List.mem_cons_self, rfl, hpo⟩
    · exact h.elim
def sp_L_giveUp : z_SP := fun as S P k => match as with
  | [.ref 2096, .int x1, .ref 206859] => z_J S ∧ k (some (.int (w_c 1 0 2 (e_X6_giveUp S P x1)))) (w_d (e_X6_giveUp S P x1) S (u_X6_giveUp S P x1)) (w_d (e_X6_giveUp S P x1) P (va_up P 206859 (vp_updL (P 206859) 0 ((f_X6_giveUp S P x1).toInt64))))
  | _ => False
def G_L_giveUp : z_G := ([(0, .aload_n 2, 1, 0), (1, .iconst 0, 2, 0), (2, .aload_n 0, 3, 0), (3, .iload_n 1, 4, 0), (4, .invokevirtual 68, 7, 0), (7, .i2l, 8, 0), (8, .lastore, 9, 0), (9, .goto 9, 12, 18), (12, .astore_n 3, 13, 0), (13, .iconst 1, 14, 0), (14, .ireturn, 15, 0), (15, .astore_n 3, 16, 0), (16, .iconst 2, 17, 0), (17, .ireturn, 18, 0), (18, .iconst 0, 19, 0), (19, .ireturn, 20, 0)], [], [], [], [], [], [], some .int)
def hs_L_giveUp : List z_HS := [("java/lang/IndexOutOfBoundsException", 1, .astore_n 3, 1), ("java/lang/IllegalStateException", 2, .astore_n 3, 1)]
def hh_L_giveUp : List (Nat × Nat × Nat × Nat) := [(0, 9, 12, 21), (0, 9, 15, 15)]
theorem w_L_giveUp_e (S : z_MI) (P : z_ML) (x1 : Int32) : e_X6_giveUp S P x1 = 0 ∨ e_X6_giveUp S P x1 = 1 ∨ e_X6_giveUp S P x1 = 3 := by
  unfold e_X6_giveUp
  repeat' split
  all_goals first | exact Or.inl rfl | exact Or.inr rfl | exact Or.inr (Or.inl rfl) | exact Or.inr (Or.inr rfl) | exact Or.inr (Or.inr (Or.inl rfl)) | exact Or.inr (Or.inr (Or.inr rfl))
set_option maxRecDepth 20000 in
set_option maxHeartbeats 4000000 in
theorem cw_L_giveUp (l : Launch) (hl9 : l.stackTraces = false) : z_CW l yL_giveUp cL_giveUp 4 hh_L_giveUp sp_L_giveUp 7 := by
  refine z_CW_of G_L_giveUp hs_L_giveUp 4 68 1 2096 (ct_X6_giveUp l hl9) kb_X6_giveUp kv_L_68 ko_X6 (by decide) (by decide) (by decide) (by decide +kernel) (z_pok_of ft_L ci_L cL_L_L fo_L co_L lo_L (by decide +kernel)) rfl rfl rfl (by decide +kernel) (by decide +kernel) ?_ ?_
  · intro as S P Po h
    unfold sp_L_giveUp at h
    split at h
    · exact Nat.le_of_ble_eq_true rfl
    · exact h.elim
  · intro as S P Po h V0 V1 h0 h1 hcall
    unfold sp_L_giveUp at h
    split at h
    · rename_i x1
      obtain ⟨hJ, hpo⟩ := h
      refine h0 [4] 21 0 _ _ _ _ ?_
      refine hcall _ [.int x1] [.int (nI 0), .ref 206859] S P rfl (by decide) ?_
      refine ⟨hJ, ?_⟩
      have he9 : e_X6_giveUp S P x1 = 0 ∨ e_X6_giveUp S P x1 = 1 ∨ e_X6_giveUp S P x1 = 3 := by
        exact w_L_giveUp_e S P x1
      rcases he9 with he | he | he
      · rw [he] at hpo ⊢
        refine h1 [] 21 _ _ _ _ _ ?_
        refine ⟨vp_in_nI (by decide) (by decide), ?_⟩
        exact hpo
      · rw [he] at hpo ⊢
        exact ⟨_, List.mem_cons_self, rfl, hpo⟩
      · rw [he] at hpo ⊢
        exact ⟨_, List.mem_cons_of_mem _ (List.mem_cons_self), rfl, hpo⟩
    · exact h.elim
def sp_L_left : z_SP := fun as S P k => match as with
  | [.ref 2096, .int x1, .int x2, .ref 206859] => z_J S ∧ k (some (.int (w_c 1 2 0 (e_X6_left S P x1 x2)))) (w_d (e_X6_left S P x1 x2) S S) (w_d (e_X6_left S P x1 x2) P (va_up P 206859 (vp_updL (P 206859) 0 ((f_X6_left S P x1 x2).toInt64))))
  | _ => False
def G_L_left : z_G := ([(0, .aload_n 3, 1, 0), (1, .iconst 0, 2, 0), (2, .aload_n 0, 3, 0), (3, .iload_n 1, 4, 0), (4, .iload_n 2, 5, 0), (5, .invokevirtual 71, 8, 0), (8, .i2l, 9, 0), (9, .lastore, 10, 0), (10, .goto 11, 13, 21), (13, .astore 4, 15, 0), (15, .iconst 1, 16, 0), (16, .ireturn, 17, 0), (17, .astore 4, 19, 0), (19, .iconst 2, 20, 0), (20, .ireturn, 21, 0), (21, .iconst 0, 22, 0), (22, .ireturn, 23, 0)], [], [], [], [], [], [], some .int)
def hs_L_left : List z_HS := [("java/lang/IndexOutOfBoundsException", 1, .astore 4, 2), ("java/lang/IllegalArgumentException", 2, .astore 4, 2)]
def hh_L_left : List (Nat × Nat × Nat × Nat) := [(0, 10, 13, 21), (0, 10, 17, 13)]
theorem w_L_left_e (S : z_MI) (P : z_ML) (x1 : Int32) (x2 : Int32) : e_X6_left S P x1 x2 = 0 ∨ e_X6_left S P x1 x2 = 1 ∨ e_X6_left S P x1 x2 = 2 := by
  unfold e_X6_left
  repeat' split
  all_goals first | exact Or.inl rfl | exact Or.inr rfl | exact Or.inr (Or.inl rfl) | exact Or.inr (Or.inr rfl) | exact Or.inr (Or.inr (Or.inl rfl)) | exact Or.inr (Or.inr (Or.inr rfl))
set_option maxRecDepth 20000 in
set_option maxHeartbeats 4000000 in
theorem cw_L_left (l : Launch) (hl9 : l.stackTraces = false) : z_CW l yL_left cL_left 5 hh_L_left sp_L_left 7 := by
  refine z_CW_of G_L_left hs_L_left 5 71 2 2096 (ct_X6_left l hl9) kb_X6_left kv_L_71 ko_X6 (by decide) (by decide) (by decide) (by decide +kernel) (z_pok_of ft_L ci_L cL_L_L fo_L co_L lo_L (by decide +kernel)) rfl rfl rfl (by decide +kernel) (by decide +kernel) ?_ ?_
  · intro as S P Po h
    unfold sp_L_left at h
    split at h
    · exact Nat.le_of_ble_eq_true rfl
    · exact h.elim
  · intro as S P Po h V0 V1 h0 h1 hcall
    unfold sp_L_left at h
    split at h
    · rename_i x1 x2
      obtain ⟨hJ, hpo⟩ := h
      refine h0 [5] 22 0 _ _ _ _ ?_
      refine hcall _ [.int x1, .int x2] [.int (nI 0), .ref 206859] S P rfl (by decide) ?_
      refine ⟨hJ, ?_⟩
      have he9 : e_X6_left S P x1 x2 = 0 ∨ e_X6_left S P x1 x2 = 1 ∨ e_X6_left S P x1 x2 = 2 := by
        exact w_L_left_e S P x1 x2
      rcases he9 with he | he | he
      · rw [he] at hpo ⊢
        refine h1 [] 22 _ _ _ _ _ ?_
        refine ⟨vp_in_nI (by decide) (by decide), ?_⟩
        exact hpo
      · rw [he] at hpo ⊢
        exact ⟨_, List.mem_cons_self, rfl, hpo⟩
      · rw [he] at hpo ⊢
        exact ⟨_, List.mem_cons_of_mem _ (List.mem_cons_self), rfl, hpo⟩
    · exact h.elim
def sp_L_leftAnew : z_SP := fun as S P k => match as with
  | [.ref 2096, .int x1, .int x2, .ref 206859] => z_J S ∧ k (some (.int (w_c 1 2 0 (e_X6_leftAnew S P x1 x2)))) (w_d (e_X6_leftAnew S P x1 x2) S S) (w_d (e_X6_leftAnew S P x1 x2) P (va_up P 206859 (vp_updL (P 206859) 0 ((f_X6_leftAnew S P x1 x2).toInt64))))
  | _ => False
def G_L_leftAnew : z_G := ([(0, .aload_n 3, 1, 0), (1, .iconst 0, 2, 0), (2, .aload_n 0, 3, 0), (3, .iload_n 1, 4, 0), (4, .iload_n 2, 5, 0), (5, .invokevirtual 74, 8, 0), (8, .i2l, 9, 0), (9, .lastore, 10, 0), (10, .goto 11, 13, 21), (13, .astore 4, 15, 0), (15, .iconst 1, 16, 0), (16, .ireturn, 17, 0), (17, .astore 4, 19, 0), (19, .iconst 2, 20, 0), (20, .ireturn, 21, 0), (21, .iconst 0, 22, 0), (22, .ireturn, 23, 0)], [], [], [], [], [], [], some .int)
def hs_L_leftAnew : List z_HS := [("java/lang/IndexOutOfBoundsException", 1, .astore 4, 2), ("java/lang/IllegalArgumentException", 2, .astore 4, 2)]
def hh_L_leftAnew : List (Nat × Nat × Nat × Nat) := [(0, 10, 13, 21), (0, 10, 17, 13)]
theorem w_L_leftAnew_e (S : z_MI) (P : z_ML) (x1 : Int32) (x2 : Int32) : e_X6_leftAnew S P x1 x2 = 0 ∨ e_X6_leftAnew S P x1 x2 = 1 ∨ e_X6_leftAnew S P x1 x2 = 2 := by
  unfold e_X6_leftAnew
  repeat' split
  all_goals first | exact Or.inl rfl | exact Or.inr rfl | exact Or.inr (Or.inl rfl) | exact Or.inr (Or.inr rfl) | exact Or.inr (Or.inr (Or.inl rfl)) | exact Or.inr (Or.inr (Or.inr rfl))
set_option maxRecDepth 20000 in
set_option maxHeartbeats 4000000 in
theorem cw_L_leftAnew (l : Launch) (hl9 : l.stackTraces = false) : z_CW l yL_leftAnew cL_leftAnew 5 hh_L_leftAnew sp_L_leftAnew 7 := by
  refine z_CW_of G_L_leftAnew hs_L_leftAnew 5 74 2 2096 (ct_X6_leftAnew l hl9) kb_X6_leftAnew kv_L_74 ko_X6 (by decide) (by decide) (by decide) (by decide +kernel) (z_pok_of ft_L ci_L cL_L_L fo_L co_L lo_L (by decide +kernel)) rfl rfl rfl (by decide +kernel) (by decide +kernel) ?_ ?_
  · intro as S P Po h
    unfold sp_L_leftAnew at h
    split at h
    · exact Nat.le_of_ble_eq_true rfl
    · exact h.elim
  · intro as S P Po h V0 V1 h0 h1 hcall
    unfold sp_L_leftAnew at h
    split at h
    · rename_i x1 x2
      obtain ⟨hJ, hpo⟩ := h
      refine h0 [5] 22 0 _ _ _ _ ?_
      refine hcall _ [.int x1, .int x2] [.int (nI 0), .ref 206859] S P rfl (by decide) ?_
      refine ⟨hJ, ?_⟩
      have he9 : e_X6_leftAnew S P x1 x2 = 0 ∨ e_X6_leftAnew S P x1 x2 = 1 ∨ e_X6_leftAnew S P x1 x2 = 2 := by
        exact w_L_leftAnew_e S P x1 x2
      rcases he9 with he | he | he
      · rw [he] at hpo ⊢
        refine h1 [] 22 _ _ _ _ _ ?_
        refine ⟨vp_in_nI (by decide) (by decide), ?_⟩
        exact hpo
      · rw [he] at hpo ⊢
        exact ⟨_, List.mem_cons_self, rfl, hpo⟩
      · rw [he] at hpo ⊢
        exact ⟨_, List.mem_cons_of_mem _ (List.mem_cons_self), rfl, hpo⟩
    · exact h.elim
def sp_L_claim : z_SP := fun as S P k => match as with
  | [.ref 2096, .int x1, .int x2, .int x3, .ref 206859] => z_J S ∧ k (some (.int (w_c 1 2 3 (e_X6_claim S P x1 x2 x3)))) (w_d (e_X6_claim S P x1 x2 x3) S (u_X6_claim S P x1 x2 x3)) (w_d (e_X6_claim S P x1 x2 x3) P (va_up P 206859 (vp_updL (P 206859) 0 ((f_X6_claim S P x1 x2 x3).toInt64))))
  | _ => False
def G_L_claim : z_G := ([(0, .aload 4, 2, 0), (2, .iconst 0, 3, 0), (3, .aload_n 0, 4, 0), (4, .iload_n 1, 5, 0), (5, .iload_n 2, 6, 0), (6, .iload_n 3, 7, 0), (7, .invokevirtual 77, 10, 0), (10, .i2l, 11, 0), (11, .lastore, 12, 0), (12, .goto 15, 15, 27), (15, .astore 5, 17, 0), (17, .iconst 1, 18, 0), (18, .ireturn, 19, 0), (19, .astore 5, 21, 0), (21, .iconst 2, 22, 0), (22, .ireturn, 23, 0), (23, .astore 5, 25, 0), (25, .iconst 3, 26, 0), (26, .ireturn, 27, 0), (27, .iconst 0, 28, 0), (28, .ireturn, 29, 0)], [], [], [], [], [], [], some .int)
def hs_L_claim : List z_HS := [("java/lang/IndexOutOfBoundsException", 1, .astore 5, 2), ("java/lang/IllegalArgumentException", 2, .astore 5, 2), ("java/lang/IllegalStateException", 3, .astore 5, 2)]
def hh_L_claim : List (Nat × Nat × Nat × Nat) := [(0, 12, 15, 21), (0, 12, 19, 13), (0, 12, 23, 15)]
theorem w_L_claim_e (S : z_MI) (P : z_ML) (x1 : Int32) (x2 : Int32) (x3 : Int32) : e_X6_claim S P x1 x2 x3 = 0 ∨ e_X6_claim S P x1 x2 x3 = 1 ∨ e_X6_claim S P x1 x2 x3 = 2 ∨ e_X6_claim S P x1 x2 x3 = 3 := by
  unfold e_X6_claim
  repeat' split
  all_goals first | exact Or.inl rfl | exact Or.inr rfl | exact Or.inr (Or.inl rfl) | exact Or.inr (Or.inr rfl) | exact Or.inr (Or.inr (Or.inl rfl)) | exact Or.inr (Or.inr (Or.inr rfl))
set_option maxRecDepth 20000 in
set_option maxHeartbeats 4000000 in
theorem cw_L_claim (l : Launch) (hl9 : l.stackTraces = false) : z_CW l yL_claim cL_claim 6 hh_L_claim sp_L_claim 7 := by
  refine z_CW_of G_L_claim hs_L_claim 7 77 3 2096 (ct_X6_claim l hl9) kb_X6_claim kv_L_77 ko_X6 (by decide) (by decide) (by decide) (by decide +kernel) (z_pok_of ft_L ci_L cL_L_L fo_L co_L lo_L (by decide +kernel)) rfl rfl rfl (by decide +kernel) (by decide +kernel) ?_ ?_
  · intro as S P Po h
    unfold sp_L_claim at h
    split at h
    · exact Nat.le_of_ble_eq_true rfl
    · exact h.elim
  · intro as S P Po h V0 V1 h0 h1 hcall
    unfold sp_L_claim at h
    split at h
    · rename_i x1 x2 x3
      obtain ⟨hJ, hpo⟩ := h
      refine h0 [7] 26 0 _ _ _ _ ?_
      refine hcall _ [.int x1, .int x2, .int x3] [.int (nI 0), .ref 206859] S P rfl (by decide) ?_
      refine ⟨hJ, ?_⟩
      have he9 : e_X6_claim S P x1 x2 x3 = 0 ∨ e_X6_claim S P x1 x2 x3 = 1 ∨ e_X6_claim S P x1 x2 x3 = 2 ∨ e_X6_claim S P x1 x2 x3 = 3 := by
        exact w_L_claim_e S P x1 x2 x3
      rcases he9 with he | he | he | he
      · rw [he] at hpo ⊢
        refine h1 [] 26 _ _ _ _ _ ?_
        refine ⟨vp_in_nI (by decide) (by decide), ?_⟩
        exact hpo
      · rw [he] at hpo ⊢
        exact ⟨_, List.mem_cons_self, rfl, hpo⟩
      · rw [he] at hpo ⊢
        exact ⟨_, List.mem_cons_of_mem _ (List.mem_cons_self), rfl, hpo⟩
      · rw [he] at hpo ⊢
        exact ⟨_, List.mem_cons_of_mem _ (List.mem_cons_of_mem _ (List.mem_cons_self)), rfl, hpo⟩
    · exact h.elim
def sp_L_vote : z_SP := fun as S P k => match as with
  | [.ref 2096, .int x1, .int x2, .int x3] => z_J S ∧ k (some (.int (w_c 1 0 2 (e_X6_vote S P x1 x2 x3)))) (w_d (e_X6_vote S P x1 x2 x3) S (u_X6_vote S P x1 x2 x3)) (w_d (e_X6_vote S P x1 x2 x3) P P)
  | _ => False
def G_L_vote : z_G := ([(0, .aload_n 0, 1, 0), (1, .iload_n 1, 2, 0), (2, .iload_n 2, 3, 0), (3, .iload_n 3, 4, 0), (4, .invokevirtual 80, 7, 0), (7, .goto 11, 10, 18), (10, .astore 4, 12, 0), (12, .iconst 1, 13, 0), (13, .ireturn, 14, 0), (14, .astore 4, 16, 0), (16, .iconst 2, 17, 0), (17, .ireturn, 18, 0), (18, .iconst 0, 19, 0), (19, .ireturn, 20, 0)], [], [], [], [], [], [], some .int)
def hs_L_vote : List z_HS := [("java/lang/IndexOutOfBoundsException", 1, .astore 4, 2), ("java/lang/IllegalStateException", 2, .astore 4, 2)]
def hh_L_vote : List (Nat × Nat × Nat × Nat) := [(0, 7, 10, 21), (0, 7, 14, 15)]
theorem w_L_vote_e (S : z_MI) (P : z_ML) (x1 : Int32) (x2 : Int32) (x3 : Int32) : e_X6_vote S P x1 x2 x3 = 0 ∨ e_X6_vote S P x1 x2 x3 = 1 ∨ e_X6_vote S P x1 x2 x3 = 3 := by
  unfold e_X6_vote
  repeat' split
  all_goals first | exact Or.inl rfl | exact Or.inr rfl | exact Or.inr (Or.inl rfl) | exact Or.inr (Or.inr rfl) | exact Or.inr (Or.inr (Or.inl rfl)) | exact Or.inr (Or.inr (Or.inr rfl))
set_option maxRecDepth 20000 in
set_option maxHeartbeats 4000000 in
theorem cw_L_vote (l : Launch) (hl9 : l.stackTraces = false) : z_CW l yL_vote cL_vote 5 hh_L_vote sp_L_vote 7 := by
  refine z_CW_of G_L_vote hs_L_vote 4 80 3 2096 (ct_X6_vote l hl9) kb_X6_vote kv_L_80 ko_X6 (by decide) (by decide) (by decide) (by decide +kernel) (z_pok_of ft_L ci_L cL_L_L fo_L co_L lo_L (by decide +kernel)) rfl rfl rfl (by decide +kernel) (by decide +kernel) ?_ ?_
  · intro as S P Po h
    unfold sp_L_vote at h
    split at h
    · exact Nat.le_of_ble_eq_true rfl
    · exact h.elim
  · intro as S P Po h V0 V1 h0 h1 hcall
    unfold sp_L_vote at h
    split at h
    · rename_i x1 x2 x3
      obtain ⟨hJ, hpo⟩ := h
      refine h0 [4] 19 0 _ _ _ _ ?_
      refine hcall _ [.int x1, .int x2, .int x3] [] S P rfl (by decide) ?_
      refine ⟨hJ, ?_⟩
      have he9 : e_X6_vote S P x1 x2 x3 = 0 ∨ e_X6_vote S P x1 x2 x3 = 1 ∨ e_X6_vote S P x1 x2 x3 = 3 := by
        exact w_L_vote_e S P x1 x2 x3
      rcases he9 with he | he | he
      · rw [he] at hpo ⊢
        refine h1 [] 19 _ _ _ _ _ ?_
        exact hpo
      · rw [he] at hpo ⊢
        exact ⟨_, List.mem_cons_self, rfl, hpo⟩
      · rw [he] at hpo ⊢
        exact ⟨_, List.mem_cons_of_mem _ (List.mem_cons_self), rfl, hpo⟩
    · exact h.elim
def sp_L_register : z_SP := fun as S P k => match as with
  | [.ref 2096, .int x1, .ref 206859] => z_J S ∧ k (some (.int (w_c 1 0 2 (e_X6_register S P x1)))) (w_d (e_X6_register S P x1) S (u_X6_register S P x1)) (w_d (e_X6_register S P x1) P (va_up P 206859 (vp_updL (P 206859) 0 ((f_X6_register S P x1).toInt64))))
  | _ => False
def G_L_register : z_G := ([(0, .aload_n 2, 1, 0), (1, .iconst 0, 2, 0), (2, .aload_n 0, 3, 0), (3, .iload_n 1, 4, 0), (4, .invokevirtual 84, 7, 0), (7, .i2l, 8, 0), (8, .lastore, 9, 0), (9, .goto 9, 12, 18), (12, .astore_n 3, 13, 0), (13, .iconst 1, 14, 0), (14, .ireturn, 15, 0), (15, .astore_n 3, 16, 0), (16, .iconst 2, 17, 0), (17, .ireturn, 18, 0), (18, .iconst 0, 19, 0), (19, .ireturn, 20, 0)], [], [], [], [], [], [], some .int)
def hs_L_register : List z_HS := [("java/lang/IndexOutOfBoundsException", 1, .astore_n 3, 1), ("java/lang/IllegalStateException", 2, .astore_n 3, 1)]
def hh_L_register : List (Nat × Nat × Nat × Nat) := [(0, 9, 12, 21), (0, 9, 15, 15)]
theorem w_L_register_e (S : z_MI) (P : z_ML) (x1 : Int32) : e_X6_register S P x1 = 0 ∨ e_X6_register S P x1 = 1 ∨ e_X6_register S P x1 = 3 := by
  unfold e_X6_register
  repeat' split
  all_goals first | exact Or.inl rfl | exact Or.inr rfl | exact Or.inr (Or.inl rfl) | exact Or.inr (Or.inr rfl) | exact Or.inr (Or.inr (Or.inl rfl)) | exact Or.inr (Or.inr (Or.inr rfl))
set_option maxRecDepth 20000 in
set_option maxHeartbeats 4000000 in
theorem cw_L_register (l : Launch) (hl9 : l.stackTraces = false) : z_CW l yL_register cL_register 4 hh_L_register sp_L_register 7 := by
  refine z_CW_of G_L_register hs_L_register 4 84 1 2096 (ct_X6_register l hl9) kb_X6_register kv_L_84 ko_X6 (by decide) (by decide) (by decide) (by decide +kernel) (z_pok_of ft_L ci_L cL_L_L fo_L co_L lo_L (by decide +kernel)) rfl rfl rfl (by decide +kernel) (by decide +kernel) ?_ ?_
  · intro as S P Po h
    unfold sp_L_register at h
    split at h
    · exact Nat.le_of_ble_eq_true rfl
    · exact h.elim
  · intro as S P Po h V0 V1 h0 h1 hcall
    unfold sp_L_register at h
    split at h
    · rename_i x1
      obtain ⟨hJ, hpo⟩ := h
      refine h0 [4] 21 0 _ _ _ _ ?_
      refine hcall _ [.int x1] [.int (nI 0), .ref 206859] S P rfl (by decide) ?_
      refine ⟨hJ, ?_⟩
      have he9 : e_X6_register S P x1 = 0 ∨ e_X6_register S P x1 = 1 ∨ e_X6_register S P x1 = 3 := by
        exact w_L_register_e S P x1
      rcases he9 with he | he | he
      · rw [he] at hpo ⊢
        refine h1 [] 21 _ _ _ _ _ ?_
        refine ⟨vp_in_nI (by decide) (by decide), ?_⟩
        exact hpo
      · rw [he] at hpo ⊢
        exact ⟨_, List.mem_cons_self, rfl, hpo⟩
      · rw [he] at hpo ⊢
        exact ⟨_, List.mem_cons_of_mem _ (List.mem_cons_self), rfl, hpo⟩
    · exact h.elim
def sp_L_determine : z_SP := fun as S P k => match as with
  | [.ref 2096, .int x1, .ref 206859] => z_J S ∧ k (some (.int (w_c 1 0 2 (e_X6_determine S P x1)))) (w_d (e_X6_determine S P x1) S (u_X6_determine S P x1)) (w_d (e_X6_determine S P x1) P (va_up P 206859 (vp_updL (P 206859) 0 ((f_X6_determine S P x1).toInt64))))
  | _ => False
def G_L_determine : z_G := ([(0, .aload_n 2, 1, 0), (1, .iconst 0, 2, 0), (2, .aload_n 0, 3, 0), (3, .iload_n 1, 4, 0), (4, .invokevirtual 87, 7, 0), (7, .i2l, 8, 0), (8, .lastore, 9, 0), (9, .goto 9, 12, 18), (12, .astore_n 3, 13, 0), (13, .iconst 1, 14, 0), (14, .ireturn, 15, 0), (15, .astore_n 3, 16, 0), (16, .iconst 2, 17, 0), (17, .ireturn, 18, 0), (18, .iconst 0, 19, 0), (19, .ireturn, 20, 0)], [], [], [], [], [], [], some .int)
def hs_L_determine : List z_HS := [("java/lang/IndexOutOfBoundsException", 1, .astore_n 3, 1), ("java/lang/IllegalStateException", 2, .astore_n 3, 1)]
def hh_L_determine : List (Nat × Nat × Nat × Nat) := [(0, 9, 12, 21), (0, 9, 15, 15)]
theorem w_L_determine_e (S : z_MI) (P : z_ML) (x1 : Int32) : e_X6_determine S P x1 = 0 ∨ e_X6_determine S P x1 = 1 ∨ e_X6_determine S P x1 = 3 := by
  unfold e_X6_determine
  repeat' split
  all_goals first | exact Or.inl rfl | exact Or.inr rfl | exact Or.inr (Or.inl rfl) | exact Or.inr (Or.inr rfl) | exact Or.inr (Or.inr (Or.inl rfl)) | exact Or.inr (Or.inr (Or.inr rfl))
set_option maxRecDepth 20000 in
set_option maxHeartbeats 4000000 in
theorem cw_L_determine (l : Launch) (hl9 : l.stackTraces = false) : z_CW l yL_determine cL_determine 4 hh_L_determine sp_L_determine 7 := by
  refine z_CW_of G_L_determine hs_L_determine 4 87 1 2096 (ct_X6_determine l hl9) kb_X6_determine kv_L_87 ko_X6 (by decide) (by decide) (by decide) (by decide +kernel) (z_pok_of ft_L ci_L cL_L_L fo_L co_L lo_L (by decide +kernel)) rfl rfl rfl (by decide +kernel) (by decide +kernel) ?_ ?_
  · intro as S P Po h
    unfold sp_L_determine at h
    split at h
    · exact Nat.le_of_ble_eq_true rfl
    · exact h.elim
  · intro as S P Po h V0 V1 h0 h1 hcall
    unfold sp_L_determine at h
    split at h
    · rename_i x1
      obtain ⟨hJ, hpo⟩ := h
      refine h0 [4] 21 0 _ _ _ _ ?_
      refine hcall _ [.int x1] [.int (nI 0), .ref 206859] S P rfl (by decide) ?_
      refine ⟨hJ, ?_⟩
      have he9 : e_X6_determine S P x1 = 0 ∨ e_X6_determine S P x1 = 1 ∨ e_X6_determine S P x1 = 3 := by
        exact w_L_determine_e S P x1
      rcases he9 with he | he | he
      · rw [he] at hpo ⊢
        refine h1 [] 21 _ _ _ _ _ ?_
        refine ⟨vp_in_nI (by decide) (by decide), ?_⟩
        exact hpo
      · rw [he] at hpo ⊢
        exact ⟨_, List.mem_cons_self, rfl, hpo⟩
      · rw [he] at hpo ⊢
        exact ⟨_, List.mem_cons_of_mem _ (List.mem_cons_self), rfl, hpo⟩
    · exact h.elim
def sp_L_revise : z_SP := fun as S P k => match as with
  | [.ref 2096, .int x1, .ref 206859] => z_J S ∧ k (some (.int (w_c 1 0 2 (e_X6_revise S P x1)))) (w_d (e_X6_revise S P x1) S (u_X6_revise S P x1)) (w_d (e_X6_revise S P x1) P (va_up P 206859 (vp_updL (P 206859) 0 ((f_X6_revise S P x1).toInt64))))
  | _ => False
def G_L_revise : z_G := ([(0, .aload_n 2, 1, 0), (1, .iconst 0, 2, 0), (2, .aload_n 0, 3, 0), (3, .iload_n 1, 4, 0), (4, .invokevirtual 90, 7, 0), (7, .i2l, 8, 0), (8, .lastore, 9, 0), (9, .goto 9, 12, 18), (12, .astore_n 3, 13, 0), (13, .iconst 1, 14, 0), (14, .ireturn, 15, 0), (15, .astore_n 3, 16, 0), (16, .iconst 2, 17, 0), (17, .ireturn, 18, 0), (18, .iconst 0, 19, 0), (19, .ireturn, 20, 0)], [], [], [], [], [], [], some .int)
def hs_L_revise : List z_HS := [("java/lang/IndexOutOfBoundsException", 1, .astore_n 3, 1), ("java/lang/IllegalStateException", 2, .astore_n 3, 1)]
def hh_L_revise : List (Nat × Nat × Nat × Nat) := [(0, 9, 12, 21), (0, 9, 15, 15)]
theorem w_L_revise_e (S : z_MI) (P : z_ML) (x1 : Int32) : e_X6_revise S P x1 = 0 ∨ e_X6_revise S P x1 = 1 ∨ e_X6_revise S P x1 = 3 := by
  unfold e_X6_revise
  repeat' split
  all_goals first | exact Or.inl rfl | exact Or.inr rfl | exact Or.inr (Or.inl rfl) | exact Or.inr (Or.inr rfl) | exact Or.inr (Or.inr (Or.inl rfl)) | exact Or.inr (Or.inr (Or.inr rfl))
set_option maxRecDepth 20000 in
set_option maxHeartbeats 4000000 in
theorem cw_L_revise (l : Launch) (hl9 : l.stackTraces = false) : z_CW l yL_revise cL_revise 4 hh_L_revise sp_L_revise 7 := by
  refine z_CW_of G_L_revise hs_L_revise 4 90 1 2096 (ct_X6_revise l hl9) kb_X6_revise kv_L_90 ko_X6 (by decide) (by decide) (by decide) (by decide +kernel) (z_pok_of ft_L ci_L cL_L_L fo_L co_L lo_L (by decide +kernel)) rfl rfl rfl (by decide +kernel) (by decide +kernel) ?_ ?_
  · intro as S P Po h
    unfold sp_L_revise at h
    split at h
    · exact Nat.le_of_ble_eq_true rfl
    · exact h.elim
  · intro as S P Po h V0 V1 h0 h1 hcall
    unfold sp_L_revise at h
    split at h
    · rename_i x1
      obtain ⟨hJ, hpo⟩ := h
      refine h0 [4] 21 0 _ _ _ _ ?_
      refine hcall _ [.int x1] [.int (nI 0), .ref 206859] S P rfl (by decide) ?_
      refine ⟨hJ, ?_⟩
      have he9 : e_X6_revise S P x1 = 0 ∨ e_X6_revise S P x1 = 1 ∨ e_X6_revise S P x1 = 3 := by
        exact w_L_revise_e S P x1
      rcases he9 with he | he | he
      · rw [he] at hpo ⊢
        refine h1 [] 21 _ _ _ _ _ ?_
        refine ⟨vp_in_nI (by decide) (by decide), ?_⟩
        exact hpo
      · rw [he] at hpo ⊢
        exact ⟨_, List.mem_cons_self, rfl, hpo⟩
      · rw [he] at hpo ⊢
        exact ⟨_, List.mem_cons_of_mem _ (List.mem_cons_self), rfl, hpo⟩
    · exact h.elim
def sp_L_ofClaim : z_SP := fun as S P k => match as with
  | [.ref 2096, .int x1, .int x2, .ref 206859] => z_J S ∧ k (some (.int (w_c 1 2 0 (e_X6_ofClaim S P x1 x2)))) (w_d (e_X6_ofClaim S P x1 x2) S S) (w_d (e_X6_ofClaim S P x1 x2) P (va_up P 206859 (vp_updL (P 206859) 0 ((f_X6_ofClaim S P x1 x2).toInt64))))
  | _ => False
def G_L_ofClaim : z_G := ([(0, .aload_n 3, 1, 0), (1, .iconst 0, 2, 0), (2, .aload_n 0, 3, 0), (3, .iload_n 1, 4, 0), (4, .iload_n 2, 5, 0), (5, .invokevirtual 93, 8, 0), (8, .i2l, 9, 0), (9, .lastore, 10, 0), (10, .goto 11, 13, 21), (13, .astore 4, 15, 0), (15, .iconst 1, 16, 0), (16, .ireturn, 17, 0), (17, .astore 4, 19, 0), (19, .iconst 2, 20, 0), (20, .ireturn, 21, 0), (21, .iconst 0, 22, 0), (22, .ireturn, 23, 0)], [], [], [], [], [], [], some .int)
def hs_L_ofClaim : List z_HS := [("java/lang/IndexOutOfBoundsException", 1, .astore 4, 2), ("java/lang/IllegalArgumentException", 2, .astore 4, 2)]
def hh_L_ofClaim : List (Nat × Nat × Nat × Nat) := [(0, 10, 13, 21), (0, 10, 17, 13)]
theorem w_L_ofClaim_e (S : z_MI) (P : z_ML) (x1 : Int32) (x2 : Int32) : e_X6_ofClaim S P x1 x2 = 0 ∨ e_X6_ofClaim S P x1 x2 = 1 ∨ e_X6_ofClaim S P x1 x2 = 2 := by
  unfold e_X6_ofClaim
  repeat' split
  all_goals first | exact Or.inl rfl | exact Or.inr rfl | exact Or.inr (Or.inl rfl) | exact Or.inr (Or.inr rfl) | exact Or.inr (Or.inr (Or.inl rfl)) | exact Or.inr (Or.inr (Or.inr rfl))
set_option maxRecDepth 20000 in
set_option maxHeartbeats 4000000 in
theorem cw_L_ofClaim (l : Launch) (hl9 : l.stackTraces = false) : z_CW l yL_ofClaim cL_ofClaim 5 hh_L_ofClaim sp_L_ofClaim 7 := by
  refine z_CW_of G_L_ofClaim hs_L_ofClaim 5 93 2 2096 (ct_X6_ofClaim l hl9) kb_X6_ofClaim kv_L_93 ko_X6 (by decide) (by decide) (by decide) (by decide +kernel) (z_pok_of ft_L ci_L cL_L_L fo_L co_L lo_L (by decide +kernel)) rfl rfl rfl (by decide +kernel) (by decide +kernel) ?_ ?_
  · intro as S P Po h
    unfold sp_L_ofClaim at h
    split at h
    · exact Nat.le_of_ble_eq_true rfl
    · exact h.elim
  · intro as S P Po h V0 V1 h0 h1 hcall
    unfold sp_L_ofClaim at h
    split at h
    · rename_i x1 x2
      obtain ⟨hJ, hpo⟩ := h
      refine h0 [5] 22 0 _ _ _ _ ?_
      refine hcall _ [.int x1, .int x2] [.int (nI 0), .ref 206859] S P rfl (by decide) ?_
      refine ⟨hJ, ?_⟩
      have he9 : e_X6_ofClaim S P x1 x2 = 0 ∨ e_X6_ofClaim S P x1 x2 = 1 ∨ e_X6_ofClaim S P x1 x2 = 2 := by
        exact w_L_ofClaim_e S P x1 x2
      rcases he9 with he | he | he
      · rw [he] at hpo ⊢
        refine h1 [] 22 _ _ _ _ _ ?_
        refine ⟨vp_in_nI (by decide) (by decide), ?_⟩
        exact hpo
      · rw [he] at hpo ⊢
        exact ⟨_, List.mem_cons_self, rfl, hpo⟩
      · rw [he] at hpo ⊢
        exact ⟨_, List.mem_cons_of_mem _ (List.mem_cons_self), rfl, hpo⟩
    · exact h.elim
def sp_L_holders : z_SP := fun as S P k => match as with
  | [.ref 2096, .int x1, .ref 206859] => z_J S ∧ k (some (.int (w_c 1 0 0 (e_X6_holders S P x1)))) (w_d (e_X6_holders S P x1) S S) (w_d (e_X6_holders S P x1) P (va_up P 206859 (vp_updL (P 206859) 0 ((f_X6_holders S P x1).toInt64))))
  | _ => False
def G_L_holders : z_G := ([(0, .aload_n 2, 1, 0), (1, .iconst 0, 2, 0), (2, .aload_n 0, 3, 0), (3, .iload_n 1, 4, 0), (4, .invokevirtual 96, 7, 0), (7, .i2l, 8, 0), (8, .lastore, 9, 0), (9, .goto 6, 12, 15), (12, .astore_n 3, 13, 0), (13, .iconst 1, 14, 0), (14, .ireturn, 15, 0), (15, .iconst 0, 16, 0), (16, .ireturn, 17, 0)], [], [], [], [], [], [], some .int)
def hs_L_holders : List z_HS := [("java/lang/IndexOutOfBoundsException", 1, .astore_n 3, 1)]
def hh_L_holders : List (Nat × Nat × Nat × Nat) := [(0, 9, 12, 21)]
theorem w_L_holders_e (S : z_MI) (P : z_ML) (x1 : Int32) : e_X6_holders S P x1 = 0 ∨ e_X6_holders S P x1 = 1 := by
  unfold e_X6_holders
  repeat' split
  all_goals first | exact Or.inl rfl | exact Or.inr rfl | exact Or.inr (Or.inl rfl) | exact Or.inr (Or.inr rfl) | exact Or.inr (Or.inr (Or.inl rfl)) | exact Or.inr (Or.inr (Or.inr rfl))
set_option maxRecDepth 20000 in
set_option maxHeartbeats 4000000 in
theorem cw_L_holders (l : Launch) (hl9 : l.stackTraces = false) : z_CW l yL_holders cL_holders 4 hh_L_holders sp_L_holders 7 := by
  refine z_CW_of G_L_holders hs_L_holders 4 96 1 2096 (ct_X6_holders l hl9) kb_X6_holders kv_L_96 ko_X6 (by decide) (by decide) (by decide) (by decide +kernel) (z_pok_of ft_L ci_L cL_L_L fo_L co_L lo_L (by decide +kernel)) rfl rfl rfl (by decide +kernel) (by decide +kernel) ?_ ?_
  · intro as S P Po h
    unfold sp_L_holders at h
    split at h
    · exact Nat.le_of_ble_eq_true rfl
    · exact h.elim
  · intro as S P Po h V0 V1 h0 h1 hcall
    unfold sp_L_holders at h
    split at h
    · rename_i x1
      obtain ⟨hJ, hpo⟩ := h
      refine h0 [4] 18 0 _ _ _ _ ?_
      refine hcall _ [.int x1] [.int (nI 0), .ref 206859] S P rfl (by decide) ?_
      refine ⟨hJ, ?_⟩
      have he9 : e_X6_holders S P x1 = 0 ∨ e_X6_holders S P x1 = 1 := by
        exact w_L_holders_e S P x1
      rcases he9 with he | he
      · rw [he] at hpo ⊢
        refine h1 [] 18 _ _ _ _ _ ?_
        refine ⟨vp_in_nI (by decide) (by decide), ?_⟩
        exact hpo
      · rw [he] at hpo ⊢
        exact ⟨_, List.mem_cons_self, rfl, hpo⟩
    · exact h.elim
def sp_L_may : z_SP := fun as S P k => match as with
  | [.ref 2096, .int x1, .int x2, .int x3, .ref 206859] => z_J S ∧ k (some (.int (w_c 1 0 0 (e_X6_may S P x1 x2 x3)))) (w_d (e_X6_may S P x1 x2 x3) S S) (w_d (e_X6_may S P x1 x2 x3) P (va_up P 206859 (vp_updL (P 206859) 0 ((f_X6_may S P x1 x2 x3).toInt64))))
  | _ => False
def G_L_may : z_G := ([(0, .aload 4, 2, 0), (2, .iconst 0, 3, 0), (3, .aload_n 0, 4, 0), (4, .iload_n 1, 5, 0), (5, .iload_n 2, 6, 0), (6, .iload_n 3, 7, 0), (7, .invokevirtual 99, 10, 0), (10, .i2l, 11, 0), (11, .lastore, 12, 0), (12, .goto 7, 15, 19), (15, .astore 5, 17, 0), (17, .iconst 1, 18, 0), (18, .ireturn, 19, 0), (19, .iconst 0, 20, 0), (20, .ireturn, 21, 0)], [], [], [], [], [], [], some .int)
def hs_L_may : List z_HS := [("java/lang/IndexOutOfBoundsException", 1, .astore 5, 2)]
def hh_L_may : List (Nat × Nat × Nat × Nat) := [(0, 12, 15, 21)]
theorem w_L_may_e (S : z_MI) (P : z_ML) (x1 : Int32) (x2 : Int32) (x3 : Int32) : e_X6_may S P x1 x2 x3 = 0 ∨ e_X6_may S P x1 x2 x3 = 1 := by
  unfold e_X6_may
  repeat' split
  all_goals first | exact Or.inl rfl | exact Or.inr rfl | exact Or.inr (Or.inl rfl) | exact Or.inr (Or.inr rfl) | exact Or.inr (Or.inr (Or.inl rfl)) | exact Or.inr (Or.inr (Or.inr rfl))
set_option maxRecDepth 20000 in
set_option maxHeartbeats 4000000 in
theorem cw_L_may (l : Launch) (hl9 : l.stackTraces = false) : z_CW l yL_may cL_may 6 hh_L_may sp_L_may 7 := by
  refine z_CW_of G_L_may hs_L_may 7 99 3 2096 (ct_X6_may l hl9) kb_X6_may kv_L_99 ko_X6 (by decide) (by decide) (by decide) (by decide +kernel) (z_pok_of ft_L ci_L cL_L_L fo_L co_L lo_L (by decide +kernel)) rfl rfl rfl (by decide +kernel) (by decide +kernel) ?_ ?_
  · intro as S P Po h
    unfold sp_L_may at h
    split at h
    · exact Nat.le_of_ble_eq_true rfl
    · exact h.elim
  · intro as S P Po h V0 V1 h0 h1 hcall
    unfold sp_L_may at h
    split at h
    · rename_i x1 x2 x3
      obtain ⟨hJ, hpo⟩ := h
      refine h0 [7] 20 0 _ _ _ _ ?_
      refine hcall _ [.int x1, .int x2, .int x3] [.int (nI 0), .ref 206859] S P rfl (by decide) ?_
      refine ⟨hJ, ?_⟩
      have he9 : e_X6_may S P x1 x2 x3 = 0 ∨ e_X6_may S P x1 x2 x3 = 1 := by
        exact w_L_may_e S P x1 x2 x3
      rcases he9 with he | he
      · rw [he] at hpo ⊢
        refine h1 [] 20 _ _ _ _ _ ?_
        refine ⟨vp_in_nI (by decide) (by decide), ?_⟩
        exact hpo
      · rw [he] at hpo ⊢
        exact ⟨_, List.mem_cons_self, rfl, hpo⟩
    · exact h.elim
def sp_L_notice : z_SP := fun as S P k => match as with
  | [.ref 2096, .int x1, .int x2, .int x3, .int x4, .int x5, .ref 206859] => z_J S ∧ k (some (.int (w_c 0 1 2 (e_X6_notice S P x1 x2 x3 x4 x5)))) (w_d (e_X6_notice S P x1 x2 x3 x4 x5) S (u_X6_notice S P x1 x2 x3 x4 x5)) (w_d (e_X6_notice S P x1 x2 x3 x4 x5) P (va_up P 206859 (vp_updL (P 206859) 0 ((f_X6_notice S P x1 x2 x3 x4 x5).toInt64))))
  | _ => False
def G_L_notice : z_G := ([(0, .aload 6, 2, 0), (2, .iconst 0, 3, 0), (3, .aload_n 0, 4, 0), (4, .iload_n 1, 5, 0), (5, .iload_n 2, 6, 0), (6, .iload_n 3, 7, 0), (7, .iload 4, 9, 0), (9, .iload 5, 11, 0), (11, .invokevirtual 102, 14, 0), (14, .i2l, 15, 0), (15, .lastore, 16, 0), (16, .goto 11, 19, 27), (19, .astore 7, 21, 0), (21, .iconst 1, 22, 0), (22, .ireturn, 23, 0), (23, .astore 7, 25, 0), (25, .iconst 2, 26, 0), (26, .ireturn, 27, 0), (27, .iconst 0, 28, 0), (28, .ireturn, 29, 0)], [], [], [], [], [], [], some .int)
def hs_L_notice : List z_HS := [("java/lang/IllegalArgumentException", 1, .astore 7, 2), ("java/lang/IllegalStateException", 2, .astore 7, 2)]
def hh_L_notice : List (Nat × Nat × Nat × Nat) := [(0, 16, 19, 13), (0, 16, 23, 15)]
theorem w_L_notice_e (S : z_MI) (P : z_ML) (x1 : Int32) (x2 : Int32) (x3 : Int32) (x4 : Int32) (x5 : Int32) : e_X6_notice S P x1 x2 x3 x4 x5 = 0 ∨ e_X6_notice S P x1 x2 x3 x4 x5 = 2 ∨ e_X6_notice S P x1 x2 x3 x4 x5 = 3 := by
  unfold e_X6_notice
  repeat' split
  all_goals first | exact Or.inl rfl | exact Or.inr rfl | exact Or.inr (Or.inl rfl) | exact Or.inr (Or.inr rfl) | exact Or.inr (Or.inr (Or.inl rfl)) | exact Or.inr (Or.inr (Or.inr rfl))
set_option maxRecDepth 20000 in
set_option maxHeartbeats 4000000 in
theorem cw_L_notice (l : Launch) (hl9 : l.stackTraces = false) : z_CW l yL_notice cL_notice 8 hh_L_notice sp_L_notice 7 := by
  refine z_CW_of G_L_notice hs_L_notice 11 102 5 2096 (ct_X6_notice l hl9) kb_X6_notice kv_L_102 ko_X6 (by decide) (by decide) (by decide) (by decide +kernel) (z_pok_of ft_L ci_L cL_L_L fo_L co_L lo_L (by decide +kernel)) rfl rfl rfl (by decide +kernel) (by decide +kernel) ?_ ?_
  · intro as S P Po h
    unfold sp_L_notice at h
    split at h
    · exact Nat.le_of_ble_eq_true rfl
    · exact h.elim
  · intro as S P Po h V0 V1 h0 h1 hcall
    unfold sp_L_notice at h
    split at h
    · rename_i x1 x2 x3 x4 x5
      obtain ⟨hJ, hpo⟩ := h
      refine h0 [11] 25 0 _ _ _ _ ?_
      refine hcall _ [.int x1, .int x2, .int x3, .int x4, .int x5] [.int (nI 0), .ref 206859] S P rfl (by decide) ?_
      refine ⟨hJ, ?_⟩
      have he9 : e_X6_notice S P x1 x2 x3 x4 x5 = 0 ∨ e_X6_notice S P x1 x2 x3 x4 x5 = 2 ∨ e_X6_notice S P x1 x2 x3 x4 x5 = 3 := by
        exact w_L_notice_e S P x1 x2 x3 x4 x5
      rcases he9 with he | he | he
      · rw [he] at hpo ⊢
        refine h1 [] 25 _ _ _ _ _ ?_
        refine ⟨vp_in_nI (by decide) (by decide), ?_⟩
        exact hpo
      · rw [he] at hpo ⊢
        exact ⟨_, List.mem_cons_self, rfl, hpo⟩
      · rw [he] at hpo ⊢
        exact ⟨_, List.mem_cons_of_mem _ (List.mem_cons_self), rfl, hpo⟩
    · exact h.elim
def sp_L_agree : z_SP := fun as S P k => match as with
  | [.ref 2096, .int x1, .int x2, .ref 206859] => z_J S ∧ k (some (.int (w_c 1 0 2 (e_X6_agree S P x1 x2)))) (w_d (e_X6_agree S P x1 x2) S (u_X6_agree S P x1 x2)) (w_d (e_X6_agree S P x1 x2) P (va_up P 206859 (vp_updL (P 206859) 0 ((f_X6_agree S P x1 x2).toInt64))))
  | _ => False
def G_L_agree : z_G := ([(0, .aload_n 3, 1, 0), (1, .iconst 0, 2, 0), (2, .aload_n 0, 3, 0), (3, .iload_n 1, 4, 0), (4, .iload_n 2, 5, 0), (5, .invokevirtual 106, 8, 0), (8, .i2l, 9, 0), (9, .lastore, 10, 0), (10, .goto 11, 13, 21), (13, .astore 4, 15, 0), (15, .iconst 1, 16, 0), (16, .ireturn, 17, 0), (17, .astore 4, 19, 0), (19, .iconst 2, 20, 0), (20, .ireturn, 21, 0), (21, .iconst 0, 22, 0), (22, .ireturn, 23, 0)], [], [], [], [], [], [], some .int)
def hs_L_agree : List z_HS := [("java/lang/IndexOutOfBoundsException", 1, .astore 4, 2), ("java/lang/IllegalStateException", 2, .astore 4, 2)]
def hh_L_agree : List (Nat × Nat × Nat × Nat) := [(0, 10, 13, 21), (0, 10, 17, 15)]
theorem w_L_agree_e (S : z_MI) (P : z_ML) (x1 : Int32) (x2 : Int32) : e_X6_agree S P x1 x2 = 0 ∨ e_X6_agree S P x1 x2 = 1 ∨ e_X6_agree S P x1 x2 = 3 := by
  unfold e_X6_agree
  repeat' split
  all_goals first | exact Or.inl rfl | exact Or.inr rfl | exact Or.inr (Or.inl rfl) | exact Or.inr (Or.inr rfl) | exact Or.inr (Or.inr (Or.inl rfl)) | exact Or.inr (Or.inr (Or.inr rfl))
set_option maxRecDepth 20000 in
set_option maxHeartbeats 4000000 in
theorem cw_L_agree (l : Launch) (hl9 : l.stackTraces = false) : z_CW l yL_agree cL_agree 5 hh_L_agree sp_L_agree 7 := by
  refine z_CW_of G_L_agree hs_L_agree 5 106 2 2096 (ct_X6_agree l hl9) kb_X6_agree kv_L_106 ko_X6 (by decide) (by decide) (by decide) (by decide +kernel) (z_pok_of ft_L ci_L cL_L_L fo_L co_L lo_L (by decide +kernel)) rfl rfl rfl (by decide +kernel) (by decide +kernel) ?_ ?_
  · intro as S P Po h
    unfold sp_L_agree at h
    split at h
    · exact Nat.le_of_ble_eq_true rfl
    · exact h.elim
  · intro as S P Po h V0 V1 h0 h1 hcall
    unfold sp_L_agree at h
    split at h
    · rename_i x1 x2
      obtain ⟨hJ, hpo⟩ := h
      refine h0 [5] 22 0 _ _ _ _ ?_
      refine hcall _ [.int x1, .int x2] [.int (nI 0), .ref 206859] S P rfl (by decide) ?_
      refine ⟨hJ, ?_⟩
      have he9 : e_X6_agree S P x1 x2 = 0 ∨ e_X6_agree S P x1 x2 = 1 ∨ e_X6_agree S P x1 x2 = 3 := by
        exact w_L_agree_e S P x1 x2
      rcases he9 with he | he | he
      · rw [he] at hpo ⊢
        refine h1 [] 22 _ _ _ _ _ ?_
        refine ⟨vp_in_nI (by decide) (by decide), ?_⟩
        exact hpo
      · rw [he] at hpo ⊢
        exact ⟨_, List.mem_cons_self, rfl, hpo⟩
      · rw [he] at hpo ⊢
        exact ⟨_, List.mem_cons_of_mem _ (List.mem_cons_self), rfl, hpo⟩
    · exact h.elim
def sp_L_object : z_SP := fun as S P k => match as with
  | [.ref 2096, .int x1, .int x2] => z_J S ∧ k (some (.int (w_c 1 0 2 (e_X6_object S P x1 x2)))) (w_d (e_X6_object S P x1 x2) S (u_X6_object S P x1 x2)) (w_d (e_X6_object S P x1 x2) P P)
  | _ => False
def G_L_object : z_G := ([(0, .aload_n 0, 1, 0), (1, .iload_n 1, 2, 0), (2, .iload_n 2, 3, 0), (3, .invokevirtual 109, 6, 0), (6, .goto 9, 9, 15), (9, .astore_n 3, 10, 0), (10, .iconst 1, 11, 0), (11, .ireturn, 12, 0), (12, .astore_n 3, 13, 0), (13, .iconst 2, 14, 0), (14, .ireturn, 15, 0), (15, .iconst 0, 16, 0), (16, .ireturn, 17, 0)], [], [], [], [], [], [], some .int)
def hs_L_object : List z_HS := [("java/lang/IndexOutOfBoundsException", 1, .astore_n 3, 1), ("java/lang/IllegalStateException", 2, .astore_n 3, 1)]
def hh_L_object : List (Nat × Nat × Nat × Nat) := [(0, 6, 9, 21), (0, 6, 12, 15)]
theorem w_L_object_e (S : z_MI) (P : z_ML) (x1 : Int32) (x2 : Int32) : e_X6_object S P x1 x2 = 0 ∨ e_X6_object S P x1 x2 = 1 ∨ e_X6_object S P x1 x2 = 3 := by
  unfold e_X6_object
  repeat' split
  all_goals first | exact Or.inl rfl | exact Or.inr rfl | exact Or.inr (Or.inl rfl) | exact Or.inr (Or.inr rfl) | exact Or.inr (Or.inr (Or.inl rfl)) | exact Or.inr (Or.inr (Or.inr rfl))
set_option maxRecDepth 20000 in
set_option maxHeartbeats 4000000 in
theorem cw_L_object (l : Launch) (hl9 : l.stackTraces = false) : z_CW l yL_object cL_object 4 hh_L_object sp_L_object 7 := by
  refine z_CW_of G_L_object hs_L_object 3 109 2 2096 (ct_X6_object l hl9) kb_X6_object kv_L_109 ko_X6 (by decide) (by decide) (by decide) (by decide +kernel) (z_pok_of ft_L ci_L cL_L_L fo_L co_L lo_L (by decide +kernel)) rfl rfl rfl (by decide +kernel) (by decide +kernel) ?_ ?_
  · intro as S P Po h
    unfold sp_L_object at h
    split at h
    · exact Nat.le_of_ble_eq_true rfl
    · exact h.elim
  · intro as S P Po h V0 V1 h0 h1 hcall
    unfold sp_L_object at h
    split at h
    · rename_i x1 x2
      obtain ⟨hJ, hpo⟩ := h
      refine h0 [3] 18 0 _ _ _ _ ?_
      refine hcall _ [.int x1, .int x2] [] S P rfl (by decide) ?_
      refine ⟨hJ, ?_⟩
      have he9 : e_X6_object S P x1 x2 = 0 ∨ e_X6_object S P x1 x2 = 1 ∨ e_X6_object S P x1 x2 = 3 := by
        exact w_L_object_e S P x1 x2
      rcases he9 with he | he | he
      · rw [he] at hpo ⊢
        refine h1 [] 18 _ _ _ _ _ ?_
        exact hpo
      · rw [he] at hpo ⊢
        exact ⟨_, List.mem_cons_self, rfl, hpo⟩
      · rw [he] at hpo ⊢
        exact ⟨_, List.mem_cons_of_mem _ (List.mem_cons_self), rfl, hpo⟩
    · exact h.elim
def sp_L_decide : z_SP := fun as S P k => match as with
  | [.ref 2096, .int x1, .int x2, .ref 206859] => z_J S ∧ k (some (.int (w_c 1 0 2 (e_X6_decide S P x1 x2)))) (w_d (e_X6_decide S P x1 x2) S (u_X6_decide S P x1 x2)) (w_d (e_X6_decide S P x1 x2) P (va_up P 206859 (vp_updL (P 206859) 0 ((f_X6_decide S P x1 x2).toInt64))))
  | _ => False
def G_L_decide : z_G := ([(0, .aload_n 3, 1, 0), (1, .iconst 0, 2, 0), (2, .aload_n 0, 3, 0), (3, .iload_n 1, 4, 0), (4, .iload_n 2, 5, 0), (5, .invokevirtual 113, 8, 0), (8, .i2l, 9, 0), (9, .lastore, 10, 0), (10, .goto 11, 13, 21), (13, .astore 4, 15, 0), (15, .iconst 1, 16, 0), (16, .ireturn, 17, 0), (17, .astore 4, 19, 0), (19, .iconst 2, 20, 0), (20, .ireturn, 21, 0), (21, .iconst 0, 22, 0), (22, .ireturn, 23, 0)], [], [], [], [], [], [], some .int)
def hs_L_decide : List z_HS := [("java/lang/IndexOutOfBoundsException", 1, .astore 4, 2), ("java/lang/IllegalStateException", 2, .astore 4, 2)]
def hh_L_decide : List (Nat × Nat × Nat × Nat) := [(0, 10, 13, 21), (0, 10, 17, 15)]
theorem w_L_decide_e (S : z_MI) (P : z_ML) (x1 : Int32) (x2 : Int32) : e_X6_decide S P x1 x2 = 0 ∨ e_X6_decide S P x1 x2 = 1 ∨ e_X6_decide S P x1 x2 = 3 := by
  unfold e_X6_decide
  repeat' split
  all_goals first | exact Or.inl rfl | exact Or.inr rfl | exact Or.inr (Or.inl rfl) | exact Or.inr (Or.inr rfl) | exact Or.inr (Or.inr (Or.inl rfl)) | exact Or.inr (Or.inr (Or.inr rfl))
set_option maxRecDepth 20000 in
set_option maxHeartbeats 4000000 in
theorem cw_L_decide (l : Launch) (hl9 : l.stackTraces = false) : z_CW l yL_decide cL_decide 5 hh_L_decide sp_L_decide 7 := by
  refine z_CW_of G_L_decide hs_L_decide 5 113 2 2096 (ct_X6_decide l hl9) kb_X6_decide kv_L_113 ko_X6 (by decide) (by decide) (by decide) (by decide +kernel) (z_pok_of ft_L ci_L cL_L_L fo_L co_L lo_L (by decide +kernel)) rfl rfl rfl (by decide +kernel) (by decide +kernel) ?_ ?_
  · intro as S P Po h
    unfold sp_L_decide at h
    split at h
    · exact Nat.le_of_ble_eq_true rfl
    · exact h.elim
  · intro as S P Po h V0 V1 h0 h1 hcall
    unfold sp_L_decide at h
    split at h
    · rename_i x1 x2
      obtain ⟨hJ, hpo⟩ := h
      refine h0 [5] 22 0 _ _ _ _ ?_
      refine hcall _ [.int x1, .int x2] [.int (nI 0), .ref 206859] S P rfl (by decide) ?_
      refine ⟨hJ, ?_⟩
      have he9 : e_X6_decide S P x1 x2 = 0 ∨ e_X6_decide S P x1 x2 = 1 ∨ e_X6_decide S P x1 x2 = 3 := by
        exact w_L_decide_e S P x1 x2
      rcases he9 with he | he | he
      · rw [he] at hpo ⊢
        refine h1 [] 22 _ _ _ _ _ ?_
        refine ⟨vp_in_nI (by decide) (by decide), ?_⟩
        exact hpo
      · rw [he] at hpo ⊢
        exact ⟨_, List.mem_cons_self, rfl, hpo⟩
      · rw [he] at hpo ⊢
        exact ⟨_, List.mem_cons_of_mem _ (List.mem_cons_self), rfl, hpo⟩
    · exact h.elim
def sp_L_proceed : z_SP := fun as S P k => match as with
  | [.ref 2096, .int x1, .ref 206859] => z_J S ∧ k (some (.int (w_c 1 0 2 (e_X6_proceed S P x1)))) (w_d (e_X6_proceed S P x1) S (u_X6_proceed S P x1)) (w_d (e_X6_proceed S P x1) P (va_up P 206859 (vp_updL (P 206859) 0 ((f_X6_proceed S P x1).toInt64))))
  | _ => False
def G_L_proceed : z_G := ([(0, .aload_n 2, 1, 0), (1, .iconst 0, 2, 0), (2, .aload_n 0, 3, 0), (3, .iload_n 1, 4, 0), (4, .invokevirtual 117, 7, 0), (7, .i2l, 8, 0), (8, .lastore, 9, 0), (9, .goto 9, 12, 18), (12, .astore_n 3, 13, 0), (13, .iconst 1, 14, 0), (14, .ireturn, 15, 0), (15, .astore_n 3, 16, 0), (16, .iconst 2, 17, 0), (17, .ireturn, 18, 0), (18, .iconst 0, 19, 0), (19, .ireturn, 20, 0)], [], [], [], [], [], [], some .int)
def hs_L_proceed : List z_HS := [("java/lang/IndexOutOfBoundsException", 1, .astore_n 3, 1), ("java/lang/IllegalStateException", 2, .astore_n 3, 1)]
def hh_L_proceed : List (Nat × Nat × Nat × Nat) := [(0, 9, 12, 21), (0, 9, 15, 15)]
theorem w_L_proceed_e (S : z_MI) (P : z_ML) (x1 : Int32) : e_X6_proceed S P x1 = 0 ∨ e_X6_proceed S P x1 = 1 ∨ e_X6_proceed S P x1 = 3 := by
  unfold e_X6_proceed
  repeat' split
  all_goals first | exact Or.inl rfl | exact Or.inr rfl | exact Or.inr (Or.inl rfl) | exact Or.inr (Or.inr rfl) | exact Or.inr (Or.inr (Or.inl rfl)) | exact Or.inr (Or.inr (Or.inr rfl))
set_option maxRecDepth 20000 in
set_option maxHeartbeats 4000000 in
theorem cw_L_proceed (l : Launch) (hl9 : l.stackTraces = false) : z_CW l yL_proceed cL_proceed 4 hh_L_proceed sp_L_proceed 7 := by
  refine z_CW_of G_L_proceed hs_L_proceed 4 117 1 2096 (ct_X6_proceed l hl9) kb_X6_proceed kv_L_117 ko_X6 (by decide) (by decide) (by decide) (by decide +kernel) (z_pok_of ft_L ci_L cL_L_L fo_L co_L lo_L (by decide +kernel)) rfl rfl rfl (by decide +kernel) (by decide +kernel) ?_ ?_
  · intro as S P Po h
    unfold sp_L_proceed at h
    split at h
    · exact Nat.le_of_ble_eq_true rfl
    · exact h.elim
  · intro as S P Po h V0 V1 h0 h1 hcall
    unfold sp_L_proceed at h
    split at h
    · rename_i x1
      obtain ⟨hJ, hpo⟩ := h
      refine h0 [4] 21 0 _ _ _ _ ?_
      refine hcall _ [.int x1] [.int (nI 0), .ref 206859] S P rfl (by decide) ?_
      refine ⟨hJ, ?_⟩
      have he9 : e_X6_proceed S P x1 = 0 ∨ e_X6_proceed S P x1 = 1 ∨ e_X6_proceed S P x1 = 3 := by
        exact w_L_proceed_e S P x1
      rcases he9 with he | he | he
      · rw [he] at hpo ⊢
        refine h1 [] 21 _ _ _ _ _ ?_
        refine ⟨vp_in_nI (by decide) (by decide), ?_⟩
        exact hpo
      · rw [he] at hpo ⊢
        exact ⟨_, List.mem_cons_self, rfl, hpo⟩
      · rw [he] at hpo ⊢
        exact ⟨_, List.mem_cons_of_mem _ (List.mem_cons_self), rfl, hpo⟩
    · exact h.elim
def sp_L_ofNotice : z_SP := fun as S P k => match as with
  | [.ref 2096, .int x1, .int x2, .ref 206859] => z_J S ∧ k (some (.int (w_c 1 2 0 (e_X6_ofNotice S P x1 x2)))) (w_d (e_X6_ofNotice S P x1 x2) S S) (w_d (e_X6_ofNotice S P x1 x2) P (va_up P 206859 (vp_updL (P 206859) 0 ((f_X6_ofNotice S P x1 x2).toInt64))))
  | _ => False
def G_L_ofNotice : z_G := ([(0, .aload_n 3, 1, 0), (1, .iconst 0, 2, 0), (2, .aload_n 0, 3, 0), (3, .iload_n 1, 4, 0), (4, .iload_n 2, 5, 0), (5, .invokevirtual 120, 8, 0), (8, .i2l, 9, 0), (9, .lastore, 10, 0), (10, .goto 11, 13, 21), (13, .astore 4, 15, 0), (15, .iconst 1, 16, 0), (16, .ireturn, 17, 0), (17, .astore 4, 19, 0), (19, .iconst 2, 20, 0), (20, .ireturn, 21, 0), (21, .iconst 0, 22, 0), (22, .ireturn, 23, 0)], [], [], [], [], [], [], some .int)
def hs_L_ofNotice : List z_HS := [("java/lang/IndexOutOfBoundsException", 1, .astore 4, 2), ("java/lang/IllegalArgumentException", 2, .astore 4, 2)]
def hh_L_ofNotice : List (Nat × Nat × Nat × Nat) := [(0, 10, 13, 21), (0, 10, 17, 13)]
theorem w_L_ofNotice_e (S : z_MI) (P : z_ML) (x1 : Int32) (x2 : Int32) : e_X6_ofNotice S P x1 x2 = 0 ∨ e_X6_ofNotice S P x1 x2 = 1 ∨ e_X6_ofNotice S P x1 x2 = 2 := by
  unfold e_X6_ofNotice
  repeat' split
  all_goals first | exact Or.inl rfl | exact Or.inr rfl | exact Or.inr (Or.inl rfl) | exact Or.inr (Or.inr rfl) | exact Or.inr (Or.inr (Or.inl rfl)) | exact Or.inr (Or.inr (Or.inr rfl))
set_option maxRecDepth 20000 in
set_option maxHeartbeats 4000000 in
theorem cw_L_ofNotice (l : Launch) (hl9 : l.stackTraces = false) : z_CW l yL_ofNotice cL_ofNotice 5 hh_L_ofNotice sp_L_ofNotice 7 := by
  refine z_CW_of G_L_ofNotice hs_L_ofNotice 5 120 2 2096 (ct_X6_ofNotice l hl9) kb_X6_ofNotice kv_L_120 ko_X6 (by decide) (by decide) (by decide) (by decide +kernel) (z_pok_of ft_L ci_L cL_L_L fo_L co_L lo_L (by decide +kernel)) rfl rfl rfl (by decide +kernel) (by decide +kernel) ?_ ?_
  · intro as S P Po h
    unfold sp_L_ofNotice at h
    split at h
    · exact Nat.le_of_ble_eq_true rfl
    · exact h.elim
  · intro as S P Po h V0 V1 h0 h1 hcall
    unfold sp_L_ofNotice at h
    split at h
    · rename_i x1 x2
      obtain ⟨hJ, hpo⟩ := h
      refine h0 [5] 22 0 _ _ _ _ ?_
      refine hcall _ [.int x1, .int x2] [.int (nI 0), .ref 206859] S P rfl (by decide) ?_
      refine ⟨hJ, ?_⟩
      have he9 : e_X6_ofNotice S P x1 x2 = 0 ∨ e_X6_ofNotice S P x1 x2 = 1 ∨ e_X6_ofNotice S P x1 x2 = 2 := by
        exact w_L_ofNotice_e S P x1 x2
      rcases he9 with he | he | he
      · rw [he] at hpo ⊢
        refine h1 [] 22 _ _ _ _ _ ?_
        refine ⟨vp_in_nI (by decide) (by decide), ?_⟩
        exact hpo
      · rw [he] at hpo ⊢
        exact ⟨_, List.mem_cons_self, rfl, hpo⟩
      · rw [he] at hpo ⊢
        exact ⟨_, List.mem_cons_of_mem _ (List.mem_cons_self), rfl, hpo⟩
    · exact h.elim
def sp_L_value : z_SP := fun as S P k => match as with
  | [.ref 2096, .int x1, .int x2, .ref 206859] => z_J S ∧ k (some (.int (w_c 1 2 0 (e_X6_value S P x1 x2)))) (w_d (e_X6_value S P x1 x2) S (u_X6_value S P x1 x2)) (w_d (e_X6_value S P x1 x2) P (va_up P 206859 (vp_updL (P 206859) 0 ((f_X6_value S P x1 x2).toInt64))))
  | _ => False
def G_L_value : z_G := ([(0, .aload_n 3, 1, 0), (1, .iconst 0, 2, 0), (2, .aload_n 0, 3, 0), (3, .iload_n 1, 4, 0), (4, .iload_n 2, 5, 0), (5, .invokevirtual 123, 8, 0), (8, .i2l, 9, 0), (9, .lastore, 10, 0), (10, .goto 11, 13, 21), (13, .astore 4, 15, 0), (15, .iconst 1, 16, 0), (16, .ireturn, 17, 0), (17, .astore 4, 19, 0), (19, .iconst 2, 20, 0), (20, .ireturn, 21, 0), (21, .iconst 0, 22, 0), (22, .ireturn, 23, 0)], [], [], [], [], [], [], some .int)
def hs_L_value : List z_HS := [("java/lang/IndexOutOfBoundsException", 1, .astore 4, 2), ("java/lang/IllegalArgumentException", 2, .astore 4, 2)]
def hh_L_value : List (Nat × Nat × Nat × Nat) := [(0, 10, 13, 21), (0, 10, 17, 13)]
theorem w_L_value_e (S : z_MI) (P : z_ML) (x1 : Int32) (x2 : Int32) : e_X6_value S P x1 x2 = 0 ∨ e_X6_value S P x1 x2 = 1 ∨ e_X6_value S P x1 x2 = 2 := by
  unfold e_X6_value
  repeat' split
  all_goals first | exact Or.inl rfl | exact Or.inr rfl | exact Or.inr (Or.inl rfl) | exact Or.inr (Or.inr rfl) | exact Or.inr (Or.inr (Or.inl rfl)) | exact Or.inr (Or.inr (Or.inr rfl))
set_option maxRecDepth 20000 in
set_option maxHeartbeats 4000000 in
theorem cw_L_value (l : Launch) (hl9 : l.stackTraces = false) : z_CW l yL_value cL_value 5 hh_L_value sp_L_value 7 := by
  refine z_CW_of G_L_value hs_L_value 5 123 2 2096 (ct_X6_value l hl9) kb_X6_value kv_L_123 ko_X6 (by decide) (by decide) (by decide) (by decide +kernel) (z_pok_of ft_L ci_L cL_L_L fo_L co_L lo_L (by decide +kernel)) rfl rfl rfl (by decide +kernel) (by decide +kernel) ?_ ?_
  · intro as S P Po h
    unfold sp_L_value at h
    split at h
    · exact Nat.le_of_ble_eq_true rfl
    · exact h.elim
  · intro as S P Po h V0 V1 h0 h1 hcall
    unfold sp_L_value at h
    split at h
    · rename_i x1 x2
      obtain ⟨hJ, hpo⟩ := h
      refine h0 [5] 22 0 _ _ _ _ ?_
      refine hcall _ [.int x1, .int x2] [.int (nI 0), .ref 206859] S P rfl (by decide) ?_
      refine ⟨hJ, ?_⟩
      have he9 : e_X6_value S P x1 x2 = 0 ∨ e_X6_value S P x1 x2 = 1 ∨ e_X6_value S P x1 x2 = 2 := by
        exact w_L_value_e S P x1 x2
      rcases he9 with he | he | he
      · rw [he] at hpo ⊢
        refine h1 [] 22 _ _ _ _ _ ?_
        refine ⟨vp_in_nI (by decide) (by decide), ?_⟩
        exact hpo
      · rw [he] at hpo ⊢
        exact ⟨_, List.mem_cons_self, rfl, hpo⟩
      · rw [he] at hpo ⊢
        exact ⟨_, List.mem_cons_of_mem _ (List.mem_cons_self), rfl, hpo⟩
    · exact h.elim
def sp_L_owed : z_SP := fun as S P k => match as with
  | [.ref 2096, .int x1, .ref 206859] => z_J S ∧ k (some (.int (w_c 1 0 0 (e_X6_owed S P x1)))) (w_d (e_X6_owed S P x1) S S) (w_d (e_X6_owed S P x1) P (va_up P 206859 (vp_updL (P 206859) 0 (f_X6_owed S P x1))))
  | _ => False
def G_L_owed : z_G := ([(0, .aload_n 2, 1, 0), (1, .iconst 0, 2, 0), (2, .aload_n 0, 3, 0), (3, .iload_n 1, 4, 0), (4, .invokevirtual 126, 7, 0), (7, .lastore, 8, 0), (8, .goto 6, 11, 14), (11, .astore_n 3, 12, 0), (12, .iconst 1, 13, 0), (13, .ireturn, 14, 0), (14, .iconst 0, 15, 0), (15, .ireturn, 16, 0)], [], [], [], [], [], [], some .int)
def hs_L_owed : List z_HS := [("java/lang/IndexOutOfBoundsException", 1, .astore_n 3, 1)]
def hh_L_owed : List (Nat × Nat × Nat × Nat) := [(0, 8, 11, 21)]
theorem w_L_owed_e (S : z_MI) (P : z_ML) (x1 : Int32) : e_X6_owed S P x1 = 0 ∨ e_X6_owed S P x1 = 1 := by
  unfold e_X6_owed
  repeat' split
  all_goals first | exact Or.inl rfl | exact Or.inr rfl | exact Or.inr (Or.inl rfl) | exact Or.inr (Or.inr rfl) | exact Or.inr (Or.inr (Or.inl rfl)) | exact Or.inr (Or.inr (Or.inr rfl))
set_option maxRecDepth 20000 in
set_option maxHeartbeats 4000000 in
theorem cw_L_owed (l : Launch) (hl9 : l.stackTraces = false) : z_CW l yL_owed cL_owed 4 hh_L_owed sp_L_owed 7 := by
  refine z_CW_of G_L_owed hs_L_owed 4 126 1 2096 (ct_X6_owed l hl9) kb_X6_owed kv_L_126 ko_X6 (by decide) (by decide) (by decide) (by decide +kernel) (z_pok_of ft_L ci_L cL_L_L fo_L co_L lo_L (by decide +kernel)) rfl rfl rfl (by decide +kernel) (by decide +kernel) ?_ ?_
  · intro as S P Po h
    unfold sp_L_owed at h
    split at h
    · exact Nat.le_of_ble_eq_true rfl
    · exact h.elim
  · intro as S P Po h V0 V1 h0 h1 hcall
    unfold sp_L_owed at h
    split at h
    · rename_i x1
      obtain ⟨hJ, hpo⟩ := h
      refine h0 [4] 17 0 _ _ _ _ ?_
      refine hcall _ [.int x1] [.int (nI 0), .ref 206859] S P rfl (by decide) ?_
      refine ⟨hJ, ?_⟩
      have he9 : e_X6_owed S P x1 = 0 ∨ e_X6_owed S P x1 = 1 := by
        exact w_L_owed_e S P x1
      rcases he9 with he | he
      · rw [he] at hpo ⊢
        refine h1 [] 17 _ _ _ _ _ ?_
        refine ⟨vp_in_nI (by decide) (by decide), ?_⟩
        exact hpo
      · rw [he] at hpo ⊢
        exact ⟨_, List.mem_cons_self, rfl, hpo⟩
    · exact h.elim
def sp_L_pay : z_SP := fun as S P k => match as with
  | [.ref 2096, .int x1, .ref 206859] => z_J S ∧ k (some (.int (w_c 1 0 2 (e_X6_pay S P x1)))) (w_d (e_X6_pay S P x1) S (u_X6_pay S P x1)) (w_d (e_X6_pay S P x1) P (va_up (v_X6_pay S P x1) 206859 (vp_updL ((v_X6_pay S P x1) 206859) 0 (f_X6_pay S P x1))))
  | _ => False
def G_L_pay : z_G := ([(0, .aload_n 2, 1, 0), (1, .iconst 0, 2, 0), (2, .aload_n 0, 3, 0), (3, .iload_n 1, 4, 0), (4, .invokevirtual 130, 7, 0), (7, .lastore, 8, 0), (8, .goto 9, 11, 17), (11, .astore_n 3, 12, 0), (12, .iconst 1, 13, 0), (13, .ireturn, 14, 0), (14, .astore_n 3, 15, 0), (15, .iconst 2, 16, 0), (16, .ireturn, 17, 0), (17, .iconst 0, 18, 0), (18, .ireturn, 19, 0)], [], [], [], [], [], [], some .int)
def hs_L_pay : List z_HS := [("java/lang/IndexOutOfBoundsException", 1, .astore_n 3, 1), ("java/lang/IllegalStateException", 2, .astore_n 3, 1)]
def hh_L_pay : List (Nat × Nat × Nat × Nat) := [(0, 8, 11, 21), (0, 8, 14, 15)]
theorem w_L_pay_e (S : z_MI) (P : z_ML) (x1 : Int32) : e_X6_pay S P x1 = 0 ∨ e_X6_pay S P x1 = 1 ∨ e_X6_pay S P x1 = 3 := by
  unfold e_X6_pay
  repeat' split
  all_goals first | exact Or.inl rfl | exact Or.inr rfl | exact Or.inr (Or.inl rfl) | exact Or.inr (Or.inr rfl) | exact Or.inr (Or.inr (Or.inl rfl)) | exact Or.inr (Or.inr (Or.inr rfl))
set_option maxRecDepth 20000 in
set_option maxHeartbeats 4000000 in
theorem cw_L_pay (l : Launch) (hl9 : l.stackTraces = false) : z_CW l yL_pay cL_pay 4 hh_L_pay sp_L_pay 7 := by
  refine z_CW_of G_L_pay hs_L_pay 4 130 1 2096 (ct_X6_pay l hl9) kb_X6_pay kv_L_130 ko_X6 (by decide) (by decide) (by decide) (by decide +kernel) (z_pok_of ft_L ci_L cL_L_L fo_L co_L lo_L (by decide +kernel)) rfl rfl rfl (by decide +kernel) (by decide +kernel) ?_ ?_
  · intro as S P Po h
    unfold sp_L_pay at h
    split at h
    · exact Nat.le_of_ble_eq_true rfl
    · exact h.elim
  · intro as S P Po h V0 V1 h0 h1 hcall
    unfold sp_L_pay at h
    split at h
    · rename_i x1
      obtain ⟨hJ, hpo⟩ := h
      refine h0 [4] 20 0 _ _ _ _ ?_
      refine hcall _ [.int x1] [.int (nI 0), .ref 206859] S P rfl (by decide) ?_
      refine ⟨hJ, ?_⟩
      have he9 : e_X6_pay S P x1 = 0 ∨ e_X6_pay S P x1 = 1 ∨ e_X6_pay S P x1 = 3 := by
        exact w_L_pay_e S P x1
      rcases he9 with he | he | he
      · rw [he] at hpo ⊢
        refine h1 [] 20 _ _ _ _ _ ?_
        refine ⟨vp_in_nI (by decide) (by decide), ?_⟩
        exact hpo
      · rw [he] at hpo ⊢
        exact ⟨_, List.mem_cons_self, rfl, hpo⟩
      · rw [he] at hpo ⊢
        exact ⟨_, List.mem_cons_of_mem _ (List.mem_cons_self), rfl, hpo⟩
    · exact h.elim
def sp_L_paid : z_SP := fun as S P k => match as with
  | [.ref 2096, .int x1, .ref 206859] => z_J S ∧ k (some (.int (w_c 1 0 0 (e_X6_paid S P x1)))) (w_d (e_X6_paid S P x1) S S) (w_d (e_X6_paid S P x1) P (va_up P 206859 (vp_updL (P 206859) 0 (f_X6_paid S P x1))))
  | _ => False
def G_L_paid : z_G := ([(0, .aload_n 2, 1, 0), (1, .iconst 0, 2, 0), (2, .aload_n 0, 3, 0), (3, .iload_n 1, 4, 0), (4, .invokevirtual 133, 7, 0), (7, .lastore, 8, 0), (8, .goto 6, 11, 14), (11, .astore_n 3, 12, 0), (12, .iconst 1, 13, 0), (13, .ireturn, 14, 0), (14, .iconst 0, 15, 0), (15, .ireturn, 16, 0)], [], [], [], [], [], [], some .int)
def hs_L_paid : List z_HS := [("java/lang/IndexOutOfBoundsException", 1, .astore_n 3, 1)]
def hh_L_paid : List (Nat × Nat × Nat × Nat) := [(0, 8, 11, 21)]
theorem w_L_paid_e (S : z_MI) (P : z_ML) (x1 : Int32) : e_X6_paid S P x1 = 0 ∨ e_X6_paid S P x1 = 1 := by
  unfold e_X6_paid
  repeat' split
  all_goals first | exact Or.inl rfl | exact Or.inr rfl | exact Or.inr (Or.inl rfl) | exact Or.inr (Or.inr rfl) | exact Or.inr (Or.inr (Or.inl rfl)) | exact Or.inr (Or.inr (Or.inr rfl))
set_option maxRecDepth 20000 in
set_option maxHeartbeats 4000000 in
theorem cw_L_paid (l : Launch) (hl9 : l.stackTraces = false) : z_CW l yL_paid cL_paid 4 hh_L_paid sp_L_paid 7 := by
  refine z_CW_of G_L_paid hs_L_paid 4 133 1 2096 (ct_X6_paid l hl9) kb_X6_paid kv_L_133 ko_X6 (by decide) (by decide) (by decide) (by decide +kernel) (z_pok_of ft_L ci_L cL_L_L fo_L co_L lo_L (by decide +kernel)) rfl rfl rfl (by decide +kernel) (by decide +kernel) ?_ ?_
  · intro as S P Po h
    unfold sp_L_paid at h
    split at h
    · exact Nat.le_of_ble_eq_true rfl
    · exact h.elim
  · intro as S P Po h V0 V1 h0 h1 hcall
    unfold sp_L_paid at h
    split at h
    · rename_i x1
      obtain ⟨hJ, hpo⟩ := h
      refine h0 [4] 17 0 _ _ _ _ ?_
      refine hcall _ [.int x1] [.int (nI 0), .ref 206859] S P rfl (by decide) ?_
      refine ⟨hJ, ?_⟩
      have he9 : e_X6_paid S P x1 = 0 ∨ e_X6_paid S P x1 = 1 := by
        exact w_L_paid_e S P x1
      rcases he9 with he | he
      · rw [he] at hpo ⊢
        refine h1 [] 17 _ _ _ _ _ ?_
        refine ⟨vp_in_nI (by decide) (by decide), ?_⟩
        exact hpo
      · rw [he] at hpo ⊢
        exact ⟨_, List.mem_cons_self, rfl, hpo⟩
    · exact h.elim
def sp_L_pass : z_SP := fun as S P k => match as with
  | [.ref 2096, .int x1, .ref 206859] => z_J S ∧ k (some (.int (w_c 0 1 2 (e_X6_pass S P x1)))) (w_d (e_X6_pass S P x1) S (u_X6_pass S P x1)) (w_d (e_X6_pass S P x1) P (va_up P 206859 (vp_updL (P 206859) 0 ((f_X6_pass S P x1).toInt64))))
  | _ => False
def G_L_pass : z_G := ([(0, .aload_n 2, 1, 0), (1, .iconst 0, 2, 0), (2, .aload_n 0, 3, 0), (3, .iload_n 1, 4, 0), (4, .invokevirtual 136, 7, 0), (7, .i2l, 8, 0), (8, .lastore, 9, 0), (9, .goto 9, 12, 18), (12, .astore_n 3, 13, 0), (13, .iconst 1, 14, 0), (14, .ireturn, 15, 0), (15, .astore_n 3, 16, 0), (16, .iconst 2, 17, 0), (17, .ireturn, 18, 0), (18, .iconst 0, 19, 0), (19, .ireturn, 20, 0)], [], [], [], [], [], [], some .int)
def hs_L_pass : List z_HS := [("java/lang/IllegalArgumentException", 1, .astore_n 3, 1), ("java/lang/IllegalStateException", 2, .astore_n 3, 1)]
def hh_L_pass : List (Nat × Nat × Nat × Nat) := [(0, 9, 12, 13), (0, 9, 15, 15)]
theorem w_L_pass_e (S : z_MI) (P : z_ML) (x1 : Int32) : e_X6_pass S P x1 = 0 ∨ e_X6_pass S P x1 = 2 ∨ e_X6_pass S P x1 = 3 := by
  unfold e_X6_pass
  repeat' split
  all_goals first | exact Or.inl rfl | exact Or.inr rfl | exact Or.inr (Or.inl rfl) | exact Or.inr (Or.inr rfl) | exact Or.inr (Or.inr (Or.inl rfl)) | exact Or.inr (Or.inr (Or.inr rfl))
set_option maxRecDepth 20000 in
set_option maxHeartbeats 4000000 in
theorem cw_L_pass (l : Launch) (hl9 : l.stackTraces = false) : z_CW l yL_pass cL_pass 4 hh_L_pass sp_L_pass 7 := by
  refine z_CW_of G_L_pass hs_L_pass 4 136 1 2096 (ct_X6_pass l hl9) kb_X6_pass kv_L_136 ko_X6 (by decide) (by decide) (by decide) (by decide +kernel) (z_pok_of ft_L ci_L cL_L_L fo_L co_L lo_L (by decide +kernel)) rfl rfl rfl (by decide +kernel) (by decide +kernel) ?_ ?_
  · intro as S P Po h
    unfold sp_L_pass at h
    split at h
    · exact Nat.le_of_ble_eq_true rfl
    · exact h.elim
  · intro as S P Po h V0 V1 h0 h1 hcall
    unfold sp_L_pass at h
    split at h
    · rename_i x1
      obtain ⟨hJ, hpo⟩ := h
      refine h0 [4] 21 0 _ _ _ _ ?_
      refine hcall _ [.int x1] [.int (nI 0), .ref 206859] S P rfl (by decide) ?_
      refine ⟨hJ, ?_⟩
      have he9 : e_X6_pass S P x1 = 0 ∨ e_X6_pass S P x1 = 2 ∨ e_X6_pass S P x1 = 3 := by
        exact w_L_pass_e S P x1
      rcases he9 with he | he | he
      · rw [he] at hpo ⊢
        refine h1 [] 21 _ _ _ _ _ ?_
        refine ⟨vp_in_nI (by decide) (by decide), ?_⟩
        exact hpo
      · rw [he] at hpo ⊢
        exact ⟨_, List.mem_cons_self, rfl, hpo⟩
      · rw [he] at hpo ⊢
        exact ⟨_, List.mem_cons_of_mem _ (List.mem_cons_self), rfl, hpo⟩
    · exact h.elim
