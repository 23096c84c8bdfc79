/-! the law's walk behind its two objects -/
def pol (z0 : Nat) : y_PO := fun v g => v = some (.int (nI 1)) → z0 + 265 ≤ g
theorem y_01ne : ¬ (some (Value.int (nI 0)) = some (.int (nI 1))) := by
  intro e
  injection e with e
  injection e with e
  exact absurd e (by decide)
theorem y_pos {x : Int32} (h : ¬ x ≤ 0) : 0 ≤ x := by
  rw [Int32.le_iff_toInt_le] at h ⊢
  have e0 : (0 : Int32).toInt = 0 := by decide
  omega
theorem y_rem {k d : Nat} (hk : k < 2 ^ 31) (h0 : 0 < d) (hd : d < 2 ^ 31) : nI k - nI k / nI d * nI d = nI (k % d) := by
  rw [pk_div hk h0 hd, pk_mul]
  have e : nI k = nI (k % d) + nI (k / d * d) := by
    rw [nI_add]
    congr 1
    have := Nat.div_add_mod k d
    rw [Nat.mul_comm] at this
    omega
  rw [e]
  exact Int32.add_sub_cancel _ _
theorem y_c60 {k : Nat} (hk : k < 150) : nI 1 + (nI k - nI k / nI 60 * nI 60) = nI (1 + k % 60) := by
  rw [y_rem (by omega) (by decide) (by decide), nI_add]
theorem y_k15 {k : Nat} (hk : k < 150) (h : ¬ nI k - nI k / nI 15 * nI 15 = nI 14) : (k + 1) / 15 = k / 15 := by
  rw [y_rem (by omega) (by decide) (by decide)] at h
  have : k % 15 ≠ 14 := fun e => h (by rw [e])
  omega
def CL_law : List (Nat × Instr × Nat × Nat) := [(16, .iconst 1, 17, 0), (17, .istore_n 3, 18, 0), (18, .iconst 0, 19, 0), (19, .istore 4, 21, 0), (21, .iload 4, 23, 0), (23, .iconst 4, 24, 0), (24, .if_icmp .ge 105, 27, 129), (27, .iload_n 3, 28, 0), (28, .ifCond .eq 101, 31, 129), (31, .aload_n 0, 32, 0), (32, .iconst 0, 33, 0), (33, .invokestatic 187, 36, 0), (36, .iconst 2, 37, 0), (37, .iload 4, 39, 0), (39, .imul, 40, 0), (40, .ishr, 41, 0), (41, .iconst 3, 42, 0), (42, .invokestatic 157, 45, 0), (45, .istore 5, 47, 0), (47, .aload_n 1, 48, 0), (48, .iload 5, 50, 0), (50, .invokevirtual 74, 53, 0), (53, .iload 4, 55, 0), (55, .if_icmp .ne 66, 58, 121), (58, .aload_n 2, 59, 0), (59, .iload 5, 61, 0), (61, .invokevirtual 74, 64, 0), (64, .iload 4, 66, 0), (66, .if_icmp .ne 55, 69, 121), (69, .aload_n 1, 70, 0), (70, .iconst (-1), 71, 0), (71, .iconst (-1), 72, 0), (72, .invokevirtual 77, 75, 0), (75, .iload 4, 77, 0), (77, .if_icmp .ne 44, 80, 121), (80, .aload_n 2, 81, 0), (81, .iconst (-1), 82, 0), (82, .iconst (-1), 83, 0), (83, .invokevirtual 77, 86, 0), (86, .iload 4, 88, 0), (88, .if_icmp .ne 33, 91, 121), (91, .aload_n 1, 92, 0), (92, .iload 4, 94, 0), (94, .iload 4, 96, 0), (96, .iconst 1, 97, 0), (97, .invokevirtual 80, 100, 0), (100, .iconst 1, 101, 0), (101, .if_icmp .ne 20, 104, 121), (104, .aload_n 2, 105, 0), (105, .iload 4, 107, 0), (107, .iload 4, 109, 0), (109, .iconst 1, 110, 0), (110, .invokevirtual 80, 113, 0), (113, .iconst 1, 114, 0), (114, .if_icmp .ne 7, 117, 121), (117, .iconst 1, 118, 0), (118, .goto 4, 121, 122), (121, .iconst 0, 122, 0), (122, .istore_n 3, 123, 0), (123, .iinc 4 1, 126, 0), (126, .goto (-105), 129, 21), (129, .iconst 0, 130, 0), (130, .istore 4, 132, 0), (132, .iconst 0, 133, 0), (133, .istore 5, 135, 0), (135, .iload 5, 137, 0), (137, .sipush 150, 140, 0), (140, .if_icmp .ge 210, 143, 350), (143, .iload_n 3, 144, 0), (144, .ifCond .eq 206, 147, 350), (147, .aload_n 0, 148, 0), (148, .iconst 1, 149, 0), (149, .iload 5, 151, 0), (151, .bipush 60, 153, 0), (153, .irem, 154, 0), (154, .iadd, 155, 0), (155, .invokestatic 187, 158, 0), (158, .sipush 2083, 161, 0), (161, .iload 5, 163, 0), (163, .bipush 60, 165, 0), (165, .idiv, 166, 0), (166, .imul, 167, 0), (167, .iadd, 168, 0), (168, .istore 6, 170, 0), (170, .aload_n 1, 171, 0), (171, .iload 6, 173, 0), (173, .iload 4, 175, 0), (175, .invokestatic 191, 178, 0), (178, .istore 7, 180, 0), (180, .iload 7, 182, 0), (182, .ldc 69, 184, 0), (184, .if_icmp .eq 16, 187, 200), (187, .aload_n 2, 188, 0), (188, .iload 6, 190, 0), (190, .iload 4, 192, 0), (192, .invokestatic 191, 195, 0), (195, .iload 7, 197, 0), (197, .if_icmp .ne 7, 200, 204), (200, .iconst 1, 201, 0), (201, .goto 4, 204, 205), (204, .iconst 0, 205, 0), (205, .istore_n 3, 206, 0), (206, .iload 6, 208, 0), (208, .bipush 60, 210, 0), (210, .invokestatic 157, 213, 0), (213, .bipush 51, 215, 0), (215, .if_icmp .le 13, 218, 228), (218, .iload 7, 220, 0), (220, .ifCond .le 8, 223, 228), (223, .iload 7, 225, 0), (225, .goto 5, 228, 230), (228, .iload 4, 230, 0), (230, .istore 4, 232, 0), (232, .iload_n 3, 233, 0), (233, .ifCond .eq 109, 236, 342), (236, .iload 5, 238, 0), (238, .bipush 15, 240, 0), (240, .irem, 241, 0), (241, .bipush 14, 243, 0), (243, .if_icmp .ne 15, 246, 258), (246, .aload_n 1, 247, 0), (247, .aload_n 2, 248, 0), (248, .iload 6, 250, 0), (250, .iconst 3, 251, 0), (251, .ishr, 252, 0), (252, .invokestatic 193, 255, 0), (255, .ifCond .eq 87, 258, 342), (258, .iload 5, 260, 0), (260, .bipush 7, 262, 0), (262, .irem, 263, 0), (263, .iconst 4, 264, 0), (264, .if_icmp .ne 12, 267, 276), (267, .aload_n 1, 268, 0), (268, .iload 4, 270, 0), (270, .invokestatic 197, 273, 0), (273, .ifCond .eq 69, 276, 342), (276, .iload 5, 278, 0), (278, .bipush 6, 280, 0), (280, .irem, 281, 0), (281, .iconst 3, 282, 0), (282, .if_icmp .ne 12, 285, 294), (285, .aload_n 1, 286, 0), (286, .iload 4, 288, 0), (288, .invokestatic 201, 291, 0), (291, .ifCond .eq 51, 294, 342), (294, .iload 5, 296, 0), (296, .bipush 9, 298, 0), (298, .irem, 299, 0), (299, .iconst 5, 300, 0), (300, .if_icmp .ne 15, 303, 315), (303, .aload_n 1, 304, 0), (304, .aload_n 2, 305, 0), (305, .iload 6, 307, 0), (307, .iconst 5, 308, 0), (308, .ishr, 309, 0), (309, .invokestatic 204, 312, 0), (312, .ifCond .eq 30, 315, 342), (315, .iload 5, 317, 0), (317, .bipush 8, 319, 0), (319, .irem, 320, 0), (320, .bipush 6, 322, 0), (322, .if_icmp .ne 16, 325, 338), (325, .aload_n 1, 326, 0), (326, .iload 4, 328, 0), (328, .iload 6, 330, 0), (330, .iconst 4, 331, 0), (331, .ishr, 332, 0), (332, .invokestatic 207, 335, 0), (335, .ifCond .eq 7, 338, 342), (338, .iconst 1, 339, 0), (339, .goto 4, 342, 343), (342, .iconst 0, 343, 0), (343, .istore_n 3, 344, 0), (344, .iinc 5 1, 347, 0), (347, .goto (-212), 350, 135), (350, .iload_n 3, 351, 0), (351, .ifCond .eq 35, 354, 386), (354, .aload_n 1, 355, 0), (355, .aload_n 2, 356, 0), (356, .bipush 7, 358, 0), (358, .invokestatic 193, 361, 0), (361, .ifCond .eq 25, 364, 386), (364, .aload_n 2, 365, 0), (365, .iload 4, 367, 0), (367, .invokestatic 197, 370, 0), (370, .ifCond .eq 16, 373, 386), (373, .aload_n 2, 374, 0), (374, .iload 4, 376, 0), (376, .invokestatic 201, 379, 0), (379, .ifCond .eq 7, 382, 386), (382, .iconst 1, 383, 0), (383, .goto 4, 386, 387), (386, .iconst 0, 387, 0), (387, .ireturn, 388, 0)]
def GL_law (kx : String → Nat → Nat → Prop) : y_G := (CL_law, [(74, 2, y_cs 470000 1 (y_vs 1 y_ri ["java/lang/IllegalArgumentException", "java/lang/IllegalStateException"]) kx), (77, 3, y_cs 470000 1 (y_vs 2 y_ri ["java/lang/IndexOutOfBoundsException", "java/lang/IllegalArgumentException", "java/lang/IllegalStateException"]) kx), (80, 4, y_cs 470000 1 (y_vs 3 y_ri ["java/lang/IndexOutOfBoundsException"]) kx), (100157, 2, y_cs 470000 0 sx_low kx), (100187, 2, y_cs 470000 0 sx_cell kx), (100191, 3, y_cs 470000 1 sx_act kx), (100193, 3, y_cs 470000 1160 sx_areAlike kx), (100197, 2, y_cs 470000 1700 sx_areRights kx), (100201, 2, y_cs 470000 200 sx_areClaims kx), (100204, 3, y_cs 470000 30 sx_isPaid kx), (100207, 3, y_cs 470000 12 sx_isQuiet kx)], [(69, 2194967296)], [], some .boolean)
set_option maxRecDepth 20000 in
theorem ck_law : y_ck cL_law 8 400 CL_law = true := by decide +kernel
set_option maxRecDepth 20000 in
theorem law_calls (l : Launch) (h9 : l.stackTraces = false) (kx : String → Nat → Nat → Prop) : ∀ q ∈ y_cm (GL_law kx), (∃ (mc' : Nat) (sx' : y_SX), q.2.2 = y_cs 470000 mc' sx' kx ∧ y_CO l 10 274 "SonglinebenchLaw" q.1 q.2.1 mc' sx') ∨ (q.1 = 100187 ∧ q.2.1 = 2 ∧ q.2.2 = y_cs 470000 0 sx_cell kx) := List.forall_mem_cons.mpr ⟨Or.inl ⟨1, (y_vs 1 y_ri ["java/lang/IllegalArgumentException", "java/lang/IllegalStateException"]), rfl, y_coV (ct_X6_people l h9) wk_people kb_X6_people kv_L_74 ko_X6 (Nat.le_of_ble_eq_true rfl) (by decide) (by decide)⟩, List.forall_mem_cons.mpr ⟨Or.inl ⟨1, (y_vs 2 y_ri ["java/lang/IndexOutOfBoundsException", "java/lang/IllegalArgumentException", "java/lang/IllegalStateException"]), rfl, y_coV (ct_X6_person l h9) wk_person kb_X6_person kv_L_77 ko_X6 (Nat.le_of_ble_eq_true rfl) (by decide) (by decide)⟩, List.forall_mem_cons.mpr ⟨Or.inl ⟨1, (y_vs 3 y_ri ["java/lang/IndexOutOfBoundsException"]), rfl, y_coV (ct_X6_root l h9) wk_root kb_X6_root kv_L_80 ko_X6 (Nat.le_of_ble_eq_true rfl) (by decide) (by decide)⟩, List.forall_mem_cons.mpr ⟨Or.inl ⟨0, sx_low, rfl, y_coS (cy_low l h9) kb_L_low ks_L_157 (by decide) (by decide)⟩, List.forall_mem_cons.mpr ⟨Or.inr ⟨rfl, rfl, rfl⟩, List.forall_mem_cons.mpr ⟨Or.inl ⟨1, sx_act, rfl, y_coS (cy_act l h9) kb_L_act ks_L_191 (by decide) (by decide)⟩, List.forall_mem_cons.mpr ⟨Or.inl ⟨1160, sx_areAlike, rfl, y_coS (cy_areAlike l h9) kb_L_areAlike ks_L_193 (by decide) (by decide)⟩, List.forall_mem_cons.mpr ⟨Or.inl ⟨1700, sx_areRights, rfl, y_coS (cy_areRights l h9) kb_L_areRights ks_L_197 (by decide) (by decide)⟩, List.forall_mem_cons.mpr ⟨Or.inl ⟨200, sx_areClaims, rfl, y_coS (cy_areClaims l h9) kb_L_areClaims ks_L_201 (by decide) (by decide)⟩, List.forall_mem_cons.mpr ⟨Or.inl ⟨30, sx_isPaid, rfl, y_coS (cy_isPaid l h9) kb_L_isPaid ks_L_204 (by decide) (by decide)⟩, List.forall_mem_cons.mpr ⟨Or.inl ⟨12, sx_isQuiet, rfl, y_coS (cy_isQuiet l h9) kb_L_isQuiet ks_L_207 (by decide) (by decide)⟩, fun _ h => absurd h List.not_mem_nil⟩⟩⟩⟩⟩⟩⟩⟩⟩⟩⟩
set_option maxRecDepth 20000 in
set_option maxHeartbeats 16000000 in
theorem law_walk (V : y_KT) (z0 : Nat) (hV : ∀ (cuts : List Nat) (n pc : Nat) (lv : z_LV) (st : List Value) (g u : Nat), y_wp (GL_law (fun _ _ _ => True)) 470000 (pol z0) cuts V n pc lv st g u → V pc lv st g u) (hW : ∀ (ks : List Nat) (pc : Nat) (lv : z_LV) (st : List Value) (g u : Nat), V pc (z_keep ks lv) st g u → V pc lv st g u) : V 16 [(0, .ref 2), (1, .ref 0), (2, .ref 1)] [] z0 0 := by
  have hB : ∀ (j k : Nat) (a3 : Int32) (a4 : Int32) (x : Int32) (g1 u1 : Nat), k + j = 150 → x = nI k → (a3 = nI 0 ∨ a3 = nI 1) → 0 ≤ a4 → z0 ≤ g1 → (a3 ≠ nI 0 → z0 + 48 * (k / 15) ≤ g1) → u1 ≤ 24 + 3110 * k → V 135 [(0, .ref 2), (1, .ref 0), (2, .ref 1), (3, .int a3), (4, .int a4), (5, .int x)] [] g1 u1 := by
    intro j
    induction j with
    | zero =>
      intro k a3 a4 x g1 u1 hkk hxk ha3 hnow hg1 hgr hu1
      subst hxk
      have hzk : k = 150 := by omega
      subst hzk
      refine hV [21, 135, 230, 258, 276, 294, 315] 199 135 _ _ _ _ ?_
      refine ⟨fun h0 => ?_, fun h0 => absurd (by decide) h0⟩
      refine ⟨fun h1 => ?_, fun h1 => ?_⟩
      · exact ⟨rfl, by omega, fun e => absurd e y_01ne⟩
      · refine ⟨by omega, fun x2 g2 f2 => ?_⟩
        obtain ⟨e2, -, d2⟩ := f2
        refine ⟨fun h3 => ?_, fun h3 => ?_⟩
        · exact ⟨rfl, by omega, fun e => absurd e y_01ne⟩
        · refine ⟨by omega, rfl, fun x4 g4 e4 => ?_, fun _ _ _ _ => trivial⟩
          refine ⟨fun h5 => ?_, fun h5 => ?_⟩
          · exact ⟨rfl, by omega, fun e => absurd e y_01ne⟩
          · refine ⟨by omega, rfl, fun x6 g6 e6 => ?_, fun _ _ _ _ => trivial⟩
            refine ⟨fun h7 => ?_, fun h7 => ?_⟩
            · exact ⟨rfl, by omega, fun e => absurd e y_01ne⟩
            · exact ⟨rfl, by omega, fun _ => by have := hgr (y_nn h1); omega⟩
    | succ j ihB =>
      intro k a3 a4 x g1 u1 hkk hxk ha3 hnow hg1 hgr hu1
      subst hxk
      have hltk : k < 150 := by omega
      have hk150 : k < 150 := hltk
      have hC315 : ∀ (a3 a4 a6 : Int32) (g2 u2 : Nat), 0 ≤ a4 → z0 + 48 * ((k + 1) / 15) ≤ g2 → u2 ≤ 24 + 3110 * k + 3092 → V 315 [(0, .ref 2), (1, .ref 0), (2, .ref 1), (3, .int a3), (4, .int a4), (5, .int (nI k)), (6, .int a6)] [] g2 u2 := by
        intro a3 a4 a6 g2 u2 hnow hg2 hu2
        refine hV [21, 135, 230, 258, 276, 294, 315] 199 315 _ _ _ _ ?_
        refine ⟨by decide, ?_⟩
        refine ⟨fun h11 => ?_, fun h11 => ?_⟩
        · exact hW [0, 1, 2, 3, 4, 5] _ _ _ _ _ (ihB (k + 1) _ _ _ _ _ (by omega) (nI_add k 1) (Or.inr rfl) hnow (by omega) (fun _ => by omega) (by omega))
        · refine ⟨by omega, rfl, fun x12 g12 e12 => ?_, fun _ _ _ _ => trivial⟩
          refine ⟨fun h13 => ?_, fun h13 => ?_⟩
          · exact hW [0, 1, 2, 3, 4, 5] _ _ _ _ _ (ihB (k + 1) _ _ _ _ _ (by omega) (nI_add k 1) (Or.inl rfl) hnow (by omega) (fun h => absurd rfl h) (by omega))
          · exact hW [0, 1, 2, 3, 4, 5] _ _ _ _ _ (ihB (k + 1) _ _ _ _ _ (by omega) (nI_add k 1) (Or.inr rfl) hnow (by omega) (fun _ => by omega) (by omega))
      have hC294 : ∀ (a3 a4 a6 : Int32) (g2 u2 : Nat), 0 ≤ a4 → z0 + 48 * ((k + 1) / 15) ≤ g2 → u2 ≤ 24 + 3110 * k + 3062 → V 294 [(0, .ref 2), (1, .ref 0), (2, .ref 1), (3, .int a3), (4, .int a4), (5, .int (nI k)), (6, .int a6)] [] g2 u2 := by
        intro a3 a4 a6 g2 u2 hnow hg2 hu2
        refine hV [21, 135, 230, 258, 276, 294, 315] 199 294 _ _ _ _ ?_
        refine ⟨by decide, ?_⟩
        refine ⟨fun h11 => ?_, fun h11 => ?_⟩
        · exact hW [0, 1, 2, 3, 4, 5, 6] _ _ _ _ _ (hC315 _ _ _ _ _ hnow (by omega) (by omega))
        · refine ⟨by omega, fun x12 g12 e12 => ?_⟩
          refine ⟨fun h13 => ?_, fun h13 => ?_⟩
          · exact hW [0, 1, 2, 3, 4, 5] _ _ _ _ _ (ihB (k + 1) _ _ _ _ _ (by omega) (nI_add k 1) (Or.inl rfl) hnow (by omega) (fun h => absurd rfl h) (by omega))
          · exact hW [0, 1, 2, 3, 4, 5, 6] _ _ _ _ _ (hC315 _ _ _ _ _ hnow (by omega) (by omega))
      have hC276 : ∀ (a3 a4 a6 : Int32) (g2 u2 : Nat), 0 ≤ a4 → z0 + 48 * ((k + 1) / 15) ≤ g2 → u2 ≤ 24 + 3110 * k + 2862 → V 276 [(0, .ref 2), (1, .ref 0), (2, .ref 1), (3, .int a3), (4, .int a4), (5, .int (nI k)), (6, .int a6)] [] g2 u2 := by
        intro a3 a4 a6 g2 u2 hnow hg2 hu2
        refine hV [21, 135, 230, 258, 276, 294, 315] 199 276 _ _ _ _ ?_
        refine ⟨by decide, ?_⟩
        refine ⟨fun h11 => ?_, fun h11 => ?_⟩
        · exact hW [0, 1, 2, 3, 4, 5, 6] _ _ _ _ _ (hC294 _ _ _ _ _ hnow (by omega) (by omega))
        · refine ⟨by omega, rfl, fun x12 g12 e12 => ?_, fun _ _ _ _ => trivial⟩
          refine ⟨fun h13 => ?_, fun h13 => ?_⟩
          · exact hW [0, 1, 2, 3, 4, 5] _ _ _ _ _ (ihB (k + 1) _ _ _ _ _ (by omega) (nI_add k 1) (Or.inl rfl) hnow (by omega) (fun h => absurd rfl h) (by omega))
          · exact hW [0, 1, 2, 3, 4, 5, 6] _ _ _ _ _ (hC294 _ _ _ _ _ hnow (by omega) (by omega))
      have hC258 : ∀ (a3 a4 a6 : Int32) (g2 u2 : Nat), 0 ≤ a4 → z0 + 48 * ((k + 1) / 15) ≤ g2 → u2 ≤ 24 + 3110 * k + 1162 → V 258 [(0, .ref 2), (1, .ref 0), (2, .ref 1), (3, .int a3), (4, .int a4), (5, .int (nI k)), (6, .int a6)] [] g2 u2 := by
        intro a3 a4 a6 g2 u2 hnow hg2 hu2
        refine hV [21, 135, 230, 258, 276, 294, 315] 199 258 _ _ _ _ ?_
        refine ⟨by decide, ?_⟩
        refine ⟨fun h11 => ?_, fun h11 => ?_⟩
        · exact hW [0, 1, 2, 3, 4, 5, 6] _ _ _ _ _ (hC276 _ _ _ _ _ hnow (by omega) (by omega))
        · refine ⟨by omega, rfl, fun x12 g12 e12 => ?_, fun _ _ _ _ => trivial⟩
          refine ⟨fun h13 => ?_, fun h13 => ?_⟩
          · exact hW [0, 1, 2, 3, 4, 5] _ _ _ _ _ (ihB (k + 1) _ _ _ _ _ (by omega) (nI_add k 1) (Or.inl rfl) hnow (by omega) (fun h => absurd rfl h) (by omega))
          · exact hW [0, 1, 2, 3, 4, 5, 6] _ _ _ _ _ (hC276 _ _ _ _ _ hnow (by omega) (by omega))
      have hC230 : ∀ (a3 a4 a6 a7 sv : Int32) (g2 u2 : Nat), (a3 = nI 0 ∨ a3 = nI 1) → 0 ≤ sv → z0 + 48 * (k / 15) ≤ g2 → u2 ≤ 24 + 3110 * k + 2 → V 230 [(0, .ref 2), (1, .ref 0), (2, .ref 1), (3, .int a3), (4, .int a4), (5, .int (nI k)), (6, .int a6), (7, .int a7)] [.int sv] g2 u2 := by
        intro a3 a4 a6 a7 sv g2 u2 ha3 hs hg2 hu2
        refine hV [21, 135, 230, 258, 276, 294, 315] 199 230 _ _ _ _ ?_
        refine ⟨fun h11 => ?_, fun h11 => ?_⟩
        · exact hW [0, 1, 2, 3, 4, 5] _ _ _ _ _ (ihB (k + 1) _ _ _ _ _ (by omega) (nI_add k 1) (Or.inl rfl) hs (by omega) (fun h => absurd rfl h) (by omega))
        · refine ⟨by decide, ?_⟩
          refine ⟨fun h12 => ?_, fun h12 => ?_⟩
          · exact hW [0, 1, 2, 3, 4, 5, 6] _ _ _ _ _ (hC258 _ _ _ _ _ hs (by have := y_k15 hk150 h12; omega) (by omega))
          · refine ⟨by omega, fun x13 g13 f13 => ?_⟩
            obtain ⟨e13, -, d13⟩ := f13
            refine ⟨fun h14 => ?_, fun h14 => ?_⟩
            · exact hW [0, 1, 2, 3, 4, 5] _ _ _ _ _ (ihB (k + 1) _ _ _ _ _ (by omega) (nI_add k 1) (Or.inl rfl) hs (by omega) (fun h => absurd rfl h) (by omega))
            · exact hW [0, 1, 2, 3, 4, 5, 6] _ _ _ _ _ (hC258 _ _ _ _ _ hs (by have := d13 (y_nn h14); omega) (by omega))
      refine hV [21, 135, 230, 258, 276, 294, 315] 199 135 _ _ _ _ ?_
      refine ⟨fun h1 => (y_lft (by decide) hltk h1).elim, fun _ => ?_⟩
      refine ⟨fun h1 => ?_, fun h2 => ?_⟩
      · refine ⟨fun _ => ?_, fun h => absurd h1 h⟩
        exact ⟨rfl, by omega, fun e => absurd e y_01ne⟩
      · have hgr9 := hgr (y_nn h2)
        refine ⟨by decide, ?_⟩
        refine ⟨by omega, ⟨_, by omega, y_c60 hk150⟩, fun x11 => ?_⟩
        refine ⟨by decide, ?_⟩
        refine ⟨by omega, rfl, hnow, fun x12 g12 e12 => ?_⟩
        refine ⟨fun h13 => ?_, fun h13 => ?_⟩
        · refine ⟨by omega, by decide, fun x14 => ?_⟩
          refine ⟨fun h15 => ?_, fun h15 => ?_⟩
          · exact hW [0, 1, 2, 3, 4, 5, 6, 7] _ _ _ _ _ (hC230 _ _ _ _ _ _ _ (Or.inr rfl) hnow (by omega) (by omega))
          · refine ⟨fun h16 => ?_, fun h16 => ?_⟩
            · exact hW [0, 1, 2, 3, 4, 5, 6, 7] _ _ _ _ _ (hC230 _ _ _ _ _ _ _ (Or.inr rfl) hnow (by omega) (by omega))
            · exact hW [0, 1, 2, 3, 4, 5, 6, 7] _ _ _ _ _ (hC230 _ _ _ _ _ _ _ (Or.inr rfl) (y_pos h16) (by omega) (by omega))
        · refine ⟨by omega, rfl, hnow, fun x17 g17 e17 => ?_⟩
          refine ⟨fun h18 => ?_, fun h18 => ?_⟩
          · refine ⟨by omega, by decide, fun x19 => ?_⟩
            refine ⟨fun h20 => ?_, fun h20 => ?_⟩
            · exact hW [0, 1, 2, 3, 4, 5, 6, 7] _ _ _ _ _ (hC230 _ _ _ _ _ _ _ (Or.inl rfl) hnow (by omega) (by omega))
            · refine ⟨fun h21 => ?_, fun h21 => ?_⟩
              · exact hW [0, 1, 2, 3, 4, 5, 6, 7] _ _ _ _ _ (hC230 _ _ _ _ _ _ _ (Or.inl rfl) hnow (by omega) (by omega))
              · exact hW [0, 1, 2, 3, 4, 5, 6, 7] _ _ _ _ _ (hC230 _ _ _ _ _ _ _ (Or.inl rfl) (y_pos h21) (by omega) (by omega))
          · refine ⟨by omega, by decide, fun x22 => ?_⟩
            refine ⟨fun h23 => ?_, fun h23 => ?_⟩
            · exact hW [0, 1, 2, 3, 4, 5, 6, 7] _ _ _ _ _ (hC230 _ _ _ _ _ _ _ (Or.inr rfl) hnow (by omega) (by omega))
            · refine ⟨fun h24 => ?_, fun h24 => ?_⟩
              · exact hW [0, 1, 2, 3, 4, 5, 6, 7] _ _ _ _ _ (hC230 _ _ _ _ _ _ _ (Or.inr rfl) hnow (by omega) (by omega))
              · exact hW [0, 1, 2, 3, 4, 5, 6, 7] _ _ _ _ _ (hC230 _ _ _ _ _ _ _ (Or.inr rfl) (y_pos h24) (by omega) (by omega))
  have hA : ∀ (j2 k2 : Nat) (a3 : Int32) (x2 : Int32) (g1 u1 : Nat), k2 + j2 = 4 → x2 = nI k2 → (a3 = nI 0 ∨ a3 = nI 1) → z0 ≤ g1 → u1 ≤ 6 * k2 → V 21 [(0, .ref 2), (1, .ref 0), (2, .ref 1), (3, .int a3), (4, .int x2)] [] g1 u1 := by
    intro j2
    induction j2 with
    | zero =>
      intro k2 a3 x2 g1 u1 hkk2 hxk2 ha3 hg1 hu1
      subst hxk2
      have hzk2 : k2 = 4 := by omega
      subst hzk2
      refine hV [21, 135, 230, 258, 276, 294, 315] 199 21 _ _ _ _ ?_
      refine ⟨fun h1 => ?_, fun h1 => absurd (by decide) h1⟩
      exact hW [0, 1, 2, 3, 4, 5] _ _ _ _ _ (hB 150 0 _ _ _ _ _ (by omega) rfl ha3 (by decide) (by omega) (fun _ => by omega) (by omega))
    | succ j2 ihA =>
      intro k2 a3 x2 g1 u1 hkk2 hxk2 ha3 hg1 hu1
      subst hxk2
      have hltk2 : k2 < 4 := by omega
      refine hV [21, 135, 230, 258, 276, 294, 315] 199 21 _ _ _ _ ?_
      refine ⟨fun h1 => (y_lft (by decide) hltk2 h1).elim, fun _ => ?_⟩
      refine ⟨fun h1 => ?_, fun h1 => ?_⟩
      · exact hW [0, 1, 2, 3, 4, 5] _ _ _ _ _ (hB 150 0 _ _ _ _ _ (by omega) rfl ha3 (by decide) (by omega) (fun _ => by omega) (by omega))
      · refine ⟨by omega, ⟨0, by decide, rfl⟩, fun x11 => ?_⟩
        refine ⟨by omega, by decide, fun x12 => ?_⟩
        refine ⟨by omega, rfl, rfl, rfl, fun v9 h13 => ?_, fun E hE => ?_⟩
        rotate_left
        · exact trivial
        obtain ⟨x13, rfl⟩ := h13
        refine ⟨fun h14 => ?_, fun h14 => ?_⟩
        · exact hW [0, 1, 2, 3, 4] _ _ _ _ _ (ihA (k2 + 1) _ _ _ _ (by omega) (nI_add k2 1) (Or.inl rfl) (by omega) (by omega))
        · refine ⟨by omega, rfl, rfl, rfl, fun v9 h15 => ?_, fun E hE => ?_⟩
          rotate_left
          · exact trivial
          obtain ⟨x15, rfl⟩ := h15
          refine ⟨fun h16 => ?_, fun h16 => ?_⟩
          · exact hW [0, 1, 2, 3, 4] _ _ _ _ _ (ihA (k2 + 1) _ _ _ _ (by omega) (nI_add k2 1) (Or.inl rfl) (by omega) (by omega))
          · refine ⟨by omega, rfl, rfl, rfl, fun v9 h17 => ?_, fun E hE => ?_⟩
            rotate_left
            · exact trivial
            obtain ⟨x17, rfl⟩ := h17
            refine ⟨fun h18 => ?_, fun h18 => ?_⟩
            · exact hW [0, 1, 2, 3, 4] _ _ _ _ _ (ihA (k2 + 1) _ _ _ _ (by omega) (nI_add k2 1) (Or.inl rfl) (by omega) (by omega))
            · refine ⟨by omega, rfl, rfl, rfl, fun v9 h19 => ?_, fun E hE => ?_⟩
              rotate_left
              · exact trivial
              obtain ⟨x19, rfl⟩ := h19
              refine ⟨fun h20 => ?_, fun h20 => ?_⟩
              · exact hW [0, 1, 2, 3, 4] _ _ _ _ _ (ihA (k2 + 1) _ _ _ _ (by omega) (nI_add k2 1) (Or.inl rfl) (by omega) (by omega))
              · refine ⟨by omega, rfl, rfl, rfl, fun v9 h21 => ?_, fun E hE => ?_⟩
                rotate_left
                · exact trivial
                obtain ⟨x21, rfl⟩ := h21
                refine ⟨fun h22 => ?_, fun h22 => ?_⟩
                · exact hW [0, 1, 2, 3, 4] _ _ _ _ _ (ihA (k2 + 1) _ _ _ _ (by omega) (nI_add k2 1) (Or.inl rfl) (by omega) (by omega))
                · refine ⟨by omega, rfl, rfl, rfl, fun v9 h23 => ?_, fun E hE => ?_⟩
                  rotate_left
                  · exact trivial
                  obtain ⟨x23, rfl⟩ := h23
                  refine ⟨fun h24 => ?_, fun h24 => ?_⟩
                  · exact hW [0, 1, 2, 3, 4] _ _ _ _ _ (ihA (k2 + 1) _ _ _ _ (by omega) (nI_add k2 1) (Or.inl rfl) (by omega) (by omega))
                  · exact hW [0, 1, 2, 3, 4] _ _ _ _ _ (ihA (k2 + 1) _ _ _ _ (by omega) (nI_add k2 1) (Or.inr rfl) (by omega) (by omega))
  refine hV [21, 135, 230, 258, 276, 294, 315] 199 16 _ _ _ _ ?_
  exact hW [0, 1, 2, 3, 4] _ _ _ _ _ (hA 4 0 _ _ _ _ (by omega) rfl (Or.inr rfl) (Nat.le_refl _) (by omega))
