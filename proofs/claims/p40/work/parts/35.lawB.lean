/-! the law's own methods with handlers -/
/-- where a question of the law's is refused for sure -/
def y_fc (how a : Int32) : Prop := how = nI 5 ∧ nI 6 ≤ a ∨ how = nI 21 ∧ nI 12 ≤ a ∨ how = nI 28 ∧ nI 12 ≤ a
def y_fd (how a r : Int32) (g g' : Nat) : Prop := g ≤ g' ∧ (y_fc how a → r = nI 2194967296 ∧ g + 1 ≤ g')
theorem y_nfc_eq {how a : Int32} {c : Nat} (h : how = nI c) (h5 : nI c ≠ nI 5) (h21 : nI c ≠ nI 21) (h28 : nI c ≠ nI 28) : ¬ y_fc how a := by
  rintro (⟨e, -⟩ | ⟨e, -⟩ | ⟨e, -⟩)
  · exact h5 (h.symm.trans e)
  · exact h21 (h.symm.trans e)
  · exact h28 (h.symm.trans e)
theorem y_nfc_21 {how a : Int32} (h : how = nI 21) (hn : ¬ nI 12 ≤ a) : ¬ y_fc how a := by
  rintro (⟨e, -⟩ | ⟨e, e2⟩ | ⟨e, -⟩)
  · exact absurd (h.symm.trans e) (by decide)
  · exact hn e2
  · exact absurd (h.symm.trans e) (by decide)
theorem y_nfc_28 {how a : Int32} (h : how = nI 28) (hn : ¬ nI 12 ≤ a) : ¬ y_fc how a := by
  rintro (⟨e, -⟩ | ⟨e, -⟩ | ⟨e, e2⟩)
  · exact absurd (h.symm.trans e) (by decide)
  · exact absurd (h.symm.trans e) (by decide)
  · exact hn e2
theorem y_nfc_lt {how a : Int32} (h : ¬ nI 16 ≤ how) (hf : y_f5 how a) : ¬ y_fc how a := by
  rintro (⟨e, e2⟩ | ⟨e, -⟩ | ⟨e, -⟩)
  · exact hf e e2
  · exact h (by rw [e]; decide)
  · exact h (by rw [e]; decide)
theorem y_nfc_no {how a : Int32} (h : nI 16 ≤ how) (h21 : ¬ how = nI 21) (h28 : ¬ how = nI 28) : ¬ y_fc how a := by
  rintro (⟨e, -⟩ | ⟨e, -⟩ | ⟨e, -⟩)
  · rw [e] at h
    exact absurd h (by decide)
  · exact h21 e
  · exact h28 e
def sx_does : y_SX := fun as g k kx => match as with
  | [.ref o, .int how, .int a, .int _, .int _] => Nat.blt o 2 = true ∧ ∀ (r : Int32) (g' : Nat), y_fd how a r g g' → k (some (.int r)) g'
  | _ => False
def CL_does : List (Nat × Instr × Nat × Nat) := [(0, .iload_n 1, 1, 0), (1, .bipush 16, 3, 0), (3, .if_icmp .ge 15, 6, 18), (6, .aload_n 0, 7, 0), (7, .iload_n 1, 8, 0), (8, .iload_n 2, 9, 0), (9, .iload_n 3, 10, 0), (10, .iload 4, 12, 0), (12, .invokestatic 8, 15, 0), (15, .goto 237, 18, 252), (18, .iload_n 1, 19, 0), (19, .bipush 16, 21, 0), (21, .if_icmp .ne 14, 24, 35), (24, .aload_n 0, 25, 0), (25, .iload_n 2, 26, 0), (26, .iload_n 3, 27, 0), (27, .iload 4, 29, 0), (29, .invokevirtual 14, 32, 0), (32, .goto 220, 35, 252), (35, .iload_n 1, 36, 0), (36, .bipush 17, 38, 0), (38, .if_icmp .ne 23, 41, 61), (41, .aload_n 0, 42, 0), (42, .iload_n 2, 43, 0), (43, .iload_n 3, 44, 0), (44, .iload 4, 46, 0), (46, .iconst 1, 47, 0), (47, .if_icmp .ne 7, 50, 54), (50, .iconst 1, 51, 0), (51, .goto 4, 54, 55), (54, .iconst 0, 55, 0), (55, .invokestatic 20, 58, 0), (58, .goto 194, 61, 252), (61, .iload_n 1, 62, 0), (62, .bipush 18, 64, 0), (64, .if_icmp .ne 11, 67, 75), (67, .aload_n 0, 68, 0), (68, .iload_n 2, 69, 0), (69, .invokevirtual 24, 72, 0), (72, .goto 180, 75, 252), (75, .iload_n 1, 76, 0), (76, .bipush 19, 78, 0), (78, .if_icmp .ne 11, 81, 89), (81, .aload_n 0, 82, 0), (82, .iload_n 2, 83, 0), (83, .invokevirtual 28, 86, 0), (86, .goto 166, 89, 252), (89, .iload_n 1, 90, 0), (90, .bipush 20, 92, 0), (92, .if_icmp .ne 11, 95, 103), (95, .aload_n 0, 96, 0), (96, .iload_n 2, 97, 0), (97, .invokevirtual 31, 100, 0), (100, .goto 152, 103, 252), (103, .iload_n 1, 104, 0), (104, .bipush 21, 106, 0), (106, .if_icmp .ne 12, 109, 118), (109, .aload_n 0, 110, 0), (110, .iload_n 2, 111, 0), (111, .iload_n 3, 112, 0), (112, .invokevirtual 34, 115, 0), (115, .goto 137, 118, 252), (118, .iload_n 1, 119, 0), (119, .bipush 22, 121, 0), (121, .if_icmp .ne 11, 124, 132), (124, .aload_n 0, 125, 0), (125, .iload_n 2, 126, 0), (126, .invokevirtual 38, 129, 0), (129, .goto 123, 132, 252), (132, .iload_n 1, 133, 0), (133, .bipush 23, 135, 0), (135, .if_icmp .ne 14, 138, 149), (138, .aload_n 0, 139, 0), (139, .iload_n 2, 140, 0), (140, .iload_n 3, 141, 0), (141, .iload 4, 143, 0), (143, .invokevirtual 41, 146, 0), (146, .goto 106, 149, 252), (149, .iload_n 1, 150, 0), (150, .bipush 24, 152, 0), (152, .if_icmp .ne 12, 155, 164), (155, .aload_n 0, 156, 0), (156, .iload_n 2, 157, 0), (157, .iload_n 3, 158, 0), (158, .invokevirtual 44, 161, 0), (161, .goto 91, 164, 252), (164, .iload_n 1, 165, 0), (165, .bipush 25, 167, 0), (167, .if_icmp .ne 12, 170, 179), (170, .aload_n 0, 171, 0), (171, .iload_n 2, 172, 0), (172, .iload_n 3, 173, 0), (173, .invokestatic 47, 176, 0), (176, .goto 76, 179, 252), (179, .iload_n 1, 180, 0), (180, .bipush 26, 182, 0), (182, .if_icmp .ne 21, 185, 203), (185, .aload_n 0, 186, 0), (186, .iload_n 2, 187, 0), (187, .iload_n 3, 188, 0), (188, .iconst 1, 189, 0), (189, .if_icmp .ne 7, 192, 196), (192, .iconst 1, 193, 0), (193, .goto 4, 196, 197), (196, .iconst 0, 197, 0), (197, .invokevirtual 51, 200, 0), (200, .goto 52, 203, 252), (203, .iload_n 1, 204, 0), (204, .bipush 27, 206, 0), (206, .if_icmp .ne 11, 209, 217), (209, .aload_n 0, 210, 0), (210, .iload_n 2, 211, 0), (211, .invokevirtual 55, 214, 0), (214, .goto 38, 217, 252), (217, .iload_n 1, 218, 0), (218, .bipush 28, 220, 0), (220, .if_icmp .ne 12, 223, 232), (223, .aload_n 0, 224, 0), (224, .iload_n 2, 225, 0), (225, .iload_n 3, 226, 0), (226, .invokevirtual 58, 229, 0), (229, .goto 23, 232, 252), (232, .iload_n 1, 233, 0), (233, .bipush 29, 235, 0), (235, .if_icmp .ne 12, 238, 247), (238, .aload_n 0, 239, 0), (239, .iload_n 2, 240, 0), (240, .iload_n 3, 241, 0), (241, .invokevirtual 61, 244, 0), (244, .goto 8, 247, 252), (247, .aload_n 0, 248, 0), (248, .iload_n 2, 249, 0), (249, .invokevirtual 64, 252, 0), (252, .ireturn, 253, 0), (255, .ldc 69, 257, 0), (257, .ireturn, 258, 0), (260, .ldc 69, 262, 0), (262, .ireturn, 263, 0), (265, .ldc 69, 267, 0), (267, .ireturn, 268, 0)]
def GL_does (kx : String → Nat → Nat → Prop) : y_G := (CL_does, [(14, 4, y_cs 1 1 (y_vs 3 y_ri ["java/lang/IndexOutOfBoundsException", "java/lang/IllegalArgumentException", "java/lang/IllegalStateException"]) kx), (24, 2, y_cs 1 1 (y_vs 1 y_ri ["java/lang/IndexOutOfBoundsException", "java/lang/IllegalStateException"]) kx), (28, 2, y_cs 1 1 (y_vs 1 y_ri ["java/lang/IndexOutOfBoundsException", "java/lang/IllegalStateException"]) kx), (31, 2, y_cs 1 1 (y_vs 1 y_ri ["java/lang/IndexOutOfBoundsException", "java/lang/IllegalStateException"]) kx), (34, 3, y_cs 1 1 (y_vs 2 (y_rn 12) ["java/lang/IndexOutOfBoundsException", "java/lang/IllegalArgumentException"]) kx), (38, 2, y_cs 1 1 (y_vs 1 y_ri ["java/lang/IndexOutOfBoundsException"]) kx), (41, 4, y_cs 1 1 (y_vs 3 y_ri ["java/lang/IndexOutOfBoundsException"]) kx), (44, 3, y_cs 1 1 (y_vs 2 y_ri ["java/lang/IndexOutOfBoundsException", "java/lang/IllegalStateException"]) kx), (51, 3, y_cs 1 1 (y_vs 2 y_ri ["java/lang/IndexOutOfBoundsException", "java/lang/IllegalStateException"]) kx), (55, 2, y_cs 1 1 (y_vs 1 y_ri ["java/lang/IndexOutOfBoundsException", "java/lang/IllegalStateException"]) kx), (58, 3, y_cs 1 1 (y_vs 2 (y_rn 12) ["java/lang/IndexOutOfBoundsException", "java/lang/IllegalArgumentException"]) kx), (61, 3, y_cs 1 1 (y_vs 2 y_ri ["java/lang/IndexOutOfBoundsException", "java/lang/IllegalArgumentException"]) kx), (64, 2, y_cs 1 1 (y_vs 1 y_ri ["java/lang/IllegalArgumentException", "java/lang/IllegalStateException"]) kx), (100008, 5, y_cs 1 1 sx_early kx), (100020, 4, y_cs 1 1 sx_votes kx), (100047, 3, y_cs 1 1 sx_objects kx)], [(69, 2194967296)], [], some .int)
def hh_does : List (Nat × Nat × Nat × Nat) := [(0, 252, 253, 67), (0, 252, 258, 70), (0, 252, 263, 72)]
def hs_does : List y_HS := [("java/lang/IndexOutOfBoundsException", 253, .astore 5, 2), ("java/lang/IllegalArgumentException", 258, .astore 5, 2), ("java/lang/IllegalStateException", 263, .astore 5, 2)]
set_option maxRecDepth 20000 in
theorem kc_does : y_kC yL_does cL_does 6 (some .int) hh_does 5 = true := y_kC_mk (z_mT 20 (by decide +kernel) rfl) (z_mT 482 rfl rfl) (by decide) (by decide +kernel)
set_option maxRecDepth 20000 in
set_option maxHeartbeats 8000000 in
theorem cy_does (l : Launch) (h9 : l.stackTraces = false) : y_CX l yL_does cL_does 6 (some .int) (some hh_does) sx_does 8 216 1 := by
  refine y_CX_ofH (GL_does) hs_does 252 (by decide) (fun _ => y_cok_of (code := CL_does) rfl (by decide +kernel)) (fun _ => y_pok_of (c1 := [(69, 2194967296)]) (c2 := []) co_L lo_L rfl rfl (by decide +kernel)) (fun _ => rfl) (by decide +kernel) ?_ (fun kx => List.forall_mem_cons.mpr ⟨⟨1, (y_vs 3 y_ri ["java/lang/IndexOutOfBoundsException", "java/lang/IllegalArgumentException", "java/lang/IllegalStateException"]), rfl, y_coV (ct_X6_claim l h9) wk_claim kb_X6_claim kv_L_14 ko_X6 (Nat.le_of_ble_eq_true rfl) (by decide) (by decide)⟩, List.forall_mem_cons.mpr ⟨⟨1, (y_vs 1 y_ri ["java/lang/IndexOutOfBoundsException", "java/lang/IllegalStateException"]), rfl, y_coV (ct_X6_register l h9) wk_register kb_X6_register kv_L_24 ko_X6 (Nat.le_of_ble_eq_true rfl) (by decide) (by decide)⟩, List.forall_mem_cons.mpr ⟨⟨1, (y_vs 1 y_ri ["java/lang/IndexOutOfBoundsException", "java/lang/IllegalStateException"]), rfl, y_coV (ct_X6_determine l h9) wk_determine kb_X6_determine kv_L_28 ko_X6 (Nat.le_of_ble_eq_true rfl) (by decide) (by decide)⟩, List.forall_mem_cons.mpr ⟨⟨1, (y_vs 1 y_ri ["java/lang/IndexOutOfBoundsException", "java/lang/IllegalStateException"]), rfl, y_coV (ct_X6_revise l h9) wk_revise kb_X6_revise kv_L_31 ko_X6 (Nat.le_of_ble_eq_true rfl) (by decide) (by decide)⟩, List.forall_mem_cons.mpr ⟨⟨1, (y_vs 2 (y_rn 12) ["java/lang/IndexOutOfBoundsException", "java/lang/IllegalArgumentException"]), rfl, y_coV (ct_X6_ofClaim l h9) wk_ofClaim kb_X6_ofClaim kv_L_34 ko_X6 (Nat.le_of_ble_eq_true rfl) (by decide) (by decide)⟩, List.forall_mem_cons.mpr ⟨⟨1, (y_vs 1 y_ri ["java/lang/IndexOutOfBoundsException"]), rfl, y_coV (ct_X6_holders l h9) wk_holders kb_X6_holders kv_L_38 ko_X6 (Nat.le_of_ble_eq_true rfl) (by decide) (by decide)⟩, List.forall_mem_cons.mpr ⟨⟨1, (y_vs 3 y_ri ["java/lang/IndexOutOfBoundsException"]), rfl, y_coV (ct_X6_may l h9) wk_may kb_X6_may kv_L_41 ko_X6 (Nat.le_of_ble_eq_true rfl) (by decide) (by decide)⟩, List.forall_mem_cons.mpr ⟨⟨1, (y_vs 2 y_ri ["java/lang/IndexOutOfBoundsException", "java/lang/IllegalStateException"]), rfl, y_coV (ct_X6_agree l h9) wk_agree kb_X6_agree kv_L_44 ko_X6 (Nat.le_of_ble_eq_true rfl) (by decide) (by decide)⟩, List.forall_mem_cons.mpr ⟨⟨1, (y_vs 2 y_ri ["java/lang/IndexOutOfBoundsException", "java/lang/IllegalStateException"]), rfl, y_coV (ct_X6_decide l h9) wk_decide kb_X6_decide kv_L_51 ko_X6 (Nat.le_of_ble_eq_true rfl) (by decide) (by decide)⟩, List.forall_mem_cons.mpr ⟨⟨1, (y_vs 1 y_ri ["java/lang/IndexOutOfBoundsException", "java/lang/IllegalStateException"]), rfl, y_coV (ct_X6_proceed l h9) wk_proceed kb_X6_proceed kv_L_55 ko_X6 (Nat.le_of_ble_eq_true rfl) (by decide) (by decide)⟩, List.forall_mem_cons.mpr ⟨⟨1, (y_vs 2 (y_rn 12) ["java/lang/IndexOutOfBoundsException", "java/lang/IllegalArgumentException"]), rfl, y_coV (ct_X6_ofNotice l h9) wk_ofNotice kb_X6_ofNotice kv_L_58 ko_X6 (Nat.le_of_ble_eq_true rfl) (by decide) (by decide)⟩, List.forall_mem_cons.mpr ⟨⟨1, (y_vs 2 y_ri ["java/lang/IndexOutOfBoundsException", "java/lang/IllegalArgumentException"]), rfl, y_coV (ct_X6_value l h9) wk_value kb_X6_value kv_L_61 ko_X6 (Nat.le_of_ble_eq_true rfl) (by decide) (by decide)⟩, List.forall_mem_cons.mpr ⟨⟨1, (y_vs 1 y_ri ["java/lang/IllegalArgumentException", "java/lang/IllegalStateException"]), rfl, y_coV (ct_X6_pass l h9) wk_pass kb_X6_pass kv_L_64 ko_X6 (Nat.le_of_ble_eq_true rfl) (by decide) (by decide)⟩, List.forall_mem_cons.mpr ⟨⟨1, sx_early, rfl, y_coS (cy_early l h9) kb_L_early ks_L_8 (by decide) (by decide)⟩, List.forall_mem_cons.mpr ⟨⟨1, sx_votes, rfl, y_coS (cy_votes l h9) kb_L_votes ks_L_20 (by decide) (by decide)⟩, List.forall_mem_cons.mpr ⟨⟨1, sx_objects, rfl, y_coS (cy_objects l h9) kb_L_objects ks_L_47 (by decide) (by decide)⟩, fun _ h => absurd h List.not_mem_nil⟩⟩⟩⟩⟩⟩⟩⟩⟩⟩⟩⟩⟩⟩⟩⟩) ?_
  · intro as g Po Px h
    unfold sx_does at h
    split at h
    · exact Nat.le_of_ble_eq_true rfl
    · exact h.elim
  · intro as g Po Px h V hV hW
    unfold sx_does at h
    split at h
    · rename_i o how a b c
      obtain ⟨ho, hpo⟩ := h
      have hX : ∀ E ∈ ["java/lang/IndexOutOfBoundsException", "java/lang/IllegalArgumentException", "java/lang/IllegalStateException"], ∀ g' u' : Nat, g + 1 ≤ g' → u' ≤ 1 → y_kh hs_does V E g' u' := by
        intro E hE g' u' hg9 hu9
        simp only [List.mem_cons, List.not_mem_nil, or_false] at hE
        rcases hE with rfl | rfl | rfl
        · refine ⟨_, List.mem_cons_self, rfl, ?_⟩
          refine hV [] 5 _ _ _ _ _ ?_
          exact ⟨hu9, hpo _ _ ⟨by omega, fun _ => ⟨rfl, by omega⟩⟩⟩
        · refine ⟨_, List.mem_cons_of_mem _ (List.mem_cons_self), rfl, ?_⟩
          refine hV [] 5 _ _ _ _ _ ?_
          exact ⟨hu9, hpo _ _ ⟨by omega, fun _ => ⟨rfl, by omega⟩⟩⟩
        · refine ⟨_, List.mem_cons_of_mem _ (List.mem_cons_of_mem _ (List.mem_cons_self)), rfl, ?_⟩
          refine hV [] 5 _ _ _ _ _ ?_
          exact ⟨hu9, hpo _ _ ⟨by omega, fun _ => ⟨rfl, by omega⟩⟩⟩
      refine hV [] 148 0 _ _ _ _ ?_
      refine ⟨fun h1 => ?_, fun h1 => ?_⟩
      · refine ⟨fun h2 => ?_, fun h2 => ?_⟩
        · refine ⟨fun h3 => ?_, fun h3 => ?_⟩
          · refine ⟨fun h4 => ?_, fun h4 => ?_⟩
            · refine ⟨fun h5 => ?_, fun h5 => ?_⟩
              · refine ⟨fun h6 => ?_, fun h6 => ?_⟩
                · refine ⟨fun h7 => ?_, fun h7 => ?_⟩
                  · refine ⟨fun h8 => ?_, fun h8 => ?_⟩
                    · refine ⟨fun h9 => ?_, fun h9 => ?_⟩
                      · refine ⟨fun h10 => ?_, fun h10 => ?_⟩
                        · refine ⟨fun h11 => ?_, fun h11 => ?_⟩
                          · refine ⟨fun h12 => ?_, fun h12 => ?_⟩
                            · refine ⟨fun h13 => ?_, fun h13 => ?_⟩
                              · refine ⟨fun h14 => ?_, fun h14 => ?_⟩
                                · refine ⟨fun h15 => ?_, fun h15 => ?_⟩
                                  · refine ⟨by decide, ho, rfl, rfl, fun v9 h16 => ?_, fun E hE => ?_⟩
                                    rotate_left
                                    · exact hX E ((by decide +kernel : ∀ E ∈ ["java/lang/IllegalArgumentException", "java/lang/IllegalStateException"], E ∈ (["java/lang/IndexOutOfBoundsException", "java/lang/IllegalArgumentException", "java/lang/IllegalStateException"] : List String)) E hE) _ _ (Nat.le_refl _) (Nat.le_refl _)
                                    obtain ⟨x16, rfl⟩ := h16
                                    exact ⟨by decide, hpo _ _ ⟨Nat.le_refl _, fun hc => absurd hc (y_nfc_no h1 h7 h14)⟩⟩
                                  · refine ⟨by decide, ho, rfl, rfl, fun v9 h17 => ?_, fun E hE => ?_⟩
                                    rotate_left
                                    · exact hX E ((by decide +kernel : ∀ E ∈ ["java/lang/IndexOutOfBoundsException", "java/lang/IllegalArgumentException"], E ∈ (["java/lang/IndexOutOfBoundsException", "java/lang/IllegalArgumentException", "java/lang/IllegalStateException"] : List String)) E hE) _ _ (Nat.le_refl _) (Nat.le_refl _)
                                    obtain ⟨x17, rfl⟩ := h17
                                    exact ⟨by decide, hpo _ _ ⟨Nat.le_refl _, fun hc => absurd hc (y_nfc_eq h15 (by decide) (by decide) (by decide))⟩⟩
                                · refine ⟨by decide, ho, rfl, rfl, fun v9 h18 => ?_, fun E hE => ?_⟩
                                  rotate_left
                                  · exact hX E ((by decide +kernel : ∀ E ∈ ["java/lang/IndexOutOfBoundsException", "java/lang/IllegalArgumentException"], E ∈ (["java/lang/IndexOutOfBoundsException", "java/lang/IllegalArgumentException", "java/lang/IllegalStateException"] : List String)) E hE) _ _ (Nat.le_refl _) (Nat.le_refl _)
                                  obtain ⟨⟨x18, rfl⟩, h18⟩ := h18
                                  exact ⟨by decide, hpo _ _ ⟨Nat.le_refl _, fun hc => absurd hc (y_nfc_28 h14 h18)⟩⟩
                              · refine ⟨by decide, ho, rfl, rfl, fun v9 h19 => ?_, fun E hE => ?_⟩
                                rotate_left
                                · exact hX E ((by decide +kernel : ∀ E ∈ ["java/lang/IndexOutOfBoundsException", "java/lang/IllegalStateException"], E ∈ (["java/lang/IndexOutOfBoundsException", "java/lang/IllegalArgumentException", "java/lang/IllegalStateException"] : List String)) E hE) _ _ (Nat.le_refl _) (Nat.le_refl _)
                                obtain ⟨x19, rfl⟩ := h19
                                exact ⟨by decide, hpo _ _ ⟨Nat.le_refl _, fun hc => absurd hc (y_nfc_eq h13 (by decide) (by decide) (by decide))⟩⟩
                            · refine ⟨fun h20 => ?_, fun h20 => ?_⟩
                              · refine ⟨by decide, ho, rfl, rfl, fun v9 h21 => ?_, fun E hE => ?_⟩
                                rotate_left
                                · exact hX E ((by decide +kernel : ∀ E ∈ ["java/lang/IndexOutOfBoundsException", "java/lang/IllegalStateException"], E ∈ (["java/lang/IndexOutOfBoundsException", "java/lang/IllegalArgumentException", "java/lang/IllegalStateException"] : List String)) E hE) _ _ (Nat.le_refl _) (Nat.le_refl _)
                                obtain ⟨x21, rfl⟩ := h21
                                exact ⟨by decide, hpo _ _ ⟨Nat.le_refl _, fun hc => absurd hc (y_nfc_eq h12 (by decide) (by decide) (by decide))⟩⟩
                              · refine ⟨by decide, ho, rfl, rfl, fun v9 h22 => ?_, fun E hE => ?_⟩
                                rotate_left
                                · exact hX E ((by decide +kernel : ∀ E ∈ ["java/lang/IndexOutOfBoundsException", "java/lang/IllegalStateException"], E ∈ (["java/lang/IndexOutOfBoundsException", "java/lang/IllegalArgumentException", "java/lang/IllegalStateException"] : List String)) E hE) _ _ (Nat.le_refl _) (Nat.le_refl _)
                                obtain ⟨x22, rfl⟩ := h22
                                exact ⟨by decide, hpo _ _ ⟨Nat.le_refl _, fun hc => absurd hc (y_nfc_eq h12 (by decide) (by decide) (by decide))⟩⟩
                          · refine ⟨by decide, ho, fun x23 => ?_, fun E hE => ?_⟩
                            rotate_left
                            · exact hX E ((by decide +kernel : ∀ E ∈ z_cas, E ∈ (["java/lang/IndexOutOfBoundsException", "java/lang/IllegalArgumentException", "java/lang/IllegalStateException"] : List String)) E hE) _ _ (Nat.le_refl _) (Nat.le_refl _)
                            exact ⟨by decide, hpo _ _ ⟨Nat.le_refl _, fun hc => absurd hc (y_nfc_eq h11 (by decide) (by decide) (by decide))⟩⟩
                        · refine ⟨by decide, ho, rfl, rfl, fun v9 h24 => ?_, fun E hE => ?_⟩
                          rotate_left
                          · exact hX E ((by decide +kernel : ∀ E ∈ ["java/lang/IndexOutOfBoundsException", "java/lang/IllegalStateException"], E ∈ (["java/lang/IndexOutOfBoundsException", "java/lang/IllegalArgumentException", "java/lang/IllegalStateException"] : List String)) E hE) _ _ (Nat.le_refl _) (Nat.le_refl _)
                          obtain ⟨x24, rfl⟩ := h24
                          exact ⟨by decide, hpo _ _ ⟨Nat.le_refl _, fun hc => absurd hc (y_nfc_eq h10 (by decide) (by decide) (by decide))⟩⟩
                      · refine ⟨by decide, ho, rfl, rfl, fun v9 h25 => ?_, fun E hE => ?_⟩
                        rotate_left
                        · exact hX E ((by decide +kernel : ∀ E ∈ ["java/lang/IndexOutOfBoundsException"], E ∈ (["java/lang/IndexOutOfBoundsException", "java/lang/IllegalArgumentException", "java/lang/IllegalStateException"] : List String)) E hE) _ _ (Nat.le_refl _) (Nat.le_refl _)
                        obtain ⟨x25, rfl⟩ := h25
                        exact ⟨by decide, hpo _ _ ⟨Nat.le_refl _, fun hc => absurd hc (y_nfc_eq h9 (by decide) (by decide) (by decide))⟩⟩
                    · refine ⟨by decide, ho, rfl, rfl, fun v9 h26 => ?_, fun E hE => ?_⟩
                      rotate_left
                      · exact hX E ((by decide +kernel : ∀ E ∈ ["java/lang/IndexOutOfBoundsException"], E ∈ (["java/lang/IndexOutOfBoundsException", "java/lang/IllegalArgumentException", "java/lang/IllegalStateException"] : List String)) E hE) _ _ (Nat.le_refl _) (Nat.le_refl _)
                      obtain ⟨x26, rfl⟩ := h26
                      exact ⟨by decide, hpo _ _ ⟨Nat.le_refl _, fun hc => absurd hc (y_nfc_eq h8 (by decide) (by decide) (by decide))⟩⟩
                  · refine ⟨by decide, ho, rfl, rfl, fun v9 h27 => ?_, fun E hE => ?_⟩
                    rotate_left
                    · exact hX E ((by decide +kernel : ∀ E ∈ ["java/lang/IndexOutOfBoundsException", "java/lang/IllegalArgumentException"], E ∈ (["java/lang/IndexOutOfBoundsException", "java/lang/IllegalArgumentException", "java/lang/IllegalStateException"] : List String)) E hE) _ _ (Nat.le_refl _) (Nat.le_refl _)
                    obtain ⟨⟨x27, rfl⟩, h27⟩ := h27
                    exact ⟨by decide, hpo _ _ ⟨Nat.le_refl _, fun hc => absurd hc (y_nfc_21 h7 h27)⟩⟩
                · refine ⟨by decide, ho, rfl, rfl, fun v9 h28 => ?_, fun E hE => ?_⟩
                  rotate_left
                  · exact hX E ((by decide +kernel : ∀ E ∈ ["java/lang/IndexOutOfBoundsException", "java/lang/IllegalStateException"], E ∈ (["java/lang/IndexOutOfBoundsException", "java/lang/IllegalArgumentException", "java/lang/IllegalStateException"] : List String)) E hE) _ _ (Nat.le_refl _) (Nat.le_refl _)
                  obtain ⟨x28, rfl⟩ := h28
                  exact ⟨by decide, hpo _ _ ⟨Nat.le_refl _, fun hc => absurd hc (y_nfc_eq h6 (by decide) (by decide) (by decide))⟩⟩
              · refine ⟨by decide, ho, rfl, rfl, fun v9 h29 => ?_, fun E hE => ?_⟩
                rotate_left
                · exact hX E ((by decide +kernel : ∀ E ∈ ["java/lang/IndexOutOfBoundsException", "java/lang/IllegalStateException"], E ∈ (["java/lang/IndexOutOfBoundsException", "java/lang/IllegalArgumentException", "java/lang/IllegalStateException"] : List String)) E hE) _ _ (Nat.le_refl _) (Nat.le_refl _)
                obtain ⟨x29, rfl⟩ := h29
                exact ⟨by decide, hpo _ _ ⟨Nat.le_refl _, fun hc => absurd hc (y_nfc_eq h5 (by decide) (by decide) (by decide))⟩⟩
            · refine ⟨by decide, ho, rfl, rfl, fun v9 h30 => ?_, fun E hE => ?_⟩
              rotate_left
              · exact hX E ((by decide +kernel : ∀ E ∈ ["java/lang/IndexOutOfBoundsException", "java/lang/IllegalStateException"], E ∈ (["java/lang/IndexOutOfBoundsException", "java/lang/IllegalArgumentException", "java/lang/IllegalStateException"] : List String)) E hE) _ _ (Nat.le_refl _) (Nat.le_refl _)
              obtain ⟨x30, rfl⟩ := h30
              exact ⟨by decide, hpo _ _ ⟨Nat.le_refl _, fun hc => absurd hc (y_nfc_eq h4 (by decide) (by decide) (by decide))⟩⟩
          · refine ⟨fun h31 => ?_, fun h31 => ?_⟩
            · refine ⟨by decide, ho, fun x32 => ?_, fun E hE => ?_⟩
              rotate_left
              · exact hX E ((by decide +kernel : ∀ E ∈ z_cas, E ∈ (["java/lang/IndexOutOfBoundsException", "java/lang/IllegalArgumentException", "java/lang/IllegalStateException"] : List String)) E hE) _ _ (Nat.le_refl _) (Nat.le_refl _)
              exact ⟨by decide, hpo _ _ ⟨Nat.le_refl _, fun hc => absurd hc (y_nfc_eq h3 (by decide) (by decide) (by decide))⟩⟩
            · refine ⟨by decide, ho, fun x33 => ?_, fun E hE => ?_⟩
              rotate_left
              · exact hX E ((by decide +kernel : ∀ E ∈ z_cas, E ∈ (["java/lang/IndexOutOfBoundsException", "java/lang/IllegalArgumentException", "java/lang/IllegalStateException"] : List String)) E hE) _ _ (Nat.le_refl _) (Nat.le_refl _)
              exact ⟨by decide, hpo _ _ ⟨Nat.le_refl _, fun hc => absurd hc (y_nfc_eq h3 (by decide) (by decide) (by decide))⟩⟩
        · refine ⟨by decide, ho, rfl, rfl, fun v9 h34 => ?_, fun E hE => ?_⟩
          rotate_left
          · exact hX E ((by decide +kernel : ∀ E ∈ ["java/lang/IndexOutOfBoundsException", "java/lang/IllegalArgumentException", "java/lang/IllegalStateException"], E ∈ (["java/lang/IndexOutOfBoundsException", "java/lang/IllegalArgumentException", "java/lang/IllegalStateException"] : List String)) E hE) _ _ (Nat.le_refl _) (Nat.le_refl _)
          obtain ⟨x34, rfl⟩ := h34
          exact ⟨by decide, hpo _ _ ⟨Nat.le_refl _, fun hc => absurd hc (y_nfc_eq h2 (by decide) (by decide) (by decide))⟩⟩
      · refine ⟨by decide, ho, fun x35 h35 => ?_, fun E hE => ?_⟩
        rotate_left
        · exact hX E ((by decide +kernel : ∀ E ∈ z_cas, E ∈ (["java/lang/IndexOutOfBoundsException", "java/lang/IllegalArgumentException", "java/lang/IllegalStateException"] : List String)) E hE) _ _ (Nat.le_refl _) (Nat.le_refl _)
        exact ⟨by decide, hpo _ _ ⟨Nat.le_refl _, fun hc => absurd hc (y_nfc_lt h1 h35)⟩⟩
    · exact h.elim
def sx_acted : y_SX := fun as g k kx => match as with
  | [.ref o, .int _, .int _, .int _, .int _, .int _] => Nat.blt o 2 = true ∧ ∀ (r : Int32) (g' : Nat), g ≤ g' → k (some (.int r)) g'
  | _ => False
def CL_acted : List (Nat × Instr × Nat × Nat) := [(0, .iload_n 1, 1, 0), (1, .ifCond .ge 9, 4, 10), (4, .iload_n 1, 5, 0), (5, .bipush (-2), 7, 0), (7, .if_icmp .ge 27, 10, 34), (10, .aload_n 0, 11, 0), (11, .iload_n 1, 12, 0), (12, .ifCond .ge 9, 15, 21), (15, .iload_n 1, 16, 0), (16, .iconst 2, 17, 0), (17, .iadd, 18, 0), (18, .goto 4, 21, 22), (21, .iload_n 1, 22, 0), (22, .iload_n 2, 23, 0), (23, .iload_n 3, 24, 0), (24, .iload 4, 26, 0), (26, .iload 5, 28, 0), (28, .invokevirtual 133, 31, 0), (31, .goto 24, 34, 55), (34, .aload_n 0, 35, 0), (35, .iload_n 2, 36, 0), (36, .iload_n 3, 37, 0), (37, .iload 4, 39, 0), (39, .iload 5, 41, 0), (41, .iload_n 1, 42, 0), (42, .bipush (-2), 44, 0), (44, .if_icmp .ne 7, 47, 51), (47, .iconst 1, 48, 0), (48, .goto 4, 51, 52), (51, .iconst 0, 52, 0), (52, .invokevirtual 137, 55, 0), (55, .ireturn, 56, 0), (58, .ldc 69, 60, 0), (60, .ireturn, 61, 0), (63, .ldc 69, 65, 0), (65, .ireturn, 66, 0)]
def GL_acted (kx : String → Nat → Nat → Prop) : y_G := (CL_acted, [(133, 6, y_cs 1 1 (y_vs 5 y_ri ["java/lang/IllegalArgumentException", "java/lang/IllegalStateException"]) kx), (137, 6, y_cs 1 1 (y_vs 5 y_ri ["java/lang/IllegalArgumentException", "java/lang/IllegalStateException"]) kx)], [(69, 2194967296)], [], some .int)
def hh_acted : List (Nat × Nat × Nat × Nat) := [(0, 55, 56, 70), (0, 55, 61, 72)]
def hs_acted : List y_HS := [("java/lang/IllegalArgumentException", 56, .astore 6, 2), ("java/lang/IllegalStateException", 61, .astore 6, 2)]
set_option maxRecDepth 20000 in
theorem kc_acted : y_kC yL_acted cL_acted 7 (some .int) hh_acted 6 = true := y_kC_mk (z_mT 20 (by decide +kernel) rfl) (z_mT 838 rfl rfl) (by decide) (by decide +kernel)
set_option maxRecDepth 20000 in
set_option maxHeartbeats 8000000 in
theorem cy_acted (l : Launch) (h9 : l.stackTraces = false) : y_CX l yL_acted cL_acted 7 (some .int) (some hh_acted) sx_acted 7 194 1 := by
  refine y_CX_ofH (GL_acted) hs_acted 55 (by decide) (fun _ => y_cok_of (code := CL_acted) rfl (by decide +kernel)) (fun _ => y_pok_of (c1 := [(69, 2194967296)]) (c2 := []) co_L lo_L rfl rfl (by decide +kernel)) (fun _ => rfl) (by decide +kernel) ?_ (fun kx => List.forall_mem_cons.mpr ⟨⟨1, (y_vs 5 y_ri ["java/lang/IllegalArgumentException", "java/lang/IllegalStateException"]), rfl, y_coV (ct_X6_act l h9) wk_act kb_X6_act kv_L_133 ko_X6 (Nat.le_of_ble_eq_true rfl) (by decide) (by decide)⟩, List.forall_mem_cons.mpr ⟨⟨1, (y_vs 5 y_ri ["java/lang/IllegalArgumentException", "java/lang/IllegalStateException"]), rfl, y_coV (ct_X6_notice l h9) wk_notice kb_X6_notice kv_L_137 ko_X6 (Nat.le_of_ble_eq_true rfl) (by decide) (by decide)⟩, fun _ h => absurd h List.not_mem_nil⟩⟩) ?_
  · intro as g Po Px h
    unfold sx_acted at h
    split at h
    · exact Nat.le_of_ble_eq_true rfl
    · exact h.elim
  · intro as g Po Px h V hV hW
    unfold sx_acted at h
    split at h
    · rename_i o a b c d e
      obtain ⟨ho, hpo⟩ := h
      have hX : ∀ E ∈ ["java/lang/IllegalArgumentException", "java/lang/IllegalStateException"], ∀ g' u' : Nat, g + 1 ≤ g' → u' ≤ 1 → y_kh hs_acted V E g' u' := by
        intro E hE g' u' hg9 hu9
        simp only [List.mem_cons, List.not_mem_nil, or_false] at hE
        rcases hE with rfl | rfl
        · refine ⟨_, List.mem_cons_self, rfl, ?_⟩
          refine hV [] 5 _ _ _ _ _ ?_
          exact ⟨hu9, hpo _ _ (by omega)⟩
        · refine ⟨_, List.mem_cons_of_mem _ (List.mem_cons_self), rfl, ?_⟩
          refine hV [] 5 _ _ _ _ _ ?_
          exact ⟨hu9, hpo _ _ (by omega)⟩
      refine hV [] 43 0 _ _ _ _ ?_
      refine ⟨fun h1 => ?_, fun h1 => ?_⟩
      · refine ⟨fun h2 => ?_, fun h2 => ?_⟩
        · refine ⟨by decide, ho, rfl, rfl, fun v9 h3 => ?_, fun E hE => ?_⟩
          rotate_left
          · exact hX E ((by decide +kernel : ∀ E ∈ ["java/lang/IllegalArgumentException", "java/lang/IllegalStateException"], E ∈ (["java/lang/IllegalArgumentException", "java/lang/IllegalStateException"] : List String)) E hE) _ _ (Nat.le_refl _) (Nat.le_refl _)
          obtain ⟨x3, rfl⟩ := h3
          exact ⟨by decide, hpo _ _ (Nat.le_refl _)⟩
        · refine ⟨by decide, ho, rfl, rfl, fun v9 h4 => ?_, fun E hE => ?_⟩
          rotate_left
          · exact hX E ((by decide +kernel : ∀ E ∈ ["java/lang/IllegalArgumentException", "java/lang/IllegalStateException"], E ∈ (["java/lang/IllegalArgumentException", "java/lang/IllegalStateException"] : List String)) E hE) _ _ (Nat.le_refl _) (Nat.le_refl _)
          obtain ⟨x4, rfl⟩ := h4
          exact ⟨by decide, hpo _ _ (Nat.le_refl _)⟩
      · refine ⟨fun h5 => ?_, fun h5 => ?_⟩
        · refine ⟨fun h6 => ?_, fun h6 => ?_⟩
          · refine ⟨by decide, ho, rfl, rfl, fun v9 h7 => ?_, fun E hE => ?_⟩
            rotate_left
            · exact hX E ((by decide +kernel : ∀ E ∈ ["java/lang/IllegalArgumentException", "java/lang/IllegalStateException"], E ∈ (["java/lang/IllegalArgumentException", "java/lang/IllegalStateException"] : List String)) E hE) _ _ (Nat.le_refl _) (Nat.le_refl _)
            obtain ⟨x7, rfl⟩ := h7
            exact ⟨by decide, hpo _ _ (Nat.le_refl _)⟩
          · refine ⟨by decide, ho, rfl, rfl, fun v9 h8 => ?_, fun E hE => ?_⟩
            rotate_left
            · exact hX E ((by decide +kernel : ∀ E ∈ ["java/lang/IllegalArgumentException", "java/lang/IllegalStateException"], E ∈ (["java/lang/IllegalArgumentException", "java/lang/IllegalStateException"] : List String)) E hE) _ _ (Nat.le_refl _) (Nat.le_refl _)
            obtain ⟨x8, rfl⟩ := h8
            exact ⟨by decide, hpo _ _ (Nat.le_refl _)⟩
        · refine ⟨fun h9 => ?_, fun h9 => ?_⟩
          · refine ⟨by decide, ho, rfl, rfl, fun v9 h10 => ?_, fun E hE => ?_⟩
            rotate_left
            · exact hX E ((by decide +kernel : ∀ E ∈ ["java/lang/IllegalArgumentException", "java/lang/IllegalStateException"], E ∈ (["java/lang/IllegalArgumentException", "java/lang/IllegalStateException"] : List String)) E hE) _ _ (Nat.le_refl _) (Nat.le_refl _)
            obtain ⟨x10, rfl⟩ := h10
            exact ⟨by decide, hpo _ _ (Nat.le_refl _)⟩
          · refine ⟨by decide, ho, rfl, rfl, fun v9 h11 => ?_, fun E hE => ?_⟩
            rotate_left
            · exact hX E ((by decide +kernel : ∀ E ∈ ["java/lang/IllegalArgumentException", "java/lang/IllegalStateException"], E ∈ (["java/lang/IllegalArgumentException", "java/lang/IllegalStateException"] : List String)) E hE) _ _ (Nat.le_refl _) (Nat.le_refl _)
            obtain ⟨x11, rfl⟩ := h11
            exact ⟨by decide, hpo _ _ (Nat.le_refl _)⟩
    · exact h.elim
def sx_marked : y_SX := fun as g k kx => match as with
  | [.ref o, .int _, .int _, .int _, .int _] => Nat.blt o 2 = true ∧ ∀ (r : Int32) (g' : Nat), g ≤ g' → k (some (.int r)) g'
  | _ => False
def CL_marked : List (Nat × Instr × Nat × Nat) := [(0, .aload_n 0, 1, 0), (1, .iload_n 1, 2, 0), (2, .iload_n 2, 3, 0), (3, .iload_n 3, 4, 0), (4, .iload 4, 6, 0), (6, .invokevirtual 141, 9, 0), (9, .ireturn, 10, 0), (12, .ldc 69, 14, 0), (14, .ireturn, 15, 0), (17, .ldc 69, 19, 0), (19, .ireturn, 20, 0), (22, .ldc 69, 24, 0), (24, .ireturn, 25, 0)]
def GL_marked (kx : String → Nat → Nat → Prop) : y_G := (CL_marked, [(141, 5, y_cs 1 1 (y_vs 4 y_ri ["java/lang/IndexOutOfBoundsException", "java/lang/IllegalArgumentException", "java/lang/IllegalStateException"]) kx)], [(69, 2194967296)], [], some .int)
def hh_marked : List (Nat × Nat × Nat × Nat) := [(0, 9, 10, 67), (0, 9, 15, 70), (0, 9, 20, 72)]
def hs_marked : List y_HS := [("java/lang/IndexOutOfBoundsException", 10, .astore 5, 2), ("java/lang/IllegalArgumentException", 15, .astore 5, 2), ("java/lang/IllegalStateException", 20, .astore 5, 2)]
set_option maxRecDepth 20000 in
theorem kc_marked : y_kC yL_marked cL_marked 6 (some .int) hh_marked 5 = true := y_kC_mk (z_mT 20 (by decide +kernel) rfl) (z_mT 822 rfl rfl) (by decide) (by decide +kernel)
set_option maxRecDepth 20000 in
set_option maxHeartbeats 8000000 in
theorem cy_marked (l : Launch) (h9 : l.stackTraces = false) : y_CX l yL_marked cL_marked 6 (some .int) (some hh_marked) sx_marked 7 192 1 := by
  refine y_CX_ofH (GL_marked) hs_marked 9 (by decide) (fun _ => y_cok_of (code := CL_marked) rfl (by decide +kernel)) (fun _ => y_pok_of (c1 := [(69, 2194967296)]) (c2 := []) co_L lo_L rfl rfl (by decide +kernel)) (fun _ => rfl) (by decide +kernel) ?_ (fun kx => List.forall_mem_cons.mpr ⟨⟨1, (y_vs 4 y_ri ["java/lang/IndexOutOfBoundsException", "java/lang/IllegalArgumentException", "java/lang/IllegalStateException"]), rfl, y_coV (ct_X6_mark l h9) wk_mark kb_X6_mark kv_L_141 ko_X6 (Nat.le_of_ble_eq_true rfl) (by decide) (by decide)⟩, fun _ h => absurd h List.not_mem_nil⟩) ?_
  · intro as g Po Px h
    unfold sx_marked at h
    split at h
    · exact Nat.le_of_ble_eq_true rfl
    · exact h.elim
  · intro as g Po Px h V hV hW
    unfold sx_marked at h
    split at h
    · rename_i o a b c d
      obtain ⟨ho, hpo⟩ := h
      have hX : ∀ E ∈ ["java/lang/IndexOutOfBoundsException", "java/lang/IllegalArgumentException", "java/lang/IllegalStateException"], ∀ g' u' : Nat, g + 1 ≤ g' → u' ≤ 1 → y_kh hs_marked V E g' u' := by
        intro E hE g' u' hg9 hu9
        simp only [List.mem_cons, List.not_mem_nil, or_false] at hE
        rcases hE with rfl | rfl | rfl
        · refine ⟨_, List.mem_cons_self, rfl, ?_⟩
          refine hV [] 5 _ _ _ _ _ ?_
          exact ⟨hu9, hpo _ _ (by omega)⟩
        · refine ⟨_, List.mem_cons_of_mem _ (List.mem_cons_self), rfl, ?_⟩
          refine hV [] 5 _ _ _ _ _ ?_
          exact ⟨hu9, hpo _ _ (by omega)⟩
        · refine ⟨_, List.mem_cons_of_mem _ (List.mem_cons_of_mem _ (List.mem_cons_self)), rfl, ?_⟩
          refine hV [] 5 _ _ _ _ _ ?_
          exact ⟨hu9, hpo _ _ (by omega)⟩
      refine hV [] 21 0 _ _ _ _ ?_
      refine ⟨by decide, ho, rfl, rfl, fun v9 h1 => ?_, fun E hE => ?_⟩
      rotate_left
      · exact hX E ((by decide +kernel : ∀ E ∈ ["java/lang/IndexOutOfBoundsException", "java/lang/IllegalArgumentException", "java/lang/IllegalStateException"], E ∈ (["java/lang/IndexOutOfBoundsException", "java/lang/IllegalArgumentException", "java/lang/IllegalStateException"] : List String)) E hE) _ _ (Nat.le_refl _) (Nat.le_refl _)
      obtain ⟨x1, rfl⟩ := h1
      exact ⟨by decide, hpo _ _ (Nat.le_refl _)⟩
    · exact h.elim
def sx_money : y_SX := fun as g k kx => match as with
  | [.ref o, .int _, .int _] => Nat.blt o 2 = true ∧ ∀ (r : Int64) (g' : Nat), g ≤ g' → k (some (.long r)) g'
  | _ => False
def CL_money : List (Nat × Instr × Nat × Nat) := [(0, .iload_n 1, 1, 0), (1, .ifCond .ne 11, 4, 12), (4, .aload_n 0, 5, 0), (5, .iload_n 2, 6, 0), (6, .invokevirtual 145, 9, 0), (9, .goto 21, 12, 30), (12, .iload_n 1, 13, 0), (13, .iconst 1, 14, 0), (14, .if_icmp .ne 11, 17, 25), (17, .aload_n 0, 18, 0), (18, .iload_n 2, 19, 0), (19, .invokevirtual 149, 22, 0), (22, .goto 8, 25, 30), (25, .aload_n 0, 26, 0), (26, .iload_n 2, 27, 0), (27, .invokevirtual 152, 30, 0), (30, .lreturn, 31, 0), (32, .ldc2_w 155, 35, 0), (35, .lreturn, 36, 0), (37, .ldc2_w 155, 40, 0), (40, .lreturn, 41, 0)]
def GL_money (kx : String → Nat → Nat → Prop) : y_G := (CL_money, [(145, 2, y_cs 1 1 (y_vs 1 y_rl ["java/lang/IndexOutOfBoundsException"]) kx), (149, 2, y_cs 1 1 (y_vs 1 y_rl ["java/lang/IndexOutOfBoundsException", "java/lang/IllegalStateException"]) kx), (152, 2, y_cs 1 1 (y_vs 1 y_rl ["java/lang/IndexOutOfBoundsException"]) kx)], [], [(155, 18446744071609551616)], some .long)
def hh_money : List (Nat × Nat × Nat × Nat) := [(0, 30, 31, 67), (0, 30, 36, 72)]
def hs_money : List y_HS := [("java/lang/IndexOutOfBoundsException", 31, .astore_n 3, 1), ("java/lang/IllegalStateException", 36, .astore_n 3, 1)]
set_option maxRecDepth 20000 in
theorem kc_money : y_kC yL_money cL_money 4 (some .long) hh_money 3 = true := y_kC_mk (z_mT 20 (by decide +kernel) rfl) (z_mT 867 rfl rfl) (by decide) (by decide +kernel)
set_option maxRecDepth 20000 in
set_option maxHeartbeats 8000000 in
theorem cy_money (l : Launch) (h9 : l.stackTraces = false) : y_CX l yL_money cL_money 4 (some .long) (some hh_money) sx_money 7 192 1 := by
  refine y_CX_ofH (GL_money) hs_money 30 (by decide) (fun _ => y_cok_of (code := CL_money) rfl (by decide +kernel)) (fun _ => y_pok_of (c1 := []) (c2 := [(155, 18446744071609551616)]) co_L lo_L rfl rfl (by decide +kernel)) (fun _ => rfl) (by decide +kernel) ?_ (fun kx => List.forall_mem_cons.mpr ⟨⟨1, (y_vs 1 y_rl ["java/lang/IndexOutOfBoundsException"]), rfl, y_coV (ct_X6_owed l h9) wk_owed kb_X6_owed kv_L_145 ko_X6 (Nat.le_of_ble_eq_true rfl) (by decide) (by decide)⟩, List.forall_mem_cons.mpr ⟨⟨1, (y_vs 1 y_rl ["java/lang/IndexOutOfBoundsException", "java/lang/IllegalStateException"]), rfl, y_coV (ct_X6_pay l h9) wk_pay kb_X6_pay kv_L_149 ko_X6 (Nat.le_of_ble_eq_true rfl) (by decide) (by decide)⟩, List.forall_mem_cons.mpr ⟨⟨1, (y_vs 1 y_rl ["java/lang/IndexOutOfBoundsException"]), rfl, y_coV (ct_X6_paid l h9) wk_paid kb_X6_paid kv_L_152 ko_X6 (Nat.le_of_ble_eq_true rfl) (by decide) (by decide)⟩, fun _ h => absurd h List.not_mem_nil⟩⟩⟩) ?_
  · intro as g Po Px h
    unfold sx_money at h
    split at h
    · exact Nat.le_of_ble_eq_true rfl
    · exact h.elim
  · intro as g Po Px h V hV hW
    unfold sx_money at h
    split at h
    · rename_i o a b
      obtain ⟨ho, hpo⟩ := h
      have hX : ∀ E ∈ ["java/lang/IndexOutOfBoundsException", "java/lang/IllegalStateException"], ∀ g' u' : Nat, g + 1 ≤ g' → u' ≤ 1 → y_kh hs_money V E g' u' := by
        intro E hE g' u' hg9 hu9
        simp only [List.mem_cons, List.not_mem_nil, or_false] at hE
        rcases hE with rfl | rfl
        · refine ⟨_, List.mem_cons_self, rfl, ?_⟩
          refine hV [] 5 _ _ _ _ _ ?_
          exact ⟨hu9, hpo _ _ (by omega)⟩
        · refine ⟨_, List.mem_cons_of_mem _ (List.mem_cons_self), rfl, ?_⟩
          refine hV [] 5 _ _ _ _ _ ?_
          exact ⟨hu9, hpo _ _ (by omega)⟩
      refine hV [] 28 0 _ _ _ _ ?_
      refine ⟨fun h1 => ?_, fun h1 => ?_⟩
      · refine ⟨fun h2 => ?_, fun h2 => ?_⟩
        · refine ⟨by decide, ho, rfl, rfl, fun v9 h3 => ?_, fun E hE => ?_⟩
          rotate_left
          · exact hX E ((by decide +kernel : ∀ E ∈ ["java/lang/IndexOutOfBoundsException"], E ∈ (["java/lang/IndexOutOfBoundsException", "java/lang/IllegalStateException"] : List String)) E hE) _ _ (Nat.le_refl _) (Nat.le_refl _)
          obtain ⟨x3, rfl⟩ := h3
          exact ⟨by decide, hpo _ _ (Nat.le_refl _)⟩
        · refine ⟨by decide, ho, rfl, rfl, fun v9 h4 => ?_, fun E hE => ?_⟩
          rotate_left
          · exact hX E ((by decide +kernel : ∀ E ∈ ["java/lang/IndexOutOfBoundsException", "java/lang/IllegalStateException"], E ∈ (["java/lang/IndexOutOfBoundsException", "java/lang/IllegalStateException"] : List String)) E hE) _ _ (Nat.le_refl _) (Nat.le_refl _)
          obtain ⟨x4, rfl⟩ := h4
          exact ⟨by decide, hpo _ _ (Nat.le_refl _)⟩
      · refine ⟨by decide, ho, rfl, rfl, fun v9 h5 => ?_, fun E hE => ?_⟩
        rotate_left
        · exact hX E ((by decide +kernel : ∀ E ∈ ["java/lang/IndexOutOfBoundsException"], E ∈ (["java/lang/IndexOutOfBoundsException", "java/lang/IllegalStateException"] : List String)) E hE) _ _ (Nat.le_refl _) (Nat.le_refl _)
        obtain ⟨x5, rfl⟩ := h5
        exact ⟨by decide, hpo _ _ (Nat.le_refl _)⟩
    · exact h.elim
