/-! the law's own methods -/
theorem y_pok_of {own : String} {G : y_G} {ci cL : List (Nat × Nat)} (h2 : ∀ q ∈ ci, Jvm.Cond.constant own q.1 (nI q.2) ∈ z_T) (h3 : ∀ q ∈ cL, Jvm.Cond.constantLong own q.1 (lN q.2) ∈ z_T) {c1 c2 : List (Nat × Nat)} (e1 : y_ci G = c1) (e2 : y_cL G = c2) (h : (c1.all (fun q => decide (q ∈ ci)) && c2.all (fun q => decide (q ∈ cL))) = true) : y_pok own G = true := by
  rw [← e1, ← e2] at h
  simp only [Bool.and_eq_true, List.all_eq_true, decide_eq_true_eq] at h
  simp only [y_pok, Bool.and_eq_true, List.all_eq_true, decide_eq_true_eq]
  exact ⟨fun q hq => h2 q (h.1 q hq), fun q hq => h3 q (h.2 q hq)⟩
def y_ck (cc : ByteArray) (nL lim : Nat) (code : List (Nat × Instr × Nat × Nat)) : Bool := code.all (fun q => z_tok cc [] q && z_lok nL q.2.1 && y_lok lim q)
theorem y_cok_of {cc : ByteArray} {nL lim : Nat} {G : y_G} {code : List (Nat × Instr × Nat × Nat)} (h : y_code G = code) (hk : y_ck cc nL lim code = true) : y_cok cc nL lim G = true := by
  unfold y_cok
  rw [h]
  exact hk
def sx_low : y_SX := fun as g k kx => match as with
  | [.int _, .int b] => ¬ b = 0 ∧ ∀ r : Int32, k (some (.int r)) g
  | _ => False
def CL_low : List (Nat × Instr × Nat × Nat) := [(0, .iload_n 0, 1, 0), (1, .ldc 7, 3, 0), (3, .iand, 4, 0), (4, .iload_n 1, 5, 0), (5, .irem, 6, 0), (6, .ireturn, 7, 0)]
def GL_low (kx : String → Nat → Nat → Prop) : y_G := (CL_low, [], [(7, 2147483647)], [], some .int)
set_option maxRecDepth 20000 in
set_option maxHeartbeats 8000000 in
theorem cy_low (l : Launch) (h9 : l.stackTraces = false) : y_CX l yL_low cL_low 2 (some .int) (none) sx_low 0 0 0 := by
  refine y_CX_of (GL_low) 7 (by decide) (fun _ => y_cok_of (code := CL_low) rfl (by decide +kernel)) (fun _ => y_pok_of (c1 := [(7, 2147483647)]) (c2 := []) co_L lo_L rfl rfl (by decide +kernel)) (fun _ => rfl) ?_ (fun kx => fun _ h => absurd h List.not_mem_nil) ?_
  · intro as g Po Px h
    unfold sx_low at h
    split at h
    · exact Nat.le_of_ble_eq_true rfl
    · exact h.elim
  · intro as g Po Px h V hV hW
    unfold sx_low at h
    split at h
    · rename_i a b
      obtain ⟨hb, hpo⟩ := h
      refine hV [] 11 0 _ _ _ _ ?_
      refine ⟨hb, ?_⟩
      exact ⟨Nat.le_refl _, hpo _⟩
    · exact h.elim
def sx_greater : y_SX := fun as g k kx => match as with
  | [.int _, .int _] => ∀ r : Int32, k (some (.int r)) g
  | _ => False
def CL_greater : List (Nat × Instr × Nat × Nat) := [(0, .iload_n 0, 1, 0), (1, .iload_n 1, 2, 0), (2, .if_icmp .le 7, 5, 9), (5, .iload_n 0, 6, 0), (6, .goto 4, 9, 10), (9, .iload_n 1, 10, 0), (10, .ireturn, 11, 0)]
def GL_greater (kx : String → Nat → Nat → Prop) : y_G := (CL_greater, [], [], [], some .int)
set_option maxRecDepth 20000 in
set_option maxHeartbeats 8000000 in
theorem cy_greater (l : Launch) (h9 : l.stackTraces = false) : y_CX l yL_greater cL_greater 2 (some .int) (none) sx_greater 0 0 0 := by
  refine y_CX_of (GL_greater) 11 (by decide) (fun _ => y_cok_of (code := CL_greater) rfl (by decide +kernel)) (fun _ => y_pok_of (c1 := []) (c2 := []) co_L lo_L rfl rfl (by decide +kernel)) (fun _ => rfl) ?_ (fun kx => fun _ h => absurd h List.not_mem_nil) ?_
  · intro as g Po Px h
    unfold sx_greater at h
    split at h
    · exact Nat.le_of_ble_eq_true rfl
    · exact h.elim
  · intro as g Po Px h V hV hW
    unfold sx_greater at h
    split at h
    · rename_i a b
      have hpo := h
      refine hV [] 12 0 _ _ _ _ ?_
      refine ⟨fun h1 => ?_, fun h1 => ?_⟩
      · exact ⟨Nat.le_refl _, hpo _⟩
      · exact ⟨Nat.le_refl _, hpo _⟩
    · exact h.elim
def sx_few : y_SX := fun as g k kx => match as with
  | [.int _] => ∀ r : Int32, k (some (.int r)) g
  | _ => False
def CL_few : List (Nat × Instr × Nat × Nat) := [(0, .iconst 1, 1, 0), (1, .iload_n 0, 2, 0), (2, .iconst 5, 3, 0), (3, .invokestatic 157, 6, 0), (6, .ishl, 7, 0), (7, .iconst 1, 8, 0), (8, .iload_n 0, 9, 0), (9, .iconst 3, 10, 0), (10, .ishr, 11, 0), (11, .bipush 16, 13, 0), (13, .invokestatic 157, 16, 0), (16, .ishl, 17, 0), (17, .ior, 18, 0), (18, .iload_n 0, 19, 0), (19, .bipush 7, 21, 0), (21, .ishr, 22, 0), (22, .iconst 1, 23, 0), (23, .iand, 24, 0), (24, .ifCond .ne 16, 27, 40), (27, .iconst 1, 28, 0), (28, .iload_n 0, 29, 0), (29, .bipush 8, 31, 0), (31, .ishr, 32, 0), (32, .iconst 5, 33, 0), (33, .invokestatic 157, 36, 0), (36, .ishl, 37, 0), (37, .goto 4, 40, 41), (40, .iconst 0, 41, 0), (41, .ior, 42, 0), (42, .ireturn, 43, 0)]
def GL_few (kx : String → Nat → Nat → Prop) : y_G := (CL_few, [(100157, 2, y_cs 0 0 sx_low kx)], [], [], some .int)
set_option maxRecDepth 20000 in
set_option maxHeartbeats 8000000 in
theorem cy_few (l : Launch) (h9 : l.stackTraces = false) : y_CX l yL_few cL_few 1 (some .int) (none) sx_few 1 21 0 := by
  refine y_CX_of (GL_few) 43 (by decide) (fun _ => y_cok_of (code := CL_few) rfl (by decide +kernel)) (fun _ => y_pok_of (c1 := []) (c2 := []) co_L lo_L rfl rfl (by decide +kernel)) (fun _ => rfl) ?_ (fun kx => List.forall_mem_cons.mpr ⟨⟨0, sx_low, rfl, y_coS (cy_low l h9) kb_L_low ks_L_157 (by decide) (by decide)⟩, fun _ h => absurd h List.not_mem_nil⟩) ?_
  · intro as g Po Px h
    unfold sx_few at h
    split at h
    · exact Nat.le_of_ble_eq_true rfl
    · exact h.elim
  · intro as g Po Px h V hV hW
    unfold sx_few at h
    split at h
    · rename_i a
      have hpo := h
      refine hV [] 35 0 _ _ _ _ ?_
      refine ⟨Nat.le_refl _, by decide, fun x1 => ?_⟩
      refine ⟨Nat.le_refl _, by decide, fun x2 => ?_⟩
      refine ⟨fun h3 => ?_, fun h3 => ?_⟩
      · exact ⟨Nat.le_refl _, hpo _⟩
      · refine ⟨Nat.le_refl _, by decide, fun x4 => ?_⟩
        exact ⟨Nat.le_refl _, hpo _⟩
    · exact h.elim
def y_f5 (how a : Int32) : Prop := how = nI 5 → ¬ nI 6 ≤ a
def sx_early : y_SX := fun as g k kx => match as with
  | [.ref o, .int how, .int a, .int _, .int _] => Nat.blt o 2 = true ∧ (∀ r : Int32, y_f5 how a → k (some (.int r)) g) ∧ ∀ E ∈ z_cas, kx E (g + 1)
  | _ => False
def CL_early : List (Nat × Instr × Nat × Nat) := [(0, .iload_n 1, 1, 0), (1, .ifCond .ne 11, 4, 12), (4, .aload_n 0, 5, 0), (5, .iload_n 2, 6, 0), (6, .invokevirtual 74, 9, 0), (9, .goto 251, 12, 260), (12, .iload_n 1, 13, 0), (13, .iconst 1, 14, 0), (14, .if_icmp .ne 12, 17, 26), (17, .aload_n 0, 18, 0), (18, .iload_n 2, 19, 0), (19, .iload_n 3, 20, 0), (20, .invokevirtual 77, 23, 0), (23, .goto 237, 26, 260), (26, .iload_n 1, 27, 0), (27, .iconst 2, 28, 0), (28, .if_icmp .ne 23, 31, 51), (31, .aload_n 0, 32, 0), (32, .iload_n 2, 33, 0), (33, .iload_n 3, 34, 0), (34, .iload 4, 36, 0), (36, .iconst 1, 37, 0), (37, .if_icmp .ne 7, 40, 44), (40, .iconst 1, 41, 0), (41, .goto 4, 44, 45), (44, .iconst 0, 45, 0), (45, .invokevirtual 80, 48, 0), (48, .goto 212, 51, 260), (51, .iload_n 1, 52, 0), (52, .iconst 3, 53, 0), (53, .if_icmp .ne 12, 56, 65), (56, .aload_n 0, 57, 0), (57, .iload_n 2, 58, 0), (58, .iload_n 3, 59, 0), (59, .invokevirtual 84, 62, 0), (62, .goto 198, 65, 260), (65, .iload_n 1, 66, 0), (66, .iconst 4, 67, 0), (67, .if_icmp .ne 11, 70, 78), (70, .aload_n 0, 71, 0), (71, .iload_n 2, 72, 0), (72, .invokevirtual 87, 75, 0), (75, .goto 185, 78, 260), (78, .iload_n 1, 79, 0), (79, .iconst 5, 80, 0), (80, .if_icmp .ne 11, 83, 91), (83, .aload_n 0, 84, 0), (84, .iload_n 2, 85, 0), (85, .invokevirtual 90, 88, 0), (88, .goto 172, 91, 260), (91, .iload_n 1, 92, 0), (92, .bipush 6, 94, 0), (94, .if_icmp .ne 11, 97, 105), (97, .aload_n 0, 98, 0), (98, .iload_n 2, 99, 0), (99, .invokevirtual 93, 102, 0), (102, .goto 158, 105, 260), (105, .iload_n 1, 106, 0), (106, .bipush 7, 108, 0), (108, .if_icmp .ne 14, 111, 122), (111, .aload_n 0, 112, 0), (112, .iload_n 2, 113, 0), (113, .iload_n 3, 114, 0), (114, .iload 4, 116, 0), (116, .invokevirtual 96, 119, 0), (119, .goto 141, 122, 260), (122, .iload_n 1, 123, 0), (123, .bipush 8, 125, 0), (125, .if_icmp .ne 14, 128, 139), (128, .aload_n 0, 129, 0), (129, .iload_n 2, 130, 0), (130, .iload_n 3, 131, 0), (131, .iload 4, 133, 0), (133, .invokevirtual 99, 136, 0), (136, .goto 124, 139, 260), (139, .iload_n 1, 140, 0), (140, .bipush 9, 142, 0), (142, .if_icmp .ne 11, 145, 153), (145, .aload_n 0, 146, 0), (146, .iload_n 2, 147, 0), (147, .invokevirtual 102, 150, 0), (150, .goto 110, 153, 260), (153, .iload_n 1, 154, 0), (154, .bipush 10, 156, 0), (156, .if_icmp .ne 14, 159, 170), (159, .aload_n 0, 160, 0), (160, .iload_n 2, 161, 0), (161, .iload_n 3, 162, 0), (162, .iload 4, 164, 0), (164, .invokevirtual 105, 167, 0), (167, .goto 93, 170, 260), (170, .iload_n 1, 171, 0), (171, .bipush 11, 173, 0), (173, .if_icmp .ne 20, 176, 193), (176, .aload_n 0, 177, 0), (177, .iload_n 2, 178, 0), (178, .iload_n 3, 179, 0), (179, .invokevirtual 108, 182, 0), (182, .ifCond .eq 7, 185, 189), (185, .iconst 1, 186, 0), (186, .goto 74, 189, 260), (189, .iconst 0, 190, 0), (190, .goto 70, 193, 260), (193, .iload_n 1, 194, 0), (194, .bipush 12, 196, 0), (196, .if_icmp .ne 29, 199, 225), (199, .aload_n 0, 200, 0), (200, .iload_n 2, 201, 0), (201, .iload_n 3, 202, 0), (202, .iconst 1, 203, 0), (203, .if_icmp .ne 7, 206, 210), (206, .iconst 1, 207, 0), (207, .goto 4, 210, 211), (210, .iconst 0, 211, 0), (211, .invokevirtual 112, 214, 0), (214, .ifCond .eq 7, 217, 221), (217, .iconst 1, 218, 0), (218, .goto 42, 221, 260), (221, .iconst 0, 222, 0), (222, .goto 38, 225, 260), (225, .iload_n 1, 226, 0), (226, .bipush 13, 228, 0), (228, .if_icmp .ne 11, 231, 239), (231, .aload_n 0, 232, 0), (232, .iload_n 2, 233, 0), (233, .invokevirtual 116, 236, 0), (236, .goto 24, 239, 260), (239, .iload_n 1, 240, 0), (240, .bipush 14, 242, 0), (242, .if_icmp .ne 12, 245, 254), (245, .aload_n 0, 246, 0), (246, .iload_n 2, 247, 0), (247, .iload_n 3, 248, 0), (248, .invokevirtual 119, 251, 0), (251, .goto 9, 254, 260), (254, .aload_n 0, 255, 0), (255, .iload_n 2, 256, 0), (256, .iload_n 3, 257, 0), (257, .invokevirtual 122, 260, 0), (260, .ireturn, 261, 0)]
def GL_early (kx : String → Nat → Nat → Prop) : y_G := (CL_early, [(74, 2, y_cs 1 1 (y_vs 1 y_ri ["java/lang/IllegalArgumentException", "java/lang/IllegalStateException"]) kx), (77, 3, y_cs 1 1 (y_vs 2 y_ri ["java/lang/IndexOutOfBoundsException", "java/lang/IllegalArgumentException", "java/lang/IllegalStateException"]) kx), (80, 4, y_cs 1 1 (y_vs 3 y_ri ["java/lang/IndexOutOfBoundsException"]) kx), (84, 3, y_cs 1 1 (y_vs 2 y_ri ["java/lang/IndexOutOfBoundsException", "java/lang/IllegalArgumentException"]) kx), (87, 2, y_cs 1 1 (y_vs 1 y_ri ["java/lang/IndexOutOfBoundsException", "java/lang/IllegalStateException"]) kx), (90, 2, y_cs 1 1 (y_vs 1 (y_rn 6) ["java/lang/IndexOutOfBoundsException"]) kx), (93, 2, y_cs 1 1 (y_vs 1 y_ri ["java/lang/IndexOutOfBoundsException", "java/lang/IllegalStateException"]) kx), (96, 4, y_cs 1 1 (y_vs 3 y_ri ["java/lang/IndexOutOfBoundsException", "java/lang/IllegalArgumentException", "java/lang/IllegalStateException"]) kx), (99, 4, y_cs 1 1 (y_vs 3 y_ri ["java/lang/IndexOutOfBoundsException"]) kx), (102, 2, y_cs 1 1 (y_vs 1 y_ri ["java/lang/IndexOutOfBoundsException"]) kx), (105, 4, y_cs 1 1 (y_vs 3 y_ri ["java/lang/IndexOutOfBoundsException", "java/lang/IllegalArgumentException", "java/lang/IllegalStateException"]) kx), (108, 3, y_cs 1 1 (y_vs 2 y_ri ["java/lang/IndexOutOfBoundsException"]) kx), (112, 3, y_cs 1 1 (y_vs 2 y_ri ["java/lang/IndexOutOfBoundsException"]) kx), (116, 2, y_cs 1 1 (y_vs 1 y_ri ["java/lang/IndexOutOfBoundsException", "java/lang/IllegalStateException"]) kx), (119, 3, y_cs 1 1 (y_vs 2 y_ri ["java/lang/IndexOutOfBoundsException", "java/lang/IllegalArgumentException"]) kx), (122, 3, y_cs 1 1 (y_vs 2 y_ri ["java/lang/IndexOutOfBoundsException", "java/lang/IllegalArgumentException"]) kx)], [], [], some .int)
set_option maxRecDepth 20000 in
set_option maxHeartbeats 8000000 in
theorem cy_early (l : Launch) (h9 : l.stackTraces = false) : y_CX l yL_early cL_early 5 (some .int) (none) sx_early 7 192 1 := by
  refine y_CX_of (GL_early) 261 (by decide) (fun _ => y_cok_of (code := CL_early) rfl (by decide +kernel)) (fun _ => y_pok_of (c1 := []) (c2 := []) co_L lo_L rfl rfl (by decide +kernel)) (fun _ => rfl) ?_ (fun kx => List.forall_mem_cons.mpr ⟨⟨1, (y_vs 1 y_ri ["java/lang/IllegalArgumentException", "java/lang/IllegalStateException"]), rfl, y_coV (ct_X6_people l h9) wk_people kb_X6_people kv_L_74 ko_X6 (Nat.le_of_ble_eq_true rfl) (by decide) (by decide)⟩, List.forall_mem_cons.mpr ⟨⟨1, (y_vs 2 y_ri ["java/lang/IndexOutOfBoundsException", "java/lang/IllegalArgumentException", "java/lang/IllegalStateException"]), rfl, y_coV (ct_X6_person l h9) wk_person kb_X6_person kv_L_77 ko_X6 (Nat.le_of_ble_eq_true rfl) (by decide) (by decide)⟩, List.forall_mem_cons.mpr ⟨⟨1, (y_vs 3 y_ri ["java/lang/IndexOutOfBoundsException"]), rfl, y_coV (ct_X6_root l h9) wk_root kb_X6_root kv_L_80 ko_X6 (Nat.le_of_ble_eq_true rfl) (by decide) (by decide)⟩, List.forall_mem_cons.mpr ⟨⟨1, (y_vs 2 y_ri ["java/lang/IndexOutOfBoundsException", "java/lang/IllegalArgumentException"]), rfl, y_coV (ct_X6_adopt l h9) wk_adopt kb_X6_adopt kv_L_84 ko_X6 (Nat.le_of_ble_eq_true rfl) (by decide) (by decide)⟩, List.forall_mem_cons.mpr ⟨⟨1, (y_vs 1 y_ri ["java/lang/IndexOutOfBoundsException", "java/lang/IllegalStateException"]), rfl, y_coV (ct_X6_raise l h9) wk_raise kb_X6_raise kv_L_87 ko_X6 (Nat.le_of_ble_eq_true rfl) (by decide) (by decide)⟩, List.forall_mem_cons.mpr ⟨⟨1, (y_vs 1 (y_rn 6) ["java/lang/IndexOutOfBoundsException"]), rfl, y_coV (ct_X6_members l h9) wk_members kb_X6_members kv_L_90 ko_X6 (Nat.le_of_ble_eq_true rfl) (by decide) (by decide)⟩, List.forall_mem_cons.mpr ⟨⟨1, (y_vs 1 y_ri ["java/lang/IndexOutOfBoundsException", "java/lang/IllegalStateException"]), rfl, y_coV (ct_X6_story l h9) wk_story kb_X6_story kv_L_93 ko_X6 (Nat.le_of_ble_eq_true rfl) (by decide) (by decide)⟩, List.forall_mem_cons.mpr ⟨⟨1, (y_vs 3 y_ri ["java/lang/IndexOutOfBoundsException", "java/lang/IllegalArgumentException", "java/lang/IllegalStateException"]), rfl, y_coV (ct_X6_part l h9) wk_part kb_X6_part kv_L_96 ko_X6 (Nat.le_of_ble_eq_true rfl) (by decide) (by decide)⟩, List.forall_mem_cons.mpr ⟨⟨1, (y_vs 3 y_ri ["java/lang/IndexOutOfBoundsException"]), rfl, y_coV (ct_X6_hears l h9) wk_hears kb_X6_hears kv_L_99 ko_X6 (Nat.le_of_ble_eq_true rfl) (by decide) (by decide)⟩, List.forall_mem_cons.mpr ⟨⟨1, (y_vs 1 y_ri ["java/lang/IndexOutOfBoundsException"]), rfl, y_coV (ct_X6_told l h9) wk_told kb_X6_told kv_L_102 ko_X6 (Nat.le_of_ble_eq_true rfl) (by decide) (by decide)⟩, List.forall_mem_cons.mpr ⟨⟨1, (y_vs 3 y_ri ["java/lang/IndexOutOfBoundsException", "java/lang/IllegalArgumentException", "java/lang/IllegalStateException"]), rfl, y_coV (ct_X6_explain l h9) wk_explain kb_X6_explain kv_L_105 ko_X6 (Nat.le_of_ble_eq_true rfl) (by decide) (by decide)⟩, List.forall_mem_cons.mpr ⟨⟨1, (y_vs 2 y_ri ["java/lang/IndexOutOfBoundsException"]), rfl, y_coV (ct_X6_isProved l h9) wk_isProved kb_X6_isProved kv_L_108 ko_X6 (Nat.le_of_ble_eq_true rfl) (by decide) (by decide)⟩, List.forall_mem_cons.mpr ⟨⟨1, (y_vs 2 y_ri ["java/lang/IndexOutOfBoundsException"]), rfl, y_coV (ct_X6_voids l h9) wk_voids kb_X6_voids kv_L_112 ko_X6 (Nat.le_of_ble_eq_true rfl) (by decide) (by decide)⟩, List.forall_mem_cons.mpr ⟨⟨1, (y_vs 1 y_ri ["java/lang/IndexOutOfBoundsException", "java/lang/IllegalStateException"]), rfl, y_coV (ct_X6_giveUp l h9) wk_giveUp kb_X6_giveUp kv_L_116 ko_X6 (Nat.le_of_ble_eq_true rfl) (by decide) (by decide)⟩, List.forall_mem_cons.mpr ⟨⟨1, (y_vs 2 y_ri ["java/lang/IndexOutOfBoundsException", "java/lang/IllegalArgumentException"]), rfl, y_coV (ct_X6_left l h9) wk_left kb_X6_left kv_L_119 ko_X6 (Nat.le_of_ble_eq_true rfl) (by decide) (by decide)⟩, List.forall_mem_cons.mpr ⟨⟨1, (y_vs 2 y_ri ["java/lang/IndexOutOfBoundsException", "java/lang/IllegalArgumentException"]), rfl, y_coV (ct_X6_leftAnew l h9) wk_leftAnew kb_X6_leftAnew kv_L_122 ko_X6 (Nat.le_of_ble_eq_true rfl) (by decide) (by decide)⟩, fun _ h => absurd h List.not_mem_nil⟩⟩⟩⟩⟩⟩⟩⟩⟩⟩⟩⟩⟩⟩⟩⟩) ?_
  · intro as g Po Px h
    unfold sx_early at h
    split at h
    · exact Nat.le_of_ble_eq_true rfl
    · exact h.elim
  · intro as g Po Px h V hV hW
    unfold sx_early at h
    split at h
    · rename_i o how a b c
      obtain ⟨ho, hpo, hpx⟩ := h
      refine hV [] 145 0 _ _ _ _ ?_
      refine ⟨fun h1 => ?_, fun h1 => ?_⟩
      · refine ⟨fun h2 => ?_, fun h2 => ?_⟩
        · refine ⟨fun h3 => ?_, fun h3 => ?_⟩
          · refine ⟨fun h4 => ?_, fun h4 => ?_⟩
            · refine ⟨fun h5 => ?_, fun h5 => ?_⟩
              · refine ⟨fun h6 => ?_, fun h6 => ?_⟩
                · refine ⟨fun h7 => ?_, fun h7 => ?_⟩
                  · refine ⟨fun h8 => ?_, fun h8 => ?_⟩
                    · refine ⟨fun h9 => ?_, fun h9 => ?_⟩
                      · refine ⟨fun h10 => ?_, fun h10 => ?_⟩
                        · refine ⟨fun h11 => ?_, fun h11 => ?_⟩
                          · refine ⟨fun h12 => ?_, fun h12 => ?_⟩
                            · refine ⟨fun h13 => ?_, fun h13 => ?_⟩
                              · refine ⟨fun h14 => ?_, fun h14 => ?_⟩
                                · refine ⟨fun h15 => ?_, fun h15 => ?_⟩
                                  · refine ⟨by decide, ho, rfl, rfl, fun v9 h16 => ?_, fun E hE => ?_⟩
                                    rotate_left
                                    · exact hpx E ((by decide +kernel : ∀ E ∈ ["java/lang/IndexOutOfBoundsException", "java/lang/IllegalArgumentException"], E ∈ z_cas) E hE)
                                    obtain ⟨x16, rfl⟩ := h16
                                    exact ⟨by decide, hpo _ (fun e => absurd e h6)⟩
                                  · refine ⟨by decide, ho, rfl, rfl, fun v9 h17 => ?_, fun E hE => ?_⟩
                                    rotate_left
                                    · exact hpx E ((by decide +kernel : ∀ E ∈ ["java/lang/IndexOutOfBoundsException", "java/lang/IllegalArgumentException"], E ∈ z_cas) E hE)
                                    obtain ⟨x17, rfl⟩ := h17
                                    exact ⟨by decide, hpo _ (fun e => absurd (h15.symm.trans e) (by decide))⟩
                                · refine ⟨by decide, ho, rfl, rfl, fun v9 h18 => ?_, fun E hE => ?_⟩
                                  rotate_left
                                  · exact hpx E ((by decide +kernel : ∀ E ∈ ["java/lang/IndexOutOfBoundsException", "java/lang/IllegalStateException"], E ∈ z_cas) E hE)
                                  obtain ⟨x18, rfl⟩ := h18
                                  exact ⟨by decide, hpo _ (fun e => absurd (h14.symm.trans e) (by decide))⟩
                              · refine ⟨fun h19 => ?_, fun h19 => ?_⟩
                                · refine ⟨by decide, ho, rfl, rfl, fun v9 h20 => ?_, fun E hE => ?_⟩
                                  rotate_left
                                  · exact hpx E ((by decide +kernel : ∀ E ∈ ["java/lang/IndexOutOfBoundsException"], E ∈ z_cas) E hE)
                                  obtain ⟨x20, rfl⟩ := h20
                                  refine ⟨fun h21 => ?_, fun h21 => ?_⟩
                                  · exact ⟨by decide, hpo _ (fun e => absurd (h13.symm.trans e) (by decide))⟩
                                  · exact ⟨by decide, hpo _ (fun e => absurd (h13.symm.trans e) (by decide))⟩
                                · refine ⟨by decide, ho, rfl, rfl, fun v9 h22 => ?_, fun E hE => ?_⟩
                                  rotate_left
                                  · exact hpx E ((by decide +kernel : ∀ E ∈ ["java/lang/IndexOutOfBoundsException"], E ∈ z_cas) E hE)
                                  obtain ⟨x22, rfl⟩ := h22
                                  refine ⟨fun h23 => ?_, fun h23 => ?_⟩
                                  · exact ⟨by decide, hpo _ (fun e => absurd (h13.symm.trans e) (by decide))⟩
                                  · exact ⟨by decide, hpo _ (fun e => absurd (h13.symm.trans e) (by decide))⟩
                            · refine ⟨by decide, ho, rfl, rfl, fun v9 h24 => ?_, fun E hE => ?_⟩
                              rotate_left
                              · exact hpx E ((by decide +kernel : ∀ E ∈ ["java/lang/IndexOutOfBoundsException"], E ∈ z_cas) E hE)
                              obtain ⟨x24, rfl⟩ := h24
                              refine ⟨fun h25 => ?_, fun h25 => ?_⟩
                              · exact ⟨by decide, hpo _ (fun e => absurd (h12.symm.trans e) (by decide))⟩
                              · exact ⟨by decide, hpo _ (fun e => absurd (h12.symm.trans e) (by decide))⟩
                          · refine ⟨by decide, ho, rfl, rfl, fun v9 h26 => ?_, fun E hE => ?_⟩
                            rotate_left
                            · exact hpx E ((by decide +kernel : ∀ E ∈ ["java/lang/IndexOutOfBoundsException", "java/lang/IllegalArgumentException", "java/lang/IllegalStateException"], E ∈ z_cas) E hE)
                            obtain ⟨x26, rfl⟩ := h26
                            exact ⟨by decide, hpo _ (fun e => absurd (h11.symm.trans e) (by decide))⟩
                        · refine ⟨by decide, ho, rfl, rfl, fun v9 h27 => ?_, fun E hE => ?_⟩
                          rotate_left
                          · exact hpx E ((by decide +kernel : ∀ E ∈ ["java/lang/IndexOutOfBoundsException"], E ∈ z_cas) E hE)
                          obtain ⟨x27, rfl⟩ := h27
                          exact ⟨by decide, hpo _ (fun e => absurd (h10.symm.trans e) (by decide))⟩
                      · refine ⟨by decide, ho, rfl, rfl, fun v9 h28 => ?_, fun E hE => ?_⟩
                        rotate_left
                        · exact hpx E ((by decide +kernel : ∀ E ∈ ["java/lang/IndexOutOfBoundsException"], E ∈ z_cas) E hE)
                        obtain ⟨x28, rfl⟩ := h28
                        exact ⟨by decide, hpo _ (fun e => absurd (h9.symm.trans e) (by decide))⟩
                    · refine ⟨by decide, ho, rfl, rfl, fun v9 h29 => ?_, fun E hE => ?_⟩
                      rotate_left
                      · exact hpx E ((by decide +kernel : ∀ E ∈ ["java/lang/IndexOutOfBoundsException", "java/lang/IllegalArgumentException", "java/lang/IllegalStateException"], E ∈ z_cas) E hE)
                      obtain ⟨x29, rfl⟩ := h29
                      exact ⟨by decide, hpo _ (fun e => absurd (h8.symm.trans e) (by decide))⟩
                  · refine ⟨by decide, ho, rfl, rfl, fun v9 h30 => ?_, fun E hE => ?_⟩
                    rotate_left
                    · exact hpx E ((by decide +kernel : ∀ E ∈ ["java/lang/IndexOutOfBoundsException", "java/lang/IllegalStateException"], E ∈ z_cas) E hE)
                    obtain ⟨x30, rfl⟩ := h30
                    exact ⟨by decide, hpo _ (fun e => absurd (h7.symm.trans e) (by decide))⟩
                · refine ⟨by decide, ho, rfl, rfl, fun v9 h31 => ?_, fun E hE => ?_⟩
                  rotate_left
                  · exact hpx E ((by decide +kernel : ∀ E ∈ ["java/lang/IndexOutOfBoundsException"], E ∈ z_cas) E hE)
                  obtain ⟨⟨x31, rfl⟩, h31⟩ := h31
                  exact ⟨by decide, hpo _ (fun _ => h31)⟩
              · refine ⟨by decide, ho, rfl, rfl, fun v9 h32 => ?_, fun E hE => ?_⟩
                rotate_left
                · exact hpx E ((by decide +kernel : ∀ E ∈ ["java/lang/IndexOutOfBoundsException", "java/lang/IllegalStateException"], E ∈ z_cas) E hE)
                obtain ⟨x32, rfl⟩ := h32
                exact ⟨by decide, hpo _ (fun e => absurd (h5.symm.trans e) (by decide))⟩
            · refine ⟨by decide, ho, rfl, rfl, fun v9 h33 => ?_, fun E hE => ?_⟩
              rotate_left
              · exact hpx E ((by decide +kernel : ∀ E ∈ ["java/lang/IndexOutOfBoundsException", "java/lang/IllegalArgumentException"], E ∈ z_cas) E hE)
              obtain ⟨x33, rfl⟩ := h33
              exact ⟨by decide, hpo _ (fun e => absurd (h4.symm.trans e) (by decide))⟩
          · refine ⟨fun h34 => ?_, fun h34 => ?_⟩
            · refine ⟨by decide, ho, rfl, rfl, fun v9 h35 => ?_, fun E hE => ?_⟩
              rotate_left
              · exact hpx E ((by decide +kernel : ∀ E ∈ ["java/lang/IndexOutOfBoundsException"], E ∈ z_cas) E hE)
              obtain ⟨x35, rfl⟩ := h35
              exact ⟨by decide, hpo _ (fun e => absurd (h3.symm.trans e) (by decide))⟩
            · refine ⟨by decide, ho, rfl, rfl, fun v9 h36 => ?_, fun E hE => ?_⟩
              rotate_left
              · exact hpx E ((by decide +kernel : ∀ E ∈ ["java/lang/IndexOutOfBoundsException"], E ∈ z_cas) E hE)
              obtain ⟨x36, rfl⟩ := h36
              exact ⟨by decide, hpo _ (fun e => absurd (h3.symm.trans e) (by decide))⟩
        · refine ⟨by decide, ho, rfl, rfl, fun v9 h37 => ?_, fun E hE => ?_⟩
          rotate_left
          · exact hpx E ((by decide +kernel : ∀ E ∈ ["java/lang/IndexOutOfBoundsException", "java/lang/IllegalArgumentException", "java/lang/IllegalStateException"], E ∈ z_cas) E hE)
          obtain ⟨x37, rfl⟩ := h37
          exact ⟨by decide, hpo _ (fun e => absurd (h2.symm.trans e) (by decide))⟩
      · refine ⟨by decide, ho, rfl, rfl, fun v9 h38 => ?_, fun E hE => ?_⟩
        rotate_left
        · exact hpx E ((by decide +kernel : ∀ E ∈ ["java/lang/IllegalArgumentException", "java/lang/IllegalStateException"], E ∈ z_cas) E hE)
        obtain ⟨x38, rfl⟩ := h38
        exact ⟨by decide, hpo _ (fun e => absurd (h1.symm.trans e) (by decide))⟩
    · exact h.elim
def sx_votes : y_SX := fun as g k kx => match as with
  | [.ref o, .int _, .int _, .int _] => Nat.blt o 2 = true ∧ (∀ r : Int32, k (some (.int r)) g) ∧ ∀ E ∈ z_cas, kx E (g + 1)
  | _ => False
def CL_votes : List (Nat × Instr × Nat × Nat) := [(0, .aload_n 0, 1, 0), (1, .iload_n 1, 2, 0), (2, .iload_n 2, 3, 0), (3, .iload_n 3, 4, 0), (4, .invokevirtual 125, 7, 0), (7, .iconst 0, 8, 0), (8, .ireturn, 9, 0)]
def GL_votes (kx : String → Nat → Nat → Prop) : y_G := (CL_votes, [(125, 4, y_cs 1 1 (y_vs 3 y_rv ["java/lang/IndexOutOfBoundsException", "java/lang/IllegalStateException"]) kx)], [], [], some .int)
set_option maxRecDepth 20000 in
set_option maxHeartbeats 8000000 in
theorem cy_votes (l : Launch) (h9 : l.stackTraces = false) : y_CX l yL_votes cL_votes 4 (some .int) (none) sx_votes 7 191 1 := by
  refine y_CX_of (GL_votes) 9 (by decide) (fun _ => y_cok_of (code := CL_votes) rfl (by decide +kernel)) (fun _ => y_pok_of (c1 := []) (c2 := []) co_L lo_L rfl rfl (by decide +kernel)) (fun _ => rfl) ?_ (fun kx => List.forall_mem_cons.mpr ⟨⟨1, (y_vs 3 y_rv ["java/lang/IndexOutOfBoundsException", "java/lang/IllegalStateException"]), rfl, y_coV (ct_X6_vote l h9) wk_vote kb_X6_vote kv_L_125 ko_X6 (Nat.le_of_ble_eq_true rfl) (by decide) (by decide)⟩, fun _ h => absurd h List.not_mem_nil⟩) ?_
  · intro as g Po Px h
    unfold sx_votes at h
    split at h
    · exact Nat.le_of_ble_eq_true rfl
    · exact h.elim
  · intro as g Po Px h V hV hW
    unfold sx_votes at h
    split at h
    · rename_i o a b c
      obtain ⟨ho, hpo, hpx⟩ := h
      refine hV [] 12 0 _ _ _ _ ?_
      refine ⟨by decide, ho, rfl, rfl, fun v9 h1 => ?_, fun E hE => ?_⟩
      rotate_left
      · exact hpx E ((by decide +kernel : ∀ E ∈ ["java/lang/IndexOutOfBoundsException", "java/lang/IllegalStateException"], E ∈ z_cas) E hE)
      have h1 : v9 = none := h1
      subst h1
      exact ⟨by decide, hpo _⟩
    · exact h.elim
def sx_objects : y_SX := fun as g k kx => match as with
  | [.ref o, .int _, .int _] => Nat.blt o 2 = true ∧ (∀ r : Int32, k (some (.int r)) g) ∧ ∀ E ∈ z_cas, kx E (g + 1)
  | _ => False
def CL_objects : List (Nat × Instr × Nat × Nat) := [(0, .aload_n 0, 1, 0), (1, .iload_n 1, 2, 0), (2, .iload_n 2, 3, 0), (3, .invokevirtual 129, 6, 0), (6, .iconst 0, 7, 0), (7, .ireturn, 8, 0)]
def GL_objects (kx : String → Nat → Nat → Prop) : y_G := (CL_objects, [(129, 3, y_cs 1 1 (y_vs 2 y_rv ["java/lang/IndexOutOfBoundsException", "java/lang/IllegalStateException"]) kx)], [], [], some .int)
set_option maxRecDepth 20000 in
set_option maxHeartbeats 8000000 in
theorem cy_objects (l : Launch) (h9 : l.stackTraces = false) : y_CX l yL_objects cL_objects 3 (some .int) (none) sx_objects 7 190 1 := by
  refine y_CX_of (GL_objects) 8 (by decide) (fun _ => y_cok_of (code := CL_objects) rfl (by decide +kernel)) (fun _ => y_pok_of (c1 := []) (c2 := []) co_L lo_L rfl rfl (by decide +kernel)) (fun _ => rfl) ?_ (fun kx => List.forall_mem_cons.mpr ⟨⟨1, (y_vs 2 y_rv ["java/lang/IndexOutOfBoundsException", "java/lang/IllegalStateException"]), rfl, y_coV (ct_X6_object l h9) wk_object kb_X6_object kv_L_129 ko_X6 (Nat.le_of_ble_eq_true rfl) (by decide) (by decide)⟩, fun _ h => absurd h List.not_mem_nil⟩) ?_
  · intro as g Po Px h
    unfold sx_objects at h
    split at h
    · exact Nat.le_of_ble_eq_true rfl
    · exact h.elim
  · intro as g Po Px h V hV hW
    unfold sx_objects at h
    split at h
    · rename_i o a b
      obtain ⟨ho, hpo, hpx⟩ := h
      refine hV [] 11 0 _ _ _ _ ?_
      refine ⟨by decide, ho, rfl, rfl, fun v9 h1 => ?_, fun E hE => ?_⟩
      rotate_left
      · exact hpx E ((by decide +kernel : ∀ E ∈ ["java/lang/IndexOutOfBoundsException", "java/lang/IllegalStateException"], E ∈ z_cas) E hE)
      have h1 : v9 = none := h1
      subst h1
      exact ⟨by decide, hpo _⟩
    · exact h.elim
