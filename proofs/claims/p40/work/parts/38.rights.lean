/-! areRights, areClaims, isPaid, isQuiet: they end, in any case -/
theorem y_neg {x : Int32} (h : x < 0) (h2 : ¬ x < 0) : False := h2 h
def sx_areRights : y_SX := fun as g k kx => match as with
  | [.ref o, .int _] => Nat.blt o 2 = true ∧ (∀ (r : Int32) (g' : Nat), g ≤ g' → k (some (.int r)) g') ∧ ∀ E ∈ z_cas, ∀ g' : Nat, g ≤ g' → kx E g'
  | _ => False
def CL_areRights : List (Nat × Instr × Nat × Nat) := [(0, .iconst 1, 1, 0), (1, .istore_n 2, 2, 0), (2, .iconst 0, 3, 0), (3, .istore_n 3, 4, 0), (4, .iload_n 3, 5, 0), (5, .bipush 16, 7, 0), (7, .if_icmp .ge 260, 10, 267), (10, .iload_n 2, 11, 0), (11, .ifCond .eq 256, 14, 267), (14, .aload_n 0, 15, 0), (15, .iload_n 3, 16, 0), (16, .iload_n 1, 17, 0), (17, .invokevirtual 119, 20, 0), (20, .istore 4, 22, 0), (22, .aload_n 0, 23, 0), (23, .iload_n 3, 24, 0), (24, .invokevirtual 38, 27, 0), (27, .istore 5, 29, 0), (29, .iconst 0, 30, 0), (30, .istore 6, 32, 0), (32, .iconst 0, 33, 0), (33, .istore 7, 35, 0), (35, .aload_n 0, 36, 0), (36, .bipush 21, 38, 0), (38, .iload 7, 40, 0), (40, .iconst 0, 41, 0), (41, .iconst 0, 42, 0), (42, .invokestatic 164, 45, 0), (45, .ifCond .lt 45, 48, 90), (48, .iload 6, 50, 0), (50, .aload_n 0, 51, 0), (51, .iload 7, 53, 0), (53, .iconst 0, 54, 0), (54, .invokevirtual 34, 57, 0), (57, .iconst 2, 58, 0), (58, .if_icmp .ne 22, 61, 80), (61, .aload_n 0, 62, 0), (62, .iload 7, 64, 0), (64, .iconst 1, 65, 0), (65, .invokevirtual 34, 68, 0), (68, .iload_n 3, 69, 0), (69, .ishr, 70, 0), (70, .iconst 1, 71, 0), (71, .iand, 72, 0), (72, .iconst 1, 73, 0), (73, .if_icmp .ne 7, 76, 80), (76, .iconst 1, 77, 0), (77, .goto 4, 80, 81), (80, .iconst 0, 81, 0), (81, .iadd, 82, 0), (82, .istore 6, 84, 0), (84, .iinc 7 1, 87, 0), (87, .goto (-52), 90, 35), (90, .iload 4, 92, 0), (92, .aload_n 0, 93, 0), (93, .iload_n 3, 94, 0), (94, .iload_n 1, 95, 0), (95, .invokevirtual 122, 98, 0), (98, .if_icmp .ne 52, 101, 150), (101, .iload 4, 103, 0), (103, .ifCond .lt 47, 106, 150), (106, .iload 4, 108, 0), (108, .bipush 32, 110, 0), (110, .if_icmp .ge 40, 113, 150), (113, .iload 6, 115, 0), (115, .ifCond .le 7, 118, 122), (118, .iconst 1, 119, 0), (119, .goto 4, 122, 123), (122, .iconst 0, 123, 0), (123, .iload 5, 125, 0), (125, .ifCond .le 7, 128, 132), (128, .iconst 1, 129, 0), (129, .goto 4, 132, 133), (132, .iconst 0, 133, 0), (133, .if_icmp .ne 17, 136, 150), (136, .iload 5, 138, 0), (138, .invokestatic 183, 141, 0), (141, .iload 6, 143, 0), (143, .if_icmp .gt 7, 146, 150), (146, .iconst 1, 147, 0), (147, .goto 4, 150, 151), (150, .iconst 0, 151, 0), (151, .istore_n 2, 152, 0), (152, .iconst 0, 153, 0), (153, .istore 7, 155, 0), (155, .aload_n 0, 156, 0), (156, .iconst 5, 157, 0), (157, .iload 7, 159, 0), (159, .iconst 0, 160, 0), (160, .iconst 0, 161, 0), (161, .invokestatic 164, 164, 0), (164, .ifCond .lt 97, 167, 261), (167, .iload_n 2, 168, 0), (168, .ifCond .eq 93, 171, 261), (171, .iconst 0, 172, 0), (172, .istore 8, 174, 0), (174, .iload 8, 176, 0), (176, .iconst 5, 177, 0), (177, .if_icmp .ge 78, 180, 255), (180, .iload_n 2, 181, 0), (181, .ifCond .eq 74, 184, 255), (184, .aload_n 0, 185, 0), (185, .iload 7, 187, 0), (187, .iload_n 3, 188, 0), (188, .iload 8, 190, 0), (190, .invokevirtual 41, 193, 0), (193, .istore 9, 195, 0), (195, .iload 9, 197, 0), (197, .ifCond .eq 46, 200, 243), (200, .iload 4, 202, 0), (202, .iload 8, 204, 0), (204, .ishr, 205, 0), (205, .iconst 1, 206, 0), (206, .iand, 207, 0), (207, .iconst 1, 208, 0), (208, .if_icmp .ne 39, 211, 247), (211, .iload 5, 213, 0), (213, .iload 7, 215, 0), (215, .ishr, 216, 0), (216, .iconst 1, 217, 0), (217, .iand, 218, 0), (218, .iconst 1, 219, 0), (219, .if_icmp .ne 28, 222, 247), (222, .iload 9, 224, 0), (224, .iconst 3, 225, 0), (225, .if_icmp .ge 22, 228, 247), (228, .iload 8, 230, 0), (230, .iconst 4, 231, 0), (231, .if_icmp .lt 12, 234, 243), (234, .iload 5, 236, 0), (236, .invokestatic 183, 239, 0), (239, .iconst 1, 240, 0), (240, .if_icmp .ne 7, 243, 247), (243, .iconst 1, 244, 0), (244, .goto 4, 247, 248), (247, .iconst 0, 248, 0), (248, .istore_n 2, 249, 0), (249, .iinc 8 1, 252, 0), (252, .goto (-78), 255, 174), (255, .iinc 7 1, 258, 0), (258, .goto (-103), 261, 155), (261, .iinc 3 1, 264, 0), (264, .goto (-260), 267, 4), (267, .iload_n 2, 268, 0), (268, .ireturn, 269, 0)]
def GL_areRights (kx : String → Nat → Nat → Prop) : y_G := (CL_areRights, [(34, 3, y_cs 1700 1 (y_vs 2 (y_rn 12) ["java/lang/IndexOutOfBoundsException", "java/lang/IllegalArgumentException"]) kx), (38, 2, y_cs 1700 1 (y_vs 1 y_ri ["java/lang/IndexOutOfBoundsException"]) kx), (41, 4, y_cs 1700 1 (y_vs 3 y_ri ["java/lang/IndexOutOfBoundsException"]) kx), (119, 3, y_cs 1700 1 (y_vs 2 y_ri ["java/lang/IndexOutOfBoundsException", "java/lang/IllegalArgumentException"]) kx), (122, 3, y_cs 1700 1 (y_vs 2 y_ri ["java/lang/IndexOutOfBoundsException", "java/lang/IllegalArgumentException"]) kx), (100164, 5, y_cs 1700 1 sx_does kx), (100183, 1, y_cs 1700 0 sx_count kx)], [], [], some .boolean)
set_option maxRecDepth 20000 in
set_option maxHeartbeats 8000000 in
theorem cy_areRights (l : Launch) (h9 : l.stackTraces = false) : y_CX l yL_areRights cL_areRights 10 (some .boolean) (none) sx_areRights 9 241 1700 := by
  refine y_CX_of (GL_areRights) 269 (by decide) (fun _ => y_cok_of (code := CL_areRights) rfl (by decide +kernel)) (fun _ => y_pok_of (c1 := []) (c2 := []) co_L lo_L rfl rfl (by decide +kernel)) (fun _ => rfl) ?_ (fun kx => List.forall_mem_cons.mpr ⟨⟨1, (y_vs 2 (y_rn 12) ["java/lang/IndexOutOfBoundsException", "java/lang/IllegalArgumentException"]), rfl, y_coV (ct_X6_ofClaim l h9) wk_ofClaim kb_X6_ofClaim kv_L_34 ko_X6 (Nat.le_of_ble_eq_true rfl) (by decide) (by decide)⟩, List.forall_mem_cons.mpr ⟨⟨1, (y_vs 1 y_ri ["java/lang/IndexOutOfBoundsException"]), rfl, y_coV (ct_X6_holders l h9) wk_holders kb_X6_holders kv_L_38 ko_X6 (Nat.le_of_ble_eq_true rfl) (by decide) (by decide)⟩, List.forall_mem_cons.mpr ⟨⟨1, (y_vs 3 y_ri ["java/lang/IndexOutOfBoundsException"]), rfl, y_coV (ct_X6_may l h9) wk_may kb_X6_may kv_L_41 ko_X6 (Nat.le_of_ble_eq_true rfl) (by decide) (by decide)⟩, List.forall_mem_cons.mpr ⟨⟨1, (y_vs 2 y_ri ["java/lang/IndexOutOfBoundsException", "java/lang/IllegalArgumentException"]), rfl, y_coV (ct_X6_left l h9) wk_left kb_X6_left kv_L_119 ko_X6 (Nat.le_of_ble_eq_true rfl) (by decide) (by decide)⟩, List.forall_mem_cons.mpr ⟨⟨1, (y_vs 2 y_ri ["java/lang/IndexOutOfBoundsException", "java/lang/IllegalArgumentException"]), rfl, y_coV (ct_X6_leftAnew l h9) wk_leftAnew kb_X6_leftAnew kv_L_122 ko_X6 (Nat.le_of_ble_eq_true rfl) (by decide) (by decide)⟩, List.forall_mem_cons.mpr ⟨⟨1, sx_does, rfl, y_coW (cy_does l h9) kc_does ks_L_164 (by decide) (by decide)⟩, List.forall_mem_cons.mpr ⟨⟨0, sx_count, rfl, y_coS (cy_count l h9) kb_L_count ks_L_183 (by decide) (by decide)⟩, fun _ h => absurd h List.not_mem_nil⟩⟩⟩⟩⟩⟩⟩) ?_
  · intro as g Po Px h
    unfold sx_areRights at h
    split at h
    · exact Nat.le_of_ble_eq_true rfl
    · exact h.elim
  · intro as g Po Px h V hV hW
    unfold sx_areRights at h
    split at h
    · rename_i o now
      obtain ⟨ho, hpo, hpx⟩ := h
      have hO : ∀ (j k : Nat) (a2 : Int32) (x : Int32) (g1 u1 : Nat), k + j = 16 → x = nI k → (a2 = nI 0 ∨ a2 = nI 1) → g ≤ g1 → u1 ≤ 100 * k → V 4 [(0, .ref o), (1, .int now), (2, .int a2), (3, .int x)] [] g1 u1 := by
        intro j
        induction j with
        | zero =>
          intro k a2 x g1 u1 hkk hxk ha2 hg1 hu1
          subst hxk
          have hzk : k = 16 := by omega
          subst hzk
          refine hV [4, 35, 155, 174] 150 4 _ _ _ _ ?_
          refine ⟨fun h1 => ?_, fun h1 => absurd (by decide) h1⟩
          exact ⟨y_n01 ha2, by omega, hpo _ _ (by omega)⟩
        | succ j ih =>
          intro k a2 x g1 u1 hkk hxk ha2 hg1 hu1
          subst hxk
          have hltk : k < 16 := by omega
          have hB : ∀ (j4 k4 : Nat) (a2 : Int32) (a4 : Int32) (a5 : Int32) (x4 : Int32) (g2 u2 : Nat), k4 + j4 = 6 → x4 = nI k4 → (a2 = nI 0 ∨ a2 = nI 1) → g ≤ g2 → u2 ≤ 100 * k + 40 + 6 * k4 → V 155 [(0, .ref o), (1, .int now), (2, .int a2), (3, .int (nI k)), (4, .int a4), (5, .int a5), (7, .int x4)] [] g2 u2 := by
            intro j4
            induction j4 with
            | zero =>
              intro k4 a2 a4 a5 x4 g2 u2 hkk4 hxk4 ha2 hg2 hu2
              subst hxk4
              have hzk4 : k4 = 6 := by omega
              subst hzk4
              refine hV [4, 35, 155, 174] 150 155 _ _ _ _ ?_
              refine ⟨by omega, ho, fun x9 g9 f9 => ?_⟩
              have e9 := f9.1
              refine ⟨fun h1 => ?_, fun h1 => (y_neg (y_fr5 f9) h1).elim⟩
              exact hW [0, 1, 2, 3] _ _ _ _ _ (ih (k + 1) _ _ _ _ (by omega) (nI_add k 1) ha2 (by omega) (by omega))
            | succ j4 ihB =>
              intro k4 a2 a4 a5 x4 g2 u2 hkk4 hxk4 ha2 hg2 hu2
              subst hxk4
              have hltk4 : k4 < 6 := by omega
              have hC : ∀ (j5 k5 : Nat) (a2 : Int32) (x5 : Int32) (g3 u3 : Nat), k5 + j5 = 5 → x5 = nI k5 → (a2 = nI 0 ∨ a2 = nI 1) → g ≤ g3 → u3 ≤ 100 * k + 40 + 6 * k4 + 1 + k5 → V 174 [(0, .ref o), (1, .int now), (2, .int a2), (3, .int (nI k)), (4, .int a4), (5, .int a5), (7, .int (nI k4)), (8, .int x5)] [] g3 u3 := by
                intro j5
                induction j5 with
                | zero =>
                  intro k5 a2 x5 g3 u3 hkk5 hxk5 ha2 hg3 hu3
                  subst hxk5
                  have hzk5 : k5 = 5 := by omega
                  subst hzk5
                  refine hV [4, 35, 155, 174] 150 174 _ _ _ _ ?_
                  refine ⟨fun h1 => ?_, fun h1 => absurd (by decide) h1⟩
                  exact hW [0, 1, 2, 3, 4, 5, 7] _ _ _ _ _ (ihB (k4 + 1) _ _ _ _ _ _ (by omega) (nI_add k4 1) ha2 (by omega) (by omega))
                | succ j5 ihC =>
                  intro k5 a2 x5 g3 u3 hkk5 hxk5 ha2 hg3 hu3
                  subst hxk5
                  have hltk5 : k5 < 5 := by omega
                  refine hV [4, 35, 155, 174] 150 174 _ _ _ _ ?_
                  refine ⟨fun h1 => (y_lft (by decide) hltk5 h1).elim, fun _ => ?_⟩
                  refine ⟨fun h1 => ?_, fun h1 => ?_⟩
                  · exact hW [0, 1, 2, 3, 4, 5, 7] _ _ _ _ _ (ihB (k4 + 1) _ _ _ _ _ _ (by omega) (nI_add k4 1) ha2 (by omega) (by omega))
                  · refine ⟨by omega, ho, rfl, rfl, fun v9 h41 => ?_, fun E hE => ?_⟩
                    rotate_left
                    · exact hpx E ((by decide +kernel : ∀ E ∈ ["java/lang/IndexOutOfBoundsException"], E ∈ z_cas) E hE) _ (by omega)
                    obtain ⟨x41, rfl⟩ := h41
                    refine ⟨fun h42 => ?_, fun h42 => ?_⟩
                    · exact hW [0, 1, 2, 3, 4, 5, 7, 8] _ _ _ _ _ (ihC (k5 + 1) _ _ _ _ (by omega) (nI_add k5 1) (Or.inr rfl) (by omega) (by omega))
                    · refine ⟨fun h43 => ?_, fun h43 => ?_⟩
                      · exact hW [0, 1, 2, 3, 4, 5, 7, 8] _ _ _ _ _ (ihC (k5 + 1) _ _ _ _ (by omega) (nI_add k5 1) (Or.inl rfl) (by omega) (by omega))
                      · refine ⟨fun h44 => ?_, fun h44 => ?_⟩
                        · exact hW [0, 1, 2, 3, 4, 5, 7, 8] _ _ _ _ _ (ihC (k5 + 1) _ _ _ _ (by omega) (nI_add k5 1) (Or.inl rfl) (by omega) (by omega))
                        · refine ⟨fun h45 => ?_, fun h45 => ?_⟩
                          · exact hW [0, 1, 2, 3, 4, 5, 7, 8] _ _ _ _ _ (ihC (k5 + 1) _ _ _ _ (by omega) (nI_add k5 1) (Or.inl rfl) (by omega) (by omega))
                          · refine ⟨fun h46 => ?_, fun h46 => ?_⟩
                            · exact hW [0, 1, 2, 3, 4, 5, 7, 8] _ _ _ _ _ (ihC (k5 + 1) _ _ _ _ (by omega) (nI_add k5 1) (Or.inr rfl) (by omega) (by omega))
                            · refine ⟨by omega, fun x47 => ?_⟩
                              refine ⟨fun h48 => ?_, fun h48 => ?_⟩
                              · exact hW [0, 1, 2, 3, 4, 5, 7, 8] _ _ _ _ _ (ihC (k5 + 1) _ _ _ _ (by omega) (nI_add k5 1) (Or.inl rfl) (by omega) (by omega))
                              · exact hW [0, 1, 2, 3, 4, 5, 7, 8] _ _ _ _ _ (ihC (k5 + 1) _ _ _ _ (by omega) (nI_add k5 1) (Or.inr rfl) (by omega) (by omega))
              refine hV [4, 35, 155, 174] 150 155 _ _ _ _ ?_
              refine ⟨by omega, ho, fun x9 g9 f9 => ?_⟩
              have e9 := f9.1
              refine ⟨fun h1 => ?_, fun _ => ?_⟩
              · exact hW [0, 1, 2, 3] _ _ _ _ _ (ih (k + 1) _ _ _ _ (by omega) (nI_add k 1) ha2 (by omega) (by omega))
              · refine ⟨fun h1 => ?_, fun h1 => ?_⟩
                · exact hW [0, 1, 2, 3] _ _ _ _ _ (ih (k + 1) _ _ _ _ (by omega) (nI_add k 1) ha2 (by omega) (by omega))
                · exact hW [0, 1, 2, 3, 4, 5, 7, 8] _ _ _ _ _ (hC 5 0 _ _ _ _ (by omega) rfl ha2 (by omega) (by omega))
          have hA : ∀ (j2 k2 : Nat) (a4 : Int32) (a5 : Int32) (a6 : Int32) (x2 : Int32) (g2 u2 : Nat), k2 + j2 = 12 → x2 = nI k2 → g ≤ g2 → u2 ≤ 100 * k + 2 + 3 * k2 → V 35 [(0, .ref o), (1, .int now), (2, .int a2), (3, .int (nI k)), (4, .int a4), (5, .int a5), (6, .int a6), (7, .int x2)] [] g2 u2 := by
            intro j2
            induction j2 with
            | zero =>
              intro k2 a4 a5 a6 x2 g2 u2 hkk2 hxk2 hg2 hu2
              subst hxk2
              have hzk2 : k2 = 12 := by omega
              subst hzk2
              refine hV [4, 35, 155, 174] 150 35 _ _ _ _ ?_
              refine ⟨by omega, ho, fun x9 g9 f9 => ?_⟩
              have e9 := f9.1
              refine ⟨fun h1 => ?_, fun h1 => (y_neg (y_fr21 f9) h1).elim⟩
              refine ⟨by omega, ho, rfl, rfl, fun v9 h41 => ?_, fun E hE => ?_⟩
              rotate_left
              · exact hpx E ((by decide +kernel : ∀ E ∈ ["java/lang/IndexOutOfBoundsException", "java/lang/IllegalArgumentException"], E ∈ z_cas) E hE) _ (by omega)
              obtain ⟨x41, rfl⟩ := h41
              refine ⟨fun h42 => ?_, fun h42 => ?_⟩
              · exact hW [0, 1, 2, 3, 4, 5, 7] _ _ _ _ _ (hB 6 0 _ _ _ _ _ _ (by omega) rfl (Or.inl rfl) (by omega) (by omega))
              · refine ⟨fun h43 => ?_, fun h43 => ?_⟩
                · exact hW [0, 1, 2, 3, 4, 5, 7] _ _ _ _ _ (hB 6 0 _ _ _ _ _ _ (by omega) rfl (Or.inl rfl) (by omega) (by omega))
                · refine ⟨fun h44 => ?_, fun h44 => ?_⟩
                  · exact hW [0, 1, 2, 3, 4, 5, 7] _ _ _ _ _ (hB 6 0 _ _ _ _ _ _ (by omega) rfl (Or.inl rfl) (by omega) (by omega))
                  · refine ⟨fun h45 => ?_, fun h45 => ?_⟩
                    · refine ⟨fun h46 => ?_, fun h46 => ?_⟩
                      · refine ⟨fun h47 => ?_, fun h47 => ?_⟩
                        · exact hW [0, 1, 2, 3, 4, 5, 7] _ _ _ _ _ (hB 6 0 _ _ _ _ _ _ (by omega) rfl (Or.inl rfl) (by omega) (by omega))
                        · refine ⟨by omega, fun x48 => ?_⟩
                          refine ⟨fun h49 => ?_, fun h49 => ?_⟩
                          · exact hW [0, 1, 2, 3, 4, 5, 7] _ _ _ _ _ (hB 6 0 _ _ _ _ _ _ (by omega) rfl (Or.inl rfl) (by omega) (by omega))
                          · exact hW [0, 1, 2, 3, 4, 5, 7] _ _ _ _ _ (hB 6 0 _ _ _ _ _ _ (by omega) rfl (Or.inr rfl) (by omega) (by omega))
                      · refine ⟨fun h50 => ?_, fun h50 => ?_⟩
                        · exact hW [0, 1, 2, 3, 4, 5, 7] _ _ _ _ _ (hB 6 0 _ _ _ _ _ _ (by omega) rfl (Or.inl rfl) (by omega) (by omega))
                        · refine ⟨by omega, fun x51 => ?_⟩
                          refine ⟨fun h52 => ?_, fun h52 => ?_⟩
                          · exact hW [0, 1, 2, 3, 4, 5, 7] _ _ _ _ _ (hB 6 0 _ _ _ _ _ _ (by omega) rfl (Or.inl rfl) (by omega) (by omega))
                          · exact hW [0, 1, 2, 3, 4, 5, 7] _ _ _ _ _ (hB 6 0 _ _ _ _ _ _ (by omega) rfl (Or.inr rfl) (by omega) (by omega))
                    · refine ⟨fun h53 => ?_, fun h53 => ?_⟩
                      · refine ⟨fun h54 => ?_, fun h54 => ?_⟩
                        · exact hW [0, 1, 2, 3, 4, 5, 7] _ _ _ _ _ (hB 6 0 _ _ _ _ _ _ (by omega) rfl (Or.inl rfl) (by omega) (by omega))
                        · refine ⟨by omega, fun x55 => ?_⟩
                          refine ⟨fun h56 => ?_, fun h56 => ?_⟩
                          · exact hW [0, 1, 2, 3, 4, 5, 7] _ _ _ _ _ (hB 6 0 _ _ _ _ _ _ (by omega) rfl (Or.inl rfl) (by omega) (by omega))
                          · exact hW [0, 1, 2, 3, 4, 5, 7] _ _ _ _ _ (hB 6 0 _ _ _ _ _ _ (by omega) rfl (Or.inr rfl) (by omega) (by omega))
                      · refine ⟨fun h57 => ?_, fun h57 => ?_⟩
                        · exact hW [0, 1, 2, 3, 4, 5, 7] _ _ _ _ _ (hB 6 0 _ _ _ _ _ _ (by omega) rfl (Or.inl rfl) (by omega) (by omega))
                        · refine ⟨by omega, fun x58 => ?_⟩
                          refine ⟨fun h59 => ?_, fun h59 => ?_⟩
                          · exact hW [0, 1, 2, 3, 4, 5, 7] _ _ _ _ _ (hB 6 0 _ _ _ _ _ _ (by omega) rfl (Or.inl rfl) (by omega) (by omega))
                          · exact hW [0, 1, 2, 3, 4, 5, 7] _ _ _ _ _ (hB 6 0 _ _ _ _ _ _ (by omega) rfl (Or.inr rfl) (by omega) (by omega))
            | succ j2 ihA =>
              intro k2 a4 a5 a6 x2 g2 u2 hkk2 hxk2 hg2 hu2
              subst hxk2
              have hltk2 : k2 < 12 := by omega
              refine hV [4, 35, 155, 174] 150 35 _ _ _ _ ?_
              refine ⟨by omega, ho, fun x9 g9 f9 => ?_⟩
              have e9 := f9.1
              refine ⟨fun h1 => ?_, fun h1 => ?_⟩
              · refine ⟨by omega, ho, rfl, rfl, fun v9 h41 => ?_, fun E hE => ?_⟩
                rotate_left
                · exact hpx E ((by decide +kernel : ∀ E ∈ ["java/lang/IndexOutOfBoundsException", "java/lang/IllegalArgumentException"], E ∈ z_cas) E hE) _ (by omega)
                obtain ⟨x41, rfl⟩ := h41
                refine ⟨fun h42 => ?_, fun h42 => ?_⟩
                · exact hW [0, 1, 2, 3, 4, 5, 7] _ _ _ _ _ (hB 6 0 _ _ _ _ _ _ (by omega) rfl (Or.inl rfl) (by omega) (by omega))
                · refine ⟨fun h43 => ?_, fun h43 => ?_⟩
                  · exact hW [0, 1, 2, 3, 4, 5, 7] _ _ _ _ _ (hB 6 0 _ _ _ _ _ _ (by omega) rfl (Or.inl rfl) (by omega) (by omega))
                  · refine ⟨fun h44 => ?_, fun h44 => ?_⟩
                    · exact hW [0, 1, 2, 3, 4, 5, 7] _ _ _ _ _ (hB 6 0 _ _ _ _ _ _ (by omega) rfl (Or.inl rfl) (by omega) (by omega))
                    · refine ⟨fun h45 => ?_, fun h45 => ?_⟩
                      · refine ⟨fun h46 => ?_, fun h46 => ?_⟩
                        · refine ⟨fun h47 => ?_, fun h47 => ?_⟩
                          · exact hW [0, 1, 2, 3, 4, 5, 7] _ _ _ _ _ (hB 6 0 _ _ _ _ _ _ (by omega) rfl (Or.inl rfl) (by omega) (by omega))
                          · refine ⟨by omega, fun x48 => ?_⟩
                            refine ⟨fun h49 => ?_, fun h49 => ?_⟩
                            · exact hW [0, 1, 2, 3, 4, 5, 7] _ _ _ _ _ (hB 6 0 _ _ _ _ _ _ (by omega) rfl (Or.inl rfl) (by omega) (by omega))
                            · exact hW [0, 1, 2, 3, 4, 5, 7] _ _ _ _ _ (hB 6 0 _ _ _ _ _ _ (by omega) rfl (Or.inr rfl) (by omega) (by omega))
                        · refine ⟨fun h50 => ?_, fun h50 => ?_⟩
                          · exact hW [0, 1, 2, 3, 4, 5, 7] _ _ _ _ _ (hB 6 0 _ _ _ _ _ _ (by omega) rfl (Or.inl rfl) (by omega) (by omega))
                          · refine ⟨by omega, fun x51 => ?_⟩
                            refine ⟨fun h52 => ?_, fun h52 => ?_⟩
                            · exact hW [0, 1, 2, 3, 4, 5, 7] _ _ _ _ _ (hB 6 0 _ _ _ _ _ _ (by omega) rfl (Or.inl rfl) (by omega) (by omega))
                            · exact hW [0, 1, 2, 3, 4, 5, 7] _ _ _ _ _ (hB 6 0 _ _ _ _ _ _ (by omega) rfl (Or.inr rfl) (by omega) (by omega))
                      · refine ⟨fun h53 => ?_, fun h53 => ?_⟩
                        · refine ⟨fun h54 => ?_, fun h54 => ?_⟩
                          · exact hW [0, 1, 2, 3, 4, 5, 7] _ _ _ _ _ (hB 6 0 _ _ _ _ _ _ (by omega) rfl (Or.inl rfl) (by omega) (by omega))
                          · refine ⟨by omega, fun x55 => ?_⟩
                            refine ⟨fun h56 => ?_, fun h56 => ?_⟩
                            · exact hW [0, 1, 2, 3, 4, 5, 7] _ _ _ _ _ (hB 6 0 _ _ _ _ _ _ (by omega) rfl (Or.inl rfl) (by omega) (by omega))
                            · exact hW [0, 1, 2, 3, 4, 5, 7] _ _ _ _ _ (hB 6 0 _ _ _ _ _ _ (by omega) rfl (Or.inr rfl) (by omega) (by omega))
                        · refine ⟨fun h57 => ?_, fun h57 => ?_⟩
                          · exact hW [0, 1, 2, 3, 4, 5, 7] _ _ _ _ _ (hB 6 0 _ _ _ _ _ _ (by omega) rfl (Or.inl rfl) (by omega) (by omega))
                          · refine ⟨by omega, fun x58 => ?_⟩
                            refine ⟨fun h59 => ?_, fun h59 => ?_⟩
                            · exact hW [0, 1, 2, 3, 4, 5, 7] _ _ _ _ _ (hB 6 0 _ _ _ _ _ _ (by omega) rfl (Or.inl rfl) (by omega) (by omega))
                            · exact hW [0, 1, 2, 3, 4, 5, 7] _ _ _ _ _ (hB 6 0 _ _ _ _ _ _ (by omega) rfl (Or.inr rfl) (by omega) (by omega))
              · refine ⟨by omega, ho, rfl, rfl, fun v9 h81 => ?_, fun E hE => ?_⟩
                rotate_left
                · exact hpx E ((by decide +kernel : ∀ E ∈ ["java/lang/IndexOutOfBoundsException", "java/lang/IllegalArgumentException"], E ∈ z_cas) E hE) _ (by omega)
                obtain ⟨⟨x81, rfl⟩, h81⟩ := h81
                refine ⟨fun h82 => ?_, fun h82 => ?_⟩
                · exact hW [0, 1, 2, 3, 4, 5, 6, 7] _ _ _ _ _ (ihA (k2 + 1) _ _ _ _ _ _ (by omega) (nI_add k2 1) (by omega) (by omega))
                · refine ⟨by omega, ho, rfl, rfl, fun v9 h83 => ?_, fun E hE => ?_⟩
                  rotate_left
                  · exact hpx E ((by decide +kernel : ∀ E ∈ ["java/lang/IndexOutOfBoundsException", "java/lang/IllegalArgumentException"], E ∈ z_cas) E hE) _ (by omega)
                  obtain ⟨⟨x83, rfl⟩, h83⟩ := h83
                  refine ⟨fun h84 => ?_, fun h84 => ?_⟩
                  · exact hW [0, 1, 2, 3, 4, 5, 6, 7] _ _ _ _ _ (ihA (k2 + 1) _ _ _ _ _ _ (by omega) (nI_add k2 1) (by omega) (by omega))
                  · exact hW [0, 1, 2, 3, 4, 5, 6, 7] _ _ _ _ _ (ihA (k2 + 1) _ _ _ _ _ _ (by omega) (nI_add k2 1) (by omega) (by omega))
          refine hV [4, 35, 155, 174] 150 4 _ _ _ _ ?_
          refine ⟨fun h1 => (y_lft (by decide) hltk h1).elim, fun _ => ?_⟩
          refine ⟨fun h1 => ?_, fun h1 => ?_⟩
          · exact ⟨y_n01 ha2, by omega, hpo _ _ (by omega)⟩
          · refine ⟨by omega, ho, rfl, rfl, fun v9 h11 => ?_, fun E hE => ?_⟩
            rotate_left
            · exact hpx E ((by decide +kernel : ∀ E ∈ ["java/lang/IndexOutOfBoundsException", "java/lang/IllegalArgumentException"], E ∈ z_cas) E hE) _ (by omega)
            obtain ⟨x11, rfl⟩ := h11
            refine ⟨by omega, ho, rfl, rfl, fun v9 h12 => ?_, fun E hE => ?_⟩
            rotate_left
            · exact hpx E ((by decide +kernel : ∀ E ∈ ["java/lang/IndexOutOfBoundsException"], E ∈ z_cas) E hE) _ (by omega)
            obtain ⟨x12, rfl⟩ := h12
            exact hW [0, 1, 2, 3, 4, 5, 6, 7] _ _ _ _ _ (hA 12 0 _ _ _ _ _ _ (by omega) rfl (by omega) (by omega))
      refine hV [4, 35, 155, 174] 150 0 _ _ _ _ ?_
      exact hW [0, 1, 2, 3] _ _ _ _ _ (hO 16 0 _ _ _ _ (by omega) rfl (Or.inr rfl) (Nat.le_refl _) (by omega))
    · exact h.elim
