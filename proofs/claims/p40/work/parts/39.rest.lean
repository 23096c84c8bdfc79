/-! areClaims, isPaid, isQuiet -/
def sx_areClaims : y_SX := fun as g k kx => match as with
  | [.ref o, .int _] => Nat.blt o 2 = true ∧ (∀ (r : Int32) (g' : Nat), g ≤ g' → k (some (.int r)) g') ∧ ∀ E ∈ z_cas, ∀ g' : Nat, g ≤ g' → kx E g'
  | _ => False
def CL_areClaims : List (Nat × Instr × Nat × Nat) := [(0, .iconst 1, 1, 0), (1, .istore_n 2, 2, 0), (2, .iconst 0, 3, 0), (3, .istore_n 3, 4, 0), (4, .aload_n 0, 5, 0), (5, .bipush 21, 7, 0), (7, .iload_n 3, 8, 0), (8, .iconst 0, 9, 0), (9, .iconst 0, 10, 0), (10, .invokestatic 164, 13, 0), (13, .ifCond .lt 105, 16, 118), (16, .iload_n 2, 17, 0), (17, .ifCond .eq 101, 20, 118), (20, .aload_n 0, 21, 0), (21, .iload_n 3, 22, 0), (22, .iconst 0, 23, 0), (23, .invokevirtual 34, 26, 0), (26, .istore 4, 28, 0), (28, .aload_n 0, 29, 0), (29, .iload_n 3, 30, 0), (30, .iconst 3, 31, 0), (31, .invokevirtual 34, 34, 0), (34, .istore 5, 36, 0), (36, .iload 5, 38, 0), (38, .ifCond .ge 7, 41, 45), (41, .iconst 1, 42, 0), (42, .goto 4, 45, 46), (45, .iconst 0, 46, 0), (46, .iload 4, 48, 0), (48, .ifCond .ne 7, 51, 55), (51, .iconst 1, 52, 0), (52, .goto 4, 55, 56), (55, .iconst 0, 56, 0), (56, .if_icmp .ne 54, 59, 110), (59, .iload 5, 61, 0), (61, .iload_n 1, 62, 0), (62, .if_icmp .gt 48, 65, 110), (65, .iload 4, 67, 0), (67, .iconst 2, 68, 0), (68, .if_icmp .ne 7, 71, 75), (71, .iconst 1, 72, 0), (72, .goto 4, 75, 76), (75, .iconst 0, 76, 0), (76, .aload_n 0, 77, 0), (77, .iload_n 3, 78, 0), (78, .iconst 1, 79, 0), (79, .invokevirtual 34, 82, 0), (82, .ifCond .le 7, 85, 89), (85, .iconst 1, 86, 0), (86, .goto 4, 89, 90), (89, .iconst 0, 90, 0), (90, .if_icmp .ne 20, 93, 110), (93, .aload_n 0, 94, 0), (94, .iload_n 3, 95, 0), (95, .iconst 2, 96, 0), (96, .invokevirtual 34, 99, 0), (99, .iload_n 3, 100, 0), (100, .ishr, 101, 0), (101, .iconst 1, 102, 0), (102, .iand, 103, 0), (103, .ifCond .ne 7, 106, 110), (106, .iconst 1, 107, 0), (107, .goto 4, 110, 111), (110, .iconst 0, 111, 0), (111, .istore_n 2, 112, 0), (112, .iinc 3 1, 115, 0), (115, .goto (-111), 118, 4), (118, .iconst 0, 119, 0), (119, .istore_n 3, 120, 0), (120, .aload_n 0, 121, 0), (121, .bipush 28, 123, 0), (123, .iload_n 3, 124, 0), (124, .iconst 0, 125, 0), (125, .iconst 0, 126, 0), (126, .invokestatic 164, 129, 0), (129, .ifCond .lt 87, 132, 216), (132, .iload_n 2, 133, 0), (133, .ifCond .eq 83, 136, 216), (136, .aload_n 0, 137, 0), (137, .iload_n 3, 138, 0), (138, .iconst 0, 139, 0), (139, .invokevirtual 58, 142, 0), (142, .istore 4, 144, 0), (144, .aload_n 0, 145, 0), (145, .iload_n 3, 146, 0), (146, .iconst 5, 147, 0), (147, .invokevirtual 58, 150, 0), (150, .ifCond .lt 7, 153, 157), (153, .iconst 1, 154, 0), (154, .goto 4, 157, 158), (157, .iconst 0, 158, 0), (158, .iload 4, 160, 0), (160, .iconst 1, 161, 0), (161, .if_icmp .ne 7, 164, 168), (164, .iconst 1, 165, 0), (165, .goto 4, 168, 169), (168, .iconst 0, 169, 0), (169, .if_icmp .ne 39, 172, 208), (172, .aload_n 0, 173, 0), (173, .iload_n 3, 174, 0), (174, .iconst 4, 175, 0), (175, .invokevirtual 58, 178, 0), (178, .iload_n 1, 179, 0), (179, .if_icmp .gt 29, 182, 208), (182, .aload_n 0, 183, 0), (183, .iload_n 3, 184, 0), (184, .iconst 1, 185, 0), (185, .invokevirtual 58, 188, 0), (188, .bipush 64, 190, 0), (190, .if_icmp .ge 18, 193, 208), (193, .aload_n 0, 194, 0), (194, .iload_n 3, 195, 0), (195, .iconst 2, 196, 0), (196, .invokevirtual 58, 199, 0), (199, .bipush 64, 201, 0), (201, .if_icmp .ge 7, 204, 208), (204, .iconst 1, 205, 0), (205, .goto 4, 208, 209), (208, .iconst 0, 209, 0), (209, .istore_n 2, 210, 0), (210, .iinc 3 1, 213, 0), (213, .goto (-93), 216, 120), (216, .iload_n 2, 217, 0), (217, .ireturn, 218, 0)]
def GL_areClaims (kx : String → Nat → Nat → Prop) : y_G := (CL_areClaims, [(34, 3, y_cs 200 1 (y_vs 2 (y_rn 12) ["java/lang/IndexOutOfBoundsException", "java/lang/IllegalArgumentException"]) kx), (58, 3, y_cs 200 1 (y_vs 2 (y_rn 12) ["java/lang/IndexOutOfBoundsException", "java/lang/IllegalArgumentException"]) kx), (100164, 5, y_cs 200 1 sx_does kx)], [], [], some .boolean)
set_option maxRecDepth 20000 in
set_option maxHeartbeats 8000000 in
theorem cy_areClaims (l : Launch) (h9 : l.stackTraces = false) : y_CX l yL_areClaims cL_areClaims 6 (some .boolean) (none) sx_areClaims 9 241 200 := by
  refine y_CX_of (GL_areClaims) 218 (by decide) (fun _ => y_cok_of (code := CL_areClaims) rfl (by decide +kernel)) (fun _ => y_pok_of (c1 := []) (c2 := []) co_L lo_L rfl rfl (by decide +kernel)) (fun _ => rfl) ?_ (fun kx => List.forall_mem_cons.mpr ⟨⟨1, (y_vs 2 (y_rn 12) ["java/lang/IndexOutOfBoundsException", "java/lang/IllegalArgumentException"]), rfl, y_coV (ct_X6_ofClaim l h9) wk_ofClaim kb_X6_ofClaim kv_L_34 ko_X6 (Nat.le_of_ble_eq_true rfl) (by decide) (by decide)⟩, List.forall_mem_cons.mpr ⟨⟨1, (y_vs 2 (y_rn 12) ["java/lang/IndexOutOfBoundsException", "java/lang/IllegalArgumentException"]), rfl, y_coV (ct_X6_ofNotice l h9) wk_ofNotice kb_X6_ofNotice kv_L_58 ko_X6 (Nat.le_of_ble_eq_true rfl) (by decide) (by decide)⟩, List.forall_mem_cons.mpr ⟨⟨1, sx_does, rfl, y_coW (cy_does l h9) kc_does ks_L_164 (by decide) (by decide)⟩, fun _ h => absurd h List.not_mem_nil⟩⟩⟩) ?_
  · intro as g Po Px h
    unfold sx_areClaims at h
    split at h
    · exact Nat.le_of_ble_eq_true rfl
    · exact h.elim
  · intro as g Po Px h V hV hW
    unfold sx_areClaims at h
    split at h
    · rename_i o now
      obtain ⟨ho, hpo, hpx⟩ := h
      have hB : ∀ (j3 k3 : Nat) (a2 : Int32) (x3 : Int32) (g3 u3 : Nat), k3 + j3 = 12 → x3 = nI k3 → (a2 = nI 0 ∨ a2 = nI 1) → g ≤ g3 → u3 ≤ 70 + 7 * k3 → V 120 [(0, .ref o), (1, .int now), (2, .int a2), (3, .int x3)] [] g3 u3 := by
        intro j3
        induction j3 with
        | zero =>
          intro k3 a2 x3 g3 u3 hkk3 hxk3 ha2 hg3 hu3
          subst hxk3
          have hzk3 : k3 = 12 := by omega
          subst hzk3
          refine hV [4, 120] 129 120 _ _ _ _ ?_
          refine ⟨by omega, ho, fun x9 g9 f9 => ?_⟩
          have e9 := f9.1
          refine ⟨fun h1 => ?_, fun h1 => (y_neg (y_fr28 f9) h1).elim⟩
          exact ⟨y_n01 ha2, by omega, hpo _ _ (by omega)⟩
        | succ j3 ihB =>
          intro k3 a2 x3 g3 u3 hkk3 hxk3 ha2 hg3 hu3
          subst hxk3
          have hltk3 : k3 < 12 := by omega
          refine hV [4, 120] 129 120 _ _ _ _ ?_
          refine ⟨by omega, ho, fun x9 g9 f9 => ?_⟩
          have e9 := f9.1
          refine ⟨fun h1 => ?_, fun _ => ?_⟩
          · exact ⟨y_n01 ha2, by omega, hpo _ _ (by omega)⟩
          · refine ⟨fun h1 => ?_, fun h1 => ?_⟩
            · exact ⟨y_n01 ha2, by omega, hpo _ _ (by omega)⟩
            · refine ⟨by omega, ho, rfl, rfl, fun v9 h41 => ?_, fun E hE => ?_⟩
              rotate_left
              · exact hpx E ((by decide +kernel : ∀ E ∈ ["java/lang/IndexOutOfBoundsException", "java/lang/IllegalArgumentException"], E ∈ z_cas) E hE) _ (by omega)
              obtain ⟨⟨x41, rfl⟩, h41⟩ := h41
              refine ⟨by omega, ho, rfl, rfl, fun v9 h42 => ?_, fun E hE => ?_⟩
              rotate_left
              · exact hpx E ((by decide +kernel : ∀ E ∈ ["java/lang/IndexOutOfBoundsException", "java/lang/IllegalArgumentException"], E ∈ z_cas) E hE) _ (by omega)
              obtain ⟨⟨x42, rfl⟩, h42⟩ := h42
              refine ⟨fun h43 => ?_, fun h43 => ?_⟩
              · refine ⟨fun h44 => ?_, fun h44 => ?_⟩
                · refine ⟨fun h45 => ?_, fun h45 => ?_⟩
                  · exact hW [0, 1, 2, 3] _ _ _ _ _ (ihB (k3 + 1) _ _ _ _ (by omega) (nI_add k3 1) (Or.inl rfl) (by omega) (by omega))
                  · refine ⟨by omega, ho, rfl, rfl, fun v9 h46 => ?_, fun E hE => ?_⟩
                    rotate_left
                    · exact hpx E ((by decide +kernel : ∀ E ∈ ["java/lang/IndexOutOfBoundsException", "java/lang/IllegalArgumentException"], E ∈ z_cas) E hE) _ (by omega)
                    obtain ⟨⟨x46, rfl⟩, h46⟩ := h46
                    refine ⟨fun h47 => ?_, fun h47 => ?_⟩
                    · exact hW [0, 1, 2, 3] _ _ _ _ _ (ihB (k3 + 1) _ _ _ _ (by omega) (nI_add k3 1) (Or.inl rfl) (by omega) (by omega))
                    · refine ⟨by omega, ho, rfl, rfl, fun v9 h48 => ?_, fun E hE => ?_⟩
                      rotate_left
                      · exact hpx E ((by decide +kernel : ∀ E ∈ ["java/lang/IndexOutOfBoundsException", "java/lang/IllegalArgumentException"], E ∈ z_cas) E hE) _ (by omega)
                      obtain ⟨⟨x48, rfl⟩, h48⟩ := h48
                      refine ⟨fun h49 => ?_, fun h49 => ?_⟩
                      · exact hW [0, 1, 2, 3] _ _ _ _ _ (ihB (k3 + 1) _ _ _ _ (by omega) (nI_add k3 1) (Or.inl rfl) (by omega) (by omega))
                      · refine ⟨by omega, ho, rfl, rfl, fun v9 h50 => ?_, fun E hE => ?_⟩
                        rotate_left
                        · exact hpx E ((by decide +kernel : ∀ E ∈ ["java/lang/IndexOutOfBoundsException", "java/lang/IllegalArgumentException"], E ∈ z_cas) E hE) _ (by omega)
                        obtain ⟨⟨x50, rfl⟩, h50⟩ := h50
                        refine ⟨fun h51 => ?_, fun h51 => ?_⟩
                        · exact hW [0, 1, 2, 3] _ _ _ _ _ (ihB (k3 + 1) _ _ _ _ (by omega) (nI_add k3 1) (Or.inl rfl) (by omega) (by omega))
                        · exact hW [0, 1, 2, 3] _ _ _ _ _ (ihB (k3 + 1) _ _ _ _ (by omega) (nI_add k3 1) (Or.inr rfl) (by omega) (by omega))
                · refine ⟨fun h52 => ?_, fun h52 => ?_⟩
                  · exact hW [0, 1, 2, 3] _ _ _ _ _ (ihB (k3 + 1) _ _ _ _ (by omega) (nI_add k3 1) (Or.inl rfl) (by omega) (by omega))
                  · refine ⟨by omega, ho, rfl, rfl, fun v9 h53 => ?_, fun E hE => ?_⟩
                    rotate_left
                    · exact hpx E ((by decide +kernel : ∀ E ∈ ["java/lang/IndexOutOfBoundsException", "java/lang/IllegalArgumentException"], E ∈ z_cas) E hE) _ (by omega)
                    obtain ⟨⟨x53, rfl⟩, h53⟩ := h53
                    refine ⟨fun h54 => ?_, fun h54 => ?_⟩
                    · exact hW [0, 1, 2, 3] _ _ _ _ _ (ihB (k3 + 1) _ _ _ _ (by omega) (nI_add k3 1) (Or.inl rfl) (by omega) (by omega))
                    · refine ⟨by omega, ho, rfl, rfl, fun v9 h55 => ?_, fun E hE => ?_⟩
                      rotate_left
                      · exact hpx E ((by decide +kernel : ∀ E ∈ ["java/lang/IndexOutOfBoundsException", "java/lang/IllegalArgumentException"], E ∈ z_cas) E hE) _ (by omega)
                      obtain ⟨⟨x55, rfl⟩, h55⟩ := h55
                      refine ⟨fun h56 => ?_, fun h56 => ?_⟩
                      · exact hW [0, 1, 2, 3] _ _ _ _ _ (ihB (k3 + 1) _ _ _ _ (by omega) (nI_add k3 1) (Or.inl rfl) (by omega) (by omega))
                      · refine ⟨by omega, ho, rfl, rfl, fun v9 h57 => ?_, fun E hE => ?_⟩
                        rotate_left
                        · exact hpx E ((by decide +kernel : ∀ E ∈ ["java/lang/IndexOutOfBoundsException", "java/lang/IllegalArgumentException"], E ∈ z_cas) E hE) _ (by omega)
                        obtain ⟨⟨x57, rfl⟩, h57⟩ := h57
                        refine ⟨fun h58 => ?_, fun h58 => ?_⟩
                        · exact hW [0, 1, 2, 3] _ _ _ _ _ (ihB (k3 + 1) _ _ _ _ (by omega) (nI_add k3 1) (Or.inl rfl) (by omega) (by omega))
                        · exact hW [0, 1, 2, 3] _ _ _ _ _ (ihB (k3 + 1) _ _ _ _ (by omega) (nI_add k3 1) (Or.inr rfl) (by omega) (by omega))
              · refine ⟨fun h59 => ?_, fun h59 => ?_⟩
                · refine ⟨fun h60 => ?_, fun h60 => ?_⟩
                  · exact hW [0, 1, 2, 3] _ _ _ _ _ (ihB (k3 + 1) _ _ _ _ (by omega) (nI_add k3 1) (Or.inl rfl) (by omega) (by omega))
                  · refine ⟨by omega, ho, rfl, rfl, fun v9 h61 => ?_, fun E hE => ?_⟩
                    rotate_left
                    · exact hpx E ((by decide +kernel : ∀ E ∈ ["java/lang/IndexOutOfBoundsException", "java/lang/IllegalArgumentException"], E ∈ z_cas) E hE) _ (by omega)
                    obtain ⟨⟨x61, rfl⟩, h61⟩ := h61
                    refine ⟨fun h62 => ?_, fun h62 => ?_⟩
                    · exact hW [0, 1, 2, 3] _ _ _ _ _ (ihB (k3 + 1) _ _ _ _ (by omega) (nI_add k3 1) (Or.inl rfl) (by omega) (by omega))
                    · refine ⟨by omega, ho, rfl, rfl, fun v9 h63 => ?_, fun E hE => ?_⟩
                      rotate_left
                      · exact hpx E ((by decide +kernel : ∀ E ∈ ["java/lang/IndexOutOfBoundsException", "java/lang/IllegalArgumentException"], E ∈ z_cas) E hE) _ (by omega)
                      obtain ⟨⟨x63, rfl⟩, h63⟩ := h63
                      refine ⟨fun h64 => ?_, fun h64 => ?_⟩
                      · exact hW [0, 1, 2, 3] _ _ _ _ _ (ihB (k3 + 1) _ _ _ _ (by omega) (nI_add k3 1) (Or.inl rfl) (by omega) (by omega))
                      · refine ⟨by omega, ho, rfl, rfl, fun v9 h65 => ?_, fun E hE => ?_⟩
                        rotate_left
                        · exact hpx E ((by decide +kernel : ∀ E ∈ ["java/lang/IndexOutOfBoundsException", "java/lang/IllegalArgumentException"], E ∈ z_cas) E hE) _ (by omega)
                        obtain ⟨⟨x65, rfl⟩, h65⟩ := h65
                        refine ⟨fun h66 => ?_, fun h66 => ?_⟩
                        · exact hW [0, 1, 2, 3] _ _ _ _ _ (ihB (k3 + 1) _ _ _ _ (by omega) (nI_add k3 1) (Or.inl rfl) (by omega) (by omega))
                        · exact hW [0, 1, 2, 3] _ _ _ _ _ (ihB (k3 + 1) _ _ _ _ (by omega) (nI_add k3 1) (Or.inr rfl) (by omega) (by omega))
                · refine ⟨fun h67 => ?_, fun h67 => ?_⟩
                  · exact hW [0, 1, 2, 3] _ _ _ _ _ (ihB (k3 + 1) _ _ _ _ (by omega) (nI_add k3 1) (Or.inl rfl) (by omega) (by omega))
                  · refine ⟨by omega, ho, rfl, rfl, fun v9 h68 => ?_, fun E hE => ?_⟩
                    rotate_left
                    · exact hpx E ((by decide +kernel : ∀ E ∈ ["java/lang/IndexOutOfBoundsException", "java/lang/IllegalArgumentException"], E ∈ z_cas) E hE) _ (by omega)
                    obtain ⟨⟨x68, rfl⟩, h68⟩ := h68
                    refine ⟨fun h69 => ?_, fun h69 => ?_⟩
                    · exact hW [0, 1, 2, 3] _ _ _ _ _ (ihB (k3 + 1) _ _ _ _ (by omega) (nI_add k3 1) (Or.inl rfl) (by omega) (by omega))
                    · refine ⟨by omega, ho, rfl, rfl, fun v9 h70 => ?_, fun E hE => ?_⟩
                      rotate_left
                      · exact hpx E ((by decide +kernel : ∀ E ∈ ["java/lang/IndexOutOfBoundsException", "java/lang/IllegalArgumentException"], E ∈ z_cas) E hE) _ (by omega)
                      obtain ⟨⟨x70, rfl⟩, h70⟩ := h70
                      refine ⟨fun h71 => ?_, fun h71 => ?_⟩
                      · exact hW [0, 1, 2, 3] _ _ _ _ _ (ihB (k3 + 1) _ _ _ _ (by omega) (nI_add k3 1) (Or.inl rfl) (by omega) (by omega))
                      · refine ⟨by omega, ho, rfl, rfl, fun v9 h72 => ?_, fun E hE => ?_⟩
                        rotate_left
                        · exact hpx E ((by decide +kernel : ∀ E ∈ ["java/lang/IndexOutOfBoundsException", "java/lang/IllegalArgumentException"], E ∈ z_cas) E hE) _ (by omega)
                        obtain ⟨⟨x72, rfl⟩, h72⟩ := h72
                        refine ⟨fun h73 => ?_, fun h73 => ?_⟩
                        · exact hW [0, 1, 2, 3] _ _ _ _ _ (ihB (k3 + 1) _ _ _ _ (by omega) (nI_add k3 1) (Or.inl rfl) (by omega) (by omega))
                        · exact hW [0, 1, 2, 3] _ _ _ _ _ (ihB (k3 + 1) _ _ _ _ (by omega) (nI_add k3 1) (Or.inr rfl) (by omega) (by omega))
      have hA : ∀ (j2 k2 : Nat) (a2 : Int32) (x2 : Int32) (g2 u2 : Nat), k2 + j2 = 12 → x2 = nI k2 → (a2 = nI 0 ∨ a2 = nI 1) → g ≤ g2 → u2 ≤ 5 * k2 → V 4 [(0, .ref o), (1, .int now), (2, .int a2), (3, .int x2)] [] g2 u2 := by
        intro j2
        induction j2 with
        | zero =>
          intro k2 a2 x2 g2 u2 hkk2 hxk2 ha2 hg2 hu2
          subst hxk2
          have hzk2 : k2 = 12 := by omega
          subst hzk2
          refine hV [4, 120] 129 4 _ _ _ _ ?_
          refine ⟨by omega, ho, fun x9 g9 f9 => ?_⟩
          have e9 := f9.1
          refine ⟨fun h1 => ?_, fun h1 => (y_neg (y_fr21 f9) h1).elim⟩
          exact hW [0, 1, 2, 3] _ _ _ _ _ (hB 12 0 _ _ _ _ (by omega) rfl ha2 (by omega) (by omega))
        | succ j2 ihA =>
          intro k2 a2 x2 g2 u2 hkk2 hxk2 ha2 hg2 hu2
          subst hxk2
          have hltk2 : k2 < 12 := by omega
          refine hV [4, 120] 129 4 _ _ _ _ ?_
          refine ⟨by omega, ho, fun x9 g9 f9 => ?_⟩
          have e9 := f9.1
          refine ⟨fun h1 => ?_, fun _ => ?_⟩
          · exact hW [0, 1, 2, 3] _ _ _ _ _ (hB 12 0 _ _ _ _ (by omega) rfl ha2 (by omega) (by omega))
          · refine ⟨fun h1 => ?_, fun h1 => ?_⟩
            · exact hW [0, 1, 2, 3] _ _ _ _ _ (hB 12 0 _ _ _ _ (by omega) rfl ha2 (by omega) (by omega))
            · refine ⟨by omega, ho, rfl, rfl, fun v9 h41 => ?_, fun E hE => ?_⟩
              rotate_left
              · exact hpx E ((by decide +kernel : ∀ E ∈ ["java/lang/IndexOutOfBoundsException", "java/lang/IllegalArgumentException"], E ∈ z_cas) E hE) _ (by omega)
              obtain ⟨⟨x41, rfl⟩, h41⟩ := h41
              refine ⟨by omega, ho, rfl, rfl, fun v9 h42 => ?_, fun E hE => ?_⟩
              rotate_left
              · exact hpx E ((by decide +kernel : ∀ E ∈ ["java/lang/IndexOutOfBoundsException", "java/lang/IllegalArgumentException"], E ∈ z_cas) E hE) _ (by omega)
              obtain ⟨⟨x42, rfl⟩, h42⟩ := h42
              refine ⟨fun h43 => ?_, fun h43 => ?_⟩
              · refine ⟨fun h44 => ?_, fun h44 => ?_⟩
                · refine ⟨fun h45 => ?_, fun h45 => ?_⟩
                  · exact hW [0, 1, 2, 3] _ _ _ _ _ (ihA (k2 + 1) _ _ _ _ (by omega) (nI_add k2 1) (Or.inl rfl) (by omega) (by omega))
                  · refine ⟨fun h46 => ?_, fun h46 => ?_⟩
                    · exact hW [0, 1, 2, 3] _ _ _ _ _ (ihA (k2 + 1) _ _ _ _ (by omega) (nI_add k2 1) (Or.inl rfl) (by omega) (by omega))
                    · refine ⟨fun h47 => ?_, fun h47 => ?_⟩
                      · refine ⟨by omega, ho, rfl, rfl, fun v9 h48 => ?_, fun E hE => ?_⟩
                        rotate_left
                        · exact hpx E ((by decide +kernel : ∀ E ∈ ["java/lang/IndexOutOfBoundsException", "java/lang/IllegalArgumentException"], E ∈ z_cas) E hE) _ (by omega)
                        obtain ⟨⟨x48, rfl⟩, h48⟩ := h48
                        refine ⟨fun h49 => ?_, fun h49 => ?_⟩
                        · refine ⟨fun h50 => ?_, fun h50 => ?_⟩
                          · exact hW [0, 1, 2, 3] _ _ _ _ _ (ihA (k2 + 1) _ _ _ _ (by omega) (nI_add k2 1) (Or.inl rfl) (by omega) (by omega))
                          · refine ⟨by omega, ho, rfl, rfl, fun v9 h51 => ?_, fun E hE => ?_⟩
                            rotate_left
                            · exact hpx E ((by decide +kernel : ∀ E ∈ ["java/lang/IndexOutOfBoundsException", "java/lang/IllegalArgumentException"], E ∈ z_cas) E hE) _ (by omega)
                            obtain ⟨⟨x51, rfl⟩, h51⟩ := h51
                            refine ⟨fun h52 => ?_, fun h52 => ?_⟩
                            · exact hW [0, 1, 2, 3] _ _ _ _ _ (ihA (k2 + 1) _ _ _ _ (by omega) (nI_add k2 1) (Or.inl rfl) (by omega) (by omega))
                            · exact hW [0, 1, 2, 3] _ _ _ _ _ (ihA (k2 + 1) _ _ _ _ (by omega) (nI_add k2 1) (Or.inr rfl) (by omega) (by omega))
                        · refine ⟨fun h53 => ?_, fun h53 => ?_⟩
                          · exact hW [0, 1, 2, 3] _ _ _ _ _ (ihA (k2 + 1) _ _ _ _ (by omega) (nI_add k2 1) (Or.inl rfl) (by omega) (by omega))
                          · refine ⟨by omega, ho, rfl, rfl, fun v9 h54 => ?_, fun E hE => ?_⟩
                            rotate_left
                            · exact hpx E ((by decide +kernel : ∀ E ∈ ["java/lang/IndexOutOfBoundsException", "java/lang/IllegalArgumentException"], E ∈ z_cas) E hE) _ (by omega)
                            obtain ⟨⟨x54, rfl⟩, h54⟩ := h54
                            refine ⟨fun h55 => ?_, fun h55 => ?_⟩
                            · exact hW [0, 1, 2, 3] _ _ _ _ _ (ihA (k2 + 1) _ _ _ _ (by omega) (nI_add k2 1) (Or.inl rfl) (by omega) (by omega))
                            · exact hW [0, 1, 2, 3] _ _ _ _ _ (ihA (k2 + 1) _ _ _ _ (by omega) (nI_add k2 1) (Or.inr rfl) (by omega) (by omega))
                      · refine ⟨by omega, ho, rfl, rfl, fun v9 h56 => ?_, fun E hE => ?_⟩
                        rotate_left
                        · exact hpx E ((by decide +kernel : ∀ E ∈ ["java/lang/IndexOutOfBoundsException", "java/lang/IllegalArgumentException"], E ∈ z_cas) E hE) _ (by omega)
                        obtain ⟨⟨x56, rfl⟩, h56⟩ := h56
                        refine ⟨fun h57 => ?_, fun h57 => ?_⟩
                        · refine ⟨fun h58 => ?_, fun h58 => ?_⟩
                          · exact hW [0, 1, 2, 3] _ _ _ _ _ (ihA (k2 + 1) _ _ _ _ (by omega) (nI_add k2 1) (Or.inl rfl) (by omega) (by omega))
                          · refine ⟨by omega, ho, rfl, rfl, fun v9 h59 => ?_, fun E hE => ?_⟩
                            rotate_left
                            · exact hpx E ((by decide +kernel : ∀ E ∈ ["java/lang/IndexOutOfBoundsException", "java/lang/IllegalArgumentException"], E ∈ z_cas) E hE) _ (by omega)
                            obtain ⟨⟨x59, rfl⟩, h59⟩ := h59
                            refine ⟨fun h60 => ?_, fun h60 => ?_⟩
                            · exact hW [0, 1, 2, 3] _ _ _ _ _ (ihA (k2 + 1) _ _ _ _ (by omega) (nI_add k2 1) (Or.inl rfl) (by omega) (by omega))
                            · exact hW [0, 1, 2, 3] _ _ _ _ _ (ihA (k2 + 1) _ _ _ _ (by omega) (nI_add k2 1) (Or.inr rfl) (by omega) (by omega))
                        · refine ⟨fun h61 => ?_, fun h61 => ?_⟩
                          · exact hW [0, 1, 2, 3] _ _ _ _ _ (ihA (k2 + 1) _ _ _ _ (by omega) (nI_add k2 1) (Or.inl rfl) (by omega) (by omega))
                          · refine ⟨by omega, ho, rfl, rfl, fun v9 h62 => ?_, fun E hE => ?_⟩
                            rotate_left
                            · exact hpx E ((by decide +kernel : ∀ E ∈ ["java/lang/IndexOutOfBoundsException", "java/lang/IllegalArgumentException"], E ∈ z_cas) E hE) _ (by omega)
                            obtain ⟨⟨x62, rfl⟩, h62⟩ := h62
                            refine ⟨fun h63 => ?_, fun h63 => ?_⟩
                            · exact hW [0, 1, 2, 3] _ _ _ _ _ (ihA (k2 + 1) _ _ _ _ (by omega) (nI_add k2 1) (Or.inl rfl) (by omega) (by omega))
                            · exact hW [0, 1, 2, 3] _ _ _ _ _ (ihA (k2 + 1) _ _ _ _ (by omega) (nI_add k2 1) (Or.inr rfl) (by omega) (by omega))
                · refine ⟨fun h64 => ?_, fun h64 => ?_⟩
                  · exact hW [0, 1, 2, 3] _ _ _ _ _ (ihA (k2 + 1) _ _ _ _ (by omega) (nI_add k2 1) (Or.inl rfl) (by omega) (by omega))
                  · refine ⟨fun h65 => ?_, fun h65 => ?_⟩
                    · exact hW [0, 1, 2, 3] _ _ _ _ _ (ihA (k2 + 1) _ _ _ _ (by omega) (nI_add k2 1) (Or.inl rfl) (by omega) (by omega))
                    · refine ⟨fun h66 => ?_, fun h66 => ?_⟩
                      · refine ⟨by omega, ho, rfl, rfl, fun v9 h67 => ?_, fun E hE => ?_⟩
                        rotate_left
                        · exact hpx E ((by decide +kernel : ∀ E ∈ ["java/lang/IndexOutOfBoundsException", "java/lang/IllegalArgumentException"], E ∈ z_cas) E hE) _ (by omega)
                        obtain ⟨⟨x67, rfl⟩, h67⟩ := h67
                        refine ⟨fun h68 => ?_, fun h68 => ?_⟩
                        · refine ⟨fun h69 => ?_, fun h69 => ?_⟩
                          · exact hW [0, 1, 2, 3] _ _ _ _ _ (ihA (k2 + 1) _ _ _ _ (by omega) (nI_add k2 1) (Or.inl rfl) (by omega) (by omega))
                          · refine ⟨by omega, ho, rfl, rfl, fun v9 h70 => ?_, fun E hE => ?_⟩
                            rotate_left
                            · exact hpx E ((by decide +kernel : ∀ E ∈ ["java/lang/IndexOutOfBoundsException", "java/lang/IllegalArgumentException"], E ∈ z_cas) E hE) _ (by omega)
                            obtain ⟨⟨x70, rfl⟩, h70⟩ := h70
                            refine ⟨fun h71 => ?_, fun h71 => ?_⟩
                            · exact hW [0, 1, 2, 3] _ _ _ _ _ (ihA (k2 + 1) _ _ _ _ (by omega) (nI_add k2 1) (Or.inl rfl) (by omega) (by omega))
                            · exact hW [0, 1, 2, 3] _ _ _ _ _ (ihA (k2 + 1) _ _ _ _ (by omega) (nI_add k2 1) (Or.inr rfl) (by omega) (by omega))
                        · refine ⟨fun h72 => ?_, fun h72 => ?_⟩
                          · exact hW [0, 1, 2, 3] _ _ _ _ _ (ihA (k2 + 1) _ _ _ _ (by omega) (nI_add k2 1) (Or.inl rfl) (by omega) (by omega))
                          · refine ⟨by omega, ho, rfl, rfl, fun v9 h73 => ?_, fun E hE => ?_⟩
                            rotate_left
                            · exact hpx E ((by decide +kernel : ∀ E ∈ ["java/lang/IndexOutOfBoundsException", "java/lang/IllegalArgumentException"], E ∈ z_cas) E hE) _ (by omega)
                            obtain ⟨⟨x73, rfl⟩, h73⟩ := h73
                            refine ⟨fun h74 => ?_, fun h74 => ?_⟩
                            · exact hW [0, 1, 2, 3] _ _ _ _ _ (ihA (k2 + 1) _ _ _ _ (by omega) (nI_add k2 1) (Or.inl rfl) (by omega) (by omega))
                            · exact hW [0, 1, 2, 3] _ _ _ _ _ (ihA (k2 + 1) _ _ _ _ (by omega) (nI_add k2 1) (Or.inr rfl) (by omega) (by omega))
                      · refine ⟨by omega, ho, rfl, rfl, fun v9 h75 => ?_, fun E hE => ?_⟩
                        rotate_left
                        · exact hpx E ((by decide +kernel : ∀ E ∈ ["java/lang/IndexOutOfBoundsException", "java/lang/IllegalArgumentException"], E ∈ z_cas) E hE) _ (by omega)
                        obtain ⟨⟨x75, rfl⟩, h75⟩ := h75
                        refine ⟨fun h76 => ?_, fun h76 => ?_⟩
                        · refine ⟨fun h77 => ?_, fun h77 => ?_⟩
                          · exact hW [0, 1, 2, 3] _ _ _ _ _ (ihA (k2 + 1) _ _ _ _ (by omega) (nI_add k2 1) (Or.inl rfl) (by omega) (by omega))
                          · refine ⟨by omega, ho, rfl, rfl, fun v9 h78 => ?_, fun E hE => ?_⟩
                            rotate_left
                            · exact hpx E ((by decide +kernel : ∀ E ∈ ["java/lang/IndexOutOfBoundsException", "java/lang/IllegalArgumentException"], E ∈ z_cas) E hE) _ (by omega)
                            obtain ⟨⟨x78, rfl⟩, h78⟩ := h78
                            refine ⟨fun h79 => ?_, fun h79 => ?_⟩
                            · exact hW [0, 1, 2, 3] _ _ _ _ _ (ihA (k2 + 1) _ _ _ _ (by omega) (nI_add k2 1) (Or.inl rfl) (by omega) (by omega))
                            · exact hW [0, 1, 2, 3] _ _ _ _ _ (ihA (k2 + 1) _ _ _ _ (by omega) (nI_add k2 1) (Or.inr rfl) (by omega) (by omega))
                        · refine ⟨fun h80 => ?_, fun h80 => ?_⟩
                          · exact hW [0, 1, 2, 3] _ _ _ _ _ (ihA (k2 + 1) _ _ _ _ (by omega) (nI_add k2 1) (Or.inl rfl) (by omega) (by omega))
                          · refine ⟨by omega, ho, rfl, rfl, fun v9 h81 => ?_, fun E hE => ?_⟩
                            rotate_left
                            · exact hpx E ((by decide +kernel : ∀ E ∈ ["java/lang/IndexOutOfBoundsException", "java/lang/IllegalArgumentException"], E ∈ z_cas) E hE) _ (by omega)
                            obtain ⟨⟨x81, rfl⟩, h81⟩ := h81
                            refine ⟨fun h82 => ?_, fun h82 => ?_⟩
                            · exact hW [0, 1, 2, 3] _ _ _ _ _ (ihA (k2 + 1) _ _ _ _ (by omega) (nI_add k2 1) (Or.inl rfl) (by omega) (by omega))
                            · exact hW [0, 1, 2, 3] _ _ _ _ _ (ihA (k2 + 1) _ _ _ _ (by omega) (nI_add k2 1) (Or.inr rfl) (by omega) (by omega))
              · refine ⟨fun h83 => ?_, fun h83 => ?_⟩
                · refine ⟨fun h84 => ?_, fun h84 => ?_⟩
                  · exact hW [0, 1, 2, 3] _ _ _ _ _ (ihA (k2 + 1) _ _ _ _ (by omega) (nI_add k2 1) (Or.inl rfl) (by omega) (by omega))
                  · refine ⟨fun h85 => ?_, fun h85 => ?_⟩
                    · exact hW [0, 1, 2, 3] _ _ _ _ _ (ihA (k2 + 1) _ _ _ _ (by omega) (nI_add k2 1) (Or.inl rfl) (by omega) (by omega))
                    · refine ⟨fun h86 => ?_, fun h86 => ?_⟩
                      · refine ⟨by omega, ho, rfl, rfl, fun v9 h87 => ?_, fun E hE => ?_⟩
                        rotate_left
                        · exact hpx E ((by decide +kernel : ∀ E ∈ ["java/lang/IndexOutOfBoundsException", "java/lang/IllegalArgumentException"], E ∈ z_cas) E hE) _ (by omega)
                        obtain ⟨⟨x87, rfl⟩, h87⟩ := h87
                        refine ⟨fun h88 => ?_, fun h88 => ?_⟩
                        · refine ⟨fun h89 => ?_, fun h89 => ?_⟩
                          · exact hW [0, 1, 2, 3] _ _ _ _ _ (ihA (k2 + 1) _ _ _ _ (by omega) (nI_add k2 1) (Or.inl rfl) (by omega) (by omega))
                          · refine ⟨by omega, ho, rfl, rfl, fun v9 h90 => ?_, fun E hE => ?_⟩
                            rotate_left
                            · exact hpx E ((by decide +kernel : ∀ E ∈ ["java/lang/IndexOutOfBoundsException", "java/lang/IllegalArgumentException"], E ∈ z_cas) E hE) _ (by omega)
                            obtain ⟨⟨x90, rfl⟩, h90⟩ := h90
                            refine ⟨fun h91 => ?_, fun h91 => ?_⟩
                            · exact hW [0, 1, 2, 3] _ _ _ _ _ (ihA (k2 + 1) _ _ _ _ (by omega) (nI_add k2 1) (Or.inl rfl) (by omega) (by omega))
                            · exact hW [0, 1, 2, 3] _ _ _ _ _ (ihA (k2 + 1) _ _ _ _ (by omega) (nI_add k2 1) (Or.inr rfl) (by omega) (by omega))
                        · refine ⟨fun h92 => ?_, fun h92 => ?_⟩
                          · exact hW [0, 1, 2, 3] _ _ _ _ _ (ihA (k2 + 1) _ _ _ _ (by omega) (nI_add k2 1) (Or.inl rfl) (by omega) (by omega))
                          · refine ⟨by omega, ho, rfl, rfl, fun v9 h93 => ?_, fun E hE => ?_⟩
                            rotate_left
                            · exact hpx E ((by decide +kernel : ∀ E ∈ ["java/lang/IndexOutOfBoundsException", "java/lang/IllegalArgumentException"], E ∈ z_cas) E hE) _ (by omega)
                            obtain ⟨⟨x93, rfl⟩, h93⟩ := h93
                            refine ⟨fun h94 => ?_, fun h94 => ?_⟩
                            · exact hW [0, 1, 2, 3] _ _ _ _ _ (ihA (k2 + 1) _ _ _ _ (by omega) (nI_add k2 1) (Or.inl rfl) (by omega) (by omega))
                            · exact hW [0, 1, 2, 3] _ _ _ _ _ (ihA (k2 + 1) _ _ _ _ (by omega) (nI_add k2 1) (Or.inr rfl) (by omega) (by omega))
                      · refine ⟨by omega, ho, rfl, rfl, fun v9 h95 => ?_, fun E hE => ?_⟩
                        rotate_left
                        · exact hpx E ((by decide +kernel : ∀ E ∈ ["java/lang/IndexOutOfBoundsException", "java/lang/IllegalArgumentException"], E ∈ z_cas) E hE) _ (by omega)
                        obtain ⟨⟨x95, rfl⟩, h95⟩ := h95
                        refine ⟨fun h96 => ?_, fun h96 => ?_⟩
                        · refine ⟨fun h97 => ?_, fun h97 => ?_⟩
                          · exact hW [0, 1, 2, 3] _ _ _ _ _ (ihA (k2 + 1) _ _ _ _ (by omega) (nI_add k2 1) (Or.inl rfl) (by omega) (by omega))
                          · refine ⟨by omega, ho, rfl, rfl, fun v9 h98 => ?_, fun E hE => ?_⟩
                            rotate_left
                            · exact hpx E ((by decide +kernel : ∀ E ∈ ["java/lang/IndexOutOfBoundsException", "java/lang/IllegalArgumentException"], E ∈ z_cas) E hE) _ (by omega)
                            obtain ⟨⟨x98, rfl⟩, h98⟩ := h98
                            refine ⟨fun h99 => ?_, fun h99 => ?_⟩
                            · exact hW [0, 1, 2, 3] _ _ _ _ _ (ihA (k2 + 1) _ _ _ _ (by omega) (nI_add k2 1) (Or.inl rfl) (by omega) (by omega))
                            · exact hW [0, 1, 2, 3] _ _ _ _ _ (ihA (k2 + 1) _ _ _ _ (by omega) (nI_add k2 1) (Or.inr rfl) (by omega) (by omega))
                        · refine ⟨fun h100 => ?_, fun h100 => ?_⟩
                          · exact hW [0, 1, 2, 3] _ _ _ _ _ (ihA (k2 + 1) _ _ _ _ (by omega) (nI_add k2 1) (Or.inl rfl) (by omega) (by omega))
                          · refine ⟨by omega, ho, rfl, rfl, fun v9 h101 => ?_, fun E hE => ?_⟩
                            rotate_left
                            · exact hpx E ((by decide +kernel : ∀ E ∈ ["java/lang/IndexOutOfBoundsException", "java/lang/IllegalArgumentException"], E ∈ z_cas) E hE) _ (by omega)
                            obtain ⟨⟨x101, rfl⟩, h101⟩ := h101
                            refine ⟨fun h102 => ?_, fun h102 => ?_⟩
                            · exact hW [0, 1, 2, 3] _ _ _ _ _ (ihA (k2 + 1) _ _ _ _ (by omega) (nI_add k2 1) (Or.inl rfl) (by omega) (by omega))
                            · exact hW [0, 1, 2, 3] _ _ _ _ _ (ihA (k2 + 1) _ _ _ _ (by omega) (nI_add k2 1) (Or.inr rfl) (by omega) (by omega))
                · refine ⟨fun h103 => ?_, fun h103 => ?_⟩
                  · exact hW [0, 1, 2, 3] _ _ _ _ _ (ihA (k2 + 1) _ _ _ _ (by omega) (nI_add k2 1) (Or.inl rfl) (by omega) (by omega))
                  · refine ⟨fun h104 => ?_, fun h104 => ?_⟩
                    · exact hW [0, 1, 2, 3] _ _ _ _ _ (ihA (k2 + 1) _ _ _ _ (by omega) (nI_add k2 1) (Or.inl rfl) (by omega) (by omega))
                    · refine ⟨fun h105 => ?_, fun h105 => ?_⟩
                      · refine ⟨by omega, ho, rfl, rfl, fun v9 h106 => ?_, fun E hE => ?_⟩
                        rotate_left
                        · exact hpx E ((by decide +kernel : ∀ E ∈ ["java/lang/IndexOutOfBoundsException", "java/lang/IllegalArgumentException"], E ∈ z_cas) E hE) _ (by omega)
                        obtain ⟨⟨x106, rfl⟩, h106⟩ := h106
                        refine ⟨fun h107 => ?_, fun h107 => ?_⟩
                        · refine ⟨fun h108 => ?_, fun h108 => ?_⟩
                          · exact hW [0, 1, 2, 3] _ _ _ _ _ (ihA (k2 + 1) _ _ _ _ (by omega) (nI_add k2 1) (Or.inl rfl) (by omega) (by omega))
                          · refine ⟨by omega, ho, rfl, rfl, fun v9 h109 => ?_, fun E hE => ?_⟩
                            rotate_left
                            · exact hpx E ((by decide +kernel : ∀ E ∈ ["java/lang/IndexOutOfBoundsException", "java/lang/IllegalArgumentException"], E ∈ z_cas) E hE) _ (by omega)
                            obtain ⟨⟨x109, rfl⟩, h109⟩ := h109
                            refine ⟨fun h110 => ?_, fun h110 => ?_⟩
                            · exact hW [0, 1, 2, 3] _ _ _ _ _ (ihA (k2 + 1) _ _ _ _ (by omega) (nI_add k2 1) (Or.inl rfl) (by omega) (by omega))
                            · exact hW [0, 1, 2, 3] _ _ _ _ _ (ihA (k2 + 1) _ _ _ _ (by omega) (nI_add k2 1) (Or.inr rfl) (by omega) (by omega))
                        · refine ⟨fun h111 => ?_, fun h111 => ?_⟩
                          · exact hW [0, 1, 2, 3] _ _ _ _ _ (ihA (k2 + 1) _ _ _ _ (by omega) (nI_add k2 1) (Or.inl rfl) (by omega) (by omega))
                          · refine ⟨by omega, ho, rfl, rfl, fun v9 h112 => ?_, fun E hE => ?_⟩
                            rotate_left
                            · exact hpx E ((by decide +kernel : ∀ E ∈ ["java/lang/IndexOutOfBoundsException", "java/lang/IllegalArgumentException"], E ∈ z_cas) E hE) _ (by omega)
                            obtain ⟨⟨x112, rfl⟩, h112⟩ := h112
                            refine ⟨fun h113 => ?_, fun h113 => ?_⟩
                            · exact hW [0, 1, 2, 3] _ _ _ _ _ (ihA (k2 + 1) _ _ _ _ (by omega) (nI_add k2 1) (Or.inl rfl) (by omega) (by omega))
                            · exact hW [0, 1, 2, 3] _ _ _ _ _ (ihA (k2 + 1) _ _ _ _ (by omega) (nI_add k2 1) (Or.inr rfl) (by omega) (by omega))
                      · refine ⟨by omega, ho, rfl, rfl, fun v9 h114 => ?_, fun E hE => ?_⟩
                        rotate_left
                        · exact hpx E ((by decide +kernel : ∀ E ∈ ["java/lang/IndexOutOfBoundsException", "java/lang/IllegalArgumentException"], E ∈ z_cas) E hE) _ (by omega)
                        obtain ⟨⟨x114, rfl⟩, h114⟩ := h114
                        refine ⟨fun h115 => ?_, fun h115 => ?_⟩
                        · refine ⟨fun h116 => ?_, fun h116 => ?_⟩
                          · exact hW [0, 1, 2, 3] _ _ _ _ _ (ihA (k2 + 1) _ _ _ _ (by omega) (nI_add k2 1) (Or.inl rfl) (by omega) (by omega))
                          · refine ⟨by omega, ho, rfl, rfl, fun v9 h117 => ?_, fun E hE => ?_⟩
                            rotate_left
                            · exact hpx E ((by decide +kernel : ∀ E ∈ ["java/lang/IndexOutOfBoundsException", "java/lang/IllegalArgumentException"], E ∈ z_cas) E hE) _ (by omega)
                            obtain ⟨⟨x117, rfl⟩, h117⟩ := h117
                            refine ⟨fun h118 => ?_, fun h118 => ?_⟩
                            · exact hW [0, 1, 2, 3] _ _ _ _ _ (ihA (k2 + 1) _ _ _ _ (by omega) (nI_add k2 1) (Or.inl rfl) (by omega) (by omega))
                            · exact hW [0, 1, 2, 3] _ _ _ _ _ (ihA (k2 + 1) _ _ _ _ (by omega) (nI_add k2 1) (Or.inr rfl) (by omega) (by omega))
                        · refine ⟨fun h119 => ?_, fun h119 => ?_⟩
                          · exact hW [0, 1, 2, 3] _ _ _ _ _ (ihA (k2 + 1) _ _ _ _ (by omega) (nI_add k2 1) (Or.inl rfl) (by omega) (by omega))
                          · refine ⟨by omega, ho, rfl, rfl, fun v9 h120 => ?_, fun E hE => ?_⟩
                            rotate_left
                            · exact hpx E ((by decide +kernel : ∀ E ∈ ["java/lang/IndexOutOfBoundsException", "java/lang/IllegalArgumentException"], E ∈ z_cas) E hE) _ (by omega)
                            obtain ⟨⟨x120, rfl⟩, h120⟩ := h120
                            refine ⟨fun h121 => ?_, fun h121 => ?_⟩
                            · exact hW [0, 1, 2, 3] _ _ _ _ _ (ihA (k2 + 1) _ _ _ _ (by omega) (nI_add k2 1) (Or.inl rfl) (by omega) (by omega))
                            · exact hW [0, 1, 2, 3] _ _ _ _ _ (ihA (k2 + 1) _ _ _ _ (by omega) (nI_add k2 1) (Or.inr rfl) (by omega) (by omega))
      refine hV [4, 120] 129 0 _ _ _ _ ?_
      exact hW [0, 1, 2, 3] _ _ _ _ _ (hA 12 0 _ _ _ _ (by omega) rfl (Or.inr rfl) (Nat.le_refl _) (by omega))
    · exact h.elim
def sx_isPaid : y_SX := fun as g k kx => match as with
  | [.ref 0, .ref 1, .int _] => ∀ (r : Int32) (g' : Nat), g ≤ g' → k (some (.int r)) g'
  | _ => False
def CL_isPaid : List (Nat × Instr × Nat × Nat) := [(0, .iload_n 2, 1, 0), (1, .bipush 8, 3, 0), (3, .invokestatic 157, 6, 0), (6, .istore_n 3, 7, 0), (7, .aload_n 0, 8, 0), (8, .iconst 0, 9, 0), (9, .iload_n 3, 10, 0), (10, .invokestatic 179, 13, 0), (13, .lstore 4, 15, 0), (15, .lconst 0, 16, 0), (16, .lstore 6, 18, 0), (18, .lconst 0, 19, 0), (19, .lstore 8, 21, 0), (21, .iconst 0, 22, 0), (22, .istore 10, 24, 0), (24, .iload 10, 26, 0), (26, .bipush 6, 28, 0), (28, .if_icmp .ge 36, 31, 64), (31, .aload_n 0, 32, 0), (32, .iconst 2, 33, 0), (33, .iload 10, 35, 0), (35, .invokestatic 179, 38, 0), (38, .lstore 11, 40, 0), (40, .lload 6, 42, 0), (42, .lload 11, 44, 0), (44, .lconst 0, 45, 0), (45, .lcmp, 46, 0), (46, .ifCond .le 8, 49, 54), (49, .lload 11, 51, 0), (51, .goto 4, 54, 55), (54, .lconst 0, 55, 0), (55, .ladd, 56, 0), (56, .lstore 6, 58, 0), (58, .iinc 10 1, 61, 0), (61, .goto (-37), 64, 24), (64, .aload_n 0, 65, 0), (65, .iconst 1, 66, 0), (66, .iload_n 3, 67, 0), (67, .invokestatic 179, 70, 0), (70, .lstore 10, 72, 0), (72, .iconst 0, 73, 0), (73, .istore 12, 75, 0), (75, .iload 12, 77, 0), (77, .bipush 6, 79, 0), (79, .if_icmp .ge 36, 82, 115), (82, .aload_n 0, 83, 0), (83, .iconst 2, 84, 0), (84, .iload 12, 86, 0), (86, .invokestatic 179, 89, 0), (89, .lstore 13, 91, 0), (91, .lload 8, 93, 0), (93, .lload 13, 95, 0), (95, .lconst 0, 96, 0), (96, .lcmp, 97, 0), (97, .ifCond .le 8, 100, 105), (100, .lload 13, 102, 0), (102, .goto 4, 105, 106), (105, .lconst 0, 106, 0), (106, .ladd, 107, 0), (107, .lstore 8, 109, 0), (109, .iinc 12 1, 112, 0), (112, .goto (-37), 115, 75), (115, .lload 4, 117, 0), (117, .lconst 0, 118, 0), (118, .lcmp, 119, 0), (119, .ifCond .le 41, 122, 160), (122, .lload 10, 124, 0), (124, .lload 4, 126, 0), (126, .lcmp, 127, 0), (127, .ifCond .ne 29, 130, 156), (130, .lload 8, 132, 0), (132, .lload 6, 134, 0), (134, .lsub, 135, 0), (135, .lload 4, 137, 0), (137, .lcmp, 138, 0), (138, .ifCond .ne 18, 141, 156), (141, .aload_n 0, 142, 0), (142, .iconst 0, 143, 0), (143, .iload_n 3, 144, 0), (144, .invokestatic 179, 147, 0), (147, .lconst 0, 148, 0), (148, .lcmp, 149, 0), (149, .ifCond .ne 7, 152, 156), (152, .iconst 1, 153, 0), (153, .goto 29, 156, 182), (156, .iconst 0, 157, 0), (157, .goto 25, 160, 182), (160, .lload 10, 162, 0), (162, .ldc2_w 155, 165, 0), (165, .lcmp, 166, 0), (166, .ifCond .ne 15, 169, 181), (169, .lload 8, 171, 0), (171, .lload 6, 173, 0), (173, .lcmp, 174, 0), (174, .ifCond .ne 7, 177, 181), (177, .iconst 1, 178, 0), (178, .goto 4, 181, 182), (181, .iconst 0, 182, 0), (182, .istore 12, 184, 0), (184, .iload 12, 186, 0), (186, .ifCond .eq 19, 189, 205), (189, .aload_n 1, 190, 0), (190, .iconst 1, 191, 0), (191, .iload_n 3, 192, 0), (192, .invokestatic 179, 195, 0), (195, .lload 10, 197, 0), (197, .lcmp, 198, 0), (198, .ifCond .ne 7, 201, 205), (201, .iconst 1, 202, 0), (202, .goto 4, 205, 206), (205, .iconst 0, 206, 0), (206, .ireturn, 207, 0)]
def GL_isPaid (kx : String → Nat → Nat → Prop) : y_G := (CL_isPaid, [(100157, 2, y_cs 30 0 sx_low kx), (100179, 3, y_cs 30 1 sx_money kx)], [], [(155, 18446744071609551616)], some .boolean)
set_option maxRecDepth 20000 in
set_option maxHeartbeats 8000000 in
theorem cy_isPaid (l : Launch) (h9 : l.stackTraces = false) : y_CX l yL_isPaid cL_isPaid 15 (some .boolean) (none) sx_isPaid 8 215 30 := by
  refine y_CX_of (GL_isPaid) 207 (by decide) (fun _ => y_cok_of (code := CL_isPaid) rfl (by decide +kernel)) (fun _ => y_pok_of (c1 := []) (c2 := [(155, 18446744071609551616)]) co_L lo_L rfl rfl (by decide +kernel)) (fun _ => rfl) ?_ (fun kx => List.forall_mem_cons.mpr ⟨⟨0, sx_low, rfl, y_coS (cy_low l h9) kb_L_low ks_L_157 (by decide) (by decide)⟩, List.forall_mem_cons.mpr ⟨⟨1, sx_money, rfl, y_coW (cy_money l h9) kc_money ks_L_179 (by decide) (by decide)⟩, fun _ h => absurd h List.not_mem_nil⟩⟩) ?_
  · intro as g Po Px h
    unfold sx_isPaid at h
    split at h
    · exact Nat.le_of_ble_eq_true rfl
    · exact h.elim
  · intro as g Po Px h V hV hW
    unfold sx_isPaid at h
    split at h
    · rename_i v
      have hpo := h
      have hR : ∀ (j3 k3 : Nat) (a3 : Int32) (b4 : Int64) (b6 : Int64) (b8 : Int64) (b10 : Int64) (x3 : Int32) (g3 u3 : Nat), k3 + j3 = 6 → x3 = nI k3 → g ≤ g3 → u3 ≤ 8 + k3 → V 75 [(0, .ref 0), (1, .ref 1), (2, .int v), (3, .int a3), (4, .long b4), (6, .long b6), (8, .long b8), (10, .long b10), (12, .int x3)] [] g3 u3 := by
        intro j3
        induction j3 with
        | zero =>
          intro k3 a3 b4 b6 b8 b10 x3 g3 u3 hkk3 hxk3 hg3 hu3
          subst hxk3
          have hzk3 : k3 = 6 := by omega
          subst hzk3
          refine hV [24, 75] 117 75 _ _ _ _ ?_
          refine ⟨fun h1 => ?_, fun h1 => absurd (by decide) h1⟩
          refine ⟨fun h41 => ?_, fun h41 => ?_⟩
          · refine ⟨fun h42 => ?_, fun h42 => ?_⟩
            · refine ⟨fun h43 => ?_, fun h43 => ?_⟩
              · exact ⟨rfl, by omega, hpo _ _ (by omega)⟩
              · refine ⟨by omega, rfl, fun x44 g44 e44 => ?_⟩
                refine ⟨fun h45 => ?_, fun h45 => ?_⟩
                · exact ⟨rfl, by omega, hpo _ _ (by omega)⟩
                · exact ⟨rfl, by omega, hpo _ _ (by omega)⟩
            · refine ⟨fun h46 => ?_, fun h46 => ?_⟩
              · refine ⟨fun h47 => ?_, fun h47 => ?_⟩
                · exact ⟨rfl, by omega, hpo _ _ (by omega)⟩
                · refine ⟨by omega, rfl, fun x48 g48 e48 => ?_⟩
                  refine ⟨fun h49 => ?_, fun h49 => ?_⟩
                  · exact ⟨rfl, by omega, hpo _ _ (by omega)⟩
                  · exact ⟨rfl, by omega, hpo _ _ (by omega)⟩
              · refine ⟨fun h50 => ?_, fun h50 => ?_⟩
                · exact ⟨rfl, by omega, hpo _ _ (by omega)⟩
                · refine ⟨by omega, rfl, fun x51 g51 e51 => ?_⟩
                  refine ⟨fun h52 => ?_, fun h52 => ?_⟩
                  · exact ⟨rfl, by omega, hpo _ _ (by omega)⟩
                  · exact ⟨rfl, by omega, hpo _ _ (by omega)⟩
          · refine ⟨fun h53 => ?_, fun h53 => ?_⟩
            · refine ⟨fun h54 => ?_, fun h54 => ?_⟩
              · exact ⟨rfl, by omega, hpo _ _ (by omega)⟩
              · refine ⟨by omega, rfl, fun x55 g55 e55 => ?_⟩
                refine ⟨fun h56 => ?_, fun h56 => ?_⟩
                · exact ⟨rfl, by omega, hpo _ _ (by omega)⟩
                · exact ⟨rfl, by omega, hpo _ _ (by omega)⟩
            · refine ⟨fun h57 => ?_, fun h57 => ?_⟩
              · refine ⟨fun h58 => ?_, fun h58 => ?_⟩
                · exact ⟨rfl, by omega, hpo _ _ (by omega)⟩
                · refine ⟨by omega, rfl, fun x59 g59 e59 => ?_⟩
                  refine ⟨fun h60 => ?_, fun h60 => ?_⟩
                  · exact ⟨rfl, by omega, hpo _ _ (by omega)⟩
                  · exact ⟨rfl, by omega, hpo _ _ (by omega)⟩
              · refine ⟨by omega, rfl, fun x61 g61 e61 => ?_⟩
                refine ⟨fun h62 => ?_, fun h62 => ?_⟩
                · refine ⟨fun h63 => ?_, fun h63 => ?_⟩
                  · exact ⟨rfl, by omega, hpo _ _ (by omega)⟩
                  · refine ⟨by omega, rfl, fun x64 g64 e64 => ?_⟩
                    refine ⟨fun h65 => ?_, fun h65 => ?_⟩
                    · exact ⟨rfl, by omega, hpo _ _ (by omega)⟩
                    · exact ⟨rfl, by omega, hpo _ _ (by omega)⟩
                · refine ⟨fun h66 => ?_, fun h66 => ?_⟩
                  · exact ⟨rfl, by omega, hpo _ _ (by omega)⟩
                  · refine ⟨by omega, rfl, fun x67 g67 e67 => ?_⟩
                    refine ⟨fun h68 => ?_, fun h68 => ?_⟩
                    · exact ⟨rfl, by omega, hpo _ _ (by omega)⟩
                    · exact ⟨rfl, by omega, hpo _ _ (by omega)⟩
        | succ j3 ihR =>
          intro k3 a3 b4 b6 b8 b10 x3 g3 u3 hkk3 hxk3 hg3 hu3
          subst hxk3
          have hltk3 : k3 < 6 := by omega
          refine hV [24, 75] 117 75 _ _ _ _ ?_
          refine ⟨fun h1 => (y_lft (by decide) hltk3 h1).elim, fun _ => ?_⟩
          refine ⟨by omega, rfl, fun x41 g41 e41 => ?_⟩
          refine ⟨fun h42 => ?_, fun h42 => ?_⟩
          · exact hW [0, 1, 2, 3, 4, 6, 8, 10, 12] _ _ _ _ _ (ihR (k3 + 1) _ _ _ _ _ _ _ _ (by omega) (nI_add k3 1) (by omega) (by omega))
          · exact hW [0, 1, 2, 3, 4, 6, 8, 10, 12] _ _ _ _ _ (ihR (k3 + 1) _ _ _ _ _ _ _ _ (by omega) (nI_add k3 1) (by omega) (by omega))
      have hP : ∀ (j2 k2 : Nat) (a3 : Int32) (b4 : Int64) (b6 : Int64) (b8 : Int64) (x2 : Int32) (g2 u2 : Nat), k2 + j2 = 6 → x2 = nI k2 → g ≤ g2 → u2 ≤ 1 + k2 → V 24 [(0, .ref 0), (1, .ref 1), (2, .int v), (3, .int a3), (4, .long b4), (6, .long b6), (8, .long b8), (10, .int x2)] [] g2 u2 := by
        intro j2
        induction j2 with
        | zero =>
          intro k2 a3 b4 b6 b8 x2 g2 u2 hkk2 hxk2 hg2 hu2
          subst hxk2
          have hzk2 : k2 = 6 := by omega
          subst hzk2
          refine hV [24, 75] 117 24 _ _ _ _ ?_
          refine ⟨fun h1 => ?_, fun h1 => absurd (by decide) h1⟩
          refine ⟨by omega, rfl, fun x41 g41 e41 => ?_⟩
          exact hW [0, 1, 2, 3, 4, 6, 8, 10, 12] _ _ _ _ _ (hR 6 0 _ _ _ _ _ _ _ _ (by omega) rfl (by omega) (by omega))
        | succ j2 ihP =>
          intro k2 a3 b4 b6 b8 x2 g2 u2 hkk2 hxk2 hg2 hu2
          subst hxk2
          have hltk2 : k2 < 6 := by omega
          refine hV [24, 75] 117 24 _ _ _ _ ?_
          refine ⟨fun h1 => (y_lft (by decide) hltk2 h1).elim, fun _ => ?_⟩
          refine ⟨by omega, rfl, fun x41 g41 e41 => ?_⟩
          refine ⟨fun h42 => ?_, fun h42 => ?_⟩
          · exact hW [0, 1, 2, 3, 4, 6, 8, 10] _ _ _ _ _ (ihP (k2 + 1) _ _ _ _ _ _ _ (by omega) (nI_add k2 1) (by omega) (by omega))
          · exact hW [0, 1, 2, 3, 4, 6, 8, 10] _ _ _ _ _ (ihP (k2 + 1) _ _ _ _ _ _ _ (by omega) (nI_add k2 1) (by omega) (by omega))
      refine hV [24, 75] 117 0 _ _ _ _ ?_
      refine ⟨by omega, by decide, fun x11 => ?_⟩
      refine ⟨by omega, rfl, fun x12 g12 e12 => ?_⟩
      exact hW [0, 1, 2, 3, 4, 6, 8, 10] _ _ _ _ _ (hP 6 0 _ _ _ _ _ _ _ (by omega) rfl (by omega) (by omega))
    · exact h.elim
def sx_isQuiet : y_SX := fun as g k kx => match as with
  | [.ref o, .int _, .int _] => Nat.blt o 2 = true ∧ (∀ (r : Int32) (g' : Nat), g ≤ g' → k (some (.int r)) g') ∧ ∀ E ∈ z_cas, ∀ g' : Nat, g ≤ g' → kx E g'
  | _ => False
def CL_isQuiet : List (Nat × Instr × Nat × Nat) := [(0, .iload_n 2, 1, 0), (1, .bipush 8, 3, 0), (3, .invokestatic 157, 6, 0), (6, .istore_n 3, 7, 0), (7, .iload_n 2, 8, 0), (8, .iconst 3, 9, 0), (9, .ishr, 10, 0), (10, .iconst 5, 11, 0), (11, .invokestatic 157, 14, 0), (14, .istore 4, 16, 0), (16, .aload_n 0, 17, 0), (17, .iload 4, 19, 0), (19, .iload_n 1, 20, 0), (20, .invokevirtual 119, 23, 0), (23, .istore 5, 25, 0), (25, .aload_n 0, 26, 0), (26, .bipush 12, 28, 0), (28, .iload_n 3, 29, 0), (29, .iconst 1, 30, 0), (30, .iconst 0, 31, 0), (31, .invokestatic 164, 34, 0), (34, .istore 6, 36, 0), (36, .iload 6, 38, 0), (38, .iconst 1, 39, 0), (39, .if_icmp .ne 15, 42, 54), (42, .aload_n 0, 43, 0), (43, .bipush 12, 45, 0), (45, .iload_n 3, 46, 0), (46, .iconst 0, 47, 0), (47, .iconst 0, 48, 0), (48, .invokestatic 164, 51, 0), (51, .goto 4, 54, 55), (54, .iconst 1, 55, 0), (55, .istore 7, 57, 0), (57, .iload_n 2, 58, 0), (58, .iconst 4, 59, 0), (59, .ishr, 60, 0), (60, .bipush 12, 62, 0), (62, .invokestatic 157, 65, 0), (65, .istore 8, 67, 0), (67, .aload_n 0, 68, 0), (68, .iconst 0, 69, 0), (69, .invokevirtual 90, 72, 0), (72, .istore 9, 74, 0), (74, .aload_n 0, 75, 0), (75, .iconst 3, 76, 0), (76, .iload 8, 78, 0), (78, .iconst (-1), 79, 0), (79, .iconst 0, 80, 0), (80, .invokestatic 164, 83, 0), (83, .istore 10, 85, 0), (85, .iload 10, 87, 0), (87, .ldc 69, 89, 0), (89, .if_icmp .le 16, 92, 105), (92, .aload_n 0, 93, 0), (93, .iconst 3, 94, 0), (94, .iload 8, 96, 0), (96, .iload 10, 98, 0), (98, .iconst 0, 99, 0), (99, .invokestatic 164, 102, 0), (102, .goto 4, 105, 106), (105, .iconst (-1), 106, 0), (106, .istore 11, 108, 0), (108, .iload 7, 110, 0), (110, .iconst 1, 111, 0), (111, .if_icmp .ne 35, 114, 146), (114, .iload 11, 116, 0), (116, .iconst (-1), 117, 0), (117, .if_icmp .ne 29, 120, 146), (120, .aload_n 0, 121, 0), (121, .iload 4, 123, 0), (123, .iload_n 1, 124, 0), (124, .invokevirtual 119, 127, 0), (127, .iload 5, 129, 0), (129, .if_icmp .ne 17, 132, 146), (132, .aload_n 0, 133, 0), (133, .iconst 0, 134, 0), (134, .invokevirtual 90, 137, 0), (137, .iload 9, 139, 0), (139, .if_icmp .ne 7, 142, 146), (142, .iconst 1, 143, 0), (143, .goto 4, 146, 147), (146, .iconst 0, 147, 0), (147, .ireturn, 148, 0)]
def GL_isQuiet (kx : String → Nat → Nat → Prop) : y_G := (CL_isQuiet, [(90, 2, y_cs 12 1 (y_vs 1 (y_rn 6) ["java/lang/IndexOutOfBoundsException"]) kx), (119, 3, y_cs 12 1 (y_vs 2 y_ri ["java/lang/IndexOutOfBoundsException", "java/lang/IllegalArgumentException"]) kx), (100157, 2, y_cs 12 0 sx_low kx), (100164, 5, y_cs 12 1 sx_does kx)], [(69, 2194967296)], [], some .boolean)
set_option maxRecDepth 20000 in
set_option maxHeartbeats 8000000 in
theorem cy_isQuiet (l : Launch) (h9 : l.stackTraces = false) : y_CX l yL_isQuiet cL_isQuiet 12 (some .boolean) (none) sx_isQuiet 9 241 12 := by
  refine y_CX_of (GL_isQuiet) 148 (by decide) (fun _ => y_cok_of (code := CL_isQuiet) rfl (by decide +kernel)) (fun _ => y_pok_of (c1 := [(69, 2194967296)]) (c2 := []) co_L lo_L rfl rfl (by decide +kernel)) (fun _ => rfl) ?_ (fun kx => List.forall_mem_cons.mpr ⟨⟨1, (y_vs 1 (y_rn 6) ["java/lang/IndexOutOfBoundsException"]), rfl, y_coV (ct_X6_members l h9) wk_members kb_X6_members kv_L_90 ko_X6 (Nat.le_of_ble_eq_true rfl) (by decide) (by decide)⟩, List.forall_mem_cons.mpr ⟨⟨1, (y_vs 2 y_ri ["java/lang/IndexOutOfBoundsException", "java/lang/IllegalArgumentException"]), rfl, y_coV (ct_X6_left l h9) wk_left kb_X6_left kv_L_119 ko_X6 (Nat.le_of_ble_eq_true rfl) (by decide) (by decide)⟩, List.forall_mem_cons.mpr ⟨⟨0, sx_low, rfl, y_coS (cy_low l h9) kb_L_low ks_L_157 (by decide) (by decide)⟩, List.forall_mem_cons.mpr ⟨⟨1, sx_does, rfl, y_coW (cy_does l h9) kc_does ks_L_164 (by decide) (by decide)⟩, fun _ h => absurd h List.not_mem_nil⟩⟩⟩⟩) ?_
  · intro as g Po Px h
    unfold sx_isQuiet at h
    split at h
    · exact Nat.le_of_ble_eq_true rfl
    · exact h.elim
  · intro as g Po Px h V hV hW
    unfold sx_isQuiet at h
    split at h
    · rename_i o now v
      obtain ⟨ho, hpo, hpx⟩ := h
      refine hV [] 89 0 _ _ _ _ ?_
      refine ⟨by omega, by decide, fun x11 => ?_⟩
      refine ⟨by omega, by decide, fun x12 => ?_⟩
      refine ⟨by omega, ho, rfl, rfl, fun v9 h13 => ?_, fun E hE => ?_⟩
      rotate_left
      · exact hpx E ((by decide +kernel : ∀ E ∈ ["java/lang/IndexOutOfBoundsException", "java/lang/IllegalArgumentException"], E ∈ z_cas) E hE) _ (by omega)
      obtain ⟨x13, rfl⟩ := h13
      refine ⟨by omega, ho, fun x14 g14 f14 => ?_⟩
      have e14 := f14.1
      refine ⟨fun h15 => ?_, fun h15 => ?_⟩
      · refine ⟨by omega, by decide, fun x16 => ?_⟩
        refine ⟨by omega, ho, rfl, rfl, fun v9 h17 => ?_, fun E hE => ?_⟩
        rotate_left
        · exact hpx E ((by decide +kernel : ∀ E ∈ ["java/lang/IndexOutOfBoundsException"], E ∈ z_cas) E hE) _ (by omega)
        obtain ⟨⟨x17, rfl⟩, h17⟩ := h17
        refine ⟨by omega, ho, fun x18 g18 f18 => ?_⟩
        have e18 := f18.1
        refine ⟨fun h19 => ?_, fun h19 => ?_⟩
        · refine ⟨fun h20 => ?_, fun h20 => ?_⟩
          · exact ⟨rfl, by omega, hpo _ _ (by omega)⟩
          · refine ⟨fun h21 => ?_, fun h21 => ?_⟩
            · exact ⟨rfl, by omega, hpo _ _ (by omega)⟩
            · refine ⟨by omega, ho, rfl, rfl, fun v9 h22 => ?_, fun E hE => ?_⟩
              rotate_left
              · exact hpx E ((by decide +kernel : ∀ E ∈ ["java/lang/IndexOutOfBoundsException", "java/lang/IllegalArgumentException"], E ∈ z_cas) E hE) _ (by omega)
              obtain ⟨x22, rfl⟩ := h22
              refine ⟨fun h23 => ?_, fun h23 => ?_⟩
              · exact ⟨rfl, by omega, hpo _ _ (by omega)⟩
              · refine ⟨by omega, ho, rfl, rfl, fun v9 h24 => ?_, fun E hE => ?_⟩
                rotate_left
                · exact hpx E ((by decide +kernel : ∀ E ∈ ["java/lang/IndexOutOfBoundsException"], E ∈ z_cas) E hE) _ (by omega)
                obtain ⟨⟨x24, rfl⟩, h24⟩ := h24
                refine ⟨fun h25 => ?_, fun h25 => ?_⟩
                · exact ⟨rfl, by omega, hpo _ _ (by omega)⟩
                · exact ⟨rfl, by omega, hpo _ _ (by omega)⟩
        · refine ⟨by omega, ho, fun x26 g26 f26 => ?_⟩
          have e26 := f26.1
          refine ⟨fun h27 => ?_, fun h27 => ?_⟩
          · exact ⟨rfl, by omega, hpo _ _ (by omega)⟩
          · refine ⟨fun h28 => ?_, fun h28 => ?_⟩
            · exact ⟨rfl, by omega, hpo _ _ (by omega)⟩
            · refine ⟨by omega, ho, rfl, rfl, fun v9 h29 => ?_, fun E hE => ?_⟩
              rotate_left
              · exact hpx E ((by decide +kernel : ∀ E ∈ ["java/lang/IndexOutOfBoundsException", "java/lang/IllegalArgumentException"], E ∈ z_cas) E hE) _ (by omega)
              obtain ⟨x29, rfl⟩ := h29
              refine ⟨fun h30 => ?_, fun h30 => ?_⟩
              · exact ⟨rfl, by omega, hpo _ _ (by omega)⟩
              · refine ⟨by omega, ho, rfl, rfl, fun v9 h31 => ?_, fun E hE => ?_⟩
                rotate_left
                · exact hpx E ((by decide +kernel : ∀ E ∈ ["java/lang/IndexOutOfBoundsException"], E ∈ z_cas) E hE) _ (by omega)
                obtain ⟨⟨x31, rfl⟩, h31⟩ := h31
                refine ⟨fun h32 => ?_, fun h32 => ?_⟩
                · exact ⟨rfl, by omega, hpo _ _ (by omega)⟩
                · exact ⟨rfl, by omega, hpo _ _ (by omega)⟩
      · refine ⟨by omega, ho, fun x33 g33 f33 => ?_⟩
        have e33 := f33.1
        refine ⟨by omega, by decide, fun x34 => ?_⟩
        refine ⟨by omega, ho, rfl, rfl, fun v9 h35 => ?_, fun E hE => ?_⟩
        rotate_left
        · exact hpx E ((by decide +kernel : ∀ E ∈ ["java/lang/IndexOutOfBoundsException"], E ∈ z_cas) E hE) _ (by omega)
        obtain ⟨⟨x35, rfl⟩, h35⟩ := h35
        refine ⟨by omega, ho, fun x36 g36 f36 => ?_⟩
        have e36 := f36.1
        refine ⟨fun h37 => ?_, fun h37 => ?_⟩
        · refine ⟨fun h38 => ?_, fun h38 => ?_⟩
          · exact ⟨rfl, by omega, hpo _ _ (by omega)⟩
          · refine ⟨fun h39 => ?_, fun h39 => ?_⟩
            · exact ⟨rfl, by omega, hpo _ _ (by omega)⟩
            · refine ⟨by omega, ho, rfl, rfl, fun v9 h40 => ?_, fun E hE => ?_⟩
              rotate_left
              · exact hpx E ((by decide +kernel : ∀ E ∈ ["java/lang/IndexOutOfBoundsException", "java/lang/IllegalArgumentException"], E ∈ z_cas) E hE) _ (by omega)
              obtain ⟨x40, rfl⟩ := h40
              refine ⟨fun h41 => ?_, fun h41 => ?_⟩
              · exact ⟨rfl, by omega, hpo _ _ (by omega)⟩
              · refine ⟨by omega, ho, rfl, rfl, fun v9 h42 => ?_, fun E hE => ?_⟩
                rotate_left
                · exact hpx E ((by decide +kernel : ∀ E ∈ ["java/lang/IndexOutOfBoundsException"], E ∈ z_cas) E hE) _ (by omega)
                obtain ⟨⟨x42, rfl⟩, h42⟩ := h42
                refine ⟨fun h43 => ?_, fun h43 => ?_⟩
                · exact ⟨rfl, by omega, hpo _ _ (by omega)⟩
                · exact ⟨rfl, by omega, hpo _ _ (by omega)⟩
        · refine ⟨by omega, ho, fun x44 g44 f44 => ?_⟩
          have e44 := f44.1
          refine ⟨fun h45 => ?_, fun h45 => ?_⟩
          · exact ⟨rfl, by omega, hpo _ _ (by omega)⟩
          · refine ⟨fun h46 => ?_, fun h46 => ?_⟩
            · exact ⟨rfl, by omega, hpo _ _ (by omega)⟩
            · refine ⟨by omega, ho, rfl, rfl, fun v9 h47 => ?_, fun E hE => ?_⟩
              rotate_left
              · exact hpx E ((by decide +kernel : ∀ E ∈ ["java/lang/IndexOutOfBoundsException", "java/lang/IllegalArgumentException"], E ∈ z_cas) E hE) _ (by omega)
              obtain ⟨x47, rfl⟩ := h47
              refine ⟨fun h48 => ?_, fun h48 => ?_⟩
              · exact ⟨rfl, by omega, hpo _ _ (by omega)⟩
              · refine ⟨by omega, ho, rfl, rfl, fun v9 h49 => ?_, fun E hE => ?_⟩
                rotate_left
                · exact hpx E ((by decide +kernel : ∀ E ∈ ["java/lang/IndexOutOfBoundsException"], E ∈ z_cas) E hE) _ (by omega)
                obtain ⟨⟨x49, rfl⟩, h49⟩ := h49
                refine ⟨fun h50 => ?_, fun h50 => ?_⟩
                · exact ⟨rfl, by omega, hpo _ _ (by omega)⟩
                · exact ⟨rfl, by omega, hpo _ _ (by omega)⟩
    · exact h.elim
