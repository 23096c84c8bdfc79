/-! the law's own methods with loops -/
theorem y_fd28 {k : Nat} {r : Int32} {g g' : Nat} (hk2 : k < 2 ^ 31) (h : y_fd (nI 28) (nI k) r g g') : 12 ≤ k → g + 1 ≤ g' := fun hk => (h.2 (Or.inr (Or.inr ⟨rfl, (nI_leI (by decide) hk2).mpr hk⟩))).2
theorem y_fr28 {r : Int32} {g g' : Nat} (h : y_fd (nI 28) (nI 12) r g g') : r < 0 := by rw [(h.2 (Or.inr (Or.inr ⟨rfl, by decide⟩))).1]; decide
theorem y_fr21 {r : Int32} {g g' : Nat} (h : y_fd (nI 21) (nI 12) r g g') : r < 0 := by rw [(h.2 (Or.inr (Or.inl ⟨rfl, by decide⟩))).1]; decide
theorem y_fr5 {r : Int32} {g g' : Nat} (h : y_fd (nI 5) (nI 6) r g g') : r < 0 := by rw [(h.2 (Or.inl ⟨rfl, by decide⟩)).1]; decide
theorem y_nn {x : Int32} (h : ¬ x = 0) : x ≠ nI 0 := h
theorem y_n01 {x : Int32} (h : x = nI 0 ∨ x = nI 1) : narrow .boolean (.int x) = .int x := by
  rcases h with rfl | rfl <;> rfl
theorem y_top {N k : Nat} (hN : N < 2 ^ 31) (hk : k < N) : ¬ nI N ≤ nI k := fun h => by
  have := (nI_leI hN (by omega)).mp h
  omega
theorem y_lft {N k : Nat} (hN : N < 2 ^ 31) (hk : k < N) (h : nI N ≤ nI k) : False := y_top hN hk h
def sx_count : y_SX := fun as g k kx => match as with
  | [.int _] => ∀ r : Int32, k (some (.int r)) g
  | _ => False
def CL_count : List (Nat × Instr × Nat × Nat) := [(0, .iconst 0, 1, 0), (1, .istore_n 1, 2, 0), (2, .iconst 0, 3, 0), (3, .istore_n 2, 4, 0), (4, .iload_n 2, 5, 0), (5, .bipush 31, 7, 0), (7, .if_icmp .ge 17, 10, 24), (10, .iload_n 1, 11, 0), (11, .iload_n 0, 12, 0), (12, .iload_n 2, 13, 0), (13, .ishr, 14, 0), (14, .iconst 1, 15, 0), (15, .iand, 16, 0), (16, .iadd, 17, 0), (17, .istore_n 1, 18, 0), (18, .iinc 2 1, 21, 0), (21, .goto (-17), 24, 4), (24, .iload_n 1, 25, 0), (25, .ireturn, 26, 0)]
def GL_count (kx : String → Nat → Nat → Prop) : y_G := (CL_count, [], [], [], some .int)
set_option maxRecDepth 20000 in
set_option maxHeartbeats 8000000 in
theorem cy_count (l : Launch) (h9 : l.stackTraces = false) : y_CX l yL_count cL_count 3 (some .int) (none) sx_count 0 0 0 := by
  refine y_CX_of (GL_count) 26 (by decide) (fun _ => y_cok_of (code := CL_count) rfl (by decide +kernel)) (fun _ => y_pok_of (c1 := []) (c2 := []) co_L lo_L rfl rfl (by decide +kernel)) (fun _ => rfl) ?_ (fun kx => fun _ h => absurd h List.not_mem_nil) ?_
  · intro as g Po Px h
    unfold sx_count at h
    split at h
    · exact Nat.le_of_ble_eq_true rfl
    · exact h.elim
  · intro as g Po Px h V hV hW
    unfold sx_count at h
    split at h
    · rename_i a
      have hpo := h
      have hL : ∀ (j k : Nat) (a1 x : Int32), k + j = 31 → x = nI k → V 4 [(0, .int a), (1, .int a1), (2, .int x)] [] g 0 := by
        intro j
        induction j with
        | zero =>
          intro k a1 x hk hx
          refine hV [4] 40 4 _ _ _ _ ?_
          refine ⟨fun h1 => ?_, fun h1 => absurd (by rw [hx, show k = 31 by omega]; decide) h1⟩
          exact ⟨Nat.le_refl _, hpo _⟩
        | succ j ih =>
          intro k a1 x hk hx
          refine hV [4] 40 4 _ _ _ _ ?_
          refine ⟨fun h1 => (y_lft (by decide) (show k < 31 by omega) (by rw [← hx]; exact h1)).elim, fun h1 => ?_⟩
          exact hW [0, 1, 2] _ _ _ _ _ (ih (k + 1) _ _ (by omega) (by rw [hx, nI_add]))
      refine hV [4] 40 0 _ _ _ _ ?_
      exact hW [0, 1, 2] _ _ _ _ _ (hL 31 0 _ _ (by omega) rfl)
    · exact h.elim
theorem y_nn0 {x : Int32} (h : x ≠ nI 0) : ¬ x = 0 := h
def sx_areAlike : y_SX := fun as g k kx => match as with
  | [.ref 0, .ref 1, .int _] => ∀ (r : Int32) (g' : Nat), (g ≤ g' ∧ (r = nI 0 ∨ r = nI 1) ∧ (r ≠ nI 0 → g + 48 ≤ g')) → k (some (.int r)) g'
  | _ => False
def CL_areAlike : List (Nat × Instr × Nat × Nat) := [(0, .iconst 1, 1, 0), (1, .istore_n 3, 2, 0), (2, .iconst 0, 3, 0), (3, .istore 4, 5, 0), (5, .iload 4, 7, 0), (7, .bipush 16, 9, 0), (9, .if_icmp .ge 326, 12, 335), (12, .iload_n 3, 13, 0), (13, .ifCond .eq 322, 16, 335), (16, .aload_n 0, 17, 0), (17, .bipush 9, 19, 0), (19, .iload 4, 21, 0), (21, .iconst 0, 22, 0), (22, .iconst 0, 23, 0), (23, .invokestatic 164, 26, 0), (26, .aload_n 1, 27, 0), (27, .bipush 9, 29, 0), (29, .iload 4, 31, 0), (31, .iconst 0, 32, 0), (32, .iconst 0, 33, 0), (33, .invokestatic 164, 36, 0), (36, .if_icmp .ne 122, 39, 158), (39, .aload_n 0, 40, 0), (40, .iconst 5, 41, 0), (41, .iload 4, 43, 0), (43, .iconst 0, 44, 0), (44, .iconst 0, 45, 0), (45, .invokestatic 164, 48, 0), (48, .aload_n 1, 49, 0), (49, .iconst 5, 50, 0), (50, .iload 4, 52, 0), (52, .iconst 0, 53, 0), (53, .iconst 0, 54, 0), (54, .invokestatic 164, 57, 0), (57, .if_icmp .ne 101, 60, 158), (60, .aload_n 0, 61, 0), (61, .bipush 22, 63, 0), (63, .iload 4, 65, 0), (65, .iconst 0, 66, 0), (66, .iconst 0, 67, 0), (67, .invokestatic 164, 70, 0), (70, .aload_n 1, 71, 0), (71, .bipush 22, 73, 0), (73, .iload 4, 75, 0), (75, .iconst 0, 76, 0), (76, .iconst 0, 77, 0), (77, .invokestatic 164, 80, 0), (80, .if_icmp .ne 78, 83, 158), (83, .aload_n 0, 84, 0), (84, .bipush 14, 86, 0), (86, .iload 4, 88, 0), (88, .iload_n 2, 89, 0), (89, .sipush 3000, 92, 0), (92, .invokestatic 157, 95, 0), (95, .iconst 0, 96, 0), (96, .invokestatic 164, 99, 0), (99, .aload_n 1, 100, 0), (100, .bipush 14, 102, 0), (102, .iload 4, 104, 0), (104, .iload_n 2, 105, 0), (105, .sipush 3000, 108, 0), (108, .invokestatic 157, 111, 0), (111, .iconst 0, 112, 0), (112, .invokestatic 164, 115, 0), (115, .if_icmp .ne 43, 118, 158), (118, .aload_n 0, 119, 0), (119, .iconst 0, 120, 0), (120, .iload 4, 122, 0), (122, .invokestatic 179, 125, 0), (125, .aload_n 1, 126, 0), (126, .iconst 0, 127, 0), (127, .iload 4, 129, 0), (129, .invokestatic 179, 132, 0), (132, .lcmp, 133, 0), (133, .ifCond .ne 25, 136, 158), (136, .aload_n 0, 137, 0), (137, .iconst 2, 138, 0), (138, .iload 4, 140, 0), (140, .invokestatic 179, 143, 0), (143, .aload_n 1, 144, 0), (144, .iconst 2, 145, 0), (145, .iload 4, 147, 0), (147, .invokestatic 179, 150, 0), (150, .lcmp, 151, 0), (151, .ifCond .ne 7, 154, 158), (154, .iconst 1, 155, 0), (155, .goto 4, 158, 159), (158, .iconst 0, 159, 0), (159, .istore_n 3, 160, 0), (160, .iconst 0, 161, 0), (161, .istore 5, 163, 0), (163, .iload 5, 165, 0), (165, .bipush 6, 167, 0), (167, .if_icmp .ge 162, 170, 329), (170, .iload_n 3, 171, 0), (171, .ifCond .eq 158, 174, 329), (174, .aload_n 0, 175, 0), (175, .bipush 21, 177, 0), (177, .iload 4, 179, 0), (179, .iload 5, 181, 0), (181, .iconst 0, 182, 0), (182, .invokestatic 164, 185, 0), (185, .aload_n 1, 186, 0), (186, .bipush 21, 188, 0), (188, .iload 4, 190, 0), (190, .iload 5, 192, 0), (192, .iconst 0, 193, 0), (193, .invokestatic 164, 196, 0), (196, .if_icmp .ne 125, 199, 321), (199, .aload_n 0, 200, 0), (200, .bipush 28, 202, 0), (202, .iload 4, 204, 0), (204, .iload 5, 206, 0), (206, .iconst 0, 207, 0), (207, .invokestatic 164, 210, 0), (210, .aload_n 1, 211, 0), (211, .bipush 28, 213, 0), (213, .iload 4, 215, 0), (215, .iload 5, 217, 0), (217, .iconst 0, 218, 0), (218, .invokestatic 164, 221, 0), (221, .if_icmp .ne 100, 224, 321), (224, .aload_n 0, 225, 0), (225, .bipush 11, 227, 0), (227, .iload 5, 229, 0), (229, .iload 4, 231, 0), (231, .iconst 0, 232, 0), (232, .invokestatic 164, 235, 0), (235, .aload_n 1, 236, 0), (236, .bipush 11, 238, 0), (238, .iload 5, 240, 0), (240, .iload 4, 242, 0), (242, .iconst 0, 243, 0), (243, .invokestatic 164, 246, 0), (246, .if_icmp .ne 75, 249, 321), (249, .aload_n 0, 250, 0), (250, .bipush 23, 252, 0), (252, .iload 5, 254, 0), (254, .iload 4, 256, 0), (256, .iload_n 2, 257, 0), (257, .iconst 5, 258, 0), (258, .invokestatic 157, 261, 0), (261, .invokestatic 164, 264, 0), (264, .aload_n 1, 265, 0), (265, .bipush 23, 267, 0), (267, .iload 5, 269, 0), (269, .iload 4, 271, 0), (271, .iload_n 2, 272, 0), (272, .iconst 5, 273, 0), (273, .invokestatic 157, 276, 0), (276, .invokestatic 164, 279, 0), (279, .if_icmp .ne 42, 282, 321), (282, .aload_n 0, 283, 0), (283, .bipush 8, 285, 0), (285, .iload 4, 287, 0), (287, .iload 5, 289, 0), (289, .iload_n 2, 290, 0), (290, .bipush 6, 292, 0), (292, .invokestatic 157, 295, 0), (295, .invokestatic 164, 298, 0), (298, .aload_n 1, 299, 0), (299, .bipush 8, 301, 0), (301, .iload 4, 303, 0), (303, .iload 5, 305, 0), (305, .iload_n 2, 306, 0), (306, .bipush 6, 308, 0), (308, .invokestatic 157, 311, 0), (311, .invokestatic 164, 314, 0), (314, .if_icmp .ne 7, 317, 321), (317, .iconst 1, 318, 0), (318, .goto 4, 321, 322), (321, .iconst 0, 322, 0), (322, .istore_n 3, 323, 0), (323, .iinc 5 1, 326, 0), (326, .goto (-163), 329, 163), (329, .iinc 4 1, 332, 0), (332, .goto (-327), 335, 5), (335, .iload_n 3, 336, 0), (336, .ireturn, 337, 0)]
def GL_areAlike (kx : String → Nat → Nat → Prop) : y_G := (CL_areAlike, [(100157, 2, y_cs 1160 0 sx_low kx), (100164, 5, y_cs 1160 1 sx_does kx), (100179, 3, y_cs 1160 1 sx_money kx)], [], [], some .boolean)
set_option maxRecDepth 20000 in
set_option maxHeartbeats 8000000 in
theorem cy_areAlike (l : Launch) (h9 : l.stackTraces = false) : y_CX l yL_areAlike cL_areAlike 6 (some .boolean) (none) sx_areAlike 9 241 1160 := by
  refine y_CX_of (GL_areAlike) 337 (by decide) (fun _ => y_cok_of (code := CL_areAlike) rfl (by decide +kernel)) (fun _ => y_pok_of (c1 := []) (c2 := []) co_L lo_L rfl rfl (by decide +kernel)) (fun _ => rfl) ?_ (fun kx => List.forall_mem_cons.mpr ⟨⟨0, sx_low, rfl, y_coS (cy_low l h9) kb_L_low ks_L_157 (by decide) (by decide)⟩, List.forall_mem_cons.mpr ⟨⟨1, sx_does, rfl, y_coW (cy_does l h9) kc_does ks_L_164 (by decide) (by decide)⟩, List.forall_mem_cons.mpr ⟨⟨1, sx_money, rfl, y_coW (cy_money l h9) kc_money ks_L_179 (by decide) (by decide)⟩, fun _ h => absurd h List.not_mem_nil⟩⟩⟩) ?_
  · intro as g Po Px h
    unfold sx_areAlike at h
    split at h
    · exact Nat.le_of_ble_eq_true rfl
    · exact h.elim
  · intro as g Po Px h V hV hW
    unfold sx_areAlike at h
    split at h
    · rename_i v
      have hpo := h
      have hO : ∀ (j k : Nat) (a3 x : Int32) (g1 u1 : Nat), k + j = 16 → x = nI k → (a3 = nI 0 ∨ a3 = nI 1) → g ≤ g1 → (a3 ≠ nI 0 → g + 12 * (k - 12) ≤ g1) → u1 ≤ 72 * k → V 5 [(0, .ref 0), (1, .ref 1), (2, .int v), (3, .int a3), (4, .int x)] [] g1 u1 := by
        intro j
        induction j with
        | zero =>
          intro k a3 x g1 u1 hk hx ha3 hg1 hgr hu1
          subst hx
          refine hV [5, 163] 184 5 _ _ _ _ ?_
          refine ⟨fun h1 => ?_, fun h1 => absurd (by rw [show k = 16 by omega]; decide) h1⟩
          exact ⟨y_n01 ha3, by omega, hpo _ _ ⟨hg1, ha3, fun h => by have := hgr h; omega⟩⟩
        | succ j ih =>
          intro k a3 x g1 u1 hk hx ha3 hg1 hgr hu1
          subst hx
          refine hV [5, 163] 184 5 _ _ _ _ ?_
          have hk16 : k < 16 := by omega
          have hI : ∀ (j2 k2 : Nat) (a3 x2 : Int32) (g1 u1 : Nat), k2 + j2 = 6 → x2 = nI k2 → (a3 = nI 0 ∨ a3 = nI 1) → g ≤ g1 → (a3 ≠ nI 0 → g + 12 * (k - 12) ≤ g1 ∧ (12 ≤ k → g + 12 * (k - 12) + 2 * k2 ≤ g1)) → u1 ≤ 72 * k + 12 + 10 * k2 → V 163 [(0, .ref 0), (1, .ref 1), (2, .int v), (3, .int a3), (4, .int (nI k)), (5, .int x2)] [] g1 u1 := by
            intro j2
            induction j2 with
            | zero =>
              intro k2 a3 x2 g1 u1 hk2 hx2 ha3 hg1 hgr2 hu1
              subst hx2
              refine hV [5, 163] 184 163 _ _ _ _ ?_
              refine ⟨fun h1 => ?_, fun h1 => absurd (by rw [show k2 = 6 by omega]; decide) h1⟩
              exact hW [0, 1, 2, 3, 4] _ _ _ _ _ (ih (k + 1) _ _ _ _ (by omega) (nI_add k 1) ha3 (by omega) (fun h => by have := hgr2 h; omega) (by omega))
            | succ j2 ih2 =>
              intro k2 a3 x2 g1 u1 hk2 hx2 ha3 hg1 hgr2 hu1
              subst hx2
              refine hV [5, 163] 184 163 _ _ _ _ ?_
              refine ⟨fun h1 => (y_lft (by decide) (show k2 < 6 by omega) h1).elim, fun _ => ?_⟩
              refine ⟨fun h1 => ?_, fun h2 => ?_⟩
              · exact hW [0, 1, 2, 3, 4] _ _ _ _ _ (ih (k + 1) _ _ _ _ (by omega) (nI_add k 1) ha3 (by omega) (fun h => absurd h1 (y_nn0 h)) (by omega))
              · refine ⟨by omega, rfl, fun x11 g11 f11 => ?_⟩
                have e11 := f11.1
                refine ⟨by omega, rfl, fun x12 g12 f12 => ?_⟩
                have e12 := f12.1
                refine ⟨fun h13 => ?_, fun h13 => ?_⟩
                · exact hW [0, 1, 2, 3, 4, 5] _ _ _ _ _ (ih2 (k2 + 1) _ _ _ _ (by omega) (nI_add k2 1) (Or.inl rfl) (by omega) (fun h => absurd rfl h) (by omega))
                · refine ⟨by omega, rfl, fun x14 g14 f14 => ?_⟩
                  have e14 := f14.1
                  have d14 := y_fd28 (by omega) f14
                  refine ⟨by omega, rfl, fun x15 g15 f15 => ?_⟩
                  have e15 := f15.1
                  have d15 := y_fd28 (by omega) f15
                  refine ⟨fun h16 => ?_, fun h16 => ?_⟩
                  · exact hW [0, 1, 2, 3, 4, 5] _ _ _ _ _ (ih2 (k2 + 1) _ _ _ _ (by omega) (nI_add k2 1) (Or.inl rfl) (by omega) (fun h => absurd rfl h) (by omega))
                  · refine ⟨by omega, rfl, fun x17 g17 f17 => ?_⟩
                    have e17 := f17.1
                    refine ⟨by omega, rfl, fun x18 g18 f18 => ?_⟩
                    have e18 := f18.1
                    refine ⟨fun h19 => ?_, fun h19 => ?_⟩
                    · exact hW [0, 1, 2, 3, 4, 5] _ _ _ _ _ (ih2 (k2 + 1) _ _ _ _ (by omega) (nI_add k2 1) (Or.inl rfl) (by omega) (fun h => absurd rfl h) (by omega))
                    · refine ⟨by omega, by decide, fun x20 => ?_⟩
                      refine ⟨by omega, rfl, fun x21 g21 f21 => ?_⟩
                      have e21 := f21.1
                      refine ⟨by omega, by decide, fun x22 => ?_⟩
                      refine ⟨by omega, rfl, fun x23 g23 f23 => ?_⟩
                      have e23 := f23.1
                      refine ⟨fun h24 => ?_, fun h24 => ?_⟩
                      · exact hW [0, 1, 2, 3, 4, 5] _ _ _ _ _ (ih2 (k2 + 1) _ _ _ _ (by omega) (nI_add k2 1) (Or.inl rfl) (by omega) (fun h => absurd rfl h) (by omega))
                      · refine ⟨by omega, by decide, fun x25 => ?_⟩
                        refine ⟨by omega, rfl, fun x26 g26 f26 => ?_⟩
                        have e26 := f26.1
                        refine ⟨by omega, by decide, fun x27 => ?_⟩
                        refine ⟨by omega, rfl, fun x28 g28 f28 => ?_⟩
                        have e28 := f28.1
                        refine ⟨fun h29 => ?_, fun h29 => ?_⟩
                        · exact hW [0, 1, 2, 3, 4, 5] _ _ _ _ _ (ih2 (k2 + 1) _ _ _ _ (by omega) (nI_add k2 1) (Or.inl rfl) (by omega) (fun h => absurd rfl h) (by omega))
                        · exact hW [0, 1, 2, 3, 4, 5] _ _ _ _ _ (ih2 (k2 + 1) _ _ _ _ (by omega) (nI_add k2 1) (Or.inr rfl) (by omega) (fun _ => by have := hgr2 (y_nn h2); omega) (by omega))
          refine ⟨fun h1 => (y_lft (by decide) hk16 h1).elim, fun _ => ?_⟩
          refine ⟨fun h1 => ?_, fun h2 => ?_⟩
          · exact ⟨y_n01 ha3, by omega, hpo _ _ ⟨hg1, ha3, fun h => absurd h1 (y_nn0 h)⟩⟩
          · refine ⟨by omega, rfl, fun x11 g11 f11 => ?_⟩
            have e11 := f11.1
            refine ⟨by omega, rfl, fun x12 g12 f12 => ?_⟩
            have e12 := f12.1
            refine ⟨fun h13 => ?_, fun h13 => ?_⟩
            · exact hW [0, 1, 2, 3, 4, 5] _ _ _ _ _ (hI 6 0 _ _ _ _ (by omega) rfl (Or.inl rfl) (by omega) (fun h => absurd rfl h) (by omega))
            · refine ⟨by omega, rfl, fun x14 g14 f14 => ?_⟩
              have e14 := f14.1
              refine ⟨by omega, rfl, fun x15 g15 f15 => ?_⟩
              have e15 := f15.1
              refine ⟨fun h16 => ?_, fun h16 => ?_⟩
              · exact hW [0, 1, 2, 3, 4, 5] _ _ _ _ _ (hI 6 0 _ _ _ _ (by omega) rfl (Or.inl rfl) (by omega) (fun h => absurd rfl h) (by omega))
              · refine ⟨by omega, rfl, fun x17 g17 f17 => ?_⟩
                have e17 := f17.1
                refine ⟨by omega, rfl, fun x18 g18 f18 => ?_⟩
                have e18 := f18.1
                refine ⟨fun h19 => ?_, fun h19 => ?_⟩
                · exact hW [0, 1, 2, 3, 4, 5] _ _ _ _ _ (hI 6 0 _ _ _ _ (by omega) rfl (Or.inl rfl) (by omega) (fun h => absurd rfl h) (by omega))
                · refine ⟨by omega, by decide, fun x20 => ?_⟩
                  refine ⟨by omega, rfl, fun x21 g21 f21 => ?_⟩
                  have e21 := f21.1
                  refine ⟨by omega, by decide, fun x22 => ?_⟩
                  refine ⟨by omega, rfl, fun x23 g23 f23 => ?_⟩
                  have e23 := f23.1
                  refine ⟨fun h24 => ?_, fun h24 => ?_⟩
                  · exact hW [0, 1, 2, 3, 4, 5] _ _ _ _ _ (hI 6 0 _ _ _ _ (by omega) rfl (Or.inl rfl) (by omega) (fun h => absurd rfl h) (by omega))
                  · refine ⟨by omega, rfl, fun x25 g25 e25 => ?_⟩
                    refine ⟨by omega, rfl, fun x26 g26 e26 => ?_⟩
                    refine ⟨fun h27 => ?_, fun h27 => ?_⟩
                    · exact hW [0, 1, 2, 3, 4, 5] _ _ _ _ _ (hI 6 0 _ _ _ _ (by omega) rfl (Or.inl rfl) (by omega) (fun h => absurd rfl h) (by omega))
                    · refine ⟨by omega, rfl, fun x28 g28 e28 => ?_⟩
                      refine ⟨by omega, rfl, fun x29 g29 e29 => ?_⟩
                      refine ⟨fun h30 => ?_, fun h30 => ?_⟩
                      · exact hW [0, 1, 2, 3, 4, 5] _ _ _ _ _ (hI 6 0 _ _ _ _ (by omega) rfl (Or.inl rfl) (by omega) (fun h => absurd rfl h) (by omega))
                      · exact hW [0, 1, 2, 3, 4, 5] _ _ _ _ _ (hI 6 0 _ _ _ _ (by omega) rfl (Or.inr rfl) (by omega) (fun _ => by have := hgr (y_nn h2); omega) (by omega))
      refine hV [5, 163] 184 0 _ _ _ _ ?_
      exact hW [0, 1, 2, 3, 4] _ _ _ _ _ (hO 16 0 _ _ _ _ (by omega) rfl (Or.inr rfl) (Nat.le_refl _) (fun _ => by omega) (by omega))
    · exact h.elim
