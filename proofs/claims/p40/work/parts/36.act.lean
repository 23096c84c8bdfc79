/-! act -/
theorem y_nz {x : Int32} {c : Nat} (h : 0 ≤ x) (h0 : 0 < c) (hc : c < 2 ^ 31) : ¬ x + nI c = 0 := by
  intro e
  have hx : 0 ≤ x.toInt := by
    rw [Int32.le_iff_toInt_le] at h
    have e0 : (0 : Int32).toInt = 0 := by decide
    omega
  have hlt : x.toInt < 2147483648 := Int32.toInt_lt x
  obtain ⟨j, hj⟩ : ∃ j : Nat, x.toInt = (j : Int) := ⟨x.toInt.toNat, by omega⟩
  have hj2 : j < 2147483648 := by omega
  have ex : x = nI j := Int32.toInt_inj.mp (by rw [nI_toInt (by omega), hj])
  rw [ex, nI_add] at e
  have e2 : (nI (j + c)).toInt = 0 := by rw [e]; decide
  have e3 : nI (j + c) = Int32.ofNat (j + c) := rfl
  rw [e3, Int32.toInt_ofNat', show Int32.size = 4294967296 from rfl, Int.bmod_def] at e2
  omega
def sx_act : y_SX := fun as g k kx => match as with
  | [.ref o, .int _, .int now] => Nat.blt o 2 = true ∧ 0 ≤ now ∧ ∀ (r : Int32) (g' : Nat), g ≤ g' → k (some (.int r)) g'
  | _ => False
def CL_act : List (Nat × Instr × Nat × Nat) := [(0, .iload_n 1, 1, 0), (1, .bipush 18, 3, 0), (3, .ishr, 4, 0), (4, .bipush 7, 6, 0), (6, .iand, 7, 0), (7, .bipush 7, 9, 0), (9, .if_icmp .ne 7, 12, 16), (12, .iconst 1, 13, 0), (13, .goto 4, 16, 17), (16, .iconst 0, 17, 0), (17, .istore_n 3, 18, 0), (18, .iload_n 1, 19, 0), (19, .bipush 60, 21, 0), (21, .invokestatic 157, 24, 0), (24, .istore 4, 26, 0), (26, .iload_n 1, 27, 0), (27, .bipush 6, 29, 0), (29, .ishr, 30, 0), (30, .istore 5, 32, 0), (32, .iload_n 3, 33, 0), (33, .ifCond .eq 15, 36, 48), (36, .iload 5, 38, 0), (38, .bipush 33, 40, 0), (40, .invokestatic 157, 43, 0), (43, .iconst 1, 44, 0), (44, .isub, 45, 0), (45, .goto 10, 48, 55), (48, .iload 5, 50, 0), (50, .bipush 12, 52, 0), (52, .invokestatic 157, 55, 0), (55, .istore 6, 57, 0), (57, .iload_n 3, 58, 0), (58, .ifCond .eq 17, 61, 75), (61, .iload 5, 63, 0), (63, .iconst 3, 64, 0), (64, .ishr, 65, 0), (65, .bipush 8, 67, 0), (67, .invokestatic 157, 70, 0), (70, .iconst 1, 71, 0), (71, .isub, 72, 0), (72, .goto 11, 75, 83), (75, .iload 5, 77, 0), (77, .iconst 3, 78, 0), (78, .ishr, 79, 0), (79, .iconst 4, 80, 0), (80, .invokestatic 157, 83, 0), (83, .istore 7, 85, 0), (85, .iload_n 3, 86, 0), (86, .ifCond .eq 19, 89, 105), (89, .iload 5, 91, 0), (91, .iconst 4, 92, 0), (92, .ishr, 93, 0), (93, .iload_n 2, 94, 0), (94, .bipush 9, 96, 0), (96, .iadd, 97, 0), (97, .invokestatic 157, 100, 0), (100, .iconst 2, 101, 0), (101, .isub, 102, 0), (102, .goto 13, 105, 115), (105, .iload 5, 107, 0), (107, .iconst 4, 108, 0), (108, .ishr, 109, 0), (109, .iload_n 2, 110, 0), (110, .iconst 1, 111, 0), (111, .iadd, 112, 0), (112, .invokestatic 157, 115, 0), (115, .istore 8, 117, 0), (117, .iload_n 3, 118, 0), (118, .ifCond .eq 15, 121, 133), (121, .iload 5, 123, 0), (123, .iconst 2, 124, 0), (124, .ishr, 125, 0), (125, .ldc 160, 127, 0), (127, .invokestatic 157, 130, 0), (130, .goto 10, 133, 140), (133, .iload 5, 135, 0), (135, .iconst 3, 136, 0), (136, .ishr, 137, 0), (137, .invokestatic 161, 140, 0), (140, .istore 9, 142, 0), (142, .iload_n 3, 143, 0), (143, .ifCond .eq 15, 146, 158), (146, .iload 5, 148, 0), (148, .iconst 5, 149, 0), (149, .ishr, 150, 0), (150, .bipush 34, 152, 0), (152, .invokestatic 157, 155, 0), (155, .goto 15, 158, 170), (158, .iconst 1, 159, 0), (159, .iload 5, 161, 0), (161, .bipush 6, 163, 0), (163, .ishr, 164, 0), (164, .bipush 31, 166, 0), (166, .invokestatic 157, 169, 0), (169, .iadd, 170, 0), (170, .istore 10, 172, 0), (172, .iload 4, 174, 0), (174, .bipush 12, 176, 0), (176, .if_icmp .ge 218, 179, 394), (179, .iload 4, 181, 0), (181, .iconst 3, 182, 0), (182, .if_icmp .ge 49, 185, 231), (185, .aload_n 0, 186, 0), (186, .iconst 1, 187, 0), (187, .iload 5, 189, 0), (189, .iload_n 3, 190, 0), (190, .ifCond .eq 8, 193, 198), (193, .bipush 40, 195, 0), (195, .goto 5, 198, 200), (198, .bipush 12, 200, 0), (200, .invokestatic 157, 203, 0), (203, .iload_n 3, 204, 0), (204, .ifCond .eq 7, 207, 211), (207, .iconst 3, 208, 0), (208, .goto 4, 211, 212), (211, .iconst 1, 212, 0), (212, .isub, 213, 0), (213, .iload 5, 215, 0), (215, .iconst 4, 216, 0), (216, .ishr, 217, 0), (217, .bipush 12, 219, 0), (219, .invokestatic 157, 222, 0), (222, .iconst 1, 223, 0), (223, .isub, 224, 0), (224, .iconst 0, 225, 0), (225, .invokestatic 164, 228, 0), (228, .goto 165, 231, 393), (231, .iload 4, 233, 0), (233, .bipush 6, 235, 0), (235, .if_icmp .ge 30, 238, 265), (238, .aload_n 0, 239, 0), (239, .iconst 2, 240, 0), (240, .iload 7, 242, 0), (242, .iload 6, 244, 0), (244, .iload 5, 246, 0), (246, .bipush 6, 248, 0), (248, .ishr, 249, 0), (249, .iconst 3, 250, 0), (250, .iand, 251, 0), (251, .ifCond .le 7, 254, 258), (254, .iconst 1, 255, 0), (255, .goto 4, 258, 259), (258, .iconst 0, 259, 0), (259, .invokestatic 164, 262, 0), (262, .goto 131, 265, 393), (265, .iload 4, 267, 0), (267, .bipush 6, 269, 0), (269, .if_icmp .ne 25, 272, 294), (272, .aload_n 0, 273, 0), (273, .iconst 3, 274, 0), (274, .iload 6, 276, 0), (276, .iload 5, 278, 0), (278, .iconst 5, 279, 0), (279, .ishr, 280, 0), (280, .bipush 12, 282, 0), (282, .invokestatic 157, 285, 0), (285, .iconst 1, 286, 0), (286, .isub, 287, 0), (287, .iconst 0, 288, 0), (288, .invokestatic 164, 291, 0), (291, .goto 102, 294, 393), (294, .iload 4, 296, 0), (296, .bipush 9, 298, 0), (298, .if_icmp .ge 15, 301, 313), (301, .aload_n 0, 302, 0), (302, .iconst 4, 303, 0), (303, .iload 6, 305, 0), (305, .iconst 0, 306, 0), (306, .iconst 0, 307, 0), (307, .invokestatic 164, 310, 0), (310, .goto 83, 313, 393), (313, .iload 4, 315, 0), (315, .bipush 9, 317, 0), (317, .if_icmp .ne 16, 320, 333), (320, .aload_n 0, 321, 0), (321, .bipush 6, 323, 0), (323, .iload 7, 325, 0), (325, .iconst 0, 326, 0), (326, .iconst 0, 327, 0), (327, .invokestatic 164, 330, 0), (330, .goto 63, 333, 393), (333, .aload_n 0, 334, 0), (334, .bipush 7, 336, 0), (336, .iload 5, 338, 0), (338, .bipush 6, 340, 0), (340, .ishr, 341, 0), (341, .iload_n 3, 342, 0), (342, .ifCond .eq 8, 345, 350), (345, .bipush 12, 347, 0), (347, .goto 4, 350, 351), (350, .iconst 4, 351, 0), (351, .invokestatic 157, 354, 0), (354, .iload 5, 356, 0), (356, .iconst 2, 357, 0), (357, .ishr, 358, 0), (358, .iload_n 3, 359, 0), (359, .ifCond .eq 8, 362, 367), (362, .bipush 18, 364, 0), (364, .goto 5, 367, 369), (367, .bipush 16, 369, 0), (369, .invokestatic 157, 372, 0), (372, .iload 5, 374, 0), (374, .bipush 7, 376, 0), (376, .ishr, 377, 0), (377, .iload_n 3, 378, 0), (378, .ifCond .eq 8, 381, 386), (381, .bipush 6, 383, 0), (383, .goto 4, 386, 387), (386, .iconst 4, 387, 0), (387, .invokestatic 157, 390, 0), (390, .invokestatic 164, 393, 0), (393, .ireturn, 394, 0), (394, .iload 4, 396, 0), (396, .bipush 18, 398, 0), (398, .if_icmp .ge 104, 401, 502), (401, .iload 4, 403, 0), (403, .bipush 17, 405, 0), (405, .if_icmp .ge 62, 408, 467), (408, .aload_n 0, 409, 0), (409, .iload 7, 411, 0), (411, .iload_n 3, 412, 0), (412, .ifCond .eq 13, 415, 425), (415, .iload 5, 417, 0), (417, .bipush 18, 419, 0), (419, .invokestatic 157, 422, 0), (422, .goto 9, 425, 431), (425, .iload 5, 427, 0), (427, .iconst 5, 428, 0), (428, .invokestatic 157, 431, 0), (431, .iload 8, 433, 0), (433, .iload_n 3, 434, 0), (434, .ifCond .eq 7, 437, 441), (437, .iconst 0, 438, 0), (438, .goto 4, 441, 442), (441, .iconst 1, 442, 0), (442, .iload 5, 444, 0), (444, .iconst 5, 445, 0), (445, .ishr, 446, 0), (446, .iload_n 3, 447, 0), (447, .ifCond .eq 8, 450, 455), (450, .bipush 12, 452, 0), (452, .goto 5, 455, 457), (455, .bipush 9, 457, 0), (457, .invokestatic 157, 460, 0), (460, .iadd, 461, 0), (461, .invokestatic 167, 464, 0), (464, .goto 37, 467, 501), (467, .aload_n 0, 468, 0), (468, .bipush 10, 470, 0), (470, .iload 7, 472, 0), (472, .iload 8, 474, 0), (474, .iload 8, 476, 0), (476, .iload 5, 478, 0), (478, .iconst 5, 479, 0), (479, .ishr, 480, 0), (480, .sipush 600, 483, 0), (483, .invokestatic 157, 486, 0), (486, .iadd, 487, 0), (487, .iload_n 3, 488, 0), (488, .ifCond .eq 8, 491, 496), (491, .bipush 100, 493, 0), (493, .goto 4, 496, 497), (496, .iconst 0, 497, 0), (497, .isub, 498, 0), (498, .invokestatic 164, 501, 0), (501, .ireturn, 502, 0), (502, .iload_n 3, 503, 0), (503, .ifCond .eq 15, 506, 518), (506, .iload 5, 508, 0), (508, .bipush 45, 510, 0), (510, .invokestatic 157, 513, 0), (513, .iconst 2, 514, 0), (514, .isub, 515, 0), (515, .goto 10, 518, 525), (518, .iload 5, 520, 0), (520, .bipush 8, 522, 0), (522, .invokestatic 157, 525, 0), (525, .istore 11, 527, 0), (527, .iload 4, 529, 0), (529, .bipush 27, 531, 0), (531, .if_icmp .ge 221, 534, 752), (534, .iload_n 3, 535, 0), (535, .ifCond .eq 14, 538, 549), (538, .iload 5, 540, 0), (540, .iconst 5, 541, 0), (541, .invokestatic 157, 544, 0), (544, .iconst 1, 545, 0), (545, .isub, 546, 0), (546, .goto 25, 549, 571), (549, .iload 5, 551, 0), (551, .iconst 5, 552, 0), (552, .invokestatic 157, 555, 0), (555, .iconst 3, 556, 0), (556, .if_icmp .ge 7, 559, 563), (559, .iconst 0, 560, 0), (560, .goto 11, 563, 571), (563, .iload 5, 565, 0), (565, .iconst 5, 566, 0), (566, .invokestatic 157, 569, 0), (569, .iconst 2, 570, 0), (570, .isub, 571, 0), (571, .istore 12, 573, 0), (573, .iload 5, 575, 0), (575, .bipush 9, 577, 0), (577, .ishr, 578, 0), (578, .iconst 1, 579, 0), (579, .iand, 580, 0), (580, .ifCond .ne 7, 583, 587), (583, .iload_n 2, 584, 0), (584, .goto 9, 587, 593), (587, .iconst 0, 588, 0), (588, .iload 8, 590, 0), (590, .invokestatic 170, 593, 0), (593, .istore 13, 595, 0), (595, .iload 4, 597, 0), (597, .bipush 22, 599, 0), (599, .if_icmp .ge 49, 602, 648), (602, .aload_n 0, 603, 0), (603, .iload 13, 605, 0), (605, .iload 9, 607, 0), (607, .iload 10, 609, 0), (609, .iload 12, 611, 0), (611, .iload 12, 613, 0), (613, .iconst 1, 614, 0), (614, .if_icmp .ne 19, 617, 633), (617, .iload 13, 619, 0), (619, .iload 5, 621, 0), (621, .iconst 5, 622, 0), (622, .ishr, 623, 0), (623, .sipush 300, 626, 0), (626, .invokestatic 157, 629, 0), (629, .iadd, 630, 0), (630, .goto 12, 633, 642), (633, .iload_n 3, 634, 0), (634, .ifCond .eq 7, 637, 641), (637, .iconst 0, 638, 0), (638, .goto 4, 641, 642), (641, .iconst (-1), 642, 0), (642, .invokestatic 173, 645, 0), (645, .goto 106, 648, 751), (648, .iload 4, 650, 0), (650, .bipush 24, 652, 0), (652, .if_icmp .ge 21, 655, 673), (655, .aload_n 0, 656, 0), (656, .bipush 12, 658, 0), (658, .iload 11, 660, 0), (660, .iload 5, 662, 0), (662, .iconst 5, 663, 0), (663, .ishr, 664, 0), (664, .iconst 1, 665, 0), (665, .iand, 666, 0), (666, .iconst 0, 667, 0), (667, .invokestatic 164, 670, 0), (670, .goto 81, 673, 751), (673, .iload 4, 675, 0), (675, .bipush 24, 677, 0), (677, .if_icmp .ne 16, 680, 693), (680, .aload_n 0, 681, 0), (681, .bipush 13, 683, 0), (683, .iload 11, 685, 0), (685, .iconst 0, 686, 0), (686, .iconst 0, 687, 0), (687, .invokestatic 164, 690, 0), (690, .goto 61, 693, 751), (693, .iload 4, 695, 0), (695, .bipush 25, 697, 0), (697, .if_icmp .ne 46, 700, 743), (700, .aload_n 0, 701, 0), (701, .bipush 29, 703, 0), (703, .iload_n 3, 704, 0), (704, .ifCond .eq 8, 707, 712), (707, .iload 11, 709, 0), (709, .goto 9, 712, 718), (712, .iload 5, 714, 0), (714, .iconst 5, 715, 0), (715, .invokestatic 157, 718, 0), (718, .iload 5, 720, 0), (720, .iconst 3, 721, 0), (721, .ishr, 722, 0), (722, .iload_n 3, 723, 0), (723, .ifCond .eq 8, 726, 731), (726, .ldc 177, 728, 0), (728, .goto 5, 731, 733), (731, .ldc 178, 733, 0), (733, .invokestatic 157, 736, 0), (736, .iconst 0, 737, 0), (737, .invokestatic 164, 740, 0), (740, .goto 11, 743, 751), (743, .aload_n 0, 744, 0), (744, .iconst 1, 745, 0), (745, .iload 11, 747, 0), (747, .invokestatic 179, 750, 0), (750, .l2i, 751, 0), (751, .ireturn, 752, 0), (752, .iload 4, 754, 0), (754, .bipush 42, 756, 0), (756, .if_icmp .ge 111, 759, 867), (759, .iload 4, 761, 0), (761, .bipush 30, 763, 0), (763, .if_icmp .ge 18, 766, 781), (766, .aload_n 0, 767, 0), (767, .bipush 16, 769, 0), (769, .iload 7, 771, 0), (771, .iload 9, 773, 0), (773, .iload 10, 775, 0), (775, .invokestatic 164, 778, 0), (778, .goto 88, 781, 866), (781, .iload 4, 783, 0), (783, .bipush 36, 785, 0), (785, .if_icmp .ge 31, 788, 816), (788, .aload_n 0, 789, 0), (789, .bipush 17, 791, 0), (791, .iload 6, 793, 0), (793, .iload 11, 795, 0), (795, .iload 5, 797, 0), (797, .bipush 6, 799, 0), (799, .ishr, 800, 0), (800, .iconst 3, 801, 0), (801, .iand, 802, 0), (802, .ifCond .le 7, 805, 809), (805, .iconst 1, 806, 0), (806, .goto 4, 809, 810), (809, .iconst 0, 810, 0), (810, .invokestatic 164, 813, 0), (813, .goto 53, 816, 866), (816, .iload 4, 818, 0), (818, .bipush 39, 820, 0), (820, .if_icmp .ge 16, 823, 836), (823, .aload_n 0, 824, 0), (824, .bipush 18, 826, 0), (826, .iload 11, 828, 0), (828, .iconst 0, 829, 0), (829, .iconst 0, 830, 0), (830, .invokestatic 164, 833, 0), (833, .goto 33, 836, 866), (836, .iload 4, 838, 0), (838, .bipush 41, 840, 0), (840, .if_icmp .ge 16, 843, 856), (843, .aload_n 0, 844, 0), (844, .bipush 19, 846, 0), (846, .iload 11, 848, 0), (848, .iconst 0, 849, 0), (849, .iconst 0, 850, 0), (850, .invokestatic 164, 853, 0), (853, .goto 13, 856, 866), (856, .aload_n 0, 857, 0), (857, .bipush 20, 859, 0), (859, .iload 11, 861, 0), (861, .iconst 0, 862, 0), (862, .iconst 0, 863, 0), (863, .invokestatic 164, 866, 0), (866, .ireturn, 867, 0), (867, .iload 4, 869, 0), (869, .bipush 52, 871, 0), (871, .if_icmp .ge 158, 874, 1029), (874, .iload 5, 876, 0), (876, .iload_n 3, 877, 0), (877, .ifCond .eq 7, 880, 884), (880, .iconst 5, 881, 0), (881, .goto 4, 884, 885), (884, .iconst 3, 885, 0), (885, .invokestatic 157, 888, 0), (888, .istore 12, 890, 0), (890, .iload 4, 892, 0), (892, .bipush 44, 894, 0), (894, .if_icmp .ge 57, 897, 951), (897, .aload_n 0, 898, 0), (898, .iload 5, 900, 0), (900, .bipush 8, 902, 0), (902, .ishr, 903, 0), (903, .iconst 1, 904, 0), (904, .iand, 905, 0), (905, .iconst 2, 906, 0), (906, .isub, 907, 0), (907, .iload 9, 909, 0), (909, .iload 10, 911, 0), (911, .iload 12, 913, 0), (913, .iload 12, 915, 0), (915, .iconst 1, 916, 0), (916, .if_icmp .ne 28, 919, 944), (919, .iload_n 2, 920, 0), (920, .iload 5, 922, 0), (922, .iconst 5, 923, 0), (923, .ishr, 924, 0), (924, .bipush 20, 926, 0), (926, .invokestatic 157, 929, 0), (929, .iadd, 930, 0), (930, .iload_n 3, 931, 0), (931, .ifCond .eq 8, 934, 939), (934, .bipush 9, 936, 0), (936, .goto 4, 939, 940), (939, .iconst 0, 940, 0), (940, .isub, 941, 0), (941, .goto 4, 944, 945), (944, .iconst (-1), 945, 0), (945, .invokestatic 173, 948, 0), (948, .goto 80, 951, 1028), (951, .iload 4, 953, 0), (953, .bipush 47, 955, 0), (955, .if_icmp .ge 17, 958, 972), (958, .aload_n 0, 959, 0), (959, .bipush 24, 961, 0), (961, .iload 7, 963, 0), (963, .iload 11, 965, 0), (965, .iconst 0, 966, 0), (966, .invokestatic 164, 969, 0), (969, .goto 59, 972, 1028), (972, .iload 4, 974, 0), (974, .bipush 47, 976, 0), (976, .if_icmp .ne 17, 979, 993), (979, .aload_n 0, 980, 0), (980, .bipush 25, 982, 0), (982, .iload 7, 984, 0), (984, .iload 11, 986, 0), (986, .iconst 0, 987, 0), (987, .invokestatic 164, 990, 0), (990, .goto 38, 993, 1028), (993, .iload 4, 995, 0), (995, .bipush 48, 997, 0), (997, .if_icmp .ne 21, 1000, 1018), (1000, .aload_n 0, 1001, 0), (1001, .bipush 26, 1003, 0), (1003, .iload 11, 1005, 0), (1005, .iload 5, 1007, 0), (1007, .iconst 5, 1008, 0), (1008, .ishr, 1009, 0), (1009, .iconst 1, 1010, 0), (1010, .iand, 1011, 0), (1011, .iconst 0, 1012, 0), (1012, .invokestatic 164, 1015, 0), (1015, .goto 13, 1018, 1028), (1018, .aload_n 0, 1019, 0), (1019, .bipush 27, 1021, 0), (1021, .iload 11, 1023, 0), (1023, .iconst 0, 1024, 0), (1024, .iconst 0, 1025, 0), (1025, .invokestatic 164, 1028, 0), (1028, .ireturn, 1029, 0), (1029, .aload_n 0, 1030, 0), (1030, .bipush 30, 1032, 0), (1032, .iload_n 3, 1033, 0), (1033, .ifCond .eq 14, 1036, 1047), (1036, .iload 5, 1038, 0), (1038, .sipush 700, 1041, 0), (1041, .invokestatic 157, 1044, 0), (1044, .goto 28, 1047, 1072), (1047, .iconst 1, 1048, 0), (1048, .iload 5, 1050, 0), (1050, .iload 5, 1052, 0), (1052, .bipush 8, 1054, 0), (1054, .ishr, 1055, 0), (1055, .iconst 3, 1056, 0), (1056, .iand, 1057, 0), (1057, .ifCond .ne 9, 1060, 1066), (1060, .sipush 500, 1063, 0), (1063, .goto 5, 1066, 1068), (1066, .bipush 6, 1068, 0), (1068, .invokestatic 157, 1071, 0), (1071, .iadd, 1072, 0), (1072, .iconst 0, 1073, 0), (1073, .iconst 0, 1074, 0), (1074, .invokestatic 164, 1077, 0), (1077, .ireturn, 1078, 0)]
theorem y_ck_app {cc : ByteArray} {nL lim : Nat} {a b : List (Nat × Instr × Nat × Nat)} (h1 : y_ck cc nL lim a = true) (h2 : y_ck cc nL lim b = true) : y_ck cc nL lim (a ++ b) = true := by
  unfold y_ck at *
  rw [List.all_append, h1, h2]
  rfl
set_option maxRecDepth 40000 in
theorem ck_act : y_ck cL_act 14 1078 CL_act = true := by
  have e : CL_act = CLa_0 ++ (CLa_1 ++ (CLa_2 ++ (CLa_3 ++ (CLa_4 ++ (CLa_5 ++ (CLa_6 ++ (CLa_7 ++ (CLa_8 ++ (CLa_9 ++ (CLa_10 ++ (CLa_11))))))))))) := rfl
  rw [e]
  exact y_ck_app ckA_0 (y_ck_app ckA_1 (y_ck_app ckA_2 (y_ck_app ckA_3 (y_ck_app ckA_4 (y_ck_app ckA_5 (y_ck_app ckA_6 (y_ck_app ckA_7 (y_ck_app ckA_8 (y_ck_app ckA_9 (y_ck_app ckA_10 (ckA_11)))))))))))
def GL_act (kx : String → Nat → Nat → Prop) : y_G := (CL_act, [(100157, 2, y_cs 1 0 sx_low kx), (100161, 1, y_cs 1 0 sx_few kx), (100164, 5, y_cs 1 1 sx_does kx), (100167, 5, y_cs 1 1 sx_marked kx), (100170, 2, y_cs 1 0 sx_greater kx), (100173, 6, y_cs 1 1 sx_acted kx), (100179, 3, y_cs 1 1 sx_money kx)], [(160, 66000), (177, 1500000), (178, 1000001)], [], some .int)
set_option maxRecDepth 20000 in
set_option maxHeartbeats 8000000 in
theorem cy_act (l : Launch) (h9 : l.stackTraces = false) : y_CX l yL_act cL_act 14 (some .int) (none) sx_act 9 241 1 := by
  refine y_CX_of (GL_act) 1078 (by decide) (fun _ => y_cok_of (code := CL_act) rfl ck_act) (fun _ => y_pok_of (c1 := [(160, 66000), (177, 1500000), (178, 1000001)]) (c2 := []) co_L lo_L rfl rfl (by decide +kernel)) (fun _ => rfl) ?_ (fun kx => List.forall_mem_cons.mpr ⟨⟨0, sx_low, rfl, y_coS (cy_low l h9) kb_L_low ks_L_157 (by decide) (by decide)⟩, List.forall_mem_cons.mpr ⟨⟨0, sx_few, rfl, y_coS (cy_few l h9) kb_L_few ks_L_161 (by decide) (by decide)⟩, List.forall_mem_cons.mpr ⟨⟨1, sx_does, rfl, y_coW (cy_does l h9) kc_does ks_L_164 (by decide) (by decide)⟩, List.forall_mem_cons.mpr ⟨⟨1, sx_marked, rfl, y_coW (cy_marked l h9) kc_marked ks_L_167 (by decide) (by decide)⟩, List.forall_mem_cons.mpr ⟨⟨0, sx_greater, rfl, y_coS (cy_greater l h9) kb_L_greater ks_L_170 (by decide) (by decide)⟩, List.forall_mem_cons.mpr ⟨⟨1, sx_acted, rfl, y_coW (cy_acted l h9) kc_acted ks_L_173 (by decide) (by decide)⟩, List.forall_mem_cons.mpr ⟨⟨1, sx_money, rfl, y_coW (cy_money l h9) kc_money ks_L_179 (by decide) (by decide)⟩, fun _ h => absurd h List.not_mem_nil⟩⟩⟩⟩⟩⟩⟩) ?_
  · intro as g Po Px h
    unfold sx_act at h
    split at h
    · exact Nat.le_of_ble_eq_true rfl
    · exact h.elim
  · intro as g Po Px h V hV hW
    unfold sx_act at h
    split at h
    · rename_i o v now
      obtain ⟨ho, hnow, hpo⟩ := h
      have hC1072 : ∀ (a3 : Int32) (a4 : Int32) (a5 : Int32) (a6 : Int32) (a7 : Int32) (a8 : Int32) (a9 : Int32) (a10 : Int32) (a11 : Int32) (s1 : Int32) (s2 : Int32), V 1072 [(0, .ref o), (1, .int v), (2, .int now), (3, .int a3), (4, .int a4), (5, .int a5), (6, .int a6), (7, .int a7), (8, .int a8), (9, .int a9), (10, .int a10), (11, .int a11)] [.int s2, .int s1, .ref o] g 0 := by
        intro a3 a4 a5 a6 a7 a8 a9 a10 a11 s1 s2
        refine hV [17, 55, 83, 115, 140, 170, 200, 212, 259, 351, 369, 387, 431, 442, 457, 497, 525, 571, 593, 642, 718, 733, 810, 885, 940, 945, 1068, 1072] 568 1072 _ _ _ _ ?_
        refine ⟨by decide, ho, fun x1 g1 h1 => ?_⟩
        exact ⟨by decide, hpo _ _ h1.1⟩
      have hC1068 : ∀ (a3 : Int32) (a4 : Int32) (a5 : Int32) (a6 : Int32) (a7 : Int32) (a8 : Int32) (a9 : Int32) (a10 : Int32) (a11 : Int32) (s1 : Int32) (s2 : Int32) (s3 : Int32) (s4 : Int32), ¬ s4 = 0 → V 1068 [(0, .ref o), (1, .int v), (2, .int now), (3, .int a3), (4, .int a4), (5, .int a5), (6, .int a6), (7, .int a7), (8, .int a8), (9, .int a9), (10, .int a10), (11, .int a11)] [.int s4, .int s3, .int s2, .int s1, .ref o] g 0 := by
        intro a3 a4 a5 a6 a7 a8 a9 a10 a11 s1 s2 s3 s4 hz
        refine hV [17, 55, 83, 115, 140, 170, 200, 212, 259, 351, 369, 387, 431, 442, 457, 497, 525, 571, 593, 642, 718, 733, 810, 885, 940, 945, 1068, 1072] 568 1068 _ _ _ _ ?_
        refine ⟨by decide, hz, fun x2 => ?_⟩
        exact hW [0, 1, 2, 3, 4, 5, 6, 7, 8, 9, 10, 11] _ _ _ _ _ (hC1072 _ _ _ _ _ _ _ _ _ _ _)
      have hC945 : ∀ (a3 : Int32) (a4 : Int32) (a5 : Int32) (a6 : Int32) (a7 : Int32) (a8 : Int32) (a9 : Int32) (a10 : Int32) (a11 : Int32) (a12 : Int32) (s1 : Int32) (s2 : Int32) (s3 : Int32) (s4 : Int32) (s5 : Int32), V 945 [(0, .ref o), (1, .int v), (2, .int now), (3, .int a3), (4, .int a4), (5, .int a5), (6, .int a6), (7, .int a7), (8, .int a8), (9, .int a9), (10, .int a10), (11, .int a11), (12, .int a12)] [.int s5, .int s4, .int s3, .int s2, .int s1, .ref o] g 0 := by
        intro a3 a4 a5 a6 a7 a8 a9 a10 a11 a12 s1 s2 s3 s4 s5
        refine hV [17, 55, 83, 115, 140, 170, 200, 212, 259, 351, 369, 387, 431, 442, 457, 497, 525, 571, 593, 642, 718, 733, 810, 885, 940, 945, 1068, 1072] 568 945 _ _ _ _ ?_
        refine ⟨by decide, ho, fun x3 g3 h3 => ?_⟩
        exact ⟨by decide, hpo _ _ h3⟩
      have hC940 : ∀ (a3 : Int32) (a4 : Int32) (a5 : Int32) (a6 : Int32) (a7 : Int32) (a8 : Int32) (a9 : Int32) (a10 : Int32) (a11 : Int32) (a12 : Int32) (s1 : Int32) (s2 : Int32) (s3 : Int32) (s4 : Int32) (s5 : Int32) (s6 : Int32), V 940 [(0, .ref o), (1, .int v), (2, .int now), (3, .int a3), (4, .int a4), (5, .int a5), (6, .int a6), (7, .int a7), (8, .int a8), (9, .int a9), (10, .int a10), (11, .int a11), (12, .int a12)] [.int s6, .int s5, .int s4, .int s3, .int s2, .int s1, .ref o] g 0 := by
        intro a3 a4 a5 a6 a7 a8 a9 a10 a11 a12 s1 s2 s3 s4 s5 s6
        refine hV [17, 55, 83, 115, 140, 170, 200, 212, 259, 351, 369, 387, 431, 442, 457, 497, 525, 571, 593, 642, 718, 733, 810, 885, 940, 945, 1068, 1072] 568 940 _ _ _ _ ?_
        exact hW [0, 1, 2, 3, 4, 5, 6, 7, 8, 9, 10, 11, 12] _ _ _ _ _ (hC945 _ _ _ _ _ _ _ _ _ _ _ _ _ _ _)
      have hC885 : ∀ (a3 : Int32) (a4 : Int32) (a5 : Int32) (a6 : Int32) (a7 : Int32) (a8 : Int32) (a9 : Int32) (a10 : Int32) (a11 : Int32) (s0 : Int32) (s1 : Int32), ¬ s1 = 0 → V 885 [(0, .ref o), (1, .int v), (2, .int now), (3, .int a3), (4, .int a4), (5, .int a5), (6, .int a6), (7, .int a7), (8, .int a8), (9, .int a9), (10, .int a10), (11, .int a11)] [.int s1, .int s0] g 0 := by
        intro a3 a4 a5 a6 a7 a8 a9 a10 a11 s0 s1 hz
        refine hV [17, 55, 83, 115, 140, 170, 200, 212, 259, 351, 369, 387, 431, 442, 457, 497, 525, 571, 593, 642, 718, 733, 810, 885, 940, 945, 1068, 1072] 568 885 _ _ _ _ ?_
        refine ⟨by decide, hz, fun x4 => ?_⟩
        refine ⟨fun h5 => ?_, fun h5 => ?_⟩
        · refine ⟨fun h6 => ?_, fun h6 => ?_⟩
          · refine ⟨fun h7 => ?_, fun h7 => ?_⟩
            · refine ⟨fun h8 => ?_, fun h8 => ?_⟩
              · refine ⟨by decide, ho, fun x9 g9 h9 => ?_⟩
                exact ⟨by decide, hpo _ _ h9.1⟩
              · refine ⟨by decide, ho, fun x10 g10 h10 => ?_⟩
                exact ⟨by decide, hpo _ _ h10.1⟩
            · refine ⟨by decide, ho, fun x11 g11 h11 => ?_⟩
              exact ⟨by decide, hpo _ _ h11.1⟩
          · refine ⟨by decide, ho, fun x12 g12 h12 => ?_⟩
            exact ⟨by decide, hpo _ _ h12.1⟩
        · refine ⟨fun h13 => ?_, fun h13 => ?_⟩
          · exact hW [0, 1, 2, 3, 4, 5, 6, 7, 8, 9, 10, 11, 12] _ _ _ _ _ (hC945 _ _ _ _ _ _ _ _ _ _ _ _ _ _ _)
          · refine ⟨by decide, by decide, fun x14 => ?_⟩
            refine ⟨fun h15 => ?_, fun h15 => ?_⟩
            · exact hW [0, 1, 2, 3, 4, 5, 6, 7, 8, 9, 10, 11, 12] _ _ _ _ _ (hC940 _ _ _ _ _ _ _ _ _ _ _ _ _ _ _ _)
            · exact hW [0, 1, 2, 3, 4, 5, 6, 7, 8, 9, 10, 11, 12] _ _ _ _ _ (hC940 _ _ _ _ _ _ _ _ _ _ _ _ _ _ _ _)
      have hC810 : ∀ (a3 : Int32) (a4 : Int32) (a5 : Int32) (a6 : Int32) (a7 : Int32) (a8 : Int32) (a9 : Int32) (a10 : Int32) (a11 : Int32) (s1 : Int32) (s2 : Int32) (s3 : Int32) (s4 : Int32), V 810 [(0, .ref o), (1, .int v), (2, .int now), (3, .int a3), (4, .int a4), (5, .int a5), (6, .int a6), (7, .int a7), (8, .int a8), (9, .int a9), (10, .int a10), (11, .int a11)] [.int s4, .int s3, .int s2, .int s1, .ref o] g 0 := by
        intro a3 a4 a5 a6 a7 a8 a9 a10 a11 s1 s2 s3 s4
        refine hV [17, 55, 83, 115, 140, 170, 200, 212, 259, 351, 369, 387, 431, 442, 457, 497, 525, 571, 593, 642, 718, 733, 810, 885, 940, 945, 1068, 1072] 568 810 _ _ _ _ ?_
        refine ⟨by decide, ho, fun x16 g16 h16 => ?_⟩
        exact ⟨by decide, hpo _ _ h16.1⟩
      have hC733 : ∀ (a3 : Int32) (a4 : Int32) (a5 : Int32) (a6 : Int32) (a7 : Int32) (a8 : Int32) (a9 : Int32) (a10 : Int32) (a11 : Int32) (a12 : Int32) (a13 : Int32) (s1 : Int32) (s2 : Int32) (s3 : Int32) (s4 : Int32), ¬ s4 = 0 → V 733 [(0, .ref o), (1, .int v), (2, .int now), (3, .int a3), (4, .int a4), (5, .int a5), (6, .int a6), (7, .int a7), (8, .int a8), (9, .int a9), (10, .int a10), (11, .int a11), (12, .int a12), (13, .int a13)] [.int s4, .int s3, .int s2, .int s1, .ref o] g 0 := by
        intro a3 a4 a5 a6 a7 a8 a9 a10 a11 a12 a13 s1 s2 s3 s4 hz
        refine hV [17, 55, 83, 115, 140, 170, 200, 212, 259, 351, 369, 387, 431, 442, 457, 497, 525, 571, 593, 642, 718, 733, 810, 885, 940, 945, 1068, 1072] 568 733 _ _ _ _ ?_
        refine ⟨by decide, hz, fun x17 => ?_⟩
        refine ⟨by decide, ho, fun x18 g18 h18 => ?_⟩
        exact ⟨by decide, hpo _ _ h18.1⟩
      have hC718 : ∀ (a3 : Int32) (a4 : Int32) (a5 : Int32) (a6 : Int32) (a7 : Int32) (a8 : Int32) (a9 : Int32) (a10 : Int32) (a11 : Int32) (a12 : Int32) (a13 : Int32) (s1 : Int32) (s2 : Int32), V 718 [(0, .ref o), (1, .int v), (2, .int now), (3, .int a3), (4, .int a4), (5, .int a5), (6, .int a6), (7, .int a7), (8, .int a8), (9, .int a9), (10, .int a10), (11, .int a11), (12, .int a12), (13, .int a13)] [.int s2, .int s1, .ref o] g 0 := by
        intro a3 a4 a5 a6 a7 a8 a9 a10 a11 a12 a13 s1 s2
        refine hV [17, 55, 83, 115, 140, 170, 200, 212, 259, 351, 369, 387, 431, 442, 457, 497, 525, 571, 593, 642, 718, 733, 810, 885, 940, 945, 1068, 1072] 568 718 _ _ _ _ ?_
        refine ⟨fun h19 => ?_, fun h19 => ?_⟩
        · exact hW [0, 1, 2, 3, 4, 5, 6, 7, 8, 9, 10, 11, 12, 13] _ _ _ _ _ (hC733 _ _ _ _ _ _ _ _ _ _ _ _ _ _ _ (by decide))
        · exact hW [0, 1, 2, 3, 4, 5, 6, 7, 8, 9, 10, 11, 12, 13] _ _ _ _ _ (hC733 _ _ _ _ _ _ _ _ _ _ _ _ _ _ _ (by decide))
      have hC642 : ∀ (a3 : Int32) (a4 : Int32) (a5 : Int32) (a6 : Int32) (a7 : Int32) (a8 : Int32) (a9 : Int32) (a10 : Int32) (a11 : Int32) (a12 : Int32) (a13 : Int32) (s1 : Int32) (s2 : Int32) (s3 : Int32) (s4 : Int32) (s5 : Int32), V 642 [(0, .ref o), (1, .int v), (2, .int now), (3, .int a3), (4, .int a4), (5, .int a5), (6, .int a6), (7, .int a7), (8, .int a8), (9, .int a9), (10, .int a10), (11, .int a11), (12, .int a12), (13, .int a13)] [.int s5, .int s4, .int s3, .int s2, .int s1, .ref o] g 0 := by
        intro a3 a4 a5 a6 a7 a8 a9 a10 a11 a12 a13 s1 s2 s3 s4 s5
        refine hV [17, 55, 83, 115, 140, 170, 200, 212, 259, 351, 369, 387, 431, 442, 457, 497, 525, 571, 593, 642, 718, 733, 810, 885, 940, 945, 1068, 1072] 568 642 _ _ _ _ ?_
        refine ⟨by decide, ho, fun x20 g20 h20 => ?_⟩
        exact ⟨by decide, hpo _ _ h20⟩
      have hC593 : ∀ (a3 : Int32) (a4 : Int32) (a5 : Int32) (a6 : Int32) (a7 : Int32) (a8 : Int32) (a9 : Int32) (a10 : Int32) (a11 : Int32) (a12 : Int32) (s0 : Int32), V 593 [(0, .ref o), (1, .int v), (2, .int now), (3, .int a3), (4, .int a4), (5, .int a5), (6, .int a6), (7, .int a7), (8, .int a8), (9, .int a9), (10, .int a10), (11, .int a11), (12, .int a12)] [.int s0] g 0 := by
        intro a3 a4 a5 a6 a7 a8 a9 a10 a11 a12 s0
        refine hV [17, 55, 83, 115, 140, 170, 200, 212, 259, 351, 369, 387, 431, 442, 457, 497, 525, 571, 593, 642, 718, 733, 810, 885, 940, 945, 1068, 1072] 568 593 _ _ _ _ ?_
        refine ⟨fun h21 => ?_, fun h21 => ?_⟩
        · refine ⟨fun h22 => ?_, fun h22 => ?_⟩
          · refine ⟨fun h23 => ?_, fun h23 => ?_⟩
            · refine ⟨fun h24 => ?_, fun h24 => ?_⟩
              · refine ⟨by decide, ho, fun x25 g25 h25 => ?_⟩
                exact ⟨by decide, hpo _ _ h25⟩
              · refine ⟨fun h26 => ?_, fun h26 => ?_⟩
                · refine ⟨by decide, by decide, fun x27 => ?_⟩
                  exact hW [0, 1, 2, 3, 4, 5, 6, 7, 8, 9, 10, 11, 12, 13] _ _ _ _ _ (hC718 _ _ _ _ _ _ _ _ _ _ _ _ _)
                · exact hW [0, 1, 2, 3, 4, 5, 6, 7, 8, 9, 10, 11, 12, 13] _ _ _ _ _ (hC718 _ _ _ _ _ _ _ _ _ _ _ _ _)
            · refine ⟨by decide, ho, fun x28 g28 h28 => ?_⟩
              exact ⟨by decide, hpo _ _ h28.1⟩
          · refine ⟨by decide, ho, fun x29 g29 h29 => ?_⟩
            exact ⟨by decide, hpo _ _ h29.1⟩
        · refine ⟨fun h30 => ?_, fun h30 => ?_⟩
          · refine ⟨fun h31 => ?_, fun h31 => ?_⟩
            · exact hW [0, 1, 2, 3, 4, 5, 6, 7, 8, 9, 10, 11, 12, 13] _ _ _ _ _ (hC642 _ _ _ _ _ _ _ _ _ _ _ _ _ _ _ _)
            · exact hW [0, 1, 2, 3, 4, 5, 6, 7, 8, 9, 10, 11, 12, 13] _ _ _ _ _ (hC642 _ _ _ _ _ _ _ _ _ _ _ _ _ _ _ _)
          · refine ⟨by decide, by decide, fun x32 => ?_⟩
            exact hW [0, 1, 2, 3, 4, 5, 6, 7, 8, 9, 10, 11, 12, 13] _ _ _ _ _ (hC642 _ _ _ _ _ _ _ _ _ _ _ _ _ _ _ _)
      have hC571 : ∀ (a3 : Int32) (a4 : Int32) (a5 : Int32) (a6 : Int32) (a7 : Int32) (a8 : Int32) (a9 : Int32) (a10 : Int32) (a11 : Int32) (s0 : Int32), V 571 [(0, .ref o), (1, .int v), (2, .int now), (3, .int a3), (4, .int a4), (5, .int a5), (6, .int a6), (7, .int a7), (8, .int a8), (9, .int a9), (10, .int a10), (11, .int a11)] [.int s0] g 0 := by
        intro a3 a4 a5 a6 a7 a8 a9 a10 a11 s0
        refine hV [17, 55, 83, 115, 140, 170, 200, 212, 259, 351, 369, 387, 431, 442, 457, 497, 525, 571, 593, 642, 718, 733, 810, 885, 940, 945, 1068, 1072] 568 571 _ _ _ _ ?_
        refine ⟨fun h33 => ?_, fun h33 => ?_⟩
        · refine ⟨by decide, fun x34 => ?_⟩
          exact hW [0, 1, 2, 3, 4, 5, 6, 7, 8, 9, 10, 11, 12] _ _ _ _ _ (hC593 _ _ _ _ _ _ _ _ _ _ _)
        · exact hW [0, 1, 2, 3, 4, 5, 6, 7, 8, 9, 10, 11, 12] _ _ _ _ _ (hC593 _ _ _ _ _ _ _ _ _ _ _)
      have hC525 : ∀ (a3 : Int32) (a4 : Int32) (a5 : Int32) (a6 : Int32) (a7 : Int32) (a8 : Int32) (a9 : Int32) (a10 : Int32) (s0 : Int32), V 525 [(0, .ref o), (1, .int v), (2, .int now), (3, .int a3), (4, .int a4), (5, .int a5), (6, .int a6), (7, .int a7), (8, .int a8), (9, .int a9), (10, .int a10)] [.int s0] g 0 := by
        intro a3 a4 a5 a6 a7 a8 a9 a10 s0
        refine hV [17, 55, 83, 115, 140, 170, 200, 212, 259, 351, 369, 387, 431, 442, 457, 497, 525, 571, 593, 642, 718, 733, 810, 885, 940, 945, 1068, 1072] 568 525 _ _ _ _ ?_
        refine ⟨fun h35 => ?_, fun h35 => ?_⟩
        · refine ⟨fun h36 => ?_, fun h36 => ?_⟩
          · refine ⟨fun h37 => ?_, fun h37 => ?_⟩
            · refine ⟨fun h38 => ?_, fun h38 => ?_⟩
              · refine ⟨fun h39 => ?_, fun h39 => ?_⟩
                · exact hW [0, 1, 2, 3, 4, 5, 6, 7, 8, 9, 10, 11] _ _ _ _ _ (hC1068 _ _ _ _ _ _ _ _ _ _ _ _ _ (by decide))
                · exact hW [0, 1, 2, 3, 4, 5, 6, 7, 8, 9, 10, 11] _ _ _ _ _ (hC1068 _ _ _ _ _ _ _ _ _ _ _ _ _ (by decide))
              · refine ⟨by decide, by decide, fun x40 => ?_⟩
                exact hW [0, 1, 2, 3, 4, 5, 6, 7, 8, 9, 10, 11] _ _ _ _ _ (hC1072 _ _ _ _ _ _ _ _ _ _ _)
            · refine ⟨fun h41 => ?_, fun h41 => ?_⟩
              · exact hW [0, 1, 2, 3, 4, 5, 6, 7, 8, 9, 10, 11] _ _ _ _ _ (hC885 _ _ _ _ _ _ _ _ _ _ _ (by decide))
              · exact hW [0, 1, 2, 3, 4, 5, 6, 7, 8, 9, 10, 11] _ _ _ _ _ (hC885 _ _ _ _ _ _ _ _ _ _ _ (by decide))
          · refine ⟨fun h42 => ?_, fun h42 => ?_⟩
            · refine ⟨fun h43 => ?_, fun h43 => ?_⟩
              · refine ⟨fun h44 => ?_, fun h44 => ?_⟩
                · refine ⟨fun h45 => ?_, fun h45 => ?_⟩
                  · refine ⟨by decide, ho, fun x46 g46 h46 => ?_⟩
                    exact ⟨by decide, hpo _ _ h46.1⟩
                  · refine ⟨by decide, ho, fun x47 g47 h47 => ?_⟩
                    exact ⟨by decide, hpo _ _ h47.1⟩
                · refine ⟨by decide, ho, fun x48 g48 h48 => ?_⟩
                  exact ⟨by decide, hpo _ _ h48.1⟩
              · refine ⟨fun h49 => ?_, fun h49 => ?_⟩
                · exact hW [0, 1, 2, 3, 4, 5, 6, 7, 8, 9, 10, 11] _ _ _ _ _ (hC810 _ _ _ _ _ _ _ _ _ _ _ _ _)
                · exact hW [0, 1, 2, 3, 4, 5, 6, 7, 8, 9, 10, 11] _ _ _ _ _ (hC810 _ _ _ _ _ _ _ _ _ _ _ _ _)
            · refine ⟨by decide, ho, fun x50 g50 h50 => ?_⟩
              exact ⟨by decide, hpo _ _ h50.1⟩
        · refine ⟨fun h51 => ?_, fun h51 => ?_⟩
          · refine ⟨by decide, by decide, fun x52 => ?_⟩
            refine ⟨fun h53 => ?_, fun h53 => ?_⟩
            · refine ⟨by decide, by decide, fun x54 => ?_⟩
              exact hW [0, 1, 2, 3, 4, 5, 6, 7, 8, 9, 10, 11] _ _ _ _ _ (hC571 _ _ _ _ _ _ _ _ _ _)
            · exact hW [0, 1, 2, 3, 4, 5, 6, 7, 8, 9, 10, 11] _ _ _ _ _ (hC571 _ _ _ _ _ _ _ _ _ _)
          · refine ⟨by decide, by decide, fun x55 => ?_⟩
            exact hW [0, 1, 2, 3, 4, 5, 6, 7, 8, 9, 10, 11] _ _ _ _ _ (hC571 _ _ _ _ _ _ _ _ _ _)
      have hC497 : ∀ (a3 : Int32) (a4 : Int32) (a5 : Int32) (a6 : Int32) (a7 : Int32) (a8 : Int32) (a9 : Int32) (a10 : Int32) (s1 : Int32) (s2 : Int32) (s3 : Int32) (s4 : Int32) (s5 : Int32), V 497 [(0, .ref o), (1, .int v), (2, .int now), (3, .int a3), (4, .int a4), (5, .int a5), (6, .int a6), (7, .int a7), (8, .int a8), (9, .int a9), (10, .int a10)] [.int s5, .int s4, .int s3, .int s2, .int s1, .ref o] g 0 := by
        intro a3 a4 a5 a6 a7 a8 a9 a10 s1 s2 s3 s4 s5
        refine hV [17, 55, 83, 115, 140, 170, 200, 212, 259, 351, 369, 387, 431, 442, 457, 497, 525, 571, 593, 642, 718, 733, 810, 885, 940, 945, 1068, 1072] 568 497 _ _ _ _ ?_
        refine ⟨by decide, ho, fun x56 g56 h56 => ?_⟩
        exact ⟨by decide, hpo _ _ h56.1⟩
      have hC457 : ∀ (a3 : Int32) (a4 : Int32) (a5 : Int32) (a6 : Int32) (a7 : Int32) (a8 : Int32) (a9 : Int32) (a10 : Int32) (s1 : Int32) (s2 : Int32) (s3 : Int32) (s4 : Int32) (s5 : Int32) (s6 : Int32), ¬ s6 = 0 → V 457 [(0, .ref o), (1, .int v), (2, .int now), (3, .int a3), (4, .int a4), (5, .int a5), (6, .int a6), (7, .int a7), (8, .int a8), (9, .int a9), (10, .int a10)] [.int s6, .int s5, .int s4, .int s3, .int s2, .int s1, .ref o] g 0 := by
        intro a3 a4 a5 a6 a7 a8 a9 a10 s1 s2 s3 s4 s5 s6 hz
        refine hV [17, 55, 83, 115, 140, 170, 200, 212, 259, 351, 369, 387, 431, 442, 457, 497, 525, 571, 593, 642, 718, 733, 810, 885, 940, 945, 1068, 1072] 568 457 _ _ _ _ ?_
        refine ⟨by decide, hz, fun x57 => ?_⟩
        refine ⟨by decide, ho, fun x58 g58 h58 => ?_⟩
        exact ⟨by decide, hpo _ _ h58⟩
      have hC442 : ∀ (a3 : Int32) (a4 : Int32) (a5 : Int32) (a6 : Int32) (a7 : Int32) (a8 : Int32) (a9 : Int32) (a10 : Int32) (s1 : Int32) (s2 : Int32) (s3 : Int32) (s4 : Int32), V 442 [(0, .ref o), (1, .int v), (2, .int now), (3, .int a3), (4, .int a4), (5, .int a5), (6, .int a6), (7, .int a7), (8, .int a8), (9, .int a9), (10, .int a10)] [.int s4, .int s3, .int s2, .int s1, .ref o] g 0 := by
        intro a3 a4 a5 a6 a7 a8 a9 a10 s1 s2 s3 s4
        refine hV [17, 55, 83, 115, 140, 170, 200, 212, 259, 351, 369, 387, 431, 442, 457, 497, 525, 571, 593, 642, 718, 733, 810, 885, 940, 945, 1068, 1072] 568 442 _ _ _ _ ?_
        refine ⟨fun h59 => ?_, fun h59 => ?_⟩
        · exact hW [0, 1, 2, 3, 4, 5, 6, 7, 8, 9, 10] _ _ _ _ _ (hC457 _ _ _ _ _ _ _ _ _ _ _ _ _ _ (by decide))
        · exact hW [0, 1, 2, 3, 4, 5, 6, 7, 8, 9, 10] _ _ _ _ _ (hC457 _ _ _ _ _ _ _ _ _ _ _ _ _ _ (by decide))
      have hC431 : ∀ (a3 : Int32) (a4 : Int32) (a5 : Int32) (a6 : Int32) (a7 : Int32) (a8 : Int32) (a9 : Int32) (a10 : Int32) (s1 : Int32) (s2 : Int32), V 431 [(0, .ref o), (1, .int v), (2, .int now), (3, .int a3), (4, .int a4), (5, .int a5), (6, .int a6), (7, .int a7), (8, .int a8), (9, .int a9), (10, .int a10)] [.int s2, .int s1, .ref o] g 0 := by
        intro a3 a4 a5 a6 a7 a8 a9 a10 s1 s2
        refine hV [17, 55, 83, 115, 140, 170, 200, 212, 259, 351, 369, 387, 431, 442, 457, 497, 525, 571, 593, 642, 718, 733, 810, 885, 940, 945, 1068, 1072] 568 431 _ _ _ _ ?_
        refine ⟨fun h60 => ?_, fun h60 => ?_⟩
        · exact hW [0, 1, 2, 3, 4, 5, 6, 7, 8, 9, 10] _ _ _ _ _ (hC442 _ _ _ _ _ _ _ _ _ _ _ _)
        · exact hW [0, 1, 2, 3, 4, 5, 6, 7, 8, 9, 10] _ _ _ _ _ (hC442 _ _ _ _ _ _ _ _ _ _ _ _)
      have hC387 : ∀ (a3 : Int32) (a4 : Int32) (a5 : Int32) (a6 : Int32) (a7 : Int32) (a8 : Int32) (a9 : Int32) (a10 : Int32) (s1 : Int32) (s2 : Int32) (s3 : Int32) (s4 : Int32) (s5 : Int32), ¬ s5 = 0 → V 387 [(0, .ref o), (1, .int v), (2, .int now), (3, .int a3), (4, .int a4), (5, .int a5), (6, .int a6), (7, .int a7), (8, .int a8), (9, .int a9), (10, .int a10)] [.int s5, .int s4, .int s3, .int s2, .int s1, .ref o] g 0 := by
        intro a3 a4 a5 a6 a7 a8 a9 a10 s1 s2 s3 s4 s5 hz
        refine hV [17, 55, 83, 115, 140, 170, 200, 212, 259, 351, 369, 387, 431, 442, 457, 497, 525, 571, 593, 642, 718, 733, 810, 885, 940, 945, 1068, 1072] 568 387 _ _ _ _ ?_
        refine ⟨by decide, hz, fun x61 => ?_⟩
        refine ⟨by decide, ho, fun x62 g62 h62 => ?_⟩
        exact ⟨by decide, hpo _ _ h62.1⟩
      have hC369 : ∀ (a3 : Int32) (a4 : Int32) (a5 : Int32) (a6 : Int32) (a7 : Int32) (a8 : Int32) (a9 : Int32) (a10 : Int32) (s1 : Int32) (s2 : Int32) (s3 : Int32) (s4 : Int32), ¬ s4 = 0 → V 369 [(0, .ref o), (1, .int v), (2, .int now), (3, .int a3), (4, .int a4), (5, .int a5), (6, .int a6), (7, .int a7), (8, .int a8), (9, .int a9), (10, .int a10)] [.int s4, .int s3, .int s2, .int s1, .ref o] g 0 := by
        intro a3 a4 a5 a6 a7 a8 a9 a10 s1 s2 s3 s4 hz
        refine hV [17, 55, 83, 115, 140, 170, 200, 212, 259, 351, 369, 387, 431, 442, 457, 497, 525, 571, 593, 642, 718, 733, 810, 885, 940, 945, 1068, 1072] 568 369 _ _ _ _ ?_
        refine ⟨by decide, hz, fun x63 => ?_⟩
        refine ⟨fun h64 => ?_, fun h64 => ?_⟩
        · exact hW [0, 1, 2, 3, 4, 5, 6, 7, 8, 9, 10] _ _ _ _ _ (hC387 _ _ _ _ _ _ _ _ _ _ _ _ _ (by decide))
        · exact hW [0, 1, 2, 3, 4, 5, 6, 7, 8, 9, 10] _ _ _ _ _ (hC387 _ _ _ _ _ _ _ _ _ _ _ _ _ (by decide))
      have hC351 : ∀ (a3 : Int32) (a4 : Int32) (a5 : Int32) (a6 : Int32) (a7 : Int32) (a8 : Int32) (a9 : Int32) (a10 : Int32) (s1 : Int32) (s2 : Int32) (s3 : Int32), ¬ s3 = 0 → V 351 [(0, .ref o), (1, .int v), (2, .int now), (3, .int a3), (4, .int a4), (5, .int a5), (6, .int a6), (7, .int a7), (8, .int a8), (9, .int a9), (10, .int a10)] [.int s3, .int s2, .int s1, .ref o] g 0 := by
        intro a3 a4 a5 a6 a7 a8 a9 a10 s1 s2 s3 hz
        refine hV [17, 55, 83, 115, 140, 170, 200, 212, 259, 351, 369, 387, 431, 442, 457, 497, 525, 571, 593, 642, 718, 733, 810, 885, 940, 945, 1068, 1072] 568 351 _ _ _ _ ?_
        refine ⟨by decide, hz, fun x65 => ?_⟩
        refine ⟨fun h66 => ?_, fun h66 => ?_⟩
        · exact hW [0, 1, 2, 3, 4, 5, 6, 7, 8, 9, 10] _ _ _ _ _ (hC369 _ _ _ _ _ _ _ _ _ _ _ _ (by decide))
        · exact hW [0, 1, 2, 3, 4, 5, 6, 7, 8, 9, 10] _ _ _ _ _ (hC369 _ _ _ _ _ _ _ _ _ _ _ _ (by decide))
      have hC259 : ∀ (a3 : Int32) (a4 : Int32) (a5 : Int32) (a6 : Int32) (a7 : Int32) (a8 : Int32) (a9 : Int32) (a10 : Int32) (s1 : Int32) (s2 : Int32) (s3 : Int32) (s4 : Int32), V 259 [(0, .ref o), (1, .int v), (2, .int now), (3, .int a3), (4, .int a4), (5, .int a5), (6, .int a6), (7, .int a7), (8, .int a8), (9, .int a9), (10, .int a10)] [.int s4, .int s3, .int s2, .int s1, .ref o] g 0 := by
        intro a3 a4 a5 a6 a7 a8 a9 a10 s1 s2 s3 s4
        refine hV [17, 55, 83, 115, 140, 170, 200, 212, 259, 351, 369, 387, 431, 442, 457, 497, 525, 571, 593, 642, 718, 733, 810, 885, 940, 945, 1068, 1072] 568 259 _ _ _ _ ?_
        refine ⟨by decide, ho, fun x67 g67 h67 => ?_⟩
        exact ⟨by decide, hpo _ _ h67.1⟩
      have hC212 : ∀ (a3 : Int32) (a4 : Int32) (a5 : Int32) (a6 : Int32) (a7 : Int32) (a8 : Int32) (a9 : Int32) (a10 : Int32) (s1 : Int32) (s2 : Int32) (s3 : Int32), V 212 [(0, .ref o), (1, .int v), (2, .int now), (3, .int a3), (4, .int a4), (5, .int a5), (6, .int a6), (7, .int a7), (8, .int a8), (9, .int a9), (10, .int a10)] [.int s3, .int s2, .int s1, .ref o] g 0 := by
        intro a3 a4 a5 a6 a7 a8 a9 a10 s1 s2 s3
        refine hV [17, 55, 83, 115, 140, 170, 200, 212, 259, 351, 369, 387, 431, 442, 457, 497, 525, 571, 593, 642, 718, 733, 810, 885, 940, 945, 1068, 1072] 568 212 _ _ _ _ ?_
        refine ⟨by decide, by decide, fun x68 => ?_⟩
        refine ⟨by decide, ho, fun x69 g69 h69 => ?_⟩
        exact ⟨by decide, hpo _ _ h69.1⟩
      have hC200 : ∀ (a3 : Int32) (a4 : Int32) (a5 : Int32) (a6 : Int32) (a7 : Int32) (a8 : Int32) (a9 : Int32) (a10 : Int32) (s1 : Int32) (s2 : Int32) (s3 : Int32), ¬ s3 = 0 → V 200 [(0, .ref o), (1, .int v), (2, .int now), (3, .int a3), (4, .int a4), (5, .int a5), (6, .int a6), (7, .int a7), (8, .int a8), (9, .int a9), (10, .int a10)] [.int s3, .int s2, .int s1, .ref o] g 0 := by
        intro a3 a4 a5 a6 a7 a8 a9 a10 s1 s2 s3 hz
        refine hV [17, 55, 83, 115, 140, 170, 200, 212, 259, 351, 369, 387, 431, 442, 457, 497, 525, 571, 593, 642, 718, 733, 810, 885, 940, 945, 1068, 1072] 568 200 _ _ _ _ ?_
        refine ⟨by decide, hz, fun x70 => ?_⟩
        refine ⟨fun h71 => ?_, fun h71 => ?_⟩
        · exact hW [0, 1, 2, 3, 4, 5, 6, 7, 8, 9, 10] _ _ _ _ _ (hC212 _ _ _ _ _ _ _ _ _ _ _)
        · exact hW [0, 1, 2, 3, 4, 5, 6, 7, 8, 9, 10] _ _ _ _ _ (hC212 _ _ _ _ _ _ _ _ _ _ _)
      have hC170 : ∀ (a3 : Int32) (a4 : Int32) (a5 : Int32) (a6 : Int32) (a7 : Int32) (a8 : Int32) (a9 : Int32) (s0 : Int32), V 170 [(0, .ref o), (1, .int v), (2, .int now), (3, .int a3), (4, .int a4), (5, .int a5), (6, .int a6), (7, .int a7), (8, .int a8), (9, .int a9)] [.int s0] g 0 := by
        intro a3 a4 a5 a6 a7 a8 a9 s0
        refine hV [17, 55, 83, 115, 140, 170, 200, 212, 259, 351, 369, 387, 431, 442, 457, 497, 525, 571, 593, 642, 718, 733, 810, 885, 940, 945, 1068, 1072] 568 170 _ _ _ _ ?_
        refine ⟨fun h72 => ?_, fun h72 => ?_⟩
        · refine ⟨fun h73 => ?_, fun h73 => ?_⟩
          · refine ⟨fun h74 => ?_, fun h74 => ?_⟩
            · refine ⟨by decide, by decide, fun x75 => ?_⟩
              exact hW [0, 1, 2, 3, 4, 5, 6, 7, 8, 9, 10] _ _ _ _ _ (hC525 _ _ _ _ _ _ _ _ _)
            · refine ⟨by decide, by decide, fun x76 => ?_⟩
              exact hW [0, 1, 2, 3, 4, 5, 6, 7, 8, 9, 10] _ _ _ _ _ (hC525 _ _ _ _ _ _ _ _ _)
          · refine ⟨fun h77 => ?_, fun h77 => ?_⟩
            · refine ⟨by decide, by decide, fun x78 => ?_⟩
              refine ⟨fun h79 => ?_, fun h79 => ?_⟩
              · exact hW [0, 1, 2, 3, 4, 5, 6, 7, 8, 9, 10] _ _ _ _ _ (hC497 _ _ _ _ _ _ _ _ _ _ _ _ _)
              · exact hW [0, 1, 2, 3, 4, 5, 6, 7, 8, 9, 10] _ _ _ _ _ (hC497 _ _ _ _ _ _ _ _ _ _ _ _ _)
            · refine ⟨fun h80 => ?_, fun h80 => ?_⟩
              · refine ⟨by decide, by decide, fun x81 => ?_⟩
                exact hW [0, 1, 2, 3, 4, 5, 6, 7, 8, 9, 10] _ _ _ _ _ (hC431 _ _ _ _ _ _ _ _ _ _)
              · refine ⟨by decide, by decide, fun x82 => ?_⟩
                exact hW [0, 1, 2, 3, 4, 5, 6, 7, 8, 9, 10] _ _ _ _ _ (hC431 _ _ _ _ _ _ _ _ _ _)
        · refine ⟨fun h83 => ?_, fun h83 => ?_⟩
          · refine ⟨fun h84 => ?_, fun h84 => ?_⟩
            · refine ⟨fun h85 => ?_, fun h85 => ?_⟩
              · refine ⟨fun h86 => ?_, fun h86 => ?_⟩
                · refine ⟨fun h87 => ?_, fun h87 => ?_⟩
                  · refine ⟨fun h88 => ?_, fun h88 => ?_⟩
                    · exact hW [0, 1, 2, 3, 4, 5, 6, 7, 8, 9, 10] _ _ _ _ _ (hC351 _ _ _ _ _ _ _ _ _ _ _ (by decide))
                    · exact hW [0, 1, 2, 3, 4, 5, 6, 7, 8, 9, 10] _ _ _ _ _ (hC351 _ _ _ _ _ _ _ _ _ _ _ (by decide))
                  · refine ⟨by decide, ho, fun x89 g89 h89 => ?_⟩
                    exact ⟨by decide, hpo _ _ h89.1⟩
                · refine ⟨by decide, ho, fun x90 g90 h90 => ?_⟩
                  exact ⟨by decide, hpo _ _ h90.1⟩
              · refine ⟨by decide, by decide, fun x91 => ?_⟩
                refine ⟨by decide, ho, fun x92 g92 h92 => ?_⟩
                exact ⟨by decide, hpo _ _ h92.1⟩
            · refine ⟨fun h93 => ?_, fun h93 => ?_⟩
              · exact hW [0, 1, 2, 3, 4, 5, 6, 7, 8, 9, 10] _ _ _ _ _ (hC259 _ _ _ _ _ _ _ _ _ _ _ _)
              · exact hW [0, 1, 2, 3, 4, 5, 6, 7, 8, 9, 10] _ _ _ _ _ (hC259 _ _ _ _ _ _ _ _ _ _ _ _)
          · refine ⟨fun h94 => ?_, fun h94 => ?_⟩
            · exact hW [0, 1, 2, 3, 4, 5, 6, 7, 8, 9, 10] _ _ _ _ _ (hC200 _ _ _ _ _ _ _ _ _ _ _ (by decide))
            · exact hW [0, 1, 2, 3, 4, 5, 6, 7, 8, 9, 10] _ _ _ _ _ (hC200 _ _ _ _ _ _ _ _ _ _ _ (by decide))
      have hC140 : ∀ (a3 : Int32) (a4 : Int32) (a5 : Int32) (a6 : Int32) (a7 : Int32) (a8 : Int32) (s0 : Int32), V 140 [(0, .ref o), (1, .int v), (2, .int now), (3, .int a3), (4, .int a4), (5, .int a5), (6, .int a6), (7, .int a7), (8, .int a8)] [.int s0] g 0 := by
        intro a3 a4 a5 a6 a7 a8 s0
        refine hV [17, 55, 83, 115, 140, 170, 200, 212, 259, 351, 369, 387, 431, 442, 457, 497, 525, 571, 593, 642, 718, 733, 810, 885, 940, 945, 1068, 1072] 568 140 _ _ _ _ ?_
        refine ⟨fun h95 => ?_, fun h95 => ?_⟩
        · refine ⟨by decide, by decide, fun x96 => ?_⟩
          exact hW [0, 1, 2, 3, 4, 5, 6, 7, 8, 9] _ _ _ _ _ (hC170 _ _ _ _ _ _ _ _)
        · refine ⟨by decide, by decide, fun x97 => ?_⟩
          exact hW [0, 1, 2, 3, 4, 5, 6, 7, 8, 9] _ _ _ _ _ (hC170 _ _ _ _ _ _ _ _)
      have hC115 : ∀ (a3 : Int32) (a4 : Int32) (a5 : Int32) (a6 : Int32) (a7 : Int32) (s0 : Int32), V 115 [(0, .ref o), (1, .int v), (2, .int now), (3, .int a3), (4, .int a4), (5, .int a5), (6, .int a6), (7, .int a7)] [.int s0] g 0 := by
        intro a3 a4 a5 a6 a7 s0
        refine hV [17, 55, 83, 115, 140, 170, 200, 212, 259, 351, 369, 387, 431, 442, 457, 497, 525, 571, 593, 642, 718, 733, 810, 885, 940, 945, 1068, 1072] 568 115 _ _ _ _ ?_
        refine ⟨fun h98 => ?_, fun h98 => ?_⟩
        · refine ⟨by decide, fun x99 => ?_⟩
          exact hW [0, 1, 2, 3, 4, 5, 6, 7, 8] _ _ _ _ _ (hC140 _ _ _ _ _ _ _)
        · refine ⟨by decide, by decide, fun x100 => ?_⟩
          exact hW [0, 1, 2, 3, 4, 5, 6, 7, 8] _ _ _ _ _ (hC140 _ _ _ _ _ _ _)
      have hC83 : ∀ (a3 : Int32) (a4 : Int32) (a5 : Int32) (a6 : Int32) (s0 : Int32), V 83 [(0, .ref o), (1, .int v), (2, .int now), (3, .int a3), (4, .int a4), (5, .int a5), (6, .int a6)] [.int s0] g 0 := by
        intro a3 a4 a5 a6 s0
        refine hV [17, 55, 83, 115, 140, 170, 200, 212, 259, 351, 369, 387, 431, 442, 457, 497, 525, 571, 593, 642, 718, 733, 810, 885, 940, 945, 1068, 1072] 568 83 _ _ _ _ ?_
        refine ⟨fun h101 => ?_, fun h101 => ?_⟩
        · refine ⟨by decide, y_nz hnow (by decide) (by decide), fun x102 => ?_⟩
          exact hW [0, 1, 2, 3, 4, 5, 6, 7] _ _ _ _ _ (hC115 _ _ _ _ _ _)
        · refine ⟨by decide, y_nz hnow (by decide) (by decide), fun x103 => ?_⟩
          exact hW [0, 1, 2, 3, 4, 5, 6, 7] _ _ _ _ _ (hC115 _ _ _ _ _ _)
      have hC55 : ∀ (a3 : Int32) (a4 : Int32) (a5 : Int32) (s0 : Int32), V 55 [(0, .ref o), (1, .int v), (2, .int now), (3, .int a3), (4, .int a4), (5, .int a5)] [.int s0] g 0 := by
        intro a3 a4 a5 s0
        refine hV [17, 55, 83, 115, 140, 170, 200, 212, 259, 351, 369, 387, 431, 442, 457, 497, 525, 571, 593, 642, 718, 733, 810, 885, 940, 945, 1068, 1072] 568 55 _ _ _ _ ?_
        refine ⟨fun h104 => ?_, fun h104 => ?_⟩
        · refine ⟨by decide, by decide, fun x105 => ?_⟩
          exact hW [0, 1, 2, 3, 4, 5, 6] _ _ _ _ _ (hC83 _ _ _ _ _)
        · refine ⟨by decide, by decide, fun x106 => ?_⟩
          exact hW [0, 1, 2, 3, 4, 5, 6] _ _ _ _ _ (hC83 _ _ _ _ _)
      have hC17 : ∀ (s0 : Int32), V 17 [(0, .ref o), (1, .int v), (2, .int now)] [.int s0] g 0 := by
        intro s0
        refine hV [17, 55, 83, 115, 140, 170, 200, 212, 259, 351, 369, 387, 431, 442, 457, 497, 525, 571, 593, 642, 718, 733, 810, 885, 940, 945, 1068, 1072] 568 17 _ _ _ _ ?_
        refine ⟨by decide, by decide, fun x107 => ?_⟩
        refine ⟨fun h108 => ?_, fun h108 => ?_⟩
        · refine ⟨by decide, by decide, fun x109 => ?_⟩
          exact hW [0, 1, 2, 3, 4, 5] _ _ _ _ _ (hC55 _ _ _ _)
        · refine ⟨by decide, by decide, fun x110 => ?_⟩
          exact hW [0, 1, 2, 3, 4, 5] _ _ _ _ _ (hC55 _ _ _ _)
      refine hV [17, 55, 83, 115, 140, 170, 200, 212, 259, 351, 369, 387, 431, 442, 457, 497, 525, 571, 593, 642, 718, 733, 810, 885, 940, 945, 1068, 1072] 568 0 _ _ _ _ ?_
      refine ⟨fun h111 => ?_, fun h111 => ?_⟩
      · exact hW [0, 1, 2] _ _ _ _ _ (hC17 _)
      · exact hW [0, 1, 2] _ _ _ _ _ (hC17 _)
    · exact h.elim
