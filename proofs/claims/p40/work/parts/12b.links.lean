theorem z_pok_of {own : String} {G : z_G} (ft : List (Nat × Nat × Nat × Option Nat)) (ci cL : List (Nat × Nat)) (h1 : ∀ q ∈ ft, (z_fok own q || z_sok own q) = true) (h2 : ∀ q ∈ ci, Jvm.Cond.constant own q.1 (nI q.2) ∈ z_T) (h3 : ∀ q ∈ cL, Jvm.Cond.constantLong own q.1 (lN q.2) ∈ z_T) (h : ((z_fm G).all (fun q => decide (q ∈ ft)) && (z_ci G).all (fun q => decide (q ∈ ci)) && (z_cL G).all (fun q => decide (q ∈ cL))) = true) : z_pok own G = true := by
  simp only [Bool.and_eq_true, List.all_eq_true, decide_eq_true_eq] at h
  simp only [z_pok, Bool.and_eq_true, List.all_eq_true, decide_eq_true_eq]
  exact ⟨⟨fun q hq => h1 q (h.1.1 q hq), fun q hq => h2 q (h.1.2 q hq)⟩, fun q hq => h3 q (h.2 q hq)⟩
theorem z_mT {c : Jvm.Cond} (i : Nat) (h : lw_tbl[i]? = some c) (hg : goodWord c = true) : c ∈ z_T := List.mem_filter.mpr ⟨List.mem_of_getElem? h, hg⟩
theorem z_kB_mk {y : MethodName} {b : ByteArray} {maxL : Nat} {ret : Option FieldType} {n : Nat} (h1 : Jvm.Cond.initialized y.cls ∈ z_T) (h2 : Jvm.Cond.code y b maxL ret ∈ z_T) (h3 : y.cls ≠ "java/lang/invoke/MethodHandle" ∧ y.cls ≠ "java/lang/invoke/VarHandle") (h4 : (parseMethodDescriptor y.desc).map (fun d => d.parameters.length) = some n) : z_kB y b maxL ret n = true := by
  simp only [z_kB, Bool.and_eq_true, decide_eq_true_eq]
  exact ⟨⟨⟨h1, h2⟩, h3⟩, h4⟩
theorem z_kV_mk {own : String} {i : Nat} {y : MethodName} (h1 : Jvm.Cond.methodLink own i y ∈ z_T) (h2 : Jvm.Cond.instanceMethod y ∈ z_T) (h3 : Jvm.Cond.selects y.cls y y ∈ z_T) : z_kV own i y = true := by
  simp only [z_kV, Bool.and_eq_true, decide_eq_true_eq]
  exact ⟨⟨h1, h2⟩, h3⟩
theorem z_kS_mk {own : String} {i : Nat} {y : MethodName} (h1 : Jvm.Cond.methodLink own i y ∈ z_T) (h2 : Jvm.Cond.static y ∈ z_T) : z_kS own i y = true := by
  simp only [z_kS, Bool.and_eq_true, decide_eq_true_eq]
  exact ⟨h1, h2⟩
theorem z_kN_mk {own : String} {i : Nat} {y : MethodName} {host : String} (h1 : (own, i, y, host) ∈ z_nest) (h2 : Jvm.Cond.static y ∈ z_T) : z_kN own i y host = true := by
  simp only [z_kN, Bool.and_eq_true, decide_eq_true_eq]
  exact ⟨h1, h2⟩
theorem z_fok_mk {own : String} {q : Nat × Nat × Nat × Option Nat} {C : String} {T : u_T} {N : Nat} (hc : z_cl[z_n q.2.1]? = some (C, T, N)) (hw : Jvm.Cond.fieldLink own q.1 (T q.2.2.1).1 (T q.2.2.1).2.1 (T q.2.2.1).2.2.1 ∈ z_T) (h : ((q.2.1 % 8 == 0) && z_ids.contains q.2.1 && decide (q.2.2.1 < N) && decide ((z_fl.getD (z_n q.2.1) [])[q.2.2.1]? = some q.2.2.2) && (match q.2.2.2 with
    | some t => z_ids.contains t
    | none => decide ((T q.2.2.1).2.2.2 = false) && decide ((T q.2.2.1).2.2.1 = "I")) && decide ((z_fl.getD (z_n q.2.1) []).length = N)) = true) : (z_fok own q || z_sok own q) = true := by
  rw [Bool.or_eq_true]
  refine Or.inl ?_
  unfold z_fok
  rw [hc]
  simp only [Bool.and_eq_true, decide_eq_true_eq] at h ⊢
  obtain ⟨⟨⟨⟨⟨h1, h2⟩, h3⟩, h4⟩, h5⟩, h6⟩ := h
  exact ⟨⟨⟨⟨⟨⟨h1, h2⟩, h3⟩, hw⟩, h4⟩, h5⟩, h6⟩
theorem z_sok_mk {own : String} {q : Nat × Nat × Nat × Option Nat} (h : q.2.1 = z_WT) (hw : Jvm.Cond.fieldLink own q.1 "Songlinebench" "WEIGHTS" "[I" ∈ z_T) : (z_fok own q || z_sok own q) = true := by
  rw [Bool.or_eq_true]
  refine Or.inr ?_
  simp only [z_sok, Bool.and_eq_true, decide_eq_true_eq, beq_iff_eq]
  exact ⟨h, hw⟩
def ft_X0 : List (Nat × Nat × Nat × Option Nat) := [(9, 10240, 0, some 55617), (15, 10240, 1, some 57665), (18, 10240, 2, some 59713), (21, 10240, 3, some 61761), (24, 10240, 4, some 63809), (27, 10240, 5, some 65857), (30, 10240, 6, some 67906), (34, 10240, 7, some 69954), (37, 10240, 8, none)]
def ci_X0 : List (Nat × Nat) := []
def cL_X0_L : List (Nat × Nat) := []
set_option maxRecDepth 20000 in
theorem fo_X0 : ∀ q ∈ ft_X0, (z_fok "Songlinebench$Acts" q || z_sok "Songlinebench$Acts" q) = true := List.forall_mem_cons.mpr ⟨z_fok_mk (by rfl) (z_mT 144 (by decide +kernel) rfl) (by decide +kernel), List.forall_mem_cons.mpr ⟨z_fok_mk (by rfl) (z_mT 146 (by decide +kernel) rfl) (by decide +kernel), List.forall_mem_cons.mpr ⟨z_fok_mk (by rfl) (z_mT 148 (by decide +kernel) rfl) (by decide +kernel), List.forall_mem_cons.mpr ⟨z_fok_mk (by rfl) (z_mT 149 (by decide +kernel) rfl) (by decide +kernel), List.forall_mem_cons.mpr ⟨z_fok_mk (by rfl) (z_mT 150 (by decide +kernel) rfl) (by decide +kernel), List.forall_mem_cons.mpr ⟨z_fok_mk (by rfl) (z_mT 151 (by decide +kernel) rfl) (by decide +kernel), List.forall_mem_cons.mpr ⟨z_fok_mk (by rfl) (z_mT 153 (by decide +kernel) rfl) (by decide +kernel), List.forall_mem_cons.mpr ⟨z_fok_mk (by rfl) (z_mT 155 (by decide +kernel) rfl) (by decide +kernel), List.forall_mem_cons.mpr ⟨z_fok_mk (by rfl) (z_mT 157 (by decide +kernel) rfl) (by decide +kernel), fun _ h => absurd h List.not_mem_nil⟩⟩⟩⟩⟩⟩⟩⟩⟩
theorem co_X0 : ∀ q ∈ ci_X0, Jvm.Cond.constant "Songlinebench$Acts" q.1 (nI q.2) ∈ z_T := fun _ h => absurd h List.not_mem_nil
theorem lo_X0 : ∀ q ∈ cL_X0_L, Jvm.Cond.constantLong "Songlinebench$Acts" q.1 (lN q.2) ∈ z_T := fun _ h => absurd h List.not_mem_nil
theorem ko_X0 : z_kO 10240 "Songlinebench$Acts" = true := by decide +kernel
def ft_X1 : List (Nat × Nat × Nat × Option Nat) := [(9, 12296, 0, some 71777), (15, 12296, 1, some 73825), (18, 12296, 2, some 75873), (21, 12296, 3, some 77921), (24, 12296, 4, some 79969), (27, 12296, 5, some 82017), (30, 12296, 6, some 84065), (33, 12296, 7, some 86113), (36, 12296, 8, none)]
def ci_X1 : List (Nat × Nat) := []
def cL_X1_L : List (Nat × Nat) := []
set_option maxRecDepth 20000 in
theorem fo_X1 : ∀ q ∈ ft_X1, (z_fok "Songlinebench$Claims" q || z_sok "Songlinebench$Claims" q) = true := List.forall_mem_cons.mpr ⟨z_fok_mk (by rfl) (z_mT 185 (by decide +kernel) rfl) (by decide +kernel), List.forall_mem_cons.mpr ⟨z_fok_mk (by rfl) (z_mT 187 (by decide +kernel) rfl) (by decide +kernel), List.forall_mem_cons.mpr ⟨z_fok_mk (by rfl) (z_mT 189 (by decide +kernel) rfl) (by decide +kernel), List.forall_mem_cons.mpr ⟨z_fok_mk (by rfl) (z_mT 190 (by decide +kernel) rfl) (by decide +kernel), List.forall_mem_cons.mpr ⟨z_fok_mk (by rfl) (z_mT 192 (by decide +kernel) rfl) (by decide +kernel), List.forall_mem_cons.mpr ⟨z_fok_mk (by rfl) (z_mT 194 (by decide +kernel) rfl) (by decide +kernel), List.forall_mem_cons.mpr ⟨z_fok_mk (by rfl) (z_mT 196 (by decide +kernel) rfl) (by decide +kernel), List.forall_mem_cons.mpr ⟨z_fok_mk (by rfl) (z_mT 198 (by decide +kernel) rfl) (by decide +kernel), List.forall_mem_cons.mpr ⟨z_fok_mk (by rfl) (z_mT 200 (by decide +kernel) rfl) (by decide +kernel), fun _ h => absurd h List.not_mem_nil⟩⟩⟩⟩⟩⟩⟩⟩⟩
theorem co_X1 : ∀ q ∈ ci_X1, Jvm.Cond.constant "Songlinebench$Claims" q.1 (nI q.2) ∈ z_T := fun _ h => absurd h List.not_mem_nil
theorem lo_X1 : ∀ q ∈ cL_X1_L, Jvm.Cond.constantLong "Songlinebench$Claims" q.1 (lN q.2) ∈ z_T := fun _ h => absurd h List.not_mem_nil
theorem ko_X1 : z_kO 12296 "Songlinebench$Claims" = true := by decide +kernel
def ft_X2 : List (Nat × Nat × Nat × Option Nat) := [(9, 4112, 0, some 20529), (15, 4112, 1, some 22577), (18, 4112, 2, some 24817), (21, 4112, 3, some 26865), (24, 4112, 4, some 28913), (27, 4112, 5, some 30961), (30, 4112, 6, none), (34, 4112, 7, none)]
def ci_X2 : List (Nat × Nat) := []
def cL_X2_L : List (Nat × Nat) := []
set_option maxRecDepth 20000 in
theorem fo_X2 : ∀ q ∈ ft_X2, (z_fok "Songlinebench$Kin" q || z_sok "Songlinebench$Kin" q) = true := List.forall_mem_cons.mpr ⟨z_fok_mk (by rfl) (z_mT 49 (by decide +kernel) rfl) (by decide +kernel), List.forall_mem_cons.mpr ⟨z_fok_mk (by rfl) (z_mT 50 (by decide +kernel) rfl) (by decide +kernel), List.forall_mem_cons.mpr ⟨z_fok_mk (by rfl) (z_mT 52 (by decide +kernel) rfl) (by decide +kernel), List.forall_mem_cons.mpr ⟨z_fok_mk (by rfl) (z_mT 53 (by decide +kernel) rfl) (by decide +kernel), List.forall_mem_cons.mpr ⟨z_fok_mk (by rfl) (z_mT 54 (by decide +kernel) rfl) (by decide +kernel), List.forall_mem_cons.mpr ⟨z_fok_mk (by rfl) (z_mT 56 (by decide +kernel) rfl) (by decide +kernel), List.forall_mem_cons.mpr ⟨z_fok_mk (by rfl) (z_mT 58 (by decide +kernel) rfl) (by decide +kernel), List.forall_mem_cons.mpr ⟨z_fok_mk (by rfl) (z_mT 60 (by decide +kernel) rfl) (by decide +kernel), fun _ h => absurd h List.not_mem_nil⟩⟩⟩⟩⟩⟩⟩⟩
theorem co_X2 : ∀ q ∈ ci_X2, Jvm.Cond.constant "Songlinebench$Kin" q.1 (nI q.2) ∈ z_T := fun _ h => absurd h List.not_mem_nil
theorem lo_X2 : ∀ q ∈ cL_X2_L, Jvm.Cond.constantLong "Songlinebench$Kin" q.1 (lN q.2) ∈ z_T := fun _ h => absurd h List.not_mem_nil
theorem ko_X2 : z_kO 4112 "Songlinebench$Kin" = true := by decide +kernel
def ft_X3 : List (Nat × Nat × Nat × Option Nat) := [(9, 8216, 0, some 41441), (15, 8216, 1, some 43489), (18, 8216, 2, some 45537), (21, 8216, 3, some 47585), (24, 8216, 4, some 49201), (27, 8216, 5, some 51585), (30, 8216, 6, some 53633), (33, 8216, 7, none)]
def ci_X3 : List (Nat × Nat) := []
def cL_X3_L : List (Nat × Nat) := []
set_option maxRecDepth 20000 in
theorem fo_X3 : ∀ q ∈ ft_X3, (z_fok "Songlinebench$Marks" q || z_sok "Songlinebench$Marks" q) = true := List.forall_mem_cons.mpr ⟨z_fok_mk (by rfl) (z_mT 111 (by decide +kernel) rfl) (by decide +kernel), List.forall_mem_cons.mpr ⟨z_fok_mk (by rfl) (z_mT 112 (by decide +kernel) rfl) (by decide +kernel), List.forall_mem_cons.mpr ⟨z_fok_mk (by rfl) (z_mT 113 (by decide +kernel) rfl) (by decide +kernel), List.forall_mem_cons.mpr ⟨z_fok_mk (by rfl) (z_mT 114 (by decide +kernel) rfl) (by decide +kernel), List.forall_mem_cons.mpr ⟨z_fok_mk (by rfl) (z_mT 115 (by decide +kernel) rfl) (by decide +kernel), List.forall_mem_cons.mpr ⟨z_fok_mk (by rfl) (z_mT 117 (by decide +kernel) rfl) (by decide +kernel), List.forall_mem_cons.mpr ⟨z_fok_mk (by rfl) (z_mT 118 (by decide +kernel) rfl) (by decide +kernel), List.forall_mem_cons.mpr ⟨z_fok_mk (by rfl) (z_mT 119 (by decide +kernel) rfl) (by decide +kernel), fun _ h => absurd h List.not_mem_nil⟩⟩⟩⟩⟩⟩⟩⟩
theorem co_X3 : ∀ q ∈ ci_X3, Jvm.Cond.constant "Songlinebench$Marks" q.1 (nI q.2) ∈ z_T := fun _ h => absurd h List.not_mem_nil
theorem lo_X3 : ∀ q ∈ cL_X3_L, Jvm.Cond.constantLong "Songlinebench$Marks" q.1 (lN q.2) ∈ z_T := fun _ h => absurd h List.not_mem_nil
theorem ko_X3 : z_kO 8216 "Songlinebench$Marks" = true := by decide +kernel
def ft_X4 : List (Nat × Nat × Nat × Option Nat) := [(9, 14368, 0, some 88161), (15, 14368, 1, some 90209), (18, 14368, 2, some 92257), (21, 14368, 3, some 94305), (24, 14368, 4, some 96353), (27, 14368, 5, some 98401), (30, 14368, 6, some 100449), (33, 14368, 7, some 102497), (36, 14368, 8, some 104545), (39, 14368, 9, some 106594), (43, 14368, 10, some 108642), (46, 14368, 11, none)]
def ci_X4 : List (Nat × Nat) := []
def cL_X4_L : List (Nat × Nat) := []
set_option maxRecDepth 20000 in
theorem fo_X4 : ∀ q ∈ ft_X4, (z_fok "Songlinebench$Notices" q || z_sok "Songlinebench$Notices" q) = true := List.forall_mem_cons.mpr ⟨z_fok_mk (by rfl) (z_mT 227 (by decide +kernel) rfl) (by decide +kernel), List.forall_mem_cons.mpr ⟨z_fok_mk (by rfl) (z_mT 229 (by decide +kernel) rfl) (by decide +kernel), List.forall_mem_cons.mpr ⟨z_fok_mk (by rfl) (z_mT 231 (by decide +kernel) rfl) (by decide +kernel), List.forall_mem_cons.mpr ⟨z_fok_mk (by rfl) (z_mT 233 (by decide +kernel) rfl) (by decide +kernel), List.forall_mem_cons.mpr ⟨z_fok_mk (by rfl) (z_mT 235 (by decide +kernel) rfl) (by decide +kernel), List.forall_mem_cons.mpr ⟨z_fok_mk (by rfl) (z_mT 237 (by decide +kernel) rfl) (by decide +kernel), List.forall_mem_cons.mpr ⟨z_fok_mk (by rfl) (z_mT 239 (by decide +kernel) rfl) (by decide +kernel), List.forall_mem_cons.mpr ⟨z_fok_mk (by rfl) (z_mT 241 (by decide +kernel) rfl) (by decide +kernel), List.forall_mem_cons.mpr ⟨z_fok_mk (by rfl) (z_mT 243 (by decide +kernel) rfl) (by decide +kernel), List.forall_mem_cons.mpr ⟨z_fok_mk (by rfl) (z_mT 245 (by decide +kernel) rfl) (by decide +kernel), List.forall_mem_cons.mpr ⟨z_fok_mk (by rfl) (z_mT 246 (by decide +kernel) rfl) (by decide +kernel), List.forall_mem_cons.mpr ⟨z_fok_mk (by rfl) (z_mT 248 (by decide +kernel) rfl) (by decide +kernel), fun _ h => absurd h List.not_mem_nil⟩⟩⟩⟩⟩⟩⟩⟩⟩⟩⟩⟩
theorem co_X4 : ∀ q ∈ ci_X4, Jvm.Cond.constant "Songlinebench$Notices" q.1 (nI q.2) ∈ z_T := fun _ h => absurd h List.not_mem_nil
theorem lo_X4 : ∀ q ∈ cL_X4_L, Jvm.Cond.constantLong "Songlinebench$Notices" q.1 (lN q.2) ∈ z_T := fun _ h => absurd h List.not_mem_nil
theorem ko_X4 : z_kO 14368 "Songlinebench$Notices" = true := by decide +kernel
def ft_X5 : List (Nat × Nat × Nat × Option Nat) := [(9, 6184, 0, some 32849), (15, 6184, 1, some 34897), (18, 6184, 2, some 37825), (21, 6184, 3, some 39873), (24, 6184, 4, none)]
def ci_X5 : List (Nat × Nat) := []
def cL_X5_L : List (Nat × Nat) := []
set_option maxRecDepth 20000 in
theorem fo_X5 : ∀ q ∈ ft_X5, (z_fok "Songlinebench$Stories" q || z_sok "Songlinebench$Stories" q) = true := List.forall_mem_cons.mpr ⟨z_fok_mk (by rfl) (z_mT 86 (by decide +kernel) rfl) (by decide +kernel), List.forall_mem_cons.mpr ⟨z_fok_mk (by rfl) (z_mT 88 (by decide +kernel) rfl) (by decide +kernel), List.forall_mem_cons.mpr ⟨z_fok_mk (by rfl) (z_mT 90 (by decide +kernel) rfl) (by decide +kernel), List.forall_mem_cons.mpr ⟨z_fok_mk (by rfl) (z_mT 91 (by decide +kernel) rfl) (by decide +kernel), List.forall_mem_cons.mpr ⟨z_fok_mk (by rfl) (z_mT 92 (by decide +kernel) rfl) (by decide +kernel), fun _ h => absurd h List.not_mem_nil⟩⟩⟩⟩⟩
theorem co_X5 : ∀ q ∈ ci_X5, Jvm.Cond.constant "Songlinebench$Stories" q.1 (nI q.2) ∈ z_T := fun _ h => absurd h List.not_mem_nil
theorem lo_X5 : ∀ q ∈ cL_X5_L, Jvm.Cond.constantLong "Songlinebench$Stories" q.1 (lN q.2) ∈ z_T := fun _ h => absurd h List.not_mem_nil
theorem ko_X5 : z_kO 6184 "Songlinebench$Stories" = true := by decide +kernel
def ft_X6 : List (Nat × Nat × Nat × Option Nat) := [(10, 2096, 0, some 4112), (19, 2096, 1, some 6184), (26, 2096, 2, some 8216), (33, 2096, 3, some 10240), (40, 2096, 4, some 12296), (47, 2096, 5, some 14368), (51, 2096, 6, some 16513), (55, 2096, 7, some 18483), (59, 2096, 8, none), (70, 4112, 6, none), (93, 4112, 7, none), (110, 4112, 1, some 22577), (129, 4112, 4, some 28913), (132, 4112, 5, some 30961), (139, 6184, 4, none), (157, 6184, 1, some 34897), (181, 6184, 0, some 32849), (191, 8216, 7, none), (199, 8216, 4, some 49201), (219, 10240, 8, none), (230, 10240, 6, some 67906), (234, 10240, 5, some 65857), (239, 10240, 0, some 55617), (263, 12296, 8, none), (273, 12296, 3, some 77921), (276, 12296, 0, some 71777), (279, 12296, 6, some 84065), (282, 12296, 7, some 86113), (292, 12296, 5, some 82017), (302, 12296, 4, some 79969), (329, 12296, 1, some 73825), (335, 14368, 11, none), (353, 14368, 5, some 98401), (354, 14368, 6, some 100449), (364, 14368, 7, some 102497), (376, 14368, 10, some 108642), (389, 14368, 1, some 90209), (390, 14368, 2, some 92257), (393, 14368, 3, some 94305), (396, 14368, 4, some 96353), (399, 14368, 8, some 104545), (402, 14368, 0, some 88161), (423, 10240, 7, some 69954), (433, 10240, 1, some 57665), (446, 2050093, 0, none)]
def ci_X6 : List (Nat × Nat) := [(406, 1000000), (449, 65535)]
def cL_X6_L : List (Nat × Nat) := [(440, 100), (442, 2), (444, 1000)]
set_option maxRecDepth 20000 in
theorem fo_X6 : ∀ q ∈ ft_X6, (z_fok "Songlinebench" q || z_sok "Songlinebench" q) = true := List.forall_mem_cons.mpr ⟨z_fok_mk (by rfl) (z_mT 275 (by decide +kernel) rfl) (by decide +kernel), List.forall_mem_cons.mpr ⟨z_fok_mk (by rfl) (z_mT 276 (by decide +kernel) rfl) (by decide +kernel), List.forall_mem_cons.mpr ⟨z_fok_mk (by rfl) (z_mT 277 (by decide +kernel) rfl) (by decide +kernel), List.forall_mem_cons.mpr ⟨z_fok_mk (by rfl) (z_mT 278 (by decide +kernel) rfl) (by decide +kernel), List.forall_mem_cons.mpr ⟨z_fok_mk (by rfl) (z_mT 279 (by decide +kernel) rfl) (by decide +kernel), List.forall_mem_cons.mpr ⟨z_fok_mk (by rfl) (z_mT 280 (by decide +kernel) rfl) (by decide +kernel), List.forall_mem_cons.mpr ⟨z_fok_mk (by rfl) (z_mT 281 (by decide +kernel) rfl) (by decide +kernel), List.forall_mem_cons.mpr ⟨z_fok_mk (by rfl) (z_mT 282 (by decide +kernel) rfl) (by decide +kernel), List.forall_mem_cons.mpr ⟨z_fok_mk (by rfl) (z_mT 283 (by decide +kernel) rfl) (by decide +kernel), List.forall_mem_cons.mpr ⟨z_fok_mk (by rfl) (z_mT 59 (by decide +kernel) rfl) (by decide +kernel), List.forall_mem_cons.mpr ⟨z_fok_mk (by rfl) (z_mT 61 (by decide +kernel) rfl) (by decide +kernel), List.forall_mem_cons.mpr ⟨z_fok_mk (by rfl) (z_mT 51 (by decide +kernel) rfl) (by decide +kernel), List.forall_mem_cons.mpr ⟨z_fok_mk (by rfl) (z_mT 55 (by decide +kernel) rfl) (by decide +kernel), List.forall_mem_cons.mpr ⟨z_fok_mk (by rfl) (z_mT 57 (by decide +kernel) rfl) (by decide +kernel), List.forall_mem_cons.mpr ⟨z_fok_mk (by rfl) (z_mT 93 (by decide +kernel) rfl) (by decide +kernel), List.forall_mem_cons.mpr ⟨z_fok_mk (by rfl) (z_mT 89 (by decide +kernel) rfl) (by decide +kernel), List.forall_mem_cons.mpr ⟨z_fok_mk (by rfl) (z_mT 87 (by decide +kernel) rfl) (by decide +kernel), List.forall_mem_cons.mpr ⟨z_fok_mk (by rfl) (z_mT 120 (by decide +kernel) rfl) (by decide +kernel), List.forall_mem_cons.mpr ⟨z_fok_mk (by rfl) (z_mT 116 (by decide +kernel) rfl) (by decide +kernel), List.forall_mem_cons.mpr ⟨z_fok_mk (by rfl) (z_mT 158 (by decide +kernel) rfl) (by decide +kernel), List.forall_mem_cons.mpr ⟨z_fok_mk (by rfl) (z_mT 154 (by decide +kernel) rfl) (by decide +kernel), List.forall_mem_cons.mpr ⟨z_fok_mk (by rfl) (z_mT 152 (by decide +kernel) rfl) (by decide +kernel), List.forall_mem_cons.mpr ⟨z_fok_mk (by rfl) (z_mT 145 (by decide +kernel) rfl) (by decide +kernel), List.forall_mem_cons.mpr ⟨z_fok_mk (by rfl) (z_mT 201 (by decide +kernel) rfl) (by decide +kernel), List.forall_mem_cons.mpr ⟨z_fok_mk (by rfl) (z_mT 191 (by decide +kernel) rfl) (by decide +kernel), List.forall_mem_cons.mpr ⟨z_fok_mk (by rfl) (z_mT 186 (by decide +kernel) rfl) (by decide +kernel), List.forall_mem_cons.mpr ⟨z_fok_mk (by rfl) (z_mT 197 (by decide +kernel) rfl) (by decide +kernel), List.forall_mem_cons.mpr ⟨z_fok_mk (by rfl) (z_mT 199 (by decide +kernel) rfl) (by decide +kernel), List.forall_mem_cons.mpr ⟨z_fok_mk (by rfl) (z_mT 195 (by decide +kernel) rfl) (by decide +kernel), List.forall_mem_cons.mpr ⟨z_fok_mk (by rfl) (z_mT 193 (by decide +kernel) rfl) (by decide +kernel), List.forall_mem_cons.mpr ⟨z_fok_mk (by rfl) (z_mT 188 (by decide +kernel) rfl) (by decide +kernel), List.forall_mem_cons.mpr ⟨z_fok_mk (by rfl) (z_mT 249 (by decide +kernel) rfl) (by decide +kernel), List.forall_mem_cons.mpr ⟨z_fok_mk (by rfl) (z_mT 238 (by decide +kernel) rfl) (by decide +kernel), List.forall_mem_cons.mpr ⟨z_fok_mk (by rfl) (z_mT 240 (by decide +kernel) rfl) (by decide +kernel), List.forall_mem_cons.mpr ⟨z_fok_mk (by rfl) (z_mT 242 (by decide +kernel) rfl) (by decide +kernel), List.forall_mem_cons.mpr ⟨z_fok_mk (by rfl) (z_mT 247 (by decide +kernel) rfl) (by decide +kernel), List.forall_mem_cons.mpr ⟨z_fok_mk (by rfl) (z_mT 230 (by decide +kernel) rfl) (by decide +kernel), List.forall_mem_cons.mpr ⟨z_fok_mk (by rfl) (z_mT 232 (by decide +kernel) rfl) (by decide +kernel), List.forall_mem_cons.mpr ⟨z_fok_mk (by rfl) (z_mT 234 (by decide +kernel) rfl) (by decide +kernel), List.forall_mem_cons.mpr ⟨z_fok_mk (by rfl) (z_mT 236 (by decide +kernel) rfl) (by decide +kernel), List.forall_mem_cons.mpr ⟨z_fok_mk (by rfl) (z_mT 244 (by decide +kernel) rfl) (by decide +kernel), List.forall_mem_cons.mpr ⟨z_fok_mk (by rfl) (z_mT 228 (by decide +kernel) rfl) (by decide +kernel), List.forall_mem_cons.mpr ⟨z_fok_mk (by rfl) (z_mT 156 (by decide +kernel) rfl) (by decide +kernel), List.forall_mem_cons.mpr ⟨z_fok_mk (by rfl) (z_mT 147 (by decide +kernel) rfl) (by decide +kernel), List.forall_mem_cons.mpr ⟨z_sok_mk rfl (z_mT 899 (by decide +kernel) rfl), fun _ h => absurd h List.not_mem_nil⟩⟩⟩⟩⟩⟩⟩⟩⟩⟩⟩⟩⟩⟩⟩⟩⟩⟩⟩⟩⟩⟩⟩⟩⟩⟩⟩⟩⟩⟩⟩⟩⟩⟩⟩⟩⟩⟩⟩⟩⟩⟩⟩⟩⟩
theorem co_X6 : ∀ q ∈ ci_X6, Jvm.Cond.constant "Songlinebench" q.1 (nI q.2) ∈ z_T := List.forall_mem_cons.mpr ⟨(z_mT 811 (by decide +kernel) rfl), List.forall_mem_cons.mpr ⟨(z_mT 639 (by decide +kernel) rfl), fun _ h => absurd h List.not_mem_nil⟩⟩
theorem lo_X6 : ∀ q ∈ cL_X6_L, Jvm.Cond.constantLong "Songlinebench" q.1 (lN q.2) ∈ z_T := List.forall_mem_cons.mpr ⟨(z_mT 901 (by decide +kernel) rfl), List.forall_mem_cons.mpr ⟨(z_mT 902 (by decide +kernel) rfl), List.forall_mem_cons.mpr ⟨(z_mT 903 (by decide +kernel) rfl), fun _ h => absurd h List.not_mem_nil⟩⟩⟩
theorem ko_X6 : z_kO 2096 "Songlinebench" = true := by decide +kernel
def ft_X7 : List (Nat × Nat × Nat × Option Nat) := []
def ci_X7 : List (Nat × Nat) := []
def cL_X7_L : List (Nat × Nat) := []
set_option maxRecDepth 20000 in
theorem fo_X7 : ∀ q ∈ ft_X7, (z_fok "SonglinebenchModel" q || z_sok "SonglinebenchModel" q) = true := fun _ h => absurd h List.not_mem_nil
theorem co_X7 : ∀ q ∈ ci_X7, Jvm.Cond.constant "SonglinebenchModel" q.1 (nI q.2) ∈ z_T := fun _ h => absurd h List.not_mem_nil
theorem lo_X7 : ∀ q ∈ cL_X7_L, Jvm.Cond.constantLong "SonglinebenchModel" q.1 (lN q.2) ∈ z_T := fun _ h => absurd h List.not_mem_nil
def ft_J6 : List (Nat × Nat × Nat × Option Nat) := []
def ci_J6 : List (Nat × Nat) := [(265, 1431655765), (266, 858993459), (267, 252645135)]
def cL_J6_L : List (Nat × Nat) := []
set_option maxRecDepth 20000 in
theorem fo_J6 : ∀ q ∈ ft_J6, (z_fok "java/lang/Integer" q || z_sok "java/lang/Integer" q) = true := fun _ h => absurd h List.not_mem_nil
theorem co_J6 : ∀ q ∈ ci_J6, Jvm.Cond.constant "java/lang/Integer" q.1 (nI q.2) ∈ z_T := List.forall_mem_cons.mpr ⟨(z_mT 463 (by decide +kernel) rfl), List.forall_mem_cons.mpr ⟨(z_mT 464 (by decide +kernel) rfl), List.forall_mem_cons.mpr ⟨(z_mT 465 (by decide +kernel) rfl), fun _ h => absurd h List.not_mem_nil⟩⟩⟩
theorem lo_J6 : ∀ q ∈ cL_J6_L, Jvm.Cond.constantLong "java/lang/Integer" q.1 (lN q.2) ∈ z_T := fun _ h => absurd h List.not_mem_nil
def ft_L : List (Nat × Nat × Nat × Option Nat) := []
def ci_L : List (Nat × Nat) := [(7, 2147483647), (69, 2194967296), (160, 66000), (177, 1500000), (178, 1000001)]
def cL_L_L : List (Nat × Nat) := [(155, 18446744071609551616)]
set_option maxRecDepth 20000 in
theorem fo_L : ∀ q ∈ ft_L, (z_fok "SonglinebenchLaw" q || z_sok "SonglinebenchLaw" q) = true := fun _ h => absurd h List.not_mem_nil
theorem co_L : ∀ q ∈ ci_L, Jvm.Cond.constant "SonglinebenchLaw" q.1 (nI q.2) ∈ z_T := List.forall_mem_cons.mpr ⟨(z_mT 472 (by decide +kernel) rfl), List.forall_mem_cons.mpr ⟨(z_mT 819 (by decide +kernel) rfl), List.forall_mem_cons.mpr ⟨(z_mT 476 (by decide +kernel) rfl), List.forall_mem_cons.mpr ⟨(z_mT 863 (by decide +kernel) rfl), List.forall_mem_cons.mpr ⟨(z_mT 864 (by decide +kernel) rfl), fun _ h => absurd h List.not_mem_nil⟩⟩⟩⟩⟩
theorem lo_L : ∀ q ∈ cL_L_L, Jvm.Cond.constantLong "SonglinebenchLaw" q.1 (lN q.2) ∈ z_T := List.forall_mem_cons.mpr ⟨(z_mT 917 (by decide +kernel) rfl), fun _ h => absurd h List.not_mem_nil⟩
theorem kb_X6_act : z_kB yX6_act cX6_act 6 (some .int) 5 = true := z_kB_mk (z_mT 21 (by decide +kernel) rfl) (z_mT 842 (by decide +kernel) rfl) (by decide) (by decide +kernel)
theorem kb_X6_adopt : z_kB yX6_adopt cX6_adopt 4 (some .int) 2 = true := z_kB_mk (z_mT 21 (by decide +kernel) rfl) (z_mT 492 (by decide +kernel) rfl) (by decide) (by decide +kernel)
theorem kb_X6_agree : z_kB yX6_agree cX6_agree 4 (some .int) 2 = true := z_kB_mk (z_mT 21 (by decide +kernel) rfl) (z_mT 746 (by decide +kernel) rfl) (by decide) (by decide +kernel)
theorem kb_X6_claim : z_kB yX6_claim cX6_claim 4 (some .int) 3 = true := z_kB_mk (z_mT 21 (by decide +kernel) rfl) (z_mT 635 (by decide +kernel) rfl) (by decide) (by decide +kernel)
theorem kb_X6_decide : z_kB yX6_decide cX6_decide 3 (some .int) 2 = true := z_kB_mk (z_mT 21 (by decide +kernel) rfl) (z_mT 777 (by decide +kernel) rfl) (by decide) (by decide +kernel)
theorem kb_X6_determine : z_kB yX6_determine cX6_determine 2 (some .int) 1 = true := z_kB_mk (z_mT 21 (by decide +kernel) rfl) (z_mT 687 (by decide +kernel) rfl) (by decide) (by decide +kernel)
theorem kb_X6_explain : z_kB yX6_explain cX6_explain 4 (some .int) 3 = true := z_kB_mk (z_mT 21 (by decide +kernel) rfl) (z_mT 564 (by decide +kernel) rfl) (by decide) (by decide +kernel)
theorem kb_X6_firstFailed : z_kB yX6_firstFailed cX6_firstFailed 2 (some .int) 1 = true := z_kB_mk (z_mT 21 (by decide +kernel) rfl) (z_mT 671 (by decide +kernel) rfl) (by decide) (by decide +kernel)
theorem kb_X6_giveUp : z_kB yX6_giveUp cX6_giveUp 2 (some .int) 1 = true := z_kB_mk (z_mT 21 (by decide +kernel) rfl) (z_mT 600 (by decide +kernel) rfl) (by decide) (by decide +kernel)
theorem kb_X6_hears : z_kB yX6_hears cX6_hears 4 (some .int) 3 = true := z_kB_mk (z_mT 21 (by decide +kernel) rfl) (z_mT 535 (by decide +kernel) rfl) (by decide) (by decide +kernel)
theorem kb_X6_holders : z_kB yX6_holders cX6_holders 2 (some .int) 1 = true := z_kB_mk (z_mT 21 (by decide +kernel) rfl) (z_mT 715 (by decide +kernel) rfl) (by decide) (by decide +kernel)
theorem kb_X6_isDeed : z_kB yX6_isDeed cX6_isDeed 3 (some .boolean) 3 = true := z_kB_mk (z_mT 21 (by decide +kernel) rfl) (z_mT 845 (by decide +kernel) rfl) (by decide) (by decide +kernel)
theorem kb_X6_isIn : z_kB yX6_isIn cX6_isIn 2 (some .boolean) 2 = true := z_kB_mk (z_mT 21 (by decide +kernel) rfl) (z_mT 458 (by decide +kernel) rfl) (by decide) (by decide +kernel)
theorem kb_X6_isLast : z_kB yX6_isLast cX6_isLast 3 (some .boolean) 3 = true := z_kB_mk (z_mT 21 (by decide +kernel) rfl) (z_mT 848 (by decide +kernel) rfl) (by decide) (by decide +kernel)
theorem kb_X6_isMonth : z_kB yX6_isMonth cX6_isMonth 1 (some .boolean) 1 = true := z_kB_mk (z_mT 21 (by decide +kernel) rfl) (z_mT 609 (by decide +kernel) rfl) (by decide) (by decide +kernel)
theorem kb_X6_isPlace : z_kB yX6_isPlace cX6_isPlace 1 (some .boolean) 1 = true := z_kB_mk (z_mT 21 (by decide +kernel) rfl) (z_mT 524 (by decide +kernel) rfl) (by decide) (by decide +kernel)
theorem kb_X6_isProved : z_kB yX6_isProved cX6_isProved 3 (some .boolean) 2 = true := z_kB_mk (z_mT 21 (by decide +kernel) rfl) (z_mT 574 (by decide +kernel) rfl) (by decide) (by decide +kernel)
theorem kb_X6_isSomePlaces : z_kB yX6_isSomePlaces cX6_isSomePlaces 1 (some .boolean) 1 = true := z_kB_mk (z_mT 21 (by decide +kernel) rfl) (z_mT 638 (by decide +kernel) rfl) (by decide) (by decide +kernel)
theorem kb_X6_isSomeRights : z_kB yX6_isSomeRights cX6_isSomeRights 1 (some .boolean) 1 = true := z_kB_mk (z_mT 21 (by decide +kernel) rfl) (z_mT 642 (by decide +kernel) rfl) (by decide) (by decide +kernel)
theorem kb_X6_isVotedFor : z_kB yX6_isVotedFor cX6_isVotedFor 4 (some .boolean) 1 = true := z_kB_mk (z_mT 21 (by decide +kernel) rfl) (z_mT 675 (by decide +kernel) rfl) (by decide) (by decide +kernel)
theorem kb_X6_left : z_kB yX6_left cX6_left 3 (some .int) 2 = true := z_kB_mk (z_mT 21 (by decide +kernel) rfl) (z_mT 605 (by decide +kernel) rfl) (by decide) (by decide +kernel)
theorem kb_X6_leftAnew : z_kB yX6_leftAnew cX6_leftAnew 5 (some .int) 2 = true := z_kB_mk (z_mT 21 (by decide +kernel) rfl) (z_mT 627 (by decide +kernel) rfl) (by decide) (by decide +kernel)
theorem kb_X6_levelHeard : z_kB yX6_levelHeard cX6_levelHeard 3 (some .int) 2 = true := z_kB_mk (z_mT 21 (by decide +kernel) rfl) (z_mT 545 (by decide +kernel) rfl) (by decide) (by decide +kernel)
theorem kb_X6_mark : z_kB yX6_mark cX6_mark 5 (some .int) 4 = true := z_kB_mk (z_mT 21 (by decide +kernel) rfl) (z_mT 826 (by decide +kernel) rfl) (by decide) (by decide +kernel)
theorem kb_X6_may : z_kB yX6_may cX6_may 4 (some .int) 3 = true := z_kB_mk (z_mT 21 (by decide +kernel) rfl) (z_mT 728 (by decide +kernel) rfl) (by decide) (by decide +kernel)
theorem kb_X6_members : z_kB yX6_members cX6_members 2 (some .int) 1 = true := z_kB_mk (z_mT 21 (by decide +kernel) rfl) (z_mT 503 (by decide +kernel) rfl) (by decide) (by decide +kernel)
theorem kb_X6_notice : z_kB yX6_notice cX6_notice 7 (some .int) 5 = true := z_kB_mk (z_mT 21 (by decide +kernel) rfl) (z_mT 853 (by decide +kernel) rfl) (by decide) (by decide +kernel)
theorem kb_X6_object : z_kB yX6_object cX6_object 3 (none) 2 = true := z_kB_mk (z_mT 21 (by decide +kernel) rfl) (z_mT 767 (by decide +kernel) rfl) (by decide) (by decide +kernel)
theorem kb_X6_ofClaim : z_kB yX6_ofClaim cX6_ofClaim 3 (some .int) 2 = true := z_kB_mk (z_mT 21 (by decide +kernel) rfl) (z_mT 701 (by decide +kernel) rfl) (by decide) (by decide +kernel)
theorem kb_X6_ofNotice : z_kB yX6_ofNotice cX6_ofNotice 3 (some .int) 2 = true := z_kB_mk (z_mT 21 (by decide +kernel) rfl) (z_mT 806 (by decide +kernel) rfl) (by decide) (by decide +kernel)
theorem kb_X6_owed : z_kB yX6_owed cX6_owed 2 (some .long) 1 = true := z_kB_mk (z_mT 21 (by decide +kernel) rfl) (z_mT 871 (by decide +kernel) rfl) (by decide) (by decide +kernel)
theorem kb_X6_owedAt : z_kB yX6_owedAt cX6_owedAt 7 (some .long) 2 = true := z_kB_mk (z_mT 21 (by decide +kernel) rfl) (z_mT 887 (by decide +kernel) rfl) (by decide) (by decide +kernel)
theorem kb_X6_owedFor : z_kB yX6_owedFor cX6_owedFor 5 (some .long) 1 = true := z_kB_mk (z_mT 21 (by decide +kernel) rfl) (z_mT 875 (by decide +kernel) rfl) (by decide) (by decide +kernel)
theorem kb_X6_paid : z_kB yX6_paid cX6_paid 2 (some .long) 1 = true := z_kB_mk (z_mT 21 (by decide +kernel) rfl) (z_mT 916 (by decide +kernel) rfl) (by decide) (by decide +kernel)
theorem kb_X6_part : z_kB yX6_part cX6_part 4 (some .int) 3 = true := z_kB_mk (z_mT 21 (by decide +kernel) rfl) (z_mT 517 (by decide +kernel) rfl) (by decide) (by decide +kernel)
theorem kb_X6_partiesOf : z_kB yX6_partiesOf cX6_partiesOf 2 (some .int) 1 = true := z_kB_mk (z_mT 21 (by decide +kernel) rfl) (z_mT 755 (by decide +kernel) rfl) (by decide) (by decide +kernel)
theorem kb_X6_pass : z_kB yX6_pass cX6_pass 2 (some .int) 1 = true := z_kB_mk (z_mT 21 (by decide +kernel) rfl) (z_mT 816 (by decide +kernel) rfl) (by decide) (by decide +kernel)
theorem kb_X6_pay : z_kB yX6_pay cX6_pay 5 (some .long) 1 = true := z_kB_mk (z_mT 21 (by decide +kernel) rfl) (z_mT 907 (by decide +kernel) rfl) (by decide) (by decide +kernel)
theorem kb_X6_people : z_kB yX6_people cX6_people 2 (some .int) 1 = true := z_kB_mk (z_mT 21 (by decide +kernel) rfl) (z_mT 307 (by decide +kernel) rfl) (by decide) (by decide +kernel)
theorem kb_X6_person : z_kB yX6_person cX6_person 3 (some .int) 2 = true := z_kB_mk (z_mT 21 (by decide +kernel) rfl) (z_mT 399 (by decide +kernel) rfl) (by decide) (by decide +kernel)
theorem kb_X6_proceed : z_kB yX6_proceed cX6_proceed 3 (some .int) 1 = true := z_kB_mk (z_mT 21 (by decide +kernel) rfl) (z_mT 787 (by decide +kernel) rfl) (by decide) (by decide +kernel)
theorem kb_X6_provedOf : z_kB yX6_provedOf cX6_provedOf 4 (some .int) 1 = true := z_kB_mk (z_mT 21 (by decide +kernel) rfl) (z_mT 679 (by decide +kernel) rfl) (by decide) (by decide +kernel)
theorem kb_X6_raise : z_kB yX6_raise cX6_raise 2 (some .int) 1 = true := z_kB_mk (z_mT 21 (by decide +kernel) rfl) (z_mT 498 (by decide +kernel) rfl) (by decide) (by decide +kernel)
theorem kb_X6_register : z_kB yX6_register cX6_register 3 (some .int) 1 = true := z_kB_mk (z_mT 21 (by decide +kernel) rfl) (z_mT 665 (by decide +kernel) rfl) (by decide) (by decide +kernel)
theorem kb_X6_revise : z_kB yX6_revise cX6_revise 3 (some .int) 1 = true := z_kB_mk (z_mT 21 (by decide +kernel) rfl) (z_mT 696 (by decide +kernel) rfl) (by decide) (by decide +kernel)
theorem kb_X6_rightsOf : z_kB yX6_rightsOf cX6_rightsOf 5 (some .int) 2 = true := z_kB_mk (z_mT 21 (by decide +kernel) rfl) (z_mT 733 (by decide +kernel) rfl) (by decide) (by decide +kernel)
theorem kb_X6_root : z_kB yX6_root cX6_root 4 (some .int) 3 = true := z_kB_mk (z_mT 21 (by decide +kernel) rfl) (z_mT 433 (by decide +kernel) rfl) (by decide) (by decide +kernel)
theorem kb_X6_share : z_kB yX6_share cX6_share 8 (none) 2 = true := z_kB_mk (z_mT 21 (by decide +kernel) rfl) (z_mT 912 (by decide +kernel) rfl) (by decide) (by decide +kernel)
theorem kb_X6_story : z_kB yX6_story cX6_story 2 (some .int) 1 = true := z_kB_mk (z_mT 21 (by decide +kernel) rfl) (z_mT 508 (by decide +kernel) rfl) (by decide) (by decide +kernel)
theorem kb_X6_told : z_kB yX6_told cX6_told 4 (some .int) 1 = true := z_kB_mk (z_mT 21 (by decide +kernel) rfl) (z_mT 554 (by decide +kernel) rfl) (by decide) (by decide +kernel)
theorem kb_X6_value : z_kB yX6_value cX6_value 4 (some .int) 2 = true := z_kB_mk (z_mT 21 (by decide +kernel) rfl) (z_mT 810 (by decide +kernel) rfl) (by decide) (by decide +kernel)
theorem kb_X6_voids : z_kB yX6_voids cX6_voids 4 (some .boolean) 2 = true := z_kB_mk (z_mT 21 (by decide +kernel) rfl) (z_mT 591 (by decide +kernel) rfl) (by decide) (by decide +kernel)
theorem kb_X6_vote : z_kB yX6_vote cX6_vote 4 (none) 3 = true := z_kB_mk (z_mT 21 (by decide +kernel) rfl) (z_mT 655 (by decide +kernel) rfl) (by decide) (by decide +kernel)
theorem kb_X6_weightOf : z_kB yX6_weightOf cX6_weightOf 3 (some .int) 1 = true := z_kB_mk (z_mT 21 (by decide +kernel) rfl) (z_mT 898 (by decide +kernel) rfl) (by decide) (by decide +kernel)
theorem kb_X6_with : z_kB yX6_with cX6_with 3 (some .int) 3 = true := z_kB_mk (z_mT 21 (by decide +kernel) rfl) (z_mT 442 (by decide +kernel) rfl) (by decide) (by decide +kernel)
theorem kb_X0_add : z_kB yX0_add cX0_add 7 (some .int) 5 = true := z_kB_mk (z_mT 25 (by decide +kernel) rfl) (z_mT 802 (by decide +kernel) rfl) (by decide) (by decide +kernel)
theorem kb_X0_counts : z_kB yX0_counts cX0_counts 3 (some .boolean) 2 = true := z_kB_mk (z_mT 25 (by decide +kernel) rfl) (z_mT 623 (by decide +kernel) rfl) (by decide) (by decide +kernel)
theorem kb_X0_isAct : z_kB yX0_isAct cX0_isAct 2 (some .boolean) 1 = true := z_kB_mk (z_mT 25 (by decide +kernel) rfl) (z_mT 595 (by decide +kernel) rfl) (by decide) (by decide +kernel)
theorem kb_X0_isAhead : z_kB yX0_isAhead cX0_isAhead 3 (some .boolean) 2 = true := z_kB_mk (z_mT 25 (by decide +kernel) rfl) (z_mT 895 (by decide +kernel) rfl) (by decide) (by decide +kernel)
theorem kb_X0_isPayable : z_kB yX0_isPayable cX0_isPayable 2 (some .boolean) 1 = true := z_kB_mk (z_mT 25 (by decide +kernel) rfl) (z_mT 879 (by decide +kernel) rfl) (by decide) (by decide +kernel)
theorem kb_X0_isTaken : z_kB yX0_isTaken cX0_isTaken 5 (some .boolean) 3 = true := z_kB_mk (z_mT 25 (by decide +kernel) rfl) (z_mT 631 (by decide +kernel) rfl) (by decide) (by decide +kernel)
theorem kb_X0_leftAt : z_kB yX0_leftAt cX0_leftAt 5 (some .int) 2 = true := z_kB_mk (z_mT 25 (by decide +kernel) rfl) (z_mT 614 (by decide +kernel) rfl) (by decide) (by decide +kernel)
theorem kb_X0_stillExtinguishes : z_kB yX0_stillExtinguishes cX0_stillExtinguishes 2 (some .boolean) 1 = true := z_kB_mk (z_mT 25 (by decide +kernel) rfl) (z_mT 883 (by decide +kernel) rfl) (by decide) (by decide +kernel)
theorem kb_X0_takenBy : z_kB yX0_takenBy cX0_takenBy 5 (some .int) 2 = true := z_kB_mk (z_mT 25 (by decide +kernel) rfl) (z_mT 891 (by decide +kernel) rfl) (by decide) (by decide +kernel)
theorem kb_X0_takes : z_kB yX0_takes cX0_takes 5 (some .boolean) 3 = true := z_kB_mk (z_mT 25 (by decide +kernel) rfl) (z_mT 618 (by decide +kernel) rfl) (by decide) (by decide +kernel)
theorem kb_X0_yieldingAt : z_kB yX0_yieldingAt cX0_yieldingAt 5 (some .int) 2 = true := z_kB_mk (z_mT 25 (by decide +kernel) rfl) (z_mT 741 (by decide +kernel) rfl) (by decide) (by decide +kernel)
theorem kb_X1_add : z_kB yX1_add cX1_add 5 (some .int) 3 = true := z_kB_mk (z_mT 26 (by decide +kernel) rfl) (z_mT 648 (by decide +kernel) rfl) (by decide) (by decide +kernel)
theorem kb_X1_grant : z_kB yX1_grant cX1_grant 3 (none) 2 = true := z_kB_mk (z_mT 26 (by decide +kernel) rfl) (z_mT 692 (by decide +kernel) rfl) (by decide) (by decide +kernel)
theorem kb_X1_grantedTo : z_kB yX1_grantedTo cX1_grantedTo 5 (some .int) 2 = true := z_kB_mk (z_mT 26 (by decide +kernel) rfl) (z_mT 737 (by decide +kernel) rfl) (by decide) (by decide +kernel)
theorem kb_X1_holdersOf : z_kB yX1_holdersOf cX1_holdersOf 4 (some .int) 1 = true := z_kB_mk (z_mT 26 (by decide +kernel) rfl) (z_mT 719 (by decide +kernel) rfl) (by decide) (by decide +kernel)
theorem kb_X1_isBarred : z_kB yX1_isBarred cX1_isBarred 3 (some .boolean) 1 = true := z_kB_mk (z_mT 26 (by decide +kernel) rfl) (z_mT 683 (by decide +kernel) rfl) (by decide) (by decide +kernel)
theorem kb_X1_isClaim : z_kB yX1_isClaim cX1_isClaim 2 (some .boolean) 1 = true := z_kB_mk (z_mT 26 (by decide +kernel) rfl) (z_mT 659 (by decide +kernel) rfl) (by decide) (by decide +kernel)
theorem kb_X1_isHeld : z_kB yX1_isHeld cX1_isHeld 3 (some .boolean) 2 = true := z_kB_mk (z_mT 26 (by decide +kernel) rfl) (z_mT 723 (by decide +kernel) rfl) (by decide) (by decide +kernel)
theorem kb_X1_partiesAt : z_kB yX1_partiesAt cX1_partiesAt 5 (some .int) 2 = true := z_kB_mk (z_mT 26 (by decide +kernel) rfl) (z_mT 759 (by decide +kernel) rfl) (by decide) (by decide +kernel)
theorem kb_X1_rivalsOf : z_kB yX1_rivalsOf cX1_rivalsOf 4 (some .int) 1 = true := z_kB_mk (z_mT 26 (by decide +kernel) rfl) (z_mT 706 (by decide +kernel) rfl) (by decide) (by decide +kernel)
theorem kb_X1_stands : z_kB yX1_stands cX1_stands 2 (some .boolean) 1 = true := z_kB_mk (z_mT 26 (by decide +kernel) rfl) (z_mT 710 (by decide +kernel) rfl) (by decide) (by decide +kernel)
theorem kb_X2_addPeople : z_kB yX2_addPeople cX2_addPeople 3 (some .int) 1 = true := z_kB_mk (z_mT 22 (by decide +kernel) rfl) (z_mT 395 (by decide +kernel) rfl) (by decide) (by decide +kernel)
theorem kb_X2_addPerson : z_kB yX2_addPerson cX2_addPerson 4 (some .int) 2 = true := z_kB_mk (z_mT 22 (by decide +kernel) rfl) (z_mT 429 (by decide +kernel) rfl) (by decide) (by decide +kernel)
theorem kb_X2_isNext : z_kB yX2_isNext cX2_isNext 4 (some .boolean) 3 = true := z_kB_mk (z_mT 22 (by decide +kernel) rfl) (z_mT 455 (by decide +kernel) rfl) (by decide) (by decide +kernel)
theorem kb_X2_isPeople : z_kB yX2_isPeople cX2_isPeople 2 (some .boolean) 1 = true := z_kB_mk (z_mT 22 (by decide +kernel) rfl) (z_mT 437 (by decide +kernel) rfl) (by decide) (by decide +kernel)
theorem kb_X2_isPerson : z_kB yX2_isPerson cX2_isPerson 2 (some .boolean) 1 = true := z_kB_mk (z_mT 22 (by decide +kernel) rfl) (z_mT 407 (by decide +kernel) rfl) (by decide) (by decide +kernel)
theorem kb_X2_isPersonOrNone : z_kB yX2_isPersonOrNone cX2_isPersonOrNone 2 (some .boolean) 1 = true := z_kB_mk (z_mT 22 (by decide +kernel) rfl) (z_mT 403 (by decide +kernel) rfl) (by decide) (by decide +kernel)
theorem kb_X2_membersOf : z_kB yX2_membersOf cX2_membersOf 5 (some .int) 1 = true := z_kB_mk (z_mT 22 (by decide +kernel) rfl) (z_mT 446 (by decide +kernel) rfl) (by decide) (by decide +kernel)
theorem kb_X2_withNext : z_kB yX2_withNext cX2_withNext 5 (some .int) 2 = true := z_kB_mk (z_mT 22 (by decide +kernel) rfl) (z_mT 451 (by decide +kernel) rfl) (by decide) (by decide +kernel)
theorem kb_X3_add : z_kB yX3_add cX3_add 6 (some .int) 4 = true := z_kB_mk (z_mT 24 (by decide +kernel) rfl) (z_mT 832 (by decide +kernel) rfl) (by decide) (by decide +kernel)
theorem kb_X3_addExplained : z_kB yX3_addExplained cX3_addExplained 5 (some .int) 3 = true := z_kB_mk (z_mT 24 (by decide +kernel) rfl) (z_mT 570 (by decide +kernel) rfl) (by decide) (by decide +kernel)
theorem kb_X3_isExplained : z_kB yX3_isExplained cX3_isExplained 6 (some .boolean) 3 = true := z_kB_mk (z_mT 24 (by decide +kernel) rfl) (z_mT 587 (by decide +kernel) rfl) (by decide) (by decide +kernel)
theorem kb_X3_isGap : z_kB yX3_isGap cX3_isGap 4 (some .boolean) 3 = true := z_kB_mk (z_mT 24 (by decide +kernel) rfl) (z_mT 583 (by decide +kernel) rfl) (by decide) (by decide +kernel)
theorem kb_X3_prove : z_kB yX3_prove cX3_prove 7 (some .boolean) 3 = true := z_kB_mk (z_mT 24 (by decide +kernel) rfl) (z_mT 579 (by decide +kernel) rfl) (by decide) (by decide +kernel)
theorem kb_X4_add : z_kB yX4_add cX4_add 4 (some .int) 2 = true := z_kB_mk (z_mT 27 (by decide +kernel) rfl) (z_mT 858 (by decide +kernel) rfl) (by decide) (by decide +kernel)
theorem kb_X4_isNotice : z_kB yX4_isNotice cX4_isNotice 2 (some .boolean) 1 = true := z_kB_mk (z_mT 27 (by decide +kernel) rfl) (z_mT 750 (by decide +kernel) rfl) (by decide) (by decide +kernel)
theorem kb_X4_isOpenToDecide : z_kB yX4_isOpenToDecide cX4_isOpenToDecide 3 (some .boolean) 2 = true := z_kB_mk (z_mT 27 (by decide +kernel) rfl) (z_mT 782 (by decide +kernel) rfl) (by decide) (by decide +kernel)
theorem kb_X4_isOpenToObject : z_kB yX4_isOpenToObject cX4_isOpenToObject 3 (some .boolean) 2 = true := z_kB_mk (z_mT 27 (by decide +kernel) rfl) (z_mT 771 (by decide +kernel) rfl) (by decide) (by decide +kernel)
theorem kb_X4_isPast : z_kB yX4_isPast cX4_isPast 3 (some .boolean) 2 = true := z_kB_mk (z_mT 27 (by decide +kernel) rfl) (z_mT 796 (by decide +kernel) rfl) (by decide) (by decide +kernel)
theorem kb_X4_isRipe : z_kB yX4_isRipe cX4_isRipe 7 (some .boolean) 3 = true := z_kB_mk (z_mT 27 (by decide +kernel) rfl) (z_mT 791 (by decide +kernel) rfl) (by decide) (by decide +kernel)
theorem kb_X4_tell : z_kB yX4_tell cX4_tell 6 (none) 5 = true := z_kB_mk (z_mT 27 (by decide +kernel) rfl) (z_mT 862 (by decide +kernel) rfl) (by decide) (by decide +kernel)
theorem kb_X5_add : z_kB yX5_add cX5_add 3 (some .int) 1 = true := z_kB_mk (z_mT 23 (by decide +kernel) rfl) (z_mT 513 (by decide +kernel) rfl) (by decide) (by decide +kernel)
theorem kb_X5_addPart : z_kB yX5_addPart cX5_addPart 5 (some .int) 3 = true := z_kB_mk (z_mT 23 (by decide +kernel) rfl) (z_mT 531 (by decide +kernel) rfl) (by decide) (by decide +kernel)
theorem kb_X5_isPart : z_kB yX5_isPart cX5_isPart 3 (some .boolean) 2 = true := z_kB_mk (z_mT 23 (by decide +kernel) rfl) (z_mT 539 (by decide +kernel) rfl) (by decide) (by decide +kernel)
theorem kb_X5_isStory : z_kB yX5_isStory cX5_isStory 2 (some .boolean) 1 = true := z_kB_mk (z_mT 23 (by decide +kernel) rfl) (z_mT 521 (by decide +kernel) rfl) (by decide) (by decide +kernel)
theorem kb_X5_placeUpTo : z_kB yX5_placeUpTo cX5_placeUpTo 5 (some .int) 3 = true := z_kB_mk (z_mT 23 (by decide +kernel) rfl) (z_mT 550 (by decide +kernel) rfl) (by decide) (by decide +kernel)
theorem kb_X5_placesUpTo : z_kB yX5_placesUpTo cX5_placesUpTo 6 (some .int) 2 = true := z_kB_mk (z_mT 23 (by decide +kernel) rfl) (z_mT 558 (by decide +kernel) rfl) (by decide) (by decide +kernel)
set_option maxRecDepth 20000 in
theorem kb_L_act : z_kB yL_act cL_act 14 (some .int) 3 = true := z_kB_mk (z_mT 20 (by decide +kernel) rfl) (z_mT 475 rfl rfl) (by decide) (by decide +kernel)
set_option maxRecDepth 20000 in
theorem kb_L_areAlike : z_kB yL_areAlike cL_areAlike 6 (some .boolean) 3 = true := z_kB_mk (z_mT 20 (by decide +kernel) rfl) (z_mT 920 rfl rfl) (by decide) (by decide +kernel)
set_option maxRecDepth 20000 in
theorem kb_L_areClaims : z_kB yL_areClaims cL_areClaims 6 (some .boolean) 2 = true := z_kB_mk (z_mT 20 (by decide +kernel) rfl) (z_mT 929 rfl rfl) (by decide) (by decide +kernel)
set_option maxRecDepth 20000 in
theorem kb_L_areRights : z_kB yL_areRights cL_areRights 10 (some .boolean) 2 = true := z_kB_mk (z_mT 20 (by decide +kernel) rfl) (z_mT 923 rfl rfl) (by decide) (by decide +kernel)
set_option maxRecDepth 20000 in
theorem kb_L_cell : z_kB yL_cell cL_cell 2 (some .int) 2 = true := z_kB_mk (z_mT 20 (by decide +kernel) rfl) (z_mT 468 rfl rfl) (by decide) (by decide +kernel)
set_option maxRecDepth 20000 in
theorem kb_L_count : z_kB yL_count cL_count 3 (some .int) 1 = true := z_kB_mk (z_mT 20 (by decide +kernel) rfl) (z_mT 926 rfl rfl) (by decide) (by decide +kernel)
set_option maxRecDepth 20000 in
theorem kb_L_early : z_kB yL_early cL_early 5 (some .int) 5 = true := z_kB_mk (z_mT 20 (by decide +kernel) rfl) (z_mT 488 rfl rfl) (by decide) (by decide +kernel)
set_option maxRecDepth 20000 in
theorem kb_L_few : z_kB yL_few cL_few 1 (some .int) 1 = true := z_kB_mk (z_mT 20 (by decide +kernel) rfl) (z_mT 479 rfl rfl) (by decide) (by decide +kernel)
set_option maxRecDepth 20000 in
theorem kb_L_greater : z_kB yL_greater cL_greater 2 (some .int) 2 = true := z_kB_mk (z_mT 20 (by decide +kernel) rfl) (z_mT 835 rfl rfl) (by decide) (by decide +kernel)
set_option maxRecDepth 20000 in
theorem kb_L_isPaid : z_kB yL_isPaid cL_isPaid 15 (some .boolean) 3 = true := z_kB_mk (z_mT 20 (by decide +kernel) rfl) (z_mT 932 rfl rfl) (by decide) (by decide +kernel)
set_option maxRecDepth 20000 in
theorem kb_L_isQuiet : z_kB yL_isQuiet cL_isQuiet 12 (some .boolean) 3 = true := z_kB_mk (z_mT 20 (by decide +kernel) rfl) (z_mT 935 rfl rfl) (by decide) (by decide +kernel)
set_option maxRecDepth 20000 in
theorem kb_L_low : z_kB yL_low cL_low 2 (some .int) 2 = true := z_kB_mk (z_mT 20 (by decide +kernel) rfl) (z_mT 471 rfl rfl) (by decide) (by decide +kernel)
set_option maxRecDepth 20000 in
theorem kb_L_objects : z_kB yL_objects cL_objects 3 (some .int) 3 = true := z_kB_mk (z_mT 20 (by decide +kernel) rfl) (z_mT 763 rfl rfl) (by decide) (by decide +kernel)
set_option maxRecDepth 20000 in
theorem kb_L_votes : z_kB yL_votes cL_votes 4 (some .int) 4 = true := z_kB_mk (z_mT 20 (by decide +kernel) rfl) (z_mT 651 rfl rfl) (by decide) (by decide +kernel)
theorem kb_J6_bitCount_0f7a4 : z_kB yJ6_bitCount_0f7a4 cJ6_bitCount_0f7a4 1 (some .int) 1 = true := z_kB_mk (z_mT 34 (by decide +kernel) rfl) (z_mT 462 (by decide +kernel) rfl) (by decide) (by decide +kernel)
theorem kv_X6_78 : z_kV "Songlinebench" 78 yX2_addPeople = true := z_kV_mk (z_mT 392 (by decide +kernel) rfl) (z_mT 393 (by decide +kernel) rfl) (z_mT 394 (by decide +kernel) rfl)
theorem kv_X6_82 : z_kV "Songlinebench" 82 yX2_isPersonOrNone = true := z_kV_mk (z_mT 400 (by decide +kernel) rfl) (z_mT 401 (by decide +kernel) rfl) (z_mT 402 (by decide +kernel) rfl)
theorem kv_X6_98 : z_kV "Songlinebench" 98 yX2_addPerson = true := z_kV_mk (z_mT 426 (by decide +kernel) rfl) (z_mT 427 (by decide +kernel) rfl) (z_mT 428 (by decide +kernel) rfl)
theorem kv_X6_102 : z_kV "Songlinebench" 102 yX2_isPeople = true := z_kV_mk (z_mT 434 (by decide +kernel) rfl) (z_mT 435 (by decide +kernel) rfl) (z_mT 436 (by decide +kernel) rfl)
theorem kv_X6_105 : z_kV "Songlinebench" 105 yX2_isPerson = true := z_kV_mk (z_mT 438 (by decide +kernel) rfl) (z_mT 405 (by decide +kernel) rfl) (z_mT 406 (by decide +kernel) rfl)
theorem ks_X6_113 : z_kS "Songlinebench" 113 yX6_with = true := z_kS_mk (z_mT 440 (by decide +kernel) rfl) (z_mT 441 (by decide +kernel) rfl)
theorem kv_X6_117 : z_kV "Songlinebench" 117 yX2_membersOf = true := z_kV_mk (z_mT 443 (by decide +kernel) rfl) (z_mT 444 (by decide +kernel) rfl) (z_mT 445 (by decide +kernel) rfl)
theorem ks_X6_120 : z_kS "Songlinebench" 120 yJ6_bitCount_0f7a4 = true := z_kS_mk (z_mT 460 (by decide +kernel) rfl) (z_mT 461 (by decide +kernel) rfl)
theorem kv_X6_144 : z_kV "Songlinebench" 144 yX5_add = true := z_kV_mk (z_mT 510 (by decide +kernel) rfl) (z_mT 511 (by decide +kernel) rfl) (z_mT 512 (by decide +kernel) rfl)
theorem kv_X6_147 : z_kV "Songlinebench" 147 yX5_isStory = true := z_kV_mk (z_mT 518 (by decide +kernel) rfl) (z_mT 519 (by decide +kernel) rfl) (z_mT 520 (by decide +kernel) rfl)
theorem ks_X6_150 : z_kS "Songlinebench" 150 yX6_isPlace = true := z_kS_mk (z_mT 522 (by decide +kernel) rfl) (z_mT 523 (by decide +kernel) rfl)
theorem kv_X6_162 : z_kV "Songlinebench" 162 yX5_addPart = true := z_kV_mk (z_mT 528 (by decide +kernel) rfl) (z_mT 529 (by decide +kernel) rfl) (z_mT 530 (by decide +kernel) rfl)
theorem kv_X6_166 : z_kV "Songlinebench" 166 yX5_isPart = true := z_kV_mk (z_mT 536 (by decide +kernel) rfl) (z_mT 537 (by decide +kernel) rfl) (z_mT 538 (by decide +kernel) rfl)
theorem kv_X6_172 : z_kV "Songlinebench" 172 yX6_levelHeard = true := z_kV_mk (z_mT 542 (by decide +kernel) rfl) (z_mT 544 (by decide +kernel) rfl) (z_mT 3 (by decide +kernel) rfl)
theorem kv_X6_175 : z_kV "Songlinebench" 175 yX5_placeUpTo = true := z_kV_mk (z_mT 547 (by decide +kernel) rfl) (z_mT 548 (by decide +kernel) rfl) (z_mT 549 (by decide +kernel) rfl)
theorem kv_X6_178 : z_kV "Songlinebench" 178 yX5_placesUpTo = true := z_kV_mk (z_mT 555 (by decide +kernel) rfl) (z_mT 556 (by decide +kernel) rfl) (z_mT 557 (by decide +kernel) rfl)
theorem ks_X6_184 : z_kS "Songlinebench" 184 yX6_isIn = true := z_kS_mk (z_mT 546 (by decide +kernel) rfl) (z_mT 457 (by decide +kernel) rfl)
theorem kv_X6_194 : z_kV "Songlinebench" 194 yX3_add = true := z_kV_mk (z_mT 829 (by decide +kernel) rfl) (z_mT 830 (by decide +kernel) rfl) (z_mT 831 (by decide +kernel) rfl)
theorem kv_X6_204 : z_kV "Songlinebench" 204 yX3_addExplained = true := z_kV_mk (z_mT 567 (by decide +kernel) rfl) (z_mT 568 (by decide +kernel) rfl) (z_mT 569 (by decide +kernel) rfl)
theorem kv_X6_207 : z_kV "Songlinebench" 207 yX3_prove = true := z_kV_mk (z_mT 576 (by decide +kernel) rfl) (z_mT 577 (by decide +kernel) rfl) (z_mT 578 (by decide +kernel) rfl)
theorem ks_X6_211 : z_kS "Songlinebench" 211 yX6_isDeed = true := z_kS_mk (z_mT 843 (by decide +kernel) rfl) (z_mT 844 (by decide +kernel) rfl)
theorem ks_X6_214 : z_kS "Songlinebench" 214 yX6_isLast = true := z_kS_mk (z_mT 846 (by decide +kernel) rfl) (z_mT 847 (by decide +kernel) rfl)
theorem kv_X6_222 : z_kV "Songlinebench" 222 yX0_add = true := z_kV_mk (z_mT 799 (by decide +kernel) rfl) (z_mT 800 (by decide +kernel) rfl) (z_mT 801 (by decide +kernel) rfl)
theorem kv_X6_225 : z_kV "Songlinebench" 225 yX0_isAct = true := z_kV_mk (z_mT 592 (by decide +kernel) rfl) (z_mT 593 (by decide +kernel) rfl) (z_mT 594 (by decide +kernel) rfl)
theorem ks_X6_244 : z_kS "Songlinebench" 244 yX6_isMonth = true := z_kS_mk (z_mT 607 (by decide +kernel) rfl) (z_mT 608 (by decide +kernel) rfl)
theorem kv_X6_249 : z_kV "Songlinebench" 249 yX0_leftAt = true := z_kV_mk (z_mT 611 (by decide +kernel) rfl) (z_mT 612 (by decide +kernel) rfl) (z_mT 613 (by decide +kernel) rfl)
theorem kv_X6_252 : z_kV "Songlinebench" 252 yX0_isTaken = true := z_kV_mk (z_mT 628 (by decide +kernel) rfl) (z_mT 629 (by decide +kernel) rfl) (z_mT 630 (by decide +kernel) rfl)
theorem ks_X6_255 : z_kS "Songlinebench" 255 yX6_isSomePlaces = true := z_kS_mk (z_mT 636 (by decide +kernel) rfl) (z_mT 637 (by decide +kernel) rfl)
theorem ks_X6_258 : z_kS "Songlinebench" 258 yX6_isSomeRights = true := z_kS_mk (z_mT 640 (by decide +kernel) rfl) (z_mT 641 (by decide +kernel) rfl)
theorem kv_X6_266 : z_kV "Songlinebench" 266 yX1_add = true := z_kV_mk (z_mT 645 (by decide +kernel) rfl) (z_mT 646 (by decide +kernel) rfl) (z_mT 647 (by decide +kernel) rfl)
theorem kv_X6_268 : z_kV "Songlinebench" 268 yX1_isClaim = true := z_kV_mk (z_mT 656 (by decide +kernel) rfl) (z_mT 657 (by decide +kernel) rfl) (z_mT 658 (by decide +kernel) rfl)
theorem kv_X6_289 : z_kV "Songlinebench" 289 yX6_firstFailed = true := z_kV_mk (z_mT 668 (by decide +kernel) rfl) (z_mT 670 (by decide +kernel) rfl) (z_mT 8 (by decide +kernel) rfl)
theorem kv_X6_295 : z_kV "Songlinebench" 295 yX6_provedOf = true := z_kV_mk (z_mT 676 (by decide +kernel) rfl) (z_mT 678 (by decide +kernel) rfl) (z_mT 10 (by decide +kernel) rfl)
theorem kv_X6_298 : z_kV "Songlinebench" 298 yX1_grant = true := z_kV_mk (z_mT 689 (by decide +kernel) rfl) (z_mT 690 (by decide +kernel) rfl) (z_mT 691 (by decide +kernel) rfl)
theorem kv_X6_309 : z_kV "Songlinebench" 309 yX1_rivalsOf = true := z_kV_mk (z_mT 703 (by decide +kernel) rfl) (z_mT 704 (by decide +kernel) rfl) (z_mT 705 (by decide +kernel) rfl)
theorem kv_X6_312 : z_kV "Songlinebench" 312 yX1_holdersOf = true := z_kV_mk (z_mT 716 (by decide +kernel) rfl) (z_mT 717 (by decide +kernel) rfl) (z_mT 718 (by decide +kernel) rfl)
theorem kv_X6_317 : z_kV "Songlinebench" 317 yX6_rightsOf = true := z_kV_mk (z_mT 730 (by decide +kernel) rfl) (z_mT 732 (by decide +kernel) rfl) (z_mT 13 (by decide +kernel) rfl)
theorem kv_X6_320 : z_kV "Songlinebench" 320 yX0_yieldingAt = true := z_kV_mk (z_mT 738 (by decide +kernel) rfl) (z_mT 739 (by decide +kernel) rfl) (z_mT 740 (by decide +kernel) rfl)
theorem kv_X6_323 : z_kV "Songlinebench" 323 yX6_isVotedFor = true := z_kV_mk (z_mT 672 (by decide +kernel) rfl) (z_mT 674 (by decide +kernel) rfl) (z_mT 9 (by decide +kernel) rfl)
theorem kv_X6_326 : z_kV "Songlinebench" 326 yX1_isBarred = true := z_kV_mk (z_mT 680 (by decide +kernel) rfl) (z_mT 681 (by decide +kernel) rfl) (z_mT 682 (by decide +kernel) rfl)
theorem kv_X6_332 : z_kV "Songlinebench" 332 yX1_grantedTo = true := z_kV_mk (z_mT 734 (by decide +kernel) rfl) (z_mT 735 (by decide +kernel) rfl) (z_mT 736 (by decide +kernel) rfl)
theorem kv_X6_338 : z_kV "Songlinebench" 338 yX4_add = true := z_kV_mk (z_mT 855 (by decide +kernel) rfl) (z_mT 856 (by decide +kernel) rfl) (z_mT 857 (by decide +kernel) rfl)
theorem kv_X6_341 : z_kV "Songlinebench" 341 yX4_tell = true := z_kV_mk (z_mT 859 (by decide +kernel) rfl) (z_mT 860 (by decide +kernel) rfl) (z_mT 861 (by decide +kernel) rfl)
theorem kv_X6_345 : z_kV "Songlinebench" 345 yX4_isNotice = true := z_kV_mk (z_mT 747 (by decide +kernel) rfl) (z_mT 748 (by decide +kernel) rfl) (z_mT 749 (by decide +kernel) rfl)
theorem kv_X6_350 : z_kV "Songlinebench" 350 yX6_partiesOf = true := z_kV_mk (z_mT 752 (by decide +kernel) rfl) (z_mT 754 (by decide +kernel) rfl) (z_mT 14 (by decide +kernel) rfl)
theorem kv_X6_359 : z_kV "Songlinebench" 359 yX4_isOpenToObject = true := z_kV_mk (z_mT 768 (by decide +kernel) rfl) (z_mT 769 (by decide +kernel) rfl) (z_mT 770 (by decide +kernel) rfl)
theorem kv_X6_371 : z_kV "Songlinebench" 371 yX4_isOpenToDecide = true := z_kV_mk (z_mT 779 (by decide +kernel) rfl) (z_mT 780 (by decide +kernel) rfl) (z_mT 781 (by decide +kernel) rfl)
theorem kv_X6_379 : z_kV "Songlinebench" 379 yX4_isRipe = true := z_kV_mk (z_mT 788 (by decide +kernel) rfl) (z_mT 789 (by decide +kernel) rfl) (z_mT 790 (by decide +kernel) rfl)
theorem kv_X6_384 : z_kV "Songlinebench" 384 yX4_isPast = true := z_kV_mk (z_mT 793 (by decide +kernel) rfl) (z_mT 794 (by decide +kernel) rfl) (z_mT 795 (by decide +kernel) rfl)
theorem kv_X6_403 : z_kV "Songlinebench" 403 yX1_partiesAt = true := z_kV_mk (z_mT 756 (by decide +kernel) rfl) (z_mT 757 (by decide +kernel) rfl) (z_mT 758 (by decide +kernel) rfl)
theorem kv_X6_409 : z_kV "Songlinebench" 409 yX6_owedFor = true := z_kV_mk (z_mT 872 (by decide +kernel) rfl) (z_mT 874 (by decide +kernel) rfl) (z_mT 15 (by decide +kernel) rfl)
theorem kv_X6_415 : z_kV "Songlinebench" 415 yX6_owedAt = true := z_kV_mk (z_mT 884 (by decide +kernel) rfl) (z_mT 886 (by decide +kernel) rfl) (z_mT 17 (by decide +kernel) rfl)
theorem kv_X6_419 : z_kV "Songlinebench" 419 yX6_share = true := z_kV_mk (z_mT 909 (by decide +kernel) rfl) (z_mT 911 (by decide +kernel) rfl) (z_mT 19 (by decide +kernel) rfl)
theorem kv_X6_430 : z_kV "Songlinebench" 430 yX0_isPayable = true := z_kV_mk (z_mT 876 (by decide +kernel) rfl) (z_mT 877 (by decide +kernel) rfl) (z_mT 878 (by decide +kernel) rfl)
theorem kv_X6_434 : z_kV "Songlinebench" 434 yX0_takenBy = true := z_kV_mk (z_mT 888 (by decide +kernel) rfl) (z_mT 889 (by decide +kernel) rfl) (z_mT 890 (by decide +kernel) rfl)
theorem ks_X6_437 : z_kS "Songlinebench" 437 yX6_weightOf = true := z_kS_mk (z_mT 896 (by decide +kernel) rfl) (z_mT 897 (by decide +kernel) rfl)
theorem kv_X0_45 : z_kV "Songlinebench$Acts" 45 yX0_counts = true := z_kV_mk (z_mT 620 (by decide +kernel) rfl) (z_mT 622 (by decide +kernel) rfl) (z_mT 7 (by decide +kernel) rfl)
theorem kv_X0_48 : z_kV "Songlinebench$Acts" 48 yX0_takes = true := z_kV_mk (z_mT 615 (by decide +kernel) rfl) (z_mT 617 (by decide +kernel) rfl) (z_mT 6 (by decide +kernel) rfl)
theorem kv_X0_52 : z_kV "Songlinebench$Acts" 52 yX0_leftAt = true := z_kV_mk (z_mT 742 (by decide +kernel) rfl) (z_mT 612 (by decide +kernel) rfl) (z_mT 613 (by decide +kernel) rfl)
theorem kv_X0_56 : z_kV "Songlinebench$Acts" 56 yX0_stillExtinguishes = true := z_kV_mk (z_mT 880 (by decide +kernel) rfl) (z_mT 882 (by decide +kernel) rfl) (z_mT 16 (by decide +kernel) rfl)
theorem kv_X0_60 : z_kV "Songlinebench$Acts" 60 yX0_isAhead = true := z_kV_mk (z_mT 892 (by decide +kernel) rfl) (z_mT 894 (by decide +kernel) rfl) (z_mT 18 (by decide +kernel) rfl)
theorem kv_X1_40 : z_kV "Songlinebench$Claims" 40 yX1_stands = true := z_kV_mk (z_mT 707 (by decide +kernel) rfl) (z_mT 709 (by decide +kernel) rfl) (z_mT 11 (by decide +kernel) rfl)
theorem kv_X1_52 : z_kV "Songlinebench$Claims" 52 yX1_isHeld = true := z_kV_mk (z_mT 720 (by decide +kernel) rfl) (z_mT 722 (by decide +kernel) rfl) (z_mT 12 (by decide +kernel) rfl)
theorem kv_X2_37 : z_kV "Songlinebench$Kin" 37 yX2_isPerson = true := z_kV_mk (z_mT 404 (by decide +kernel) rfl) (z_mT 405 (by decide +kernel) rfl) (z_mT 406 (by decide +kernel) rfl)
theorem kv_X2_41 : z_kV "Songlinebench$Kin" 41 yX2_isPeople = true := z_kV_mk (z_mT 447 (by decide +kernel) rfl) (z_mT 435 (by decide +kernel) rfl) (z_mT 436 (by decide +kernel) rfl)
theorem kv_X2_44 : z_kV "Songlinebench$Kin" 44 yX2_withNext = true := z_kV_mk (z_mT 448 (by decide +kernel) rfl) (z_mT 450 (by decide +kernel) rfl) (z_mT 1 (by decide +kernel) rfl)
theorem kv_X2_48 : z_kV "Songlinebench$Kin" 48 yX2_isNext = true := z_kV_mk (z_mT 452 (by decide +kernel) rfl) (z_mT 454 (by decide +kernel) rfl) (z_mT 2 (by decide +kernel) rfl)
theorem kv_X3_37 : z_kV "Songlinebench$Marks" 37 yX3_isGap = true := z_kV_mk (z_mT 580 (by decide +kernel) rfl) (z_mT 582 (by decide +kernel) rfl) (z_mT 4 (by decide +kernel) rfl)
theorem kv_X3_41 : z_kV "Songlinebench$Marks" 41 yX3_isExplained = true := z_kV_mk (z_mT 584 (by decide +kernel) rfl) (z_mT 586 (by decide +kernel) rfl) (z_mT 5 (by decide +kernel) rfl)
theorem kv_X5_28 : z_kV "Songlinebench$Stories" 28 yX5_isStory = true := z_kV_mk (z_mT 540 (by decide +kernel) rfl) (z_mT 519 (by decide +kernel) rfl) (z_mT 520 (by decide +kernel) rfl)
theorem kv_X5_32 : z_kV "Songlinebench$Stories" 32 yX5_placeUpTo = true := z_kV_mk (z_mT 559 (by decide +kernel) rfl) (z_mT 548 (by decide +kernel) rfl) (z_mT 549 (by decide +kernel) rfl)
theorem ks_L_8 : z_kS "SonglinebenchLaw" 8 yL_early = true := z_kS_mk (z_mT 486 (by decide +kernel) rfl) (z_mT 487 (by decide +kernel) rfl)
theorem kv_L_14 : z_kV "SonglinebenchLaw" 14 yX6_claim = true := z_kV_mk (z_mT 632 (by decide +kernel) rfl) (z_mT 633 (by decide +kernel) rfl) (z_mT 634 (by decide +kernel) rfl)
theorem ks_L_20 : z_kS "SonglinebenchLaw" 20 yL_votes = true := z_kS_mk (z_mT 649 (by decide +kernel) rfl) (z_mT 650 (by decide +kernel) rfl)
theorem kv_L_24 : z_kV "SonglinebenchLaw" 24 yX6_register = true := z_kV_mk (z_mT 662 (by decide +kernel) rfl) (z_mT 663 (by decide +kernel) rfl) (z_mT 664 (by decide +kernel) rfl)
theorem kv_L_28 : z_kV "SonglinebenchLaw" 28 yX6_determine = true := z_kV_mk (z_mT 684 (by decide +kernel) rfl) (z_mT 685 (by decide +kernel) rfl) (z_mT 686 (by decide +kernel) rfl)
theorem kv_L_31 : z_kV "SonglinebenchLaw" 31 yX6_revise = true := z_kV_mk (z_mT 693 (by decide +kernel) rfl) (z_mT 694 (by decide +kernel) rfl) (z_mT 695 (by decide +kernel) rfl)
theorem kv_L_34 : z_kV "SonglinebenchLaw" 34 yX6_ofClaim = true := z_kV_mk (z_mT 698 (by decide +kernel) rfl) (z_mT 699 (by decide +kernel) rfl) (z_mT 700 (by decide +kernel) rfl)
theorem kv_L_38 : z_kV "SonglinebenchLaw" 38 yX6_holders = true := z_kV_mk (z_mT 712 (by decide +kernel) rfl) (z_mT 713 (by decide +kernel) rfl) (z_mT 714 (by decide +kernel) rfl)
theorem kv_L_41 : z_kV "SonglinebenchLaw" 41 yX6_may = true := z_kV_mk (z_mT 725 (by decide +kernel) rfl) (z_mT 726 (by decide +kernel) rfl) (z_mT 727 (by decide +kernel) rfl)
theorem kv_L_44 : z_kV "SonglinebenchLaw" 44 yX6_agree = true := z_kV_mk (z_mT 743 (by decide +kernel) rfl) (z_mT 744 (by decide +kernel) rfl) (z_mT 745 (by decide +kernel) rfl)
theorem ks_L_47 : z_kS "SonglinebenchLaw" 47 yL_objects = true := z_kS_mk (z_mT 761 (by decide +kernel) rfl) (z_mT 762 (by decide +kernel) rfl)
theorem kv_L_51 : z_kV "SonglinebenchLaw" 51 yX6_decide = true := z_kV_mk (z_mT 774 (by decide +kernel) rfl) (z_mT 775 (by decide +kernel) rfl) (z_mT 776 (by decide +kernel) rfl)
theorem kv_L_55 : z_kV "SonglinebenchLaw" 55 yX6_proceed = true := z_kV_mk (z_mT 784 (by decide +kernel) rfl) (z_mT 785 (by decide +kernel) rfl) (z_mT 786 (by decide +kernel) rfl)
theorem kv_L_58 : z_kV "SonglinebenchLaw" 58 yX6_ofNotice = true := z_kV_mk (z_mT 803 (by decide +kernel) rfl) (z_mT 804 (by decide +kernel) rfl) (z_mT 805 (by decide +kernel) rfl)
theorem kv_L_61 : z_kV "SonglinebenchLaw" 61 yX6_value = true := z_kV_mk (z_mT 807 (by decide +kernel) rfl) (z_mT 808 (by decide +kernel) rfl) (z_mT 809 (by decide +kernel) rfl)
theorem kv_L_64 : z_kV "SonglinebenchLaw" 64 yX6_pass = true := z_kV_mk (z_mT 813 (by decide +kernel) rfl) (z_mT 814 (by decide +kernel) rfl) (z_mT 815 (by decide +kernel) rfl)
theorem kv_L_74 : z_kV "SonglinebenchLaw" 74 yX6_people = true := z_kV_mk (z_mT 304 (by decide +kernel) rfl) (z_mT 305 (by decide +kernel) rfl) (z_mT 306 (by decide +kernel) rfl)
theorem kv_L_77 : z_kV "SonglinebenchLaw" 77 yX6_person = true := z_kV_mk (z_mT 396 (by decide +kernel) rfl) (z_mT 397 (by decide +kernel) rfl) (z_mT 398 (by decide +kernel) rfl)
theorem kv_L_80 : z_kV "SonglinebenchLaw" 80 yX6_root = true := z_kV_mk (z_mT 430 (by decide +kernel) rfl) (z_mT 431 (by decide +kernel) rfl) (z_mT 432 (by decide +kernel) rfl)
theorem kv_L_84 : z_kV "SonglinebenchLaw" 84 yX6_adopt = true := z_kV_mk (z_mT 489 (by decide +kernel) rfl) (z_mT 490 (by decide +kernel) rfl) (z_mT 491 (by decide +kernel) rfl)
theorem kv_L_87 : z_kV "SonglinebenchLaw" 87 yX6_raise = true := z_kV_mk (z_mT 495 (by decide +kernel) rfl) (z_mT 496 (by decide +kernel) rfl) (z_mT 497 (by decide +kernel) rfl)
theorem kv_L_90 : z_kV "SonglinebenchLaw" 90 yX6_members = true := z_kV_mk (z_mT 500 (by decide +kernel) rfl) (z_mT 501 (by decide +kernel) rfl) (z_mT 502 (by decide +kernel) rfl)
theorem kv_L_93 : z_kV "SonglinebenchLaw" 93 yX6_story = true := z_kV_mk (z_mT 505 (by decide +kernel) rfl) (z_mT 506 (by decide +kernel) rfl) (z_mT 507 (by decide +kernel) rfl)
theorem kv_L_96 : z_kV "SonglinebenchLaw" 96 yX6_part = true := z_kV_mk (z_mT 514 (by decide +kernel) rfl) (z_mT 515 (by decide +kernel) rfl) (z_mT 516 (by decide +kernel) rfl)
theorem kv_L_99 : z_kV "SonglinebenchLaw" 99 yX6_hears = true := z_kV_mk (z_mT 532 (by decide +kernel) rfl) (z_mT 533 (by decide +kernel) rfl) (z_mT 534 (by decide +kernel) rfl)
theorem kv_L_102 : z_kV "SonglinebenchLaw" 102 yX6_told = true := z_kV_mk (z_mT 551 (by decide +kernel) rfl) (z_mT 552 (by decide +kernel) rfl) (z_mT 553 (by decide +kernel) rfl)
theorem kv_L_105 : z_kV "SonglinebenchLaw" 105 yX6_explain = true := z_kV_mk (z_mT 561 (by decide +kernel) rfl) (z_mT 562 (by decide +kernel) rfl) (z_mT 563 (by decide +kernel) rfl)
theorem kv_L_108 : z_kV "SonglinebenchLaw" 108 yX6_isProved = true := z_kV_mk (z_mT 571 (by decide +kernel) rfl) (z_mT 572 (by decide +kernel) rfl) (z_mT 573 (by decide +kernel) rfl)
theorem kv_L_112 : z_kV "SonglinebenchLaw" 112 yX6_voids = true := z_kV_mk (z_mT 588 (by decide +kernel) rfl) (z_mT 589 (by decide +kernel) rfl) (z_mT 590 (by decide +kernel) rfl)
theorem kv_L_116 : z_kV "SonglinebenchLaw" 116 yX6_giveUp = true := z_kV_mk (z_mT 597 (by decide +kernel) rfl) (z_mT 598 (by decide +kernel) rfl) (z_mT 599 (by decide +kernel) rfl)
theorem kv_L_119 : z_kV "SonglinebenchLaw" 119 yX6_left = true := z_kV_mk (z_mT 602 (by decide +kernel) rfl) (z_mT 603 (by decide +kernel) rfl) (z_mT 604 (by decide +kernel) rfl)
theorem kv_L_122 : z_kV "SonglinebenchLaw" 122 yX6_leftAnew = true := z_kV_mk (z_mT 624 (by decide +kernel) rfl) (z_mT 625 (by decide +kernel) rfl) (z_mT 626 (by decide +kernel) rfl)
theorem kv_L_125 : z_kV "SonglinebenchLaw" 125 yX6_vote = true := z_kV_mk (z_mT 652 (by decide +kernel) rfl) (z_mT 653 (by decide +kernel) rfl) (z_mT 654 (by decide +kernel) rfl)
theorem kv_L_129 : z_kV "SonglinebenchLaw" 129 yX6_object = true := z_kV_mk (z_mT 764 (by decide +kernel) rfl) (z_mT 765 (by decide +kernel) rfl) (z_mT 766 (by decide +kernel) rfl)
theorem kv_L_133 : z_kV "SonglinebenchLaw" 133 yX6_act = true := z_kV_mk (z_mT 839 (by decide +kernel) rfl) (z_mT 840 (by decide +kernel) rfl) (z_mT 841 (by decide +kernel) rfl)
theorem kv_L_137 : z_kV "SonglinebenchLaw" 137 yX6_notice = true := z_kV_mk (z_mT 850 (by decide +kernel) rfl) (z_mT 851 (by decide +kernel) rfl) (z_mT 852 (by decide +kernel) rfl)
theorem kv_L_141 : z_kV "SonglinebenchLaw" 141 yX6_mark = true := z_kV_mk (z_mT 823 (by decide +kernel) rfl) (z_mT 824 (by decide +kernel) rfl) (z_mT 825 (by decide +kernel) rfl)
theorem kv_L_145 : z_kV "SonglinebenchLaw" 145 yX6_owed = true := z_kV_mk (z_mT 868 (by decide +kernel) rfl) (z_mT 869 (by decide +kernel) rfl) (z_mT 870 (by decide +kernel) rfl)
theorem kv_L_149 : z_kV "SonglinebenchLaw" 149 yX6_pay = true := z_kV_mk (z_mT 904 (by decide +kernel) rfl) (z_mT 905 (by decide +kernel) rfl) (z_mT 906 (by decide +kernel) rfl)
theorem kv_L_152 : z_kV "SonglinebenchLaw" 152 yX6_paid = true := z_kV_mk (z_mT 913 (by decide +kernel) rfl) (z_mT 914 (by decide +kernel) rfl) (z_mT 915 (by decide +kernel) rfl)
theorem ks_L_157 : z_kS "SonglinebenchLaw" 157 yL_low = true := z_kS_mk (z_mT 469 (by decide +kernel) rfl) (z_mT 470 (by decide +kernel) rfl)
theorem ks_L_161 : z_kS "SonglinebenchLaw" 161 yL_few = true := z_kS_mk (z_mT 477 (by decide +kernel) rfl) (z_mT 478 (by decide +kernel) rfl)
theorem ks_L_164 : z_kS "SonglinebenchLaw" 164 yL_does = true := z_kS_mk (z_mT 480 (by decide +kernel) rfl) (z_mT 481 (by decide +kernel) rfl)
theorem ks_L_167 : z_kS "SonglinebenchLaw" 167 yL_marked = true := z_kS_mk (z_mT 820 (by decide +kernel) rfl) (z_mT 821 (by decide +kernel) rfl)
theorem ks_L_170 : z_kS "SonglinebenchLaw" 170 yL_greater = true := z_kS_mk (z_mT 833 (by decide +kernel) rfl) (z_mT 834 (by decide +kernel) rfl)
theorem ks_L_173 : z_kS "SonglinebenchLaw" 173 yL_acted = true := z_kS_mk (z_mT 836 (by decide +kernel) rfl) (z_mT 837 (by decide +kernel) rfl)
theorem ks_L_179 : z_kS "SonglinebenchLaw" 179 yL_money = true := z_kS_mk (z_mT 865 (by decide +kernel) rfl) (z_mT 866 (by decide +kernel) rfl)
theorem ks_L_183 : z_kS "SonglinebenchLaw" 183 yL_count = true := z_kS_mk (z_mT 924 (by decide +kernel) rfl) (z_mT 925 (by decide +kernel) rfl)
theorem ks_L_187 : z_kS "SonglinebenchLaw" 187 yL_cell = true := z_kS_mk (z_mT 466 (by decide +kernel) rfl) (z_mT 467 (by decide +kernel) rfl)
theorem ks_L_191 : z_kS "SonglinebenchLaw" 191 yL_act = true := z_kS_mk (z_mT 473 (by decide +kernel) rfl) (z_mT 474 (by decide +kernel) rfl)
theorem ks_L_193 : z_kS "SonglinebenchLaw" 193 yL_areAlike = true := z_kS_mk (z_mT 918 (by decide +kernel) rfl) (z_mT 919 (by decide +kernel) rfl)
theorem ks_L_197 : z_kS "SonglinebenchLaw" 197 yL_areRights = true := z_kS_mk (z_mT 921 (by decide +kernel) rfl) (z_mT 922 (by decide +kernel) rfl)
theorem ks_L_201 : z_kS "SonglinebenchLaw" 201 yL_areClaims = true := z_kS_mk (z_mT 927 (by decide +kernel) rfl) (z_mT 928 (by decide +kernel) rfl)
theorem ks_L_204 : z_kS "SonglinebenchLaw" 204 yL_isPaid = true := z_kS_mk (z_mT 930 (by decide +kernel) rfl) (z_mT 931 (by decide +kernel) rfl)
theorem ks_L_207 : z_kS "SonglinebenchLaw" 207 yL_isQuiet = true := z_kS_mk (z_mT 933 (by decide +kernel) rfl) (z_mT 934 (by decide +kernel) rfl)
theorem kn_X0_41 : z_kN "Songlinebench$Acts" 41 yX6_isIn "Songlinebench" = true := z_kN_mk (by decide +kernel) (z_mT 457 (by decide +kernel) rfl)
theorem kn_X1_44 : z_kN "Songlinebench$Claims" 44 yX6_with "Songlinebench" = true := z_kN_mk (by decide +kernel) (z_mT 441 (by decide +kernel) rfl)
theorem kn_X1_48 : z_kN "Songlinebench$Claims" 48 yX6_isIn "Songlinebench" = true := z_kN_mk (by decide +kernel) (z_mT 457 (by decide +kernel) rfl)
theorem kn_X2_52 : z_kN "Songlinebench$Kin" 52 yX6_with "Songlinebench" = true := z_kN_mk (by decide +kernel) (z_mT 441 (by decide +kernel) rfl)
theorem kn_X2_56 : z_kN "Songlinebench$Kin" 56 yX6_isIn "Songlinebench" = true := z_kN_mk (by decide +kernel) (z_mT 457 (by decide +kernel) rfl)
theorem kn_X5_36 : z_kN "Songlinebench$Stories" 36 yX6_with "Songlinebench" = true := z_kN_mk (by decide +kernel) (z_mT 441 (by decide +kernel) rfl)
