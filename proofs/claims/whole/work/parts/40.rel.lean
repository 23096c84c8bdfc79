/-! the class and the model in one memory: what relates them (i_2 S T P Q: the class in S, P; the model in T, Q) -/
def i_prs : List (Nat × Nat) := [(20529, 112689), (22577, 114737), (24817, 119025), (26865, 121073), (28913, 123121), (30961, 125169), (32849, 127057), (34897, 129105), (37825, 132033), (39873, 134081), (49201, 143409), (51585, 145793), (53633, 147841), (55617, 149825), (57665, 151873), (59713, 153921), (61761, 155969), (63809, 158017), (65857, 162113), (67906, 160066), (69954, 164162), (71777, 165985), (73825, 168033), (75873, 170081), (77921, 172129), (79969, 174177), (82017, 176225), (84065, 178273), (86113, 180321), (88161, 182369), (90209, 184417), (92257, 186465), (94305, 188513), (96353, 190561), (98401, 194657), (100449, 198753), (102497, 200801), (104545, 202849), (106594, 192610), (108642, 196706), (16513, 204929)]
def i_prc : List ((Nat × Nat) × (Nat × Nat)) := [((4112, 6), (110648, 2)), ((4112, 7), (110648, 6)), ((6184, 4), (110648, 11)), ((8216, 7), (110648, 16)), ((10240, 8), (110648, 24)), ((12296, 8), (110648, 33)), ((14368, 11), (110648, 42)), ((2096, 8), (110648, 1))]
def i_bl : List (Nat × (Int32 → Prop)) := [(24817, fun x => -1 ≤ x.toInt), (26865, fun x => -1 ≤ x.toInt), (28913, fun x => -1 ≤ x.toInt), (22577, fun x => 0 ≤ x.toInt), (30961, fun x => z_le x 3), (32849, fun x => vp_in x 6), (34897, fun x => z_le x 12), (37825, fun x => vp_in x 16), (39873, fun x => z_le x 3), (49201, fun x => z_le x 8), (59713, fun x => z_le x 31), (71777, fun x => vp_in x 6), (79969, fun x => 0 ≤ x.toInt), (92257, fun x => z_le x 31), (16513, fun x => z_le x 1000000)]
def i_nl : List ((Nat × Nat) × Nat) := [((4112, 6), 6), ((4112, 7), 30), ((6184, 4), 10), ((8216, 7), 60), ((10240, 8), 40), ((12296, 8), 12), ((14368, 11), 12), ((2096, 8), 5000)]
def i_A (S T : z_MI) : Prop := ∀ q ∈ i_prs, S q.1 = T q.2
def i_C (S T : z_MI) : Prop := ∀ q ∈ i_prc, S q.1.1 q.1.2 = T q.2.1 q.2.2
def i_B (S : z_MI) : Prop := ∀ q ∈ i_bl, ∀ i, q.2 (S q.1 i)
def i_N (S : z_MI) : Prop := ∀ q ∈ i_nl, z_le (S q.1.1 q.1.2) q.2
abbrev i_mk : Type := Int32 × Int32 × Int32 × Int32
def i_cl (S : z_MI) : List i_mk := (List.range (S 8216 7).toNatClampNeg).map (fun k => (S 41441 k, S 43489 k, S 45537 k, S 47585 k))
def i_ml (T : z_MI) : List i_mk := (List.range (T 110648 16).toNatClampNeg).map (fun k => (T 135649 k, T 137697 k, T 139745 k, T 141793 k))
def i_M (S T : z_MI) : Prop := (i_cl S).Perm (i_ml T) ∧ (i_cl S).Pairwise (fun a b => a.2.2.1.toInt ≤ b.2.2.1.toInt) ∧ ∀ q ∈ i_cl S, 0 ≤ q.2.2.1.toInt ∧ q.2.2.1.toInt ≤ (S 2096 8).toInt
def i_T (S : z_MI) : Prop := (∀ i, 0 ≤ (S 55617 i).toInt ∧ (S 55617 i).toInt ≤ (S 2096 8).toInt) ∧ (∀ i : Nat, (S 12296 8).toInt ≤ (i : Int) → S 77921 i = 0) ∧ (∀ i : Nat, (S 14368 11).toInt ≤ (i : Int) → S 98401 i = 0) ∧ (∀ i : Nat, (i : Int) < (S 12296 8).toInt → (S 71777 i).toInt < (S 4112 6).toInt) ∧ (∀ i : Nat, (i : Int) < (S 6184 4).toInt → (S 32849 i).toInt < (S 4112 6).toInt)
def i_2 (S T : z_MI) (P Q : z_ML) : Prop := i_A S T ∧ i_C S T ∧ i_B S ∧ i_N S ∧ i_T S ∧ i_M S T ∧ P 18483 = Q 116787
def i_I (S : z_MI) (P : z_ML) : Prop := i_2 S S P P
/-! frames -/
theorem i_prs_lt : ∀ q ∈ i_prs, q.1 < 110648 ∧ 110648 < q.2 := by decide
theorem i_prc_lt : ∀ q ∈ i_prc, q.1.1 < 110648 ∧ q.2.1 = 110648 ∧ 0 < q.2.2 := by decide
theorem i_bl_lt : ∀ q ∈ i_bl, q.1 < 110648 := by
  intro q hq
  have h : q.1 ∈ i_bl.map (fun q => q.1) := List.mem_map.mpr ⟨q, hq, rfl⟩
  have h2 : ∀ a ∈ i_bl.map (fun q => q.1), a < 110648 := by decide
  exact h2 _ h
theorem i_nl_lt : ∀ q ∈ i_nl, q.1.1 < 110648 := by decide
theorem i_cl_eq {S S' : z_MI} (h : ∀ c, c < 110648 → S' c = S c) : i_cl S' = i_cl S := by
  unfold i_cl
  rw [h 8216 (by decide), h 41441 (by decide), h 43489 (by decide), h 45537 (by decide), h 47585 (by decide)]
theorem i_ml_eq {T T' : z_MI} (h : ∀ c, 110648 < c → T' c = T c) (h0 : ∀ k, 0 < k → T' 110648 k = T 110648 k) : i_ml T' = i_ml T := by
  unfold i_ml
  rw [h0 16 (by decide), h 135649 (by decide), h 137697 (by decide), h 139745 (by decide), h 141793 (by decide)]
theorem i_fr {S S' T T' : z_MI} {P P' Q Q' : z_ML} (h : i_2 S T P Q) (hS : ∀ c, c < 110648 → S' c = S c) (hT : ∀ c, 110648 < c → T' c = T c) (h0 : ∀ k, 0 < k → T' 110648 k = T 110648 k) (hP : P' 18483 = P 18483) (hQ : Q' 116787 = Q 116787) : i_2 S' T' P' Q' := by
  obtain ⟨a, c, b, n, t, m, p⟩ := h
  refine ⟨fun q hq => ?_, fun q hq => ?_, fun q hq => ?_, fun q hq => ?_, ?_, ?_, by rw [hP, hQ, p]⟩
  · rw [hS _ (i_prs_lt q hq).1, hT _ (i_prs_lt q hq).2]; exact a q hq
  · obtain ⟨h1, h2, h3⟩ := i_prc_lt q hq
    have := c q hq
    rw [h2] at this ⊢
    rw [hS _ h1, h0 _ h3]; exact this
  · rw [hS _ (i_bl_lt q hq)]; exact b q hq
  · rw [hS _ (i_nl_lt q hq)]; exact n q hq
  · unfold i_T
    rw [hS 55617 (by decide), hS 2096 (by decide), hS 12296 (by decide), hS 77921 (by decide), hS 14368 (by decide), hS 98401 (by decide), hS 71777 (by decide), hS 4112 (by decide), hS 6184 (by decide), hS 32849 (by decide)]
    exact t
  · unfold i_M
    rw [i_cl_eq hS, i_ml_eq hT h0, hS 2096 (by decide)]
    exact m
theorem i_up0 (T : z_MI) (x : Int32) (k : Nat) (h : 0 < k) : va_up T 110648 (upd (T 110648) 0 x) 110648 k = T 110648 k := by
  rw [va_up_self]
  exact if_neg (by omega)
theorem i_thr {S T : z_MI} {P Q : z_ML} {x : Int32} (h : i_2 S T P Q) : i_2 S (va_up T 110648 (upd (T 110648) 0 x)) P Q :=
  i_fr h (fun _ _ => rfl) (fun c hc => va_up_ne _ _ (by omega)) (i_up0 T x) rfl rfl
theorem i_thr0 (T : z_MI) (x : Int32) : va_up T 110648 (upd (T 110648) 0 x) 110648 0 = x := by
  rw [va_up_self]
  exact if_pos rfl
/-! steps -/
theorem i_A_pair {S T : z_MI} {a b k k' : Nat} {x x' : Int32} (h : i_A S T) (hm : (a, b) ∈ i_prs) (hk : k = k') (hx : x = x') : i_A (va_up S a (upd (S a) k x)) (va_up T b (upd (T b) k' x')) := by
  subst hk; subst hx
  have hu : ∀ q ∈ i_prs, ∀ r ∈ i_prs, q.1 = r.1 ↔ q.2 = r.2 := by decide +kernel
  intro q hq
  by_cases h1 : q.1 = a
  · have h2 : q.2 = b := (hu q hq (a, b) hm).mp h1
    rw [h1, h2, va_up_self, va_up_self, h (a, b) hm]
  · have h2 : q.2 ≠ b := fun e => h1 ((hu q hq (a, b) hm).mpr e)
    rw [va_up_ne _ _ h1, va_up_ne _ _ h2]
    exact h q hq
theorem i_A_l {S T : z_MI} {a : Nat} {f : Nat → Int32} (h : i_A S T) (ha : ∀ q ∈ i_prs, q.1 ≠ a) : i_A (va_up S a f) T := fun q hq => by
  rw [va_up_ne _ _ (ha q hq)]; exact h q hq
theorem i_A_r {S T : z_MI} {b : Nat} {f : Nat → Int32} (h : i_A S T) (hb : ∀ q ∈ i_prs, q.2 ≠ b) : i_A S (va_up T b f) := fun q hq => by
  rw [va_up_ne _ _ (hb q hq)]; exact h q hq
theorem i_C_pair {S T : z_MI} {a b k k' : Nat} {x x' : Int32} (h : i_C S T) (hm : ((a, k), (b, k')) ∈ i_prc) (hx : x = x') : i_C (va_up S a (upd (S a) k x)) (va_up T b (upd (T b) k' x')) := by
  subst hx
  have hu : ∀ q ∈ i_prc, ∀ r ∈ i_prc, (q.1 = r.1 ↔ q.2 = r.2) := by decide +kernel
  intro q hq
  by_cases h1 : q.1 = (a, k)
  · have h2 : q.2 = (b, k') := (hu q hq _ hm).mp h1
    rw [h1, h2, va_up_self, va_up_self]
    show upd _ _ _ _ = upd _ _ _ _
    unfold upd
    rw [if_pos rfl, if_pos rfl]
  · have h2 : q.2 ≠ (b, k') := fun e => h1 ((hu q hq _ hm).mpr e)
    have e1 : va_up S a (upd (S a) k x) q.1.1 q.1.2 = S q.1.1 q.1.2 := by
      by_cases g : q.1.1 = a
      · rw [g, va_up_self]
        exact if_neg (fun e => h1 (Prod.ext g e))
      · rw [va_up_ne _ _ g]
    have e2 : va_up T b (upd (T b) k' x) q.2.1 q.2.2 = T q.2.1 q.2.2 := by
      by_cases g : q.2.1 = b
      · rw [g, va_up_self]
        exact if_neg (fun e => h2 (Prod.ext g e))
      · rw [va_up_ne _ _ g]
    rw [e1, e2]
    exact h q hq
theorem i_C_l {S T : z_MI} {a : Nat} {f : Nat → Int32} (h : i_C S T) (ha : ∀ q ∈ i_prc, q.1.1 ≠ a) : i_C (va_up S a f) T := fun q hq => by
  rw [va_up_ne _ _ (ha q hq)]; exact h q hq
theorem i_C_r {S T : z_MI} {b : Nat} {f : Nat → Int32} (h : i_C S T) (hb : b ≠ 110648) : i_C S (va_up T b f) := fun q hq => by
  rw [va_up_ne _ _ (by rw [(i_prc_lt q hq).2.1]; exact Ne.symm hb)]; exact h q hq
theorem i_C_0 {S T : z_MI} {x : Int32} (h : i_C S T) : i_C S (va_up T 110648 (upd (T 110648) 0 x)) := fun q hq => by
  obtain ⟨h1, h2, h3⟩ := i_prc_lt q hq
  have := h q hq
  rw [h2] at this ⊢
  rw [i_up0 T x _ h3]; exact this
theorem i_B_up {S : z_MI} {a k : Nat} {x : Int32} (h : i_B S) (hx : ∀ q ∈ i_bl, q.1 = a → q.2 x) : i_B (va_up S a (upd (S a) k x)) := fun q hq i => by
  by_cases g : q.1 = a
  · rw [g, va_up_self]
    unfold upd
    by_cases e : i = k
    · rw [if_pos e]; exact hx q hq g
    · rw [if_neg e]
      have := h q hq i
      rw [g] at this
      exact this
  · rw [va_up_ne _ _ g]; exact h q hq i
theorem i_B_fr {S : z_MI} {a : Nat} {f : Nat → Int32} (h : i_B S) (ha : ∀ q ∈ i_bl.map (fun q => q.1), q ≠ a) : i_B (va_up S a f) := fun q hq i => by
  rw [va_up_ne _ _ (ha _ (List.mem_map.mpr ⟨q, hq, rfl⟩))]; exact h q hq i
theorem i_N_up {S : z_MI} {a k : Nat} {x : Int32} (h : i_N S) (hx : ∀ q ∈ i_nl, q.1 = (a, k) → z_le x q.2) : i_N (va_up S a (upd (S a) k x)) := fun q hq => by
  by_cases g : q.1.1 = a
  · rw [g, va_up_self]
    unfold upd
    by_cases e : q.1.2 = k
    · rw [if_pos e]; exact hx q hq (Prod.ext g e)
    · rw [if_neg e]
      have := h q hq
      rw [g] at this
      exact this
  · rw [va_up_ne _ _ g]; exact h q hq
theorem i_N_fr {S : z_MI} {a : Nat} {f : Nat → Int32} (h : i_N S) (ha : ∀ q ∈ i_nl, q.1.1 ≠ a) : i_N (va_up S a f) := fun q hq => by
  rw [va_up_ne _ _ (ha q hq)]; exact h q hq
theorem i_T_fr {S S' : z_MI} (h : i_T S) (h1 : S' 55617 = S 55617) (h2 : S' 2096 8 = S 2096 8) (h3 : S' 12296 8 = S 12296 8) (h4 : S' 77921 = S 77921) (h5 : S' 14368 11 = S 14368 11) (h6 : S' 98401 = S 98401) (h7 : S' 71777 = S 71777) (h8 : S' 4112 6 = S 4112 6) (h9 : S' 6184 4 = S 6184 4) (h10 : S' 32849 = S 32849) : i_T S' := by
  unfold i_T
  rw [h1, h2, h3, h4, h5, h6, h7, h8, h9, h10]
  exact h
theorem i_M_fr {S S' T T' : z_MI} (h : i_M S T) (h1 : S' 8216 7 = S 8216 7) (h2 : S' 41441 = S 41441) (h3 : S' 43489 = S 43489) (h4 : S' 45537 = S 45537) (h5 : S' 47585 = S 47585) (h6 : S' 2096 8 = S 2096 8) (h7 : T' 110648 16 = T 110648 16) (g2 : T' 135649 = T 135649) (g3 : T' 137697 = T 137697) (g4 : T' 139745 = T 139745) (g5 : T' 141793 = T 141793) : i_M S' T' := by
  unfold i_M i_cl i_ml
  rw [h1, h2, h3, h4, h5, h6, h7, g2, g3, g4, g5]
  exact h
theorem i_J {S T : z_MI} {P Q : z_ML} (h : i_2 S T P Q) : z_J S := by
  obtain ⟨-, -, b, n, -⟩ := h
  refine ⟨n ((4112, 6), 6) (by decide), n ((4112, 7), 30) (by decide), n ((6184, 4), 10) (by decide), n ((8216, 7), 60) (by decide), n ((10240, 8), 40) (by decide), n ((12296, 8), 12) (by decide), n ((14368, 11), 12) (by decide), n ((2096, 8), 5000) (by decide), ?_, ?_, ?_, ?_⟩
  · exact b (32849, fun x => vp_in x 6) (by simp [i_bl])
  · exact b (34897, fun x => z_le x 12) (by simp [i_bl])
  · exact b (49201, fun x => z_le x 8) (by simp [i_bl])
  · exact b (71777, fun x => vp_in x 6) (by simp [i_bl])
theorem i_JM {S T : z_MI} {P Q : z_ML} (h : i_2 S T P Q) : z_JM T := by
  obtain ⟨j1, j2, j3, j4, j5, j6, j7, j8, j9, j10, j11, j12⟩ := i_J h
  obtain ⟨a, c, -⟩ := h
  have c1 := c ((4112, 6), (110648, 2)) (by decide)
  have c2 := c ((4112, 7), (110648, 6)) (by decide)
  have c3 := c ((6184, 4), (110648, 11)) (by decide)
  have c4 := c ((8216, 7), (110648, 16)) (by decide)
  have c5 := c ((10240, 8), (110648, 24)) (by decide)
  have c6 := c ((12296, 8), (110648, 33)) (by decide)
  have c7 := c ((14368, 11), (110648, 42)) (by decide)
  have c8 := c ((2096, 8), (110648, 1)) (by decide)
  have a1 := a (32849, 127057) (by decide)
  have a2 := a (34897, 129105) (by decide)
  have a3 := a (49201, 143409) (by decide)
  have a4 := a (71777, 165985) (by decide)
  simp only at c1 c2 c3 c4 c5 c6 c7 c8 a1 a2 a3 a4
  unfold z_JM
  rw [← c1, ← c2, ← c3, ← c4, ← c5, ← c6, ← c7, ← c8, ← a1, ← a2, ← a3, ← a4]
  exact ⟨j1, j2, j3, j4, j5, j6, j7, j8, j9, j10, j11, j12⟩
theorem i_a_rules {S T : z_MI} {P Q : z_ML} (h : i_2 S T P Q) : T 112689 = S 20529 := (h.1 (20529, 112689) (by decide)).symm
theorem i_a_roots {S T : z_MI} {P Q : z_ML} (h : i_2 S T P Q) : T 114737 = S 22577 := (h.1 (22577, 114737) (by decide)).symm
theorem i_a_mothers {S T : z_MI} {P Q : z_ML} (h : i_2 S T P Q) : T 119025 = S 24817 := (h.1 (24817, 119025) (by decide)).symm
theorem i_a_fathers {S T : z_MI} {P Q : z_ML} (h : i_2 S T P Q) : T 121073 = S 26865 := (h.1 (26865, 121073) (by decide)).symm
theorem i_a_adopters {S T : z_MI} {P Q : z_ML} (h : i_2 S T P Q) : T 123121 = S 28913 := (h.1 (28913, 123121) (by decide)).symm
theorem i_a_ranks {S T : z_MI} {P Q : z_ML} (h : i_2 S T P Q) : T 125169 = S 30961 := (h.1 (30961, 125169) (by decide)).symm
theorem i_a_storyOf {S T : z_MI} {P Q : z_ML} (h : i_2 S T P Q) : T 127057 = S 32849 := (h.1 (32849, 127057) (by decide)).symm
theorem i_a_parts {S T : z_MI} {P Q : z_ML} (h : i_2 S T P Q) : T 129105 = S 34897 := (h.1 (34897, 129105) (by decide)).symm
theorem i_a_partPlace {S T : z_MI} {P Q : z_ML} (h : i_2 S T P Q) : T 132033 = S 37825 := (h.1 (37825, 132033) (by decide)).symm
theorem i_a_partLevel {S T : z_MI} {P Q : z_ML} (h : i_2 S T P Q) : T 134081 = S 39873 := (h.1 (39873, 134081) (by decide)).symm
theorem i_a_explained {S T : z_MI} {P Q : z_ML} (h : i_2 S T P Q) : T 143409 = S 49201 := (h.1 (49201, 143409) (by decide)).symm
theorem i_a_explainFrom {S T : z_MI} {P Q : z_ML} (h : i_2 S T P Q) : T 145793 = S 51585 := (h.1 (51585, 145793) (by decide)).symm
theorem i_a_explainTo {S T : z_MI} {P Q : z_ML} (h : i_2 S T P Q) : T 147841 = S 53633 := (h.1 (53633, 147841) (by decide)).symm
theorem i_a_actMonth {S T : z_MI} {P Q : z_ML} (h : i_2 S T P Q) : T 149825 = S 55617 := (h.1 (55617, 149825) (by decide)).symm
theorem i_a_actPlaces {S T : z_MI} {P Q : z_ML} (h : i_2 S T P Q) : T 151873 = S 57665 := (h.1 (57665, 151873) (by decide)).symm
theorem i_a_actRights {S T : z_MI} {P Q : z_ML} (h : i_2 S T P Q) : T 153921 = S 59713 := (h.1 (59713, 153921) (by decide)).symm
theorem i_a_actDoes {S T : z_MI} {P Q : z_ML} (h : i_2 S T P Q) : T 155969 = S 61761 := (h.1 (61761, 155969) (by decide)).symm
theorem i_a_actLast {S T : z_MI} {P Q : z_ML} (h : i_2 S T P Q) : T 158017 = S 63809 := (h.1 (63809, 158017) (by decide)).symm
theorem i_a_gaveUp {S T : z_MI} {P Q : z_ML} (h : i_2 S T P Q) : T 162113 = S 65857 := (h.1 (65857, 162113) (by decide)).symm
theorem i_a_areVoid {S T : z_MI} {P Q : z_ML} (h : i_2 S T P Q) : T 160066 = S 67906 := (h.1 (67906, 160066) (by decide)).symm
theorem i_a_arePaid {S T : z_MI} {P Q : z_ML} (h : i_2 S T P Q) : T 164162 = S 69954 := (h.1 (69954, 164162) (by decide)).symm
theorem i_a_claimOf {S T : z_MI} {P Q : z_ML} (h : i_2 S T P Q) : T 165985 = S 71777 := (h.1 (71777, 165985) (by decide)).symm
theorem i_a_claimPlaces {S T : z_MI} {P Q : z_ML} (h : i_2 S T P Q) : T 168033 = S 73825 := (h.1 (73825, 168033) (by decide)).symm
theorem i_a_claimRights {S T : z_MI} {P Q : z_ML} (h : i_2 S T P Q) : T 170081 = S 75873 := (h.1 (75873, 170081) (by decide)).symm
theorem i_a_claimState {S T : z_MI} {P Q : z_ML} (h : i_2 S T P Q) : T 172129 = S 77921 := (h.1 (77921, 172129) (by decide)).symm
theorem i_a_granted {S T : z_MI} {P Q : z_ML} (h : i_2 S T P Q) : T 174177 = S 79969 := (h.1 (79969, 174177) (by decide)).symm
theorem i_a_registeredIn {S T : z_MI} {P Q : z_ML} (h : i_2 S T P Q) : T 176225 = S 82017 := (h.1 (82017, 176225) (by decide)).symm
theorem i_a_voted {S T : z_MI} {P Q : z_ML} (h : i_2 S T P Q) : T 178273 = S 84065 := (h.1 (84065, 178273) (by decide)).symm
theorem i_a_votedYes {S T : z_MI} {P Q : z_ML} (h : i_2 S T P Q) : T 180321 = S 86113 := (h.1 (86113, 180321) (by decide)).symm
theorem i_a_noticeMonth {S T : z_MI} {P Q : z_ML} (h : i_2 S T P Q) : T 182369 = S 88161 := (h.1 (88161, 182369) (by decide)).symm
theorem i_a_noticePlaces {S T : z_MI} {P Q : z_ML} (h : i_2 S T P Q) : T 184417 = S 90209 := (h.1 (90209, 184417) (by decide)).symm
theorem i_a_noticeRights {S T : z_MI} {P Q : z_ML} (h : i_2 S T P Q) : T 186465 = S 92257 := (h.1 (92257, 186465) (by decide)).symm
theorem i_a_noticeDoes {S T : z_MI} {P Q : z_ML} (h : i_2 S T P Q) : T 188513 = S 94305 := (h.1 (94305, 188513) (by decide)).symm
theorem i_a_noticeLast {S T : z_MI} {P Q : z_ML} (h : i_2 S T P Q) : T 190561 = S 96353 := (h.1 (96353, 190561) (by decide)).symm
theorem i_a_noticeState {S T : z_MI} {P Q : z_ML} (h : i_2 S T P Q) : T 194657 = S 98401 := (h.1 (98401, 194657) (by decide)).symm
theorem i_a_agreed {S T : z_MI} {P Q : z_ML} (h : i_2 S T P Q) : T 198753 = S 100449 := (h.1 (100449, 198753) (by decide)).symm
theorem i_a_objected {S T : z_MI} {P Q : z_ML} (h : i_2 S T P Q) : T 200801 = S 102497 := (h.1 (102497, 200801) (by decide)).symm
theorem i_a_noticeAct {S T : z_MI} {P Q : z_ML} (h : i_2 S T P Q) : T 202849 = S 104545 := (h.1 (104545, 202849) (by decide)).symm
theorem i_a_areQuick {S T : z_MI} {P Q : z_ML} (h : i_2 S T P Q) : T 192610 = S 106594 := (h.1 (106594, 192610) (by decide)).symm
theorem i_a_areAllowed {S T : z_MI} {P Q : z_ML} (h : i_2 S T P Q) : T 196706 = S 108642 := (h.1 (108642, 196706) (by decide)).symm
theorem i_a_values {S T : z_MI} {P Q : z_ML} (h : i_2 S T P Q) : T 204929 = S 16513 := (h.1 (16513, 204929) (by decide)).symm
theorem i_c_peoples {S T : z_MI} {P Q : z_ML} (h : i_2 S T P Q) : T 110648 2 = S 4112 6 := (h.2.1 ((4112, 6), (110648, 2)) (by decide)).symm
theorem i_c_persons {S T : z_MI} {P Q : z_ML} (h : i_2 S T P Q) : T 110648 6 = S 4112 7 := (h.2.1 ((4112, 7), (110648, 6)) (by decide)).symm
theorem i_c_stories {S T : z_MI} {P Q : z_ML} (h : i_2 S T P Q) : T 110648 11 = S 6184 4 := (h.2.1 ((6184, 4), (110648, 11)) (by decide)).symm
theorem i_c_marks {S T : z_MI} {P Q : z_ML} (h : i_2 S T P Q) : T 110648 16 = S 8216 7 := (h.2.1 ((8216, 7), (110648, 16)) (by decide)).symm
theorem i_c_acts {S T : z_MI} {P Q : z_ML} (h : i_2 S T P Q) : T 110648 24 = S 10240 8 := (h.2.1 ((10240, 8), (110648, 24)) (by decide)).symm
theorem i_c_claims {S T : z_MI} {P Q : z_ML} (h : i_2 S T P Q) : T 110648 33 = S 12296 8 := (h.2.1 ((12296, 8), (110648, 33)) (by decide)).symm
theorem i_c_notices {S T : z_MI} {P Q : z_ML} (h : i_2 S T P Q) : T 110648 42 = S 14368 11 := (h.2.1 ((14368, 11), (110648, 42)) (by decide)).symm
theorem i_c_now {S T : z_MI} {P Q : z_ML} (h : i_2 S T P Q) : T 110648 1 = S 2096 8 := (h.2.1 ((2096, 8), (110648, 1)) (by decide)).symm
theorem i_b_kin_mother {S T : z_MI} {P Q : z_ML} (h : i_2 S T P Q) (i : Nat) : (fun x : Int32 => -1 ≤ x.toInt) (S 24817 i) := h.2.2.1 (24817, fun x => -1 ≤ x.toInt) (by simp [i_bl]) i
theorem i_b_kin_father {S T : z_MI} {P Q : z_ML} (h : i_2 S T P Q) (i : Nat) : (fun x : Int32 => -1 ≤ x.toInt) (S 26865 i) := h.2.2.1 (26865, fun x => -1 ≤ x.toInt) (by simp [i_bl]) i
theorem i_b_kin_adopter {S T : z_MI} {P Q : z_ML} (h : i_2 S T P Q) (i : Nat) : (fun x : Int32 => -1 ≤ x.toInt) (S 28913 i) := h.2.2.1 (28913, fun x => -1 ≤ x.toInt) (by simp [i_bl]) i
theorem i_b_kin_roots {S T : z_MI} {P Q : z_ML} (h : i_2 S T P Q) (i : Nat) : (fun x : Int32 => 0 ≤ x.toInt) (S 22577 i) := h.2.2.1 (22577, fun x => 0 ≤ x.toInt) (by simp [i_bl]) i
theorem i_b_kin_rank {S T : z_MI} {P Q : z_ML} (h : i_2 S T P Q) (i : Nat) : (fun x : Int32 => z_le x 3) (S 30961 i) := h.2.2.1 (30961, fun x => z_le x 3) (by simp [i_bl]) i
theorem i_b_stories_people {S T : z_MI} {P Q : z_ML} (h : i_2 S T P Q) (i : Nat) : (fun x : Int32 => vp_in x 6) (S 32849 i) := h.2.2.1 (32849, fun x => vp_in x 6) (by simp [i_bl]) i
theorem i_b_stories_parts {S T : z_MI} {P Q : z_ML} (h : i_2 S T P Q) (i : Nat) : (fun x : Int32 => z_le x 12) (S 34897 i) := h.2.2.1 (34897, fun x => z_le x 12) (by simp [i_bl]) i
theorem i_b_stories_place {S T : z_MI} {P Q : z_ML} (h : i_2 S T P Q) (i : Nat) : (fun x : Int32 => vp_in x 16) (S 37825 i) := h.2.2.1 (37825, fun x => vp_in x 16) (by simp [i_bl]) i
theorem i_b_stories_level {S T : z_MI} {P Q : z_ML} (h : i_2 S T P Q) (i : Nat) : (fun x : Int32 => z_le x 3) (S 39873 i) := h.2.2.1 (39873, fun x => z_le x 3) (by simp [i_bl]) i
theorem i_b_marks_explained {S T : z_MI} {P Q : z_ML} (h : i_2 S T P Q) (i : Nat) : (fun x : Int32 => z_le x 8) (S 49201 i) := h.2.2.1 (49201, fun x => z_le x 8) (by simp [i_bl]) i
theorem i_b_acts_rights {S T : z_MI} {P Q : z_ML} (h : i_2 S T P Q) (i : Nat) : (fun x : Int32 => z_le x 31) (S 59713 i) := h.2.2.1 (59713, fun x => z_le x 31) (by simp [i_bl]) i
theorem i_b_claims_people {S T : z_MI} {P Q : z_ML} (h : i_2 S T P Q) (i : Nat) : (fun x : Int32 => vp_in x 6) (S 71777 i) := h.2.2.1 (71777, fun x => vp_in x 6) (by simp [i_bl]) i
theorem i_b_claims_granted {S T : z_MI} {P Q : z_ML} (h : i_2 S T P Q) (i : Nat) : (fun x : Int32 => 0 ≤ x.toInt) (S 79969 i) := h.2.2.1 (79969, fun x => 0 ≤ x.toInt) (by simp [i_bl]) i
theorem i_b_notices_rights {S T : z_MI} {P Q : z_ML} (h : i_2 S T P Q) (i : Nat) : (fun x : Int32 => z_le x 31) (S 92257 i) := h.2.2.1 (92257, fun x => z_le x 31) (by simp [i_bl]) i
theorem i_b_bench_values {S T : z_MI} {P Q : z_ML} (h : i_2 S T P Q) (i : Nat) : (fun x : Int32 => z_le x 1000000) (S 16513 i) := h.2.2.1 (16513, fun x => z_le x 1000000) (by simp [i_bl]) i
