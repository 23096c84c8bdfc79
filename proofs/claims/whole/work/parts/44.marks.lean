/-! marks -/
theorem k_isExplained {S T : z_MI} {P Q P' Q' : z_ML} (h : i_2 S T P Q) {w : Int32} (hw : vp_in w 6) (a b : Int32) : f_X7_isExplained T Q' w a b = f_X3_isExplained S P' w a b := by
  obtain ⟨j, hj, rfl⟩ := vp_in_of hw (by decide)
  unfold f_X7_isExplained f_X3_isExplained
  rw [if_neg (nI_pos (by omega)), if_pos (nI_lt hj (by decide)), i_a_explained h]
  have e1 : ∀ k, k < (S 49201 (nI j).toNatClampNeg).toNatClampNeg → l_X3_isExplained_18 S P' (nI j) a b k () = if (fun k => !decide (a < S 51585 ((nI j * nI 8 + nI k).toNatClampNeg)) && !decide (S 53633 ((nI j * nI 8 + nI k).toNatClampNeg) < b)) k = true then .inr true else .inl () := by
    intro k _
    unfold l_X3_isExplained_18
    (repeat' split) <;> simp_all
  rw [k_fxB (f := fun k18 a18 => l_X3_isExplained_18 S P' (nI j) a b k18 a18) e1]
  refine k_foB fun k c hk => ?_
  unfold l_X7_isExplained_9
  rw [i_a_explainFrom h, i_a_explainTo h, Int32.mul_comm (nI 8)]
  (repeat' split) <;> simp_all
def q_mt (w p : Int32) (q : i_mk) : Bool := decide (q.1 = w) && decide (q.2.1 = p)
def q_ok (gap : Int32 → Int32 → Bool) (now : Int32) : Int32 → List i_mk → Bool
  | c, [] => !gap c now
  | c, q :: L => !gap c q.2.2.1 && q_ok gap now q.2.2.1 L
def q_ws (w p : Int32) : List i_mk → Int32
  | [] => nI 0
  | q :: L => (if q_mt w p q = true then q.2.2.2 else nI 0) + q_ws w p L
def q_st (gap : Int32 → Int32 → Bool) (w p : Int32) (q : i_mk) (a : Int32 × Int32) : (Int32 × Int32) ⊕ Bool := if q_mt w p q = true then (if gap a.1 q.2.2.1 = true then .inr false else .inl (q.2.2.1, a.2 + q.2.2.2)) else .inl a
def q_run (gap : Int32 → Int32 → Bool) (w p : Int32) : List i_mk → (Int32 × Int32) → (Int32 × Int32) ⊕ Bool
  | [], a => .inl a
  | q :: L, a => Sum.elim (fun a => q_run gap w p L a) (fun r => .inr r) (q_st gap w p q a)
theorem q_run_s (gap : Int32 → Int32 → Bool) (w p : Int32) (q : i_mk) : ∀ (L : List i_mk) (a : Int32 × Int32), q_run gap w p (L ++ [q]) a = Sum.elim (fun a => q_st gap w p q a) (fun r => .inr r) (q_run gap w p L a)
  | [], a => by
    show Sum.elim (fun a => Sum.inl a) (fun r => .inr r) (q_st gap w p q a) = q_st gap w p q a
    cases q_st gap w p q a <;> rfl
  | q' :: L, a => by
    show Sum.elim (fun a => q_run gap w p (L ++ [q]) a) (fun r => .inr r) (q_st gap w p q' a) = Sum.elim _ _ (Sum.elim (fun a => q_run gap w p L a) (fun r => .inr r) (q_st gap w p q' a))
    cases q_st gap w p q' a with
    | inl b => exact q_run_s gap w p q L b
    | inr r => rfl
theorem q_run_ok (gap : Int32 → Int32 → Bool) (w p now : Int32) : ∀ (L : List i_mk) (a : Int32 × Int32), Sum.elim (fun a => if a.2 < nI 10 then false else if gap a.1 now = true then false else true) (fun r => r) (q_run gap w p L a) = (!decide (a.2 + q_ws w p L < nI 10) && q_ok gap now a.1 (L.filter (q_mt w p)))
  | [], a => by
    show (if a.2 < nI 10 then false else if gap a.1 now = true then false else true) = (!decide (a.2 + nI 0 < nI 10) && !gap a.1 now)
    rw [show a.2 + nI 0 = a.2 from Int32.add_zero _]
    by_cases e : a.2 < nI 10 <;> cases gap a.1 now <;> simp [e]
  | q :: L, a => by
    show Sum.elim _ _ (Sum.elim (fun a => q_run gap w p L a) (fun r => .inr r) (q_st gap w p q a)) = _
    unfold q_st q_ws
    by_cases e : q_mt w p q = true
    · rw [if_pos e, if_pos e, List.filter_cons_of_pos e]
      show _ = (_ && (!gap a.1 q.2.2.1 && q_ok gap now q.2.2.1 (L.filter (q_mt w p))))
      by_cases g : gap a.1 q.2.2.1 = true
      · rw [if_pos g, g]
        simp
      · rw [if_neg g]
        have g' : gap a.1 q.2.2.1 = false := by simpa using g
        rw [g']
        show Sum.elim _ _ (q_run gap w p L (q.2.2.1, a.2 + q.2.2.2)) = _
        rw [q_run_ok gap w p now L, Int32.add_assoc]
        simp
    · rw [if_neg e, if_neg e, List.filter_cons_of_neg (by simpa using e)]
      show Sum.elim _ _ (q_run gap w p L a) = _
      rw [q_run_ok gap w p now L, show nI 0 + q_ws w p L = q_ws w p L from Int32.zero_add _]
theorem q_ws_s (w p : Int32) (q : i_mk) : ∀ L, q_ws w p (L ++ [q]) = q_ws w p L + (if q_mt w p q = true then q.2.2.2 else nI 0)
  | [] => by
    show _ + nI 0 = nI 0 + _
    rw [Int32.add_comm]
  | q' :: L => by
    show _ + q_ws w p (L ++ [q]) = (_ + q_ws w p L) + _
    rw [q_ws_s w p q L, Int32.add_assoc]
theorem q_ws_p {w p : Int32} {L L' : List i_mk} (h : L.Perm L') : q_ws w p L = q_ws w p L' := by
  induction h with
  | nil => rfl
  | cons q _ ih => show _ + _ = _ + _; rw [ih]
  | swap q q' L => show _ + (_ + _) = _ + (_ + _); rw [← Int32.add_assoc, ← Int32.add_assoc, Int32.add_comm (if q_mt w p q' = true then _ else _)]
  | trans _ _ h1 h2 => rw [h1, h2]
def q_c (S : z_MI) (k : Nat) : i_mk := (S 41441 k, S 43489 k, S 45537 k, S 47585 k)
def q_m (T : z_MI) (k : Nat) : i_mk := (T 135649 k, T 137697 k, T 139745 k, T 141793 k)
theorem q_class (S : z_MI) (P : z_ML) (w p now : Int32) (hc : z_le (S 8216 7) 60) : f_X3_prove S P w p now = (!decide (q_ws w p (i_cl S) < nI 10) && q_ok (f_X3_isGap S P w) now (nI 0) ((i_cl S).filter (q_mt w p))) := by
  have e : ∀ n, n ≤ 60 → z_fx (fun k9 a9 => l_X3_prove_9 S P w p now k9 a9) (nI 0, nI 0) n = q_run (f_X3_isGap S P w) w p ((List.range n).map (q_c S)) (nI 0, nI 0) := by
    intro n
    induction n with
    | zero => intro _; rfl
    | succ n ih =>
      intro hn
      rw [List.range_succ, List.map_append, show [n].map (q_c S) = [q_c S n] from rfl, q_run_s, ← ih (by omega)]
      show Sum.elim (fun a => l_X3_prove_9 S P w p now n a) (fun r => .inr r) _ = _
      congr 1
      funext a
      unfold l_X3_prove_9 q_st q_mt q_c
      rw [k_nI (by omega)]
      by_cases e1 : S 41441 n = w <;> by_cases e2 : S 43489 n = p <;> simp [e1, e2]
  unfold f_X3_prove
  rw [e _ (k_cl hc (by decide))]
  have := q_run_ok (f_X3_isGap S P w) w p now (i_cl S) (nI 0, nI 0)
  rw [show (nI 0, nI 0).2 + q_ws w p (i_cl S) = q_ws w p (i_cl S) from Int32.zero_add _] at this
  rw [← this]
  rfl
theorem q_mws (T : z_MI) (Q : z_ML) (w p : Int32) (hc : z_le (T 110648 16) 60) : z_fo (fun k5 a5 => l_X7_proves_5 T Q w p k5 a5) (nI 0) (T 110648 16).toNatClampNeg = q_ws w p (i_ml T) := by
  have e : ∀ n, n ≤ 60 → z_fo (fun k5 a5 => l_X7_proves_5 T Q w p k5 a5) (nI 0) n = q_ws w p ((List.range n).map (q_m T)) := by
    intro n
    induction n with
    | zero => intro _; rfl
    | succ n ih =>
      intro hn
      rw [List.range_succ, List.map_append, show [n].map (q_m T) = [q_m T n] from rfl, q_ws_s, ← ih (by omega)]
      show l_X7_proves_5 T Q w p n _ = _
      unfold l_X7_proves_5 q_mt q_m
      rw [k_nI (by omega)]
      by_cases e1 : T 135649 n = w <;> by_cases e2 : T 137697 n = p <;> simp [e1, e2]
  exact e _ (k_cl hc (by decide))
theorem q_next (T : z_MI) (Q : z_ML) (w p c : Int32) (hc : z_le (T 110648 16) 60) : (f_X7_nextMonth T Q w p c).toInt ≤ (T 110648 1).toInt ∧ (f_X7_nextMonth T Q w p c = T 110648 1 ∨ ∃ q ∈ i_ml T, q_mt w p q = true ∧ q.2.2.1 = f_X7_nextMonth T Q w p c ∧ c.toInt < q.2.2.1.toInt) ∧ ∀ q ∈ i_ml T, q_mt w p q = true → c.toInt < q.2.2.1.toInt → (f_X7_nextMonth T Q w p c).toInt ≤ q.2.2.1.toInt := by
  have e := k_foP (f := fun k9 a9 => l_X7_nextMonth_9 T Q w p c k9 a9) (a := T 110648 1) (n := (T 110648 16).toNatClampNeg)
    (fun n r => r.toInt ≤ (T 110648 1).toInt ∧ (r = T 110648 1 ∨ ∃ k, k < n ∧ q_mt w p (q_m T k) = true ∧ T 139745 k = r ∧ c.toInt < (T 139745 k).toInt) ∧ ∀ k, k < n → q_mt w p (q_m T k) = true → c.toInt < (T 139745 k).toInt → r.toInt ≤ (T 139745 k).toInt)
    ⟨Int.le_refl _, Or.inl rfl, fun k hk => absurd hk (Nat.not_lt_zero k)⟩ (fun n r hn ⟨h1, h2, h3⟩ => by
      have hn60 := k_cl hc (by decide)
      have hsame : (q_mt w p (q_m T n) = true → c.toInt < (T 139745 n).toInt → r.toInt ≤ (T 139745 n).toInt) → r.toInt ≤ (T 110648 1).toInt ∧ (r = T 110648 1 ∨ ∃ k, k < n + 1 ∧ q_mt w p (q_m T k) = true ∧ T 139745 k = r ∧ c.toInt < (T 139745 k).toInt) ∧ ∀ k, k < n + 1 → q_mt w p (q_m T k) = true → c.toInt < (T 139745 k).toInt → r.toInt ≤ (T 139745 k).toInt := by
        intro hq
        refine ⟨h1, h2.imp id (fun ⟨k, a, b⟩ => ⟨k, by omega, b⟩), fun k hk a b => ?_⟩
        by_cases e : k = n
        · subst e; exact hq a b
        · exact h3 k (by omega) a b
      unfold l_X7_nextMonth_9
      rw [k_nI (by omega)]
      split
      · rename_i m1
        split
        · rename_i m2
          have hm : q_mt w p (q_m T n) = true := by unfold q_mt q_m; simp [m1, m2]
          split
          · rename_i m3
            rw [Int32.le_iff_toInt_le] at m3
            exact hsame (fun _ q => by omega)
          · rename_i m3
            rw [Int32.le_iff_toInt_le] at m3
            split
            · rename_i m4
              rw [Int32.le_iff_toInt_le] at m4
              exact hsame (fun _ _ => m4)
            · rename_i m4
              rw [Int32.le_iff_toInt_le] at m4
              refine ⟨by omega, Or.inr ⟨n, by omega, hm, rfl, by omega⟩, fun k hk a b => ?_⟩
              by_cases e : k = n
              · subst e; exact Int.le_refl _
              · have := h3 k (by omega) a b
                omega
        · rename_i m2
          exact hsame (fun q => by unfold q_mt q_m at q; simp [m2] at q)
      · rename_i m1
        exact hsame (fun q => by unfold q_mt q_m at q; simp [m1] at q))
  obtain ⟨h1, h2, h3⟩ := e
  refine ⟨h1, h2.imp id (fun ⟨k, a, b, d, f⟩ => ⟨q_m T k, List.mem_map.mpr ⟨k, List.mem_range.mpr a, rfl⟩, b, d, f⟩), fun q hq a b => ?_⟩
  obtain ⟨k, hk, rfl⟩ := List.mem_map.mp hq
  exact h3 k (List.mem_range.mp hk) a b
theorem q_pv0 (T : z_MI) (Q : z_ML) (w p c : Int32) : ∀ n, m_pv T Q w p n (nI 0) c = nI 0
  | 0 => rfl
  | n + 1 => by
    unfold m_pv
    exact if_pos nI_0
theorem q_pvE (T : z_MI) (Q : z_ML) (w p c : Int32) (h : (T 110648 1).toInt ≤ c.toInt) : ∀ n, m_pv T Q w p n (nI 1) c = nI 1
  | 0 => rfl
  | n + 1 => by
    unfold m_pv
    rw [if_neg (by decide), if_pos (Int32.le_iff_toInt_le.mpr h)]
theorem q_pvS (T : z_MI) (Q : z_ML) (w p c : Int32) (h : ¬ (T 110648 1).toInt ≤ c.toInt) (n : Nat) : m_pv T Q w p (n + 1) (nI 1) c = if f_X7_nextMonth T Q w p c - c ≤ nI 480 ∨ f_X7_isExplained T Q w c (f_X7_nextMonth T Q w p c) = true then m_pv T Q w p n (nI 1) (f_X7_nextMonth T Q w p c) else nI 0 := by
  show (if nI 1 = 0 then _ else if T 110648 1 ≤ c then _ else _) = _
  rw [if_neg (show ¬ nI 1 = 0 by decide), if_neg (fun q => h (Int32.le_iff_toInt_le.mp q))]
  by_cases e1 : f_X7_nextMonth T Q w p c - c ≤ nI 480
  · rw [if_pos e1, if_pos (Or.inl e1)]
  · rw [if_neg e1]
    by_cases e2 : f_X7_isExplained T Q w c (f_X7_nextMonth T Q w p c) = true
    · rw [if_pos e2, if_pos (Or.inr e2)]
    · rw [if_neg e2, if_neg (fun q => q.elim e1 e2), q_pv0]
theorem q_gap0 (S : z_MI) (P : z_ML) (w c : Int32) : f_X3_isGap S P w c c = false := by
  unfold f_X3_isGap
  rw [show c - c = 0 from Int32.sub_self c, if_pos (by decide)]
theorem q_gap {S T : z_MI} {P Q P' Q' : z_ML} (h : i_2 S T P Q) {w : Int32} (hw : vp_in w 6) (a b : Int32) : (!f_X3_isGap S P' w a b) = decide (b - a ≤ nI 480 ∨ f_X7_isExplained T Q' w a b = true) := by
  rw [k_isExplained (P' := P') h hw]
  unfold f_X3_isGap
  by_cases e1 : b - a ≤ nI 480
  · simp [e1]
  · cases e2 : f_X3_isExplained S P' w a b <;> simp [e1]
theorem q_walk {S T : z_MI} {P Q P' Q' : z_ML} (h : i_2 S T P Q) {w p : Int32} (hw : vp_in w 6) : ∀ (L : List i_mk) (n : Nat) (c : Int32), 0 ≤ c.toInt → c.toInt ≤ (T 110648 1).toInt → (T 110648 1).toInt < c.toInt + n → L.Pairwise (fun a b => a.2.2.1.toInt ≤ b.2.2.1.toInt) → (∀ q ∈ L, c.toInt ≤ q.2.2.1.toInt ∧ q.2.2.1.toInt ≤ (T 110648 1).toInt ∧ q ∈ i_ml T ∧ q_mt w p q = true) → (∀ q ∈ i_ml T, q_mt w p q = true → c.toInt < q.2.2.1.toInt → q ∈ L) → z_i2b (m_pv T Q' w p n (nI 1) c) = q_ok (f_X3_isGap S P' w) (T 110648 1) c L
  | [], n, c, h0, h1, hn, _, _, hset => by
    show _ = !f_X3_isGap S P' w c (T 110648 1)
    by_cases e : (T 110648 1).toInt ≤ c.toInt
    · rw [q_pvE T Q' w p c e]
      have : c = T 110648 1 := Int32.toInt_inj.mp (by omega)
      rw [← this, q_gap0]
      rfl
    · obtain ⟨n, rfl⟩ : ∃ k, n = k + 1 := ⟨n - 1, by omega⟩
      obtain ⟨n1, n2, n3⟩ := q_next T Q' w p c (z_J_Mmarks (i_JM h))
      have hx : f_X7_nextMonth T Q' w p c = T 110648 1 := by
        rcases n2 with n2 | ⟨q, a, b, -, d⟩
        · exact n2
        · exact absurd (hset q a b d) List.not_mem_nil
      rw [q_pvS T Q' w p c e, hx, q_gap (T := T) (Q' := Q') h hw]
      by_cases g : T 110648 1 - c ≤ nI 480 ∨ f_X7_isExplained T Q' w c (T 110648 1) = true
      · rw [if_pos g, q_pvE T Q' w p _ (Int.le_refl _), decide_eq_true g]
        rfl
      · rw [if_neg g, decide_eq_false g]
        rfl
  | q :: L, n, c, h0, h1, hn, hp, hL, hset => by
    show _ = (!f_X3_isGap S P' w c q.2.2.1 && q_ok (f_X3_isGap S P' w) (T 110648 1) q.2.2.1 L)
    obtain ⟨g1, g2, g3, g4⟩ := hL q List.mem_cons_self
    obtain ⟨p1, p2⟩ := List.pairwise_cons.mp hp
    by_cases e : q.2.2.1.toInt = c.toInt
    · have e' : q.2.2.1 = c := Int32.toInt_inj.mp e
      rw [e', q_gap0]
      rw [q_walk h hw L n c h0 h1 hn p2 (fun r hr => hL r (List.mem_cons_of_mem _ hr)) (fun r a b d => by
        rcases List.mem_cons.mp (hset r a b d) with rfl | z
        · omega
        · exact z)]
      rfl
    · obtain ⟨n, rfl⟩ : ∃ k, n = k + 1 := ⟨n - 1, by omega⟩
      obtain ⟨n1, n2, n3⟩ := q_next T Q' w p c (z_J_Mmarks (i_JM h))
      have n4 := n3 q g3 g4 (by omega)
      have hx : f_X7_nextMonth T Q' w p c = q.2.2.1 := by
        rcases n2 with n2 | ⟨r, a, b, d, f⟩
        · rw [n2] at n4 ⊢
          exact Int32.toInt_inj.mp (by omega)
        · rw [← d] at n4 ⊢
          rcases List.mem_cons.mp (hset r a b f) with rfl | z
          · rfl
          · have := p1 r z
            exact Int32.toInt_inj.mp (by omega)
      rw [q_pvS T Q' w p c (by omega), hx, q_gap (T := T) (Q' := Q') h hw]
      by_cases g : q.2.2.1 - c ≤ nI 480 ∨ f_X7_isExplained T Q' w c q.2.2.1 = true
      · rw [if_pos g, decide_eq_true g, Bool.true_and]
        refine q_walk h hw L n q.2.2.1 (by omega) g2 (by omega) p2 (fun r hr => ?_) (fun r a b d => ?_)
        · obtain ⟨-, b, d⟩ := hL r (List.mem_cons_of_mem _ hr)
          exact ⟨p1 r hr, b, d⟩
        · rcases List.mem_cons.mp (hset r a b (by omega)) with rfl | z
          · omega
          · exact z
      · rw [if_neg g, decide_eq_false g, Bool.false_and]
        rfl
theorem k_proves {S T : z_MI} {P Q P' Q' : z_ML} (h : i_2 S T P Q) {w : Int32} (hw : vp_in w 6) (p : Int32) : f_X7_proves T Q' w p = f_X3_prove S P' w p (S 2096 8) := by
  obtain ⟨m1, m2, m3⟩ := h.2.2.2.2.2.1
  have hnow := i_c_now h
  rw [q_class S P' w p _ (z_J_marks (i_J h))]
  unfold f_X7_proves p_X7_proves
  rw [q_mws T Q' w p (z_J_Mmarks (i_JM h)), ← q_ws_p m1]
  by_cases e : q_ws w p (i_cl S) < nI 10
  · rw [if_pos e, q_pv0]
    simp [e]
    rfl
  · rw [if_neg e]
    have z0 : (nI 0).toInt = 0 := nI_toInt (by decide)
    obtain ⟨N, hN, hN2⟩ := z_J_Mnow (i_JM h)
    have zN : (T 110648 1).toInt = N := by rw [hN2, nI_toInt (by omega)]
    rw [q_walk (P' := P') (Q' := Q') h hw ((i_cl S).filter (q_mt w p)) 5001 (nI 0) (by omega) (by omega) (by omega) (m2.filter _) (fun q hq => ?_) (fun q a b d => ?_)]
    · rw [hnow]
      simp [e]
    · obtain ⟨a, b⟩ := List.mem_filter.mp hq
      obtain ⟨c1, c2⟩ := m3 q a
      rw [hnow]
      exact ⟨by omega, c2, m1.mem_iff.mp a, b⟩
    · exact List.mem_filter.mpr ⟨m1.mem_iff.mpr a, b⟩
theorem k_provedOf {S T : z_MI} {P Q P' Q' : z_ML} (h : i_2 S T P Q) (c : Int32) : f_X7_provedOf T Q' c = f_X6_provedOf S P' c := by
  unfold f_X7_provedOf f_X6_provedOf
  refine k_fo fun k a hk => ?_
  unfold l_X7_provedOf_4 l_X6_provedOf_4
  have hw : vp_in (S 71777 c.toNatClampNeg) 6 := i_b_claims_people h _
  rw [i_a_claimPlaces h, i_a_claimOf h, k_has S T P' Q' _ (nI_pos (show k < 2 ^ 31 by omega)), k_proves (P' := P') h hw, j_or0, j_w1]
theorem k_provedNN (S : z_MI) (P : z_ML) (c : Int32) : 0 ≤ (f_X6_provedOf S P c).toInt := by
  rw [j_nn]
  unfold f_X6_provedOf
  refine k_foP (fun _ b => bt b 31 = false) (by rw [nI_0, b_0]) (fun k b hk hb => ?_)
  unfold l_X6_provedOf_4
  rw [j_w1]
  have : bt (b ||| nI 1 <<< (nI k &&& 31)) 31 = false := by
    rw [j_set _ (by omega) (by decide), hb]
    simp; omega
  (repeat' split) <;> first | exact this | exact hb

