/-! operations, D -/
theorem q_sh (T : z_MI) {j : Nat} (hj : j + 1 < 2 ^ 31) (k : Nat) : q_c (m_sh T (nI (j + 1))) k = if k = j + 1 then q_c T j else q_c T k := by
  unfold m_sh q_c
  rw [z_dec1, k_nI hj, k_nI (show j < 2 ^ 31 by omega)]
  simp (disch := decide) only [va_up_ne, va_up_self]
  unfold upd
  by_cases e : k = j + 1
  · simp only [if_pos e]
  · simp only [if_neg e]
theorem q_shF (T : z_MI) (x : Int32) (c : Nat) (hc : c ∉ [41441, 43489, 45537, 47585]) : m_sh T x c = T c := by
  simp only [List.mem_cons, List.not_mem_nil, or_false, not_or] at hc
  unfold m_sh
  rw [va_up_ne _ _ hc.2.2.2, va_up_ne _ _ hc.2.2.1, va_up_ne _ _ hc.2.1, va_up_ne _ _ hc.1]
theorem q_fin (x1 x2 x3 x4 : Int32) (T : z_MI) {j : Nat} (hj : j < 2 ^ 31) (k : Nat) : q_c (m_fin x1 x2 x3 x4 T (nI j)) k = if k = j then (x1, x2, x3, x4) else q_c T k := by
  unfold m_fin q_c
  rw [k_nI hj]
  simp (disch := decide) only [va_up_ne, va_up_self]
  unfold upd
  by_cases e : k = j
  · simp only [if_pos e]
  · simp only [if_neg e]
theorem q_finF (x1 x2 x3 x4 : Int32) (T : z_MI) (x : Int32) (c : Nat) (hc : c ∉ [41441, 43489, 45537, 47585, 8216]) : m_fin x1 x2 x3 x4 T x c = T c := by
  simp only [List.mem_cons, List.not_mem_nil, or_false, not_or] at hc
  unfold m_fin
  rw [va_up_ne _ _ hc.2.2.2.2, va_up_ne _ _ hc.2.2.2.1, va_up_ne _ _ hc.2.2.1, va_up_ne _ _ hc.2.1, va_up_ne _ _ hc.1]
theorem q_finC (x1 x2 x3 x4 : Int32) (T : z_MI) (x : Int32) : m_fin x1 x2 x3 x4 T x 8216 = upd (T 8216) 7 (T 8216 7 + nI 1) := by
  unfold m_fin
  rw [va_up_self]
  simp (disch := decide) only [va_up_ne]
theorem q_addF (x1 x2 x3 x4 : Int32) (c : Nat) (hc : 110648 ≤ c) : ∀ (a : Nat) (x5 : Int32) (T : z_MI), l_X3_add x1 x2 x3 x4 a x5 T c = T c := by
  have h1 : c ∉ [41441, 43489, 45537, 47585, 8216] := by simp only [List.mem_cons, List.not_mem_nil, or_false, not_or]; omega
  have h2 : c ∉ [41441, 43489, 45537, 47585] := by simp only [List.mem_cons, List.not_mem_nil, or_false, not_or]; omega
  intro a
  induction a with
  | zero => intro x5 T; exact q_finF _ _ _ _ _ _ c h1
  | succ a ih =>
    intro x5 T
    unfold l_X3_add
    split
    · exact q_finF _ _ _ _ _ _ c h1
    · split
      · exact q_finF _ _ _ _ _ _ c h1
      · rw [ih, q_shF _ _ c h2]
def q_at (S F : z_MI) (x1 x2 x3 x4 : Int32) (n i : Nat) : Prop := i ≤ n ∧ (∀ k, k < i → q_c F k = q_c S k) ∧ q_c F i = (x1, x2, x3, x4) ∧ (∀ k, i ≤ k → k < n → q_c F (k + 1) = q_c S k) ∧ (i = 0 ∨ (S 45537 (i - 1)).toInt ≤ x3.toInt) ∧ (∀ k, i ≤ k → k < n → x3.toInt < (S 45537 k).toInt) ∧ (∀ c, c ∉ [41441, 43489, 45537, 47585, 8216] → F c = S c) ∧ F 8216 = upd (S 8216) 7 (S 8216 7 + nI 1)
theorem q_run4 (S : z_MI) (x1 x2 x3 x4 : Int32) {n : Nat} (hn : n < 60) : ∀ (j : Nat) (T : z_MI), j ≤ n → (∀ k, k < j → q_c T k = q_c S k) → (∀ k, j ≤ k → k < n → q_c T (k + 1) = q_c S k) → (∀ k, j ≤ k → k < n → x3.toInt < (S 45537 k).toInt) → (∀ c, c ∉ [41441, 43489, 45537, 47585] → T c = S c) → ∃ i, q_at S (l_X3_add x1 x2 x3 x4 j (nI j) T) x1 x2 x3 x4 n i := by
  have hfin : ∀ (j : Nat) (T : z_MI), j ≤ n → (∀ k, k < j → q_c T k = q_c S k) → (∀ k, j ≤ k → k < n → q_c T (k + 1) = q_c S k) → (∀ k, j ≤ k → k < n → x3.toInt < (S 45537 k).toInt) → (∀ c, c ∉ [41441, 43489, 45537, 47585] → T c = S c) → (j = 0 ∨ (S 45537 (j - 1)).toInt ≤ x3.toInt) → q_at S (m_fin x1 x2 x3 x4 T (nI j)) x1 x2 x3 x4 n j := by
    intro j T h1 h2 h3 h4 h5 h6
    refine ⟨h1, fun k hk => ?_, ?_, fun k hk hk2 => ?_, h6, h4, fun c hc => ?_, ?_⟩
    · rw [q_fin _ _ _ _ _ (by omega), if_neg (by omega)]; exact h2 k hk
    · rw [q_fin _ _ _ _ _ (by omega), if_pos rfl]
    · rw [q_fin _ _ _ _ _ (by omega), if_neg (by omega)]; exact h3 k hk hk2
    · rw [q_finF _ _ _ _ _ _ c hc]
      refine h5 c (fun q => hc ?_)
      simp only [List.mem_cons, List.not_mem_nil, or_false] at q ⊢
      rcases q with q | q | q | q <;> simp [q]
    · rw [q_finC, h5 8216 (by decide)]
  intro j
  induction j with
  | zero =>
    intro T h1 h2 h3 h4 h5
    exact ⟨0, hfin 0 T h1 h2 h3 h4 h5 (Or.inl rfl)⟩
  | succ j ih =>
    intro T h1 h2 h3 h4 h5
    have hm : T 45537 j = S 45537 j := congrArg (fun q => q.2.2.1) (h2 j (by omega))
    show ∃ i, q_at S (if nI (j + 1) ≤ 0 then m_fin x1 x2 x3 x4 T (nI (j + 1)) else if T 45537 (nI (j + 1) - nI 1).toNatClampNeg ≤ x3 then m_fin x1 x2 x3 x4 T (nI (j + 1)) else l_X3_add x1 x2 x3 x4 j (nI (j + 1) + (-1)) (m_sh T (nI (j + 1)))) x1 x2 x3 x4 n i
    rw [if_neg (nI_nle (by omega) (by omega)), z_dec1, k_nI (by omega), pk_m1, hm]
    by_cases e : S 45537 j ≤ x3
    · rw [if_pos e]
      exact ⟨j + 1, hfin (j + 1) T h1 h2 h3 h4 h5 (Or.inr (Int32.le_iff_toInt_le.mp e))⟩
    · rw [if_neg e]
      refine ih _ (by omega) (fun k hk => ?_) (fun k hk hk2 => ?_) (fun k hk hk2 => ?_) (fun c hc => ?_)
      · rw [q_sh T (by omega), if_neg (by omega)]; exact h2 k (by omega)
      · rw [q_sh T (by omega)]
        by_cases g : k = j
        · subst g
          rw [if_pos rfl]; exact h2 k (by omega)
        · rw [if_neg (by omega)]; exact h3 k (by omega) hk2
      · by_cases g : k = j
        · subst g
          rw [Int32.le_iff_toInt_le] at e
          omega
        · exact h4 k (by omega) hk2
      · rw [q_shF _ _ c hc]; exact h5 c hc
theorem q_perm {α : Type} {f g : Nat → α} {a : α} {i : Nat} : ∀ n, i ≤ n → (∀ k, k < i → f k = g k) → f i = a → (∀ k, i ≤ k → k < n → f (k + 1) = g k) → ((List.range (n + 1)).map f).Perm (a :: (List.range n).map g) := by
  intro n
  induction n with
  | zero =>
    intro h1 h2 h3 h4
    have : i = 0 := by omega
    subst this
    show [f 0].Perm [a]
    rw [h3]
  | succ n ih =>
    intro h1 h2 h3 h4
    rw [List.range_succ, List.map_append]
    by_cases e : i = n + 1
    · subst e
      have e2 : (List.range (n + 1)).map f = (List.range (n + 1)).map g := List.map_congr_left fun k hk => h2 k (List.mem_range.mp hk)
      rw [e2]
      show (_ ++ [f (n + 1)]).Perm _
      rw [h3]
      exact List.perm_append_singleton _ _
    · have h5 := ih (by omega) h2 h3 (fun k hk hk2 => h4 k hk (by omega))
      have e3 : (List.range (n + 1)).map g = (List.range n).map g ++ [g n] := by
        rw [List.range_succ, List.map_append]
        rfl
      show ((List.range (n + 1)).map f ++ [f (n + 1)]).Perm _
      rw [h4 n (by omega) (by omega), e3]
      exact h5.append_right [g n]
theorem q_pw {α : Type} {g : Nat → α} {R : α → α → Prop} : ∀ n, ((List.range n).map g).Pairwise R ↔ ∀ i k, i < k → k < n → R (g i) (g k) := by
  intro n
  rw [List.pairwise_map, List.pairwise_iff_getElem]
  constructor
  · intro h i k hik hk
    have := h i k (by simp; omega) (by simp; omega) hik
    simpa using this
  · intro h i k hi hk hik
    simp at hi hk
    have := h i k hik hk
    simpa using this
theorem s_mark {S T : z_MI} {P Q : z_ML} (h : i_2 S T P Q) {x1 x2 x3 x4 : Int32} (h3 : ¬ x3 < 0) (h4 : ¬ S 2096 8 < x3) (hc : S 8216 7 < nI 60) : i_2 (u_X3_add S P x1 x2 x3 x4) (va_up (va_up (va_up (va_up (va_up (va_up T 110648 (upd (T 110648) 0 (nI 0))) 135649 (upd ((va_up T 110648 (upd (T 110648) 0 (nI 0))) 135649) ((T 110648 16).toNatClampNeg) x1)) 137697 (upd ((va_up (va_up T 110648 (upd (T 110648) 0 (nI 0))) 135649 (upd ((va_up T 110648 (upd (T 110648) 0 (nI 0))) 135649) ((T 110648 16).toNatClampNeg) x1)) 137697) ((T 110648 16).toNatClampNeg) x2)) 139745 (upd ((va_up (va_up (va_up T 110648 (upd (T 110648) 0 (nI 0))) 135649 (upd ((va_up T 110648 (upd (T 110648) 0 (nI 0))) 135649) ((T 110648 16).toNatClampNeg) x1)) 137697 (upd ((va_up (va_up T 110648 (upd (T 110648) 0 (nI 0))) 135649 (upd ((va_up T 110648 (upd (T 110648) 0 (nI 0))) 135649) ((T 110648 16).toNatClampNeg) x1)) 137697) ((T 110648 16).toNatClampNeg) x2)) 139745) ((T 110648 16).toNatClampNeg) x3)) 141793 (upd ((va_up (va_up (va_up (va_up T 110648 (upd (T 110648) 0 (nI 0))) 135649 (upd ((va_up T 110648 (upd (T 110648) 0 (nI 0))) 135649) ((T 110648 16).toNatClampNeg) x1)) 137697 (upd ((va_up (va_up T 110648 (upd (T 110648) 0 (nI 0))) 135649 (upd ((va_up T 110648 (upd (T 110648) 0 (nI 0))) 135649) ((T 110648 16).toNatClampNeg) x1)) 137697) ((T 110648 16).toNatClampNeg) x2)) 139745 (upd ((va_up (va_up (va_up T 110648 (upd (T 110648) 0 (nI 0))) 135649 (upd ((va_up T 110648 (upd (T 110648) 0 (nI 0))) 135649) ((T 110648 16).toNatClampNeg) x1)) 137697 (upd ((va_up (va_up T 110648 (upd (T 110648) 0 (nI 0))) 135649 (upd ((va_up T 110648 (upd (T 110648) 0 (nI 0))) 135649) ((T 110648 16).toNatClampNeg) x1)) 137697) ((T 110648 16).toNatClampNeg) x2)) 139745) ((T 110648 16).toNatClampNeg) x3)) 141793) ((T 110648 16).toNatClampNeg) x4)) 110648 (upd ((va_up (va_up (va_up (va_up (va_up T 110648 (upd (T 110648) 0 (nI 0))) 135649 (upd ((va_up T 110648 (upd (T 110648) 0 (nI 0))) 135649) ((T 110648 16).toNatClampNeg) x1)) 137697 (upd ((va_up (va_up T 110648 (upd (T 110648) 0 (nI 0))) 135649 (upd ((va_up T 110648 (upd (T 110648) 0 (nI 0))) 135649) ((T 110648 16).toNatClampNeg) x1)) 137697) ((T 110648 16).toNatClampNeg) x2)) 139745 (upd ((va_up (va_up (va_up T 110648 (upd (T 110648) 0 (nI 0))) 135649 (upd ((va_up T 110648 (upd (T 110648) 0 (nI 0))) 135649) ((T 110648 16).toNatClampNeg) x1)) 137697 (upd ((va_up (va_up T 110648 (upd (T 110648) 0 (nI 0))) 135649 (upd ((va_up T 110648 (upd (T 110648) 0 (nI 0))) 135649) ((T 110648 16).toNatClampNeg) x1)) 137697) ((T 110648 16).toNatClampNeg) x2)) 139745) ((T 110648 16).toNatClampNeg) x3)) 141793 (upd ((va_up (va_up (va_up (va_up T 110648 (upd (T 110648) 0 (nI 0))) 135649 (upd ((va_up T 110648 (upd (T 110648) 0 (nI 0))) 135649) ((T 110648 16).toNatClampNeg) x1)) 137697 (upd ((va_up (va_up T 110648 (upd (T 110648) 0 (nI 0))) 135649 (upd ((va_up T 110648 (upd (T 110648) 0 (nI 0))) 135649) ((T 110648 16).toNatClampNeg) x1)) 137697) ((T 110648 16).toNatClampNeg) x2)) 139745 (upd ((va_up (va_up (va_up T 110648 (upd (T 110648) 0 (nI 0))) 135649 (upd ((va_up T 110648 (upd (T 110648) 0 (nI 0))) 135649) ((T 110648 16).toNatClampNeg) x1)) 137697 (upd ((va_up (va_up T 110648 (upd (T 110648) 0 (nI 0))) 135649 (upd ((va_up T 110648 (upd (T 110648) 0 (nI 0))) 135649) ((T 110648 16).toNatClampNeg) x1)) 137697) ((T 110648 16).toNatClampNeg) x2)) 139745) ((T 110648 16).toNatClampNeg) x3)) 141793) ((T 110648 16).toNatClampNeg) x4)) 110648) 16 ((T 110648 16) + (nI 1)))) P Q := by
  obtain ⟨n, hn, hn2⟩ : z_le (S 8216 7) 60 := z_J_marks (i_J h)
  have hn60 : n < 60 := by rw [hn2, nI_ltI (by omega) (by decide)] at hc; exact hc
  have hm : T 110648 16 = nI n := (i_c_marks h).trans hn2
  obtain ⟨g1, g2, g3, g4, g5, ⟨m1, m2, m3⟩, g7⟩ := h
  obtain ⟨i, a1, a2, a3, a4, a5, a6, a7, a8⟩ := q_run4 S x1 x2 x3 x4 hn60 n S (Nat.le_refl _) (fun _ _ => rfl) (fun k hk hk2 => absurd hk2 (by omega)) (fun k hk hk2 => absurd hk2 (by omega)) (fun _ _ => rfl)
  have hU : u_X3_add S P x1 x2 x3 x4 = l_X3_add x1 x2 x3 x4 n (nI n) S := by
    unfold u_X3_add
    rw [hn2, k_nI (by omega)]
  rw [hU, hm, k_nI (show n < 2 ^ 31 by omega)]
  generalize l_X3_add x1 x2 x3 x4 n (nI n) S = F at *
  have hn7 : S 8216 7 + nI 1 = nI (n + 1) := by rw [hn2, nI_add]
  have f7 : F 8216 7 = nI (n + 1) := by rw [a8, pk_us, hn7]
  have c3 : 0 ≤ x3.toInt := k_ge0 h3
  have c4 : x3.toInt ≤ (S 2096 8).toInt := by rw [Int32.lt_iff_toInt_lt] at h4; omega
  have i_cl_e : i_cl S = (List.range n).map (q_c S) := by
    unfold i_cl
    rw [hn2, k_nI (by omega)]
    rfl
  have i_cl_f : i_cl F = (List.range (n + 1)).map (q_c F) := by
    unfold i_cl
    rw [f7, k_nI (by omega)]
    rfl
  have hp : (i_cl F).Perm ((x1, x2, x3, x4) :: i_cl S) := by
    rw [i_cl_e, i_cl_f]
    exact q_perm n a1 a2 a3 a4
  have hA : ∀ c, c ∉ [41441, 43489, 45537, 47585, 8216] → F c = S c := a7
  refine ⟨fun q hq => ?_, fun q hq => ?_, fun q hq j => ?_, fun q hq => ?_, ?_, ⟨?_, ?_, ?_⟩, g7⟩
  · obtain ⟨-, -, -, f4, f5⟩ := i_prs_far q hq
    simp only [List.mem_cons, List.not_mem_nil, or_false, not_or] at f4 f5
    obtain ⟨b1, b2, b3, b4, b5, b6⟩ := f4
    obtain ⟨r1, r2, r3, r4, r5⟩ := f5
    rw [hA q.1 (by simp only [List.mem_cons, List.not_mem_nil, or_false, not_or]; exact ⟨b2, b3, b4, b5, b1⟩), va_up_ne _ _ r1, va_up_ne _ _ r5, va_up_ne _ _ r4, va_up_ne _ _ r3, va_up_ne _ _ r2, va_up_ne _ _ r1]
    exact g1 q hq
  · have gq := g2 q hq
    simp only [i_prc, List.mem_cons, List.not_mem_nil, or_false] at hq
    rcases hq with rfl | rfl | rfl | rfl | rfl | rfl | rfl | rfl
    · rw [hA _ (by decide)]; exact gq
    · rw [hA _ (by decide)]; exact gq
    · rw [hA _ (by decide)]; exact gq
    · show F 8216 7 = nI n + nI 1
      rw [f7, nI_add]
    · rw [hA _ (by decide)]; exact gq
    · rw [hA _ (by decide)]; exact gq
    · rw [hA _ (by decide)]; exact gq
    · rw [hA _ (by decide)]; exact gq
  · have hb : ∀ a ∈ i_bl.map (fun r => r.1), a ∉ [41441, 43489, 45537, 47585, 8216] := by decide
    rw [hA q.1 (hb _ (List.mem_map.mpr ⟨q, hq, rfl⟩))]
    exact g3 q hq j
  · have gq := g4 q hq
    simp only [i_nl, List.mem_cons, List.not_mem_nil, or_false] at hq
    rcases hq with rfl | rfl | rfl | rfl | rfl | rfl | rfl | rfl
    · rw [hA _ (by decide)]; exact gq
    · rw [hA _ (by decide)]; exact gq
    · rw [hA _ (by decide)]; exact gq
    · show z_le (F 8216 7) 60
      rw [f7]
      exact ⟨n + 1, by omega, rfl⟩
    · rw [hA _ (by decide)]; exact gq
    · rw [hA _ (by decide)]; exact gq
    · rw [hA _ (by decide)]; exact gq
    · rw [hA _ (by decide)]; exact gq
  · exact i_T_fr g5 (hA _ (by decide)) (by rw [hA _ (by decide)]) (by rw [hA _ (by decide)]) (hA _ (by decide)) (by rw [hA _ (by decide)]) (hA _ (by decide)) (hA _ (by decide)) (by rw [hA _ (by decide)]) (by rw [hA _ (by decide)]) (hA _ (by decide))
  · refine hp.trans ((List.Perm.cons _ m1).trans ?_)
    have e : i_ml T = (List.range n).map (q_m T) := by
      unfold i_ml
      rw [hm, k_nI (by omega)]
      rfl
    rw [e]
    refine List.Perm.trans (List.perm_append_singleton _ _).symm ?_
    unfold i_ml
    rw [show ((va_up (va_up (va_up (va_up (va_up (va_up T 110648 (upd (T 110648) 0 (nI 0))) 135649 (upd ((va_up T 110648 (upd (T 110648) 0 (nI 0))) 135649) (n) x1)) 137697 (upd ((va_up (va_up T 110648 (upd (T 110648) 0 (nI 0))) 135649 (upd ((va_up T 110648 (upd (T 110648) 0 (nI 0))) 135649) (n) x1)) 137697) (n) x2)) 139745 (upd ((va_up (va_up (va_up T 110648 (upd (T 110648) 0 (nI 0))) 135649 (upd ((va_up T 110648 (upd (T 110648) 0 (nI 0))) 135649) (n) x1)) 137697 (upd ((va_up (va_up T 110648 (upd (T 110648) 0 (nI 0))) 135649 (upd ((va_up T 110648 (upd (T 110648) 0 (nI 0))) 135649) (n) x1)) 137697) (n) x2)) 139745) (n) x3)) 141793 (upd ((va_up (va_up (va_up (va_up T 110648 (upd (T 110648) 0 (nI 0))) 135649 (upd ((va_up T 110648 (upd (T 110648) 0 (nI 0))) 135649) (n) x1)) 137697 (upd ((va_up (va_up T 110648 (upd (T 110648) 0 (nI 0))) 135649 (upd ((va_up T 110648 (upd (T 110648) 0 (nI 0))) 135649) (n) x1)) 137697) (n) x2)) 139745 (upd ((va_up (va_up (va_up T 110648 (upd (T 110648) 0 (nI 0))) 135649 (upd ((va_up T 110648 (upd (T 110648) 0 (nI 0))) 135649) (n) x1)) 137697 (upd ((va_up (va_up T 110648 (upd (T 110648) 0 (nI 0))) 135649 (upd ((va_up T 110648 (upd (T 110648) 0 (nI 0))) 135649) (n) x1)) 137697) (n) x2)) 139745) (n) x3)) 141793) (n) x4)) 110648 (upd ((va_up (va_up (va_up (va_up (va_up T 110648 (upd (T 110648) 0 (nI 0))) 135649 (upd ((va_up T 110648 (upd (T 110648) 0 (nI 0))) 135649) (n) x1)) 137697 (upd ((va_up (va_up T 110648 (upd (T 110648) 0 (nI 0))) 135649 (upd ((va_up T 110648 (upd (T 110648) 0 (nI 0))) 135649) (n) x1)) 137697) (n) x2)) 139745 (upd ((va_up (va_up (va_up T 110648 (upd (T 110648) 0 (nI 0))) 135649 (upd ((va_up T 110648 (upd (T 110648) 0 (nI 0))) 135649) (n) x1)) 137697 (upd ((va_up (va_up T 110648 (upd (T 110648) 0 (nI 0))) 135649 (upd ((va_up T 110648 (upd (T 110648) 0 (nI 0))) 135649) (n) x1)) 137697) (n) x2)) 139745) (n) x3)) 141793 (upd ((va_up (va_up (va_up (va_up T 110648 (upd (T 110648) 0 (nI 0))) 135649 (upd ((va_up T 110648 (upd (T 110648) 0 (nI 0))) 135649) (n) x1)) 137697 (upd ((va_up (va_up T 110648 (upd (T 110648) 0 (nI 0))) 135649 (upd ((va_up T 110648 (upd (T 110648) 0 (nI 0))) 135649) (n) x1)) 137697) (n) x2)) 139745 (upd ((va_up (va_up (va_up T 110648 (upd (T 110648) 0 (nI 0))) 135649 (upd ((va_up T 110648 (upd (T 110648) 0 (nI 0))) 135649) (n) x1)) 137697 (upd ((va_up (va_up T 110648 (upd (T 110648) 0 (nI 0))) 135649 (upd ((va_up T 110648 (upd (T 110648) 0 (nI 0))) 135649) (n) x1)) 137697) (n) x2)) 139745) (n) x3)) 141793) (n) x4)) 110648) 16 ((nI n) + (nI 1)))) 110648 16) = nI (n + 1) from nI_add n 1, k_nI (by omega), List.range_succ, List.map_append]
    refine List.Perm.append ?_ ?_
    · refine List.Perm.of_eq (List.map_congr_left fun k hk => ?_)
      have hk' := List.mem_range.mp hk
      simp (disch := decide) only [va_up_ne, va_up_self]
      rw [pk_un (by omega), pk_un (by omega), pk_un (by omega), pk_un (by omega)]
      rfl
    · refine List.Perm.of_eq ?_
      simp (disch := decide) only [va_up_ne, va_up_self, List.map_cons, List.map_nil]
      rw [pk_us, pk_us, pk_us, pk_us]
  · rw [i_cl_f, q_pw]
    rw [i_cl_e, q_pw] at m2
    have below : ∀ k, k < i → (S 45537 k).toInt ≤ x3.toInt := fun k hk => by
      rcases a5 with z | z
      · omega
      · by_cases e : k = i - 1
        · rw [e]; exact z
        · have := m2 k (i - 1) (by omega) (by omega)
          exact Int.le_trans this z
    have hF : ∀ k, (q_c F k).2.2.1 = F 45537 k := fun _ => rfl
    have hS : ∀ k, (q_c S k).2.2.1 = S 45537 k := fun _ => rfl
    intro a b hab hb
    rcases Nat.lt_trichotomy b i with e | e | e
    · rw [a2 a (by omega), a2 b e]
      exact m2 a b hab (by omega)
    · subst e
      rw [a2 a hab, a3]
      exact below a hab
    · obtain ⟨b', rfl⟩ : ∃ b', b = b' + 1 := ⟨b - 1, by omega⟩
      rw [a4 b' (by omega) (by omega)]
      rcases Nat.lt_trichotomy a i with e2 | e2 | e2
      · rw [a2 a e2]
        exact m2 a b' (by omega) (by omega)
      · subst e2
        rw [a3]
        exact Int.le_of_lt (a6 b' (by omega) (by omega))
      · obtain ⟨a', rfl⟩ : ∃ a', a = a' + 1 := ⟨a - 1, by omega⟩
        rw [a4 a' (by omega) (by omega)]
        exact m2 a' b' (by omega) (by omega)
  · intro q hq
    rw [hA 2096 (by decide)]
    rcases List.mem_cons.mp (hp.mem_iff.mp hq) with rfl | z
    · exact ⟨c3, c4⟩
    · exact m3 q z
theorem ok_mark {S T : z_MI} {P Q : z_ML} (h : i_2 S T P Q) (x1 x2 x3 x4 : Int32) : i_G 1 2 3 (e_X6_mark S P x1 x2 x3 x4) S (u_X6_mark S P x1 x2 x3 x4) P Q (u_X7_mark T Q x1 x2 x3 x4) ((f_X6_mark S P x1 x2 x3 x4).toInt64) ((f_X7_mark T Q x1 x2 x3 x4).toInt64) := by
  have m0 : ((f_X7_isPeople T Q x1) = true) ↔ (((f_X2_isPeople S P x1) = true)) := by rw [k_isPeople (P' := P) h]
  have m1 : ((f_X7_isPlace T Q x2) = true) ↔ (((f_X6_isPlace S P x2) = true)) := by rw [k_isPlace S T P Q]
  have m2 : ((f_X7_in T Q x3 (nI 0) (T 110648 1)) = true) ↔ ((¬ (x3 < 0)) ∧ (¬ ((S 2096 8) < x3))) := by rw [i_c_now h]; exact k_in2z
  have m3 : ((f_X7_in T Q x4 (nI 1) (nI 9)) = true) ↔ ((¬ (x4 < (nI 1))) ∧ (x4 ≤ (nI 9))) := by exact k_in1
  have m4 : ((T 110648 16) = (nI 60)) ↔ ((¬ ((S 8216 7) < (nI 60)))) := by rw [i_c_marks h]; exact k_full (z_J_marks (i_J h)) (by decide)
  by_cases c0 : (f_X2_isPeople S P x1) = true
  · skip
    by_cases c1 : (f_X6_isPlace S P x2) = true
    · skip
      by_cases c2 : x3 < 0
      · skip
        have nm0 : (f_X7_isPeople T Q x1) = true := m0.mpr c0
        have nm1 : (f_X7_isPlace T Q x2) = true := m1.mpr c1
        have nm2 : ¬ ((f_X7_in T Q x3 (nI 0) (T 110648 1)) = true) := fun q => ((m2.mp q).1) c2
        have he : e_X6_mark S P x1 x2 x3 x4 = (2) := by
          unfold e_X6_mark
          rw [if_pos c0, if_pos c1, if_pos c2]
        have hV : u_X7_mark T Q x1 x2 x3 x4 = (va_up T 110648 (upd (T 110648) 0 (nI 2))) := by
          unfold u_X7_mark
          rw [if_pos nm0, if_pos nm1, if_neg nm2]
        exact i_Gerr h he hV (by decide) (fun _ _ => rfl)
      · skip
        by_cases c3 : (S 2096 8) < x3
        · skip
          have nm0 : (f_X7_isPeople T Q x1) = true := m0.mpr c0
          have nm1 : (f_X7_isPlace T Q x2) = true := m1.mpr c1
          have nm2 : ¬ ((f_X7_in T Q x3 (nI 0) (T 110648 1)) = true) := fun q => ((m2.mp q).2) c3
          have he : e_X6_mark S P x1 x2 x3 x4 = (2) := by
            unfold e_X6_mark
            rw [if_pos c0, if_pos c1, if_neg c2, if_pos c3]
          have hV : u_X7_mark T Q x1 x2 x3 x4 = (va_up T 110648 (upd (T 110648) 0 (nI 2))) := by
            unfold u_X7_mark
            rw [if_pos nm0, if_pos nm1, if_neg nm2]
          exact i_Gerr h he hV (by decide) (fun _ _ => rfl)
        · skip
          by_cases c4 : x4 < (nI 1)
          · skip
            have nm0 : (f_X7_isPeople T Q x1) = true := m0.mpr c0
            have nm1 : (f_X7_isPlace T Q x2) = true := m1.mpr c1
            have nm2 : (f_X7_in T Q x3 (nI 0) (T 110648 1)) = true := m2.mpr ⟨c2, c3⟩
            have nm3 : ¬ ((f_X7_in T Q x4 (nI 1) (nI 9)) = true) := fun q => ((m3.mp q).1) c4
            have he : e_X6_mark S P x1 x2 x3 x4 = (2) := by
              unfold e_X6_mark
              rw [if_pos c0, if_pos c1, if_neg c2, if_neg c3, if_pos c4]
            have hV : u_X7_mark T Q x1 x2 x3 x4 = (va_up T 110648 (upd (T 110648) 0 (nI 2))) := by
              unfold u_X7_mark
              rw [if_pos nm0, if_pos nm1, if_pos nm2, if_neg nm3]
            exact i_Gerr h he hV (by decide) (fun _ _ => rfl)
          · skip
            by_cases c5 : x4 ≤ (nI 9)
            · skip
              by_cases c6 : (S 8216 7) < (nI 60)
              · skip
                have nm0 : (f_X7_isPeople T Q x1) = true := m0.mpr c0
                have nm1 : (f_X7_isPlace T Q x2) = true := m1.mpr c1
                have nm2 : (f_X7_in T Q x3 (nI 0) (T 110648 1)) = true := m2.mpr ⟨c2, c3⟩
                have nm3 : (f_X7_in T Q x4 (nI 1) (nI 9)) = true := m3.mpr ⟨c4, c5⟩
                have nm4 : ¬ ((T 110648 16) = (nI 60)) := fun q => ((m4.mp q)) c6
                have he : e_X6_mark S P x1 x2 x3 x4 = (0) := by
                  unfold e_X6_mark
                  rw [if_pos c0, if_pos c1, if_neg c2, if_neg c3, if_neg c4, if_pos c5, if_pos c6]
                have hV : u_X7_mark T Q x1 x2 x3 x4 = (va_up (va_up (va_up (va_up (va_up (va_up T 110648 (upd (T 110648) 0 (nI 0))) 135649 (upd ((va_up T 110648 (upd (T 110648) 0 (nI 0))) 135649) ((T 110648 16).toNatClampNeg) x1)) 137697 (upd ((va_up (va_up T 110648 (upd (T 110648) 0 (nI 0))) 135649 (upd ((va_up T 110648 (upd (T 110648) 0 (nI 0))) 135649) ((T 110648 16).toNatClampNeg) x1)) 137697) ((T 110648 16).toNatClampNeg) x2)) 139745 (upd ((va_up (va_up (va_up T 110648 (upd (T 110648) 0 (nI 0))) 135649 (upd ((va_up T 110648 (upd (T 110648) 0 (nI 0))) 135649) ((T 110648 16).toNatClampNeg) x1)) 137697 (upd ((va_up (va_up T 110648 (upd (T 110648) 0 (nI 0))) 135649 (upd ((va_up T 110648 (upd (T 110648) 0 (nI 0))) 135649) ((T 110648 16).toNatClampNeg) x1)) 137697) ((T 110648 16).toNatClampNeg) x2)) 139745) ((T 110648 16).toNatClampNeg) x3)) 141793 (upd ((va_up (va_up (va_up (va_up T 110648 (upd (T 110648) 0 (nI 0))) 135649 (upd ((va_up T 110648 (upd (T 110648) 0 (nI 0))) 135649) ((T 110648 16).toNatClampNeg) x1)) 137697 (upd ((va_up (va_up T 110648 (upd (T 110648) 0 (nI 0))) 135649 (upd ((va_up T 110648 (upd (T 110648) 0 (nI 0))) 135649) ((T 110648 16).toNatClampNeg) x1)) 137697) ((T 110648 16).toNatClampNeg) x2)) 139745 (upd ((va_up (va_up (va_up T 110648 (upd (T 110648) 0 (nI 0))) 135649 (upd ((va_up T 110648 (upd (T 110648) 0 (nI 0))) 135649) ((T 110648 16).toNatClampNeg) x1)) 137697 (upd ((va_up (va_up T 110648 (upd (T 110648) 0 (nI 0))) 135649 (upd ((va_up T 110648 (upd (T 110648) 0 (nI 0))) 135649) ((T 110648 16).toNatClampNeg) x1)) 137697) ((T 110648 16).toNatClampNeg) x2)) 139745) ((T 110648 16).toNatClampNeg) x3)) 141793) ((T 110648 16).toNatClampNeg) x4)) 110648 (upd ((va_up (va_up (va_up (va_up (va_up T 110648 (upd (T 110648) 0 (nI 0))) 135649 (upd ((va_up T 110648 (upd (T 110648) 0 (nI 0))) 135649) ((T 110648 16).toNatClampNeg) x1)) 137697 (upd ((va_up (va_up T 110648 (upd (T 110648) 0 (nI 0))) 135649 (upd ((va_up T 110648 (upd (T 110648) 0 (nI 0))) 135649) ((T 110648 16).toNatClampNeg) x1)) 137697) ((T 110648 16).toNatClampNeg) x2)) 139745 (upd ((va_up (va_up (va_up T 110648 (upd (T 110648) 0 (nI 0))) 135649 (upd ((va_up T 110648 (upd (T 110648) 0 (nI 0))) 135649) ((T 110648 16).toNatClampNeg) x1)) 137697 (upd ((va_up (va_up T 110648 (upd (T 110648) 0 (nI 0))) 135649 (upd ((va_up T 110648 (upd (T 110648) 0 (nI 0))) 135649) ((T 110648 16).toNatClampNeg) x1)) 137697) ((T 110648 16).toNatClampNeg) x2)) 139745) ((T 110648 16).toNatClampNeg) x3)) 141793 (upd ((va_up (va_up (va_up (va_up T 110648 (upd (T 110648) 0 (nI 0))) 135649 (upd ((va_up T 110648 (upd (T 110648) 0 (nI 0))) 135649) ((T 110648 16).toNatClampNeg) x1)) 137697 (upd ((va_up (va_up T 110648 (upd (T 110648) 0 (nI 0))) 135649 (upd ((va_up T 110648 (upd (T 110648) 0 (nI 0))) 135649) ((T 110648 16).toNatClampNeg) x1)) 137697) ((T 110648 16).toNatClampNeg) x2)) 139745 (upd ((va_up (va_up (va_up T 110648 (upd (T 110648) 0 (nI 0))) 135649 (upd ((va_up T 110648 (upd (T 110648) 0 (nI 0))) 135649) ((T 110648 16).toNatClampNeg) x1)) 137697 (upd ((va_up (va_up T 110648 (upd (T 110648) 0 (nI 0))) 135649 (upd ((va_up T 110648 (upd (T 110648) 0 (nI 0))) 135649) ((T 110648 16).toNatClampNeg) x1)) 137697) ((T 110648 16).toNatClampNeg) x2)) 139745) ((T 110648 16).toNatClampNeg) x3)) 141793) ((T 110648 16).toNatClampNeg) x4)) 110648) 16 ((T 110648 16) + (nI 1)))) := by
                  unfold u_X7_mark
                  rw [if_pos nm0, if_pos nm1, if_pos nm2, if_pos nm3, if_neg nm4]
                have hU : u_X6_mark S P x1 x2 x3 x4 = (u_X3_add S P x1 x2 x3 x4) := by
                  unfold u_X6_mark
                  rw [if_pos c0, if_pos c1, if_neg c2, if_neg c3, if_neg c4, if_pos c5, if_pos c6]
                have hf : f_X6_mark S P x1 x2 x3 x4 = (f_X3_add S P x1 x2 x3 x4) := by
                  unfold f_X6_mark
                  rw [if_pos c0, if_pos c1, if_neg c2, if_neg c3, if_neg c4, if_pos c5, if_pos c6]
                have hg : f_X7_mark T Q x1 x2 x3 x4 = ((T 110648 16) + (nI 1)) := by
                  unfold f_X7_mark
                  rw [if_pos nm0, if_pos nm1, if_pos nm2, if_pos nm3, if_neg nm4]
                refine i_Gok he hU hV rfl ?_ ?_
                · rw [hf, hg]
                  show (u_X3_add S P x1 x2 x3 x4 8216 7).toInt64 = _
                  have hs := s_mark (x1 := x1) (x2 := x2) (x4 := x4) h c2 c3 c6
                  have e := i_c_marks hs
                  rw [← e]
                  rfl
                · exact s_mark h c2 c3 c6
              · skip
                have nm0 : (f_X7_isPeople T Q x1) = true := m0.mpr c0
                have nm1 : (f_X7_isPlace T Q x2) = true := m1.mpr c1
                have nm2 : (f_X7_in T Q x3 (nI 0) (T 110648 1)) = true := m2.mpr ⟨c2, c3⟩
                have nm3 : (f_X7_in T Q x4 (nI 1) (nI 9)) = true := m3.mpr ⟨c4, c5⟩
                have nm4 : (T 110648 16) = (nI 60) := m4.mpr c6
                have he : e_X6_mark S P x1 x2 x3 x4 = (3) := by
                  unfold e_X6_mark
                  rw [if_pos c0, if_pos c1, if_neg c2, if_neg c3, if_neg c4, if_pos c5, if_neg c6]
                have hV : u_X7_mark T Q x1 x2 x3 x4 = (va_up T 110648 (upd (T 110648) 0 (nI 3))) := by
                  unfold u_X7_mark
                  rw [if_pos nm0, if_pos nm1, if_pos nm2, if_pos nm3, if_pos nm4]
                exact i_Gerr h he hV (by decide) (fun _ _ => rfl)
            · skip
              have nm0 : (f_X7_isPeople T Q x1) = true := m0.mpr c0
              have nm1 : (f_X7_isPlace T Q x2) = true := m1.mpr c1
              have nm2 : (f_X7_in T Q x3 (nI 0) (T 110648 1)) = true := m2.mpr ⟨c2, c3⟩
              have nm3 : ¬ ((f_X7_in T Q x4 (nI 1) (nI 9)) = true) := fun q => c5 ((m3.mp q).2)
              have he : e_X6_mark S P x1 x2 x3 x4 = (2) := by
                unfold e_X6_mark
                rw [if_pos c0, if_pos c1, if_neg c2, if_neg c3, if_neg c4, if_neg c5]
              have hV : u_X7_mark T Q x1 x2 x3 x4 = (va_up T 110648 (upd (T 110648) 0 (nI 2))) := by
                unfold u_X7_mark
                rw [if_pos nm0, if_pos nm1, if_pos nm2, if_neg nm3]
              exact i_Gerr h he hV (by decide) (fun _ _ => rfl)
    · skip
      by_cases d0 : (f_X7_in T Q x3 (nI 0) (T 110648 1)) = true
      · skip
        by_cases d1 : (f_X7_in T Q x4 (nI 1) (nI 9)) = true
        · skip
          have nm0 : (f_X7_isPeople T Q x1) = true := m0.mpr c0
          have nm1 : ¬ ((f_X7_isPlace T Q x2) = true) := fun q => c1 ((m1.mp q))
          have he : e_X6_mark S P x1 x2 x3 x4 = (1) := by
            unfold e_X6_mark
            rw [if_pos c0, if_neg c1]
          have hV : u_X7_mark T Q x1 x2 x3 x4 = (va_up T 110648 (upd (T 110648) 0 (nI 1))) := by
            unfold u_X7_mark
            rw [if_pos nm0, if_neg nm1, if_pos d0, if_pos d1]
          exact i_Gerr h he hV (by decide) (fun _ _ => rfl)
        · skip
          have nm0 : (f_X7_isPeople T Q x1) = true := m0.mpr c0
          have nm1 : ¬ ((f_X7_isPlace T Q x2) = true) := fun q => c1 ((m1.mp q))
          have he : e_X6_mark S P x1 x2 x3 x4 = (1) := by
            unfold e_X6_mark
            rw [if_pos c0, if_neg c1]
          have hV : u_X7_mark T Q x1 x2 x3 x4 = (va_up T 110648 (upd (T 110648) 0 (nI 1))) := by
            unfold u_X7_mark
            rw [if_pos nm0, if_neg nm1, if_pos d0, if_neg d1]
          exact i_Gerr h he hV (by decide) (fun _ _ => rfl)
      · skip
        have nm0 : (f_X7_isPeople T Q x1) = true := m0.mpr c0
        have nm1 : ¬ ((f_X7_isPlace T Q x2) = true) := fun q => c1 ((m1.mp q))
        have he : e_X6_mark S P x1 x2 x3 x4 = (1) := by
          unfold e_X6_mark
          rw [if_pos c0, if_neg c1]
        have hV : u_X7_mark T Q x1 x2 x3 x4 = (va_up T 110648 (upd (T 110648) 0 (nI 1))) := by
          unfold u_X7_mark
          rw [if_pos nm0, if_neg nm1, if_neg d0]
        exact i_Gerr h he hV (by decide) (fun _ _ => rfl)
  · skip
    by_cases d0 : (f_X7_in T Q x3 (nI 0) (T 110648 1)) = true
    · skip
      by_cases d1 : (f_X7_in T Q x4 (nI 1) (nI 9)) = true
      · skip
        have nm0 : ¬ ((f_X7_isPeople T Q x1) = true) := fun q => c0 ((m0.mp q))
        have he : e_X6_mark S P x1 x2 x3 x4 = (1) := by
          unfold e_X6_mark
          rw [if_neg c0]
        have hV : u_X7_mark T Q x1 x2 x3 x4 = (va_up T 110648 (upd (T 110648) 0 (nI 1))) := by
          unfold u_X7_mark
          rw [if_neg nm0, if_pos d0, if_pos d1]
        exact i_Gerr h he hV (by decide) (fun _ _ => rfl)
      · skip
        have nm0 : ¬ ((f_X7_isPeople T Q x1) = true) := fun q => c0 ((m0.mp q))
        have he : e_X6_mark S P x1 x2 x3 x4 = (1) := by
          unfold e_X6_mark
          rw [if_neg c0]
        have hV : u_X7_mark T Q x1 x2 x3 x4 = (va_up T 110648 (upd (T 110648) 0 (nI 1))) := by
          unfold u_X7_mark
          rw [if_neg nm0, if_pos d0, if_neg d1]
        exact i_Gerr h he hV (by decide) (fun _ _ => rfl)
    · skip
      have nm0 : ¬ ((f_X7_isPeople T Q x1) = true) := fun q => c0 ((m0.mp q))
      have he : e_X6_mark S P x1 x2 x3 x4 = (1) := by
        unfold e_X6_mark
        rw [if_neg c0]
      have hV : u_X7_mark T Q x1 x2 x3 x4 = (va_up T 110648 (upd (T 110648) 0 (nI 1))) := by
        unfold u_X7_mark
        rw [if_neg nm0, if_neg d0]
      exact i_Gerr h he hV (by decide) (fun _ _ => rfl)
theorem w6_mark (S : z_MI) (P : z_ML) (x1 x2 x3 x4 : Int32) (q : Nat) (hq : 110648 ≤ q) : u_X6_mark S P x1 x2 x3 x4 q = S q := by
  unfold u_X6_mark
  (repeat' split) <;> first | rfl | (unfold u_X3_add; exact q_addF _ _ _ _ _ hq _ _ _)
theorem w7_mark (T : z_MI) (Q : z_ML) (x1 x2 x3 x4 : Int32) (q : Nat) (hq : q < 110648) : u_X7_mark T Q x1 x2 x3 x4 q = T q := by
  unfold u_X7_mark
  (repeat' split) <;> first | rfl | (simp (disch := omega) only [va_up_ne]; done)
theorem o_mark {S : z_MI} {P : z_ML} (h0 : i_I S P) (x1 x2 x3 x4 : Int32) : F_mark S P x1 x2 x3 x4 i_I :=
  i_FO h0 (w6_mark S P x1 x2 x3 x4) (fun T Q q hq => w7_mark T Q x1 x2 x3 x4 q hq) (fun T Q h => ok_mark (T := T) (Q := Q) h x1 x2 x3 x4) (by rcases w_L_mark_e S P x1 x2 x3 x4 with e | e | e | e <;> rw [e] <;> decide)
theorem w6_pay (S : z_MI) (P : z_ML) (x1 : Int32) (q : Nat) (hq : 110648 ≤ q) : u_X6_pay S P x1 q = S q := by
  unfold u_X6_pay
  (repeat' split) <;> first | rfl | (simp (disch := omega) only [va_up_ne])
theorem w7_pay (T : z_MI) (Q : z_ML) (x1 : Int32) (q : Nat) (hq : q < 110648) : u_X7_pay T Q x1 q = T q := by
  unfold u_X7_pay
  (repeat' split) <;> first | rfl | (simp (disch := omega) only [va_up_ne])
theorem k_pays {S T : z_MI} {P Q : z_ML} (h : i_2 S T P Q) (x1 : Int32) (A B : z_ML) (hAB : A 18483 = B 116787) : ∀ n, n ≤ 16 → (z_fo (fun k47 a47 => l_X6_pay_47 S A x1 k47 a47) A n) 18483 = (z_fo (fun k47 a47 => l_X7_pay_47 T B x1 k47 a47) B n) 116787 ∧ (∀ c, c ≠ 18483 → (z_fo (fun k47 a47 => l_X6_pay_47 S A x1 k47 a47) A n) c = A c) ∧ (∀ c, c ≠ 116787 → (z_fo (fun k47 a47 => l_X7_pay_47 T B x1 k47 a47) B n) c = B c) := by
  have hT := i_thr (x := nI 0) h
  intro n
  induction n with
  | zero => intro _; exact ⟨hAB, fun _ _ => rfl, fun _ _ => rfl⟩
  | succ n ih =>
    intro hn
    obtain ⟨i1, i2, i3⟩ := ih (by omega)
    show l_X6_pay_47 S A x1 n (z_fo (fun k47 a47 => l_X6_pay_47 S A x1 k47 a47) A n) 18483 = l_X7_pay_47 T B x1 n (z_fo (fun k47 a47 => l_X7_pay_47 T B x1 k47 a47) B n) 116787 ∧ (∀ c, c ≠ 18483 → l_X6_pay_47 S A x1 n (z_fo (fun k47 a47 => l_X6_pay_47 S A x1 k47 a47) A n) c = A c) ∧ (∀ c, c ≠ 116787 → l_X7_pay_47 T B x1 n (z_fo (fun k47 a47 => l_X7_pay_47 T B x1 k47 a47) B n) c = B c)
    generalize z_fo (fun k47 a47 => l_X6_pay_47 S A x1 k47 a47) A n = U at *
    generalize z_fo (fun k47 a47 => l_X7_pay_47 T B x1 k47 a47) B n = V at *
    have hw : ¬ nI n < 0 := nI_pos (by omega)
    unfold l_X6_pay_47 l_X7_pay_47
    rw [k_owedAt U V hT x1 hw, k_holdersOf (P' := U) (Q' := V) hT hw]
    have hnn := k_owedNN U h x1 (nI n)
    have z0 : (lN 0).toInt = 0 := lN_toInt (by decide)
    by_cases e : lg_cmp (f_X6_owedAt S U x1 (nI n)) (lN 0) ≤ 0
    · rw [if_pos e]
      have e2 : f_X6_owedAt S U x1 (nI n) = lN 0 := by
        have e1 := (lg_cmp_le _ _).mp e
        rw [fa_le64, z0] at e1
        exact (fa_eq64 _ _).mpr (by omega)
      rw [e2]
      obtain ⟨s1, s2⟩ := k_share0 S U (f_X1_holdersOf S U (nI n))
      exact ⟨by rw [s1, i1], fun c hc => by rw [s2 c hc, i2 c hc], i3⟩
    · rw [if_neg e]
      have h0 : ¬ f_X1_holdersOf S U (nI n) = 0 := fun q => by
        apply e
        rw [lg_cmp_le]
        unfold f_X6_owedAt
        rw [if_pos q, ite_self]
        exact (fa_le64 _ _).mpr (Int.le_refl _)
      obtain ⟨s1, s2, s3⟩ := k_shares hT U V i1 (f_X6_owedAt S U x1 (nI n)) (k_holdP h U (nI n)) h0
      exact ⟨s1, fun c hc => by rw [s2 c hc, i2 c hc], fun c hc => by rw [s3 c hc, i3 c hc]⟩
theorem o_pay {S : z_MI} {P : z_ML} (h0 : i_I S P) (x1 : Int32) : F_pay S P x1 i_I := by
  unfold F_pay
  have m0 : ∀ Q, (f_X7_isAct S Q x1 = true) ↔ (f_X0_isAct S P x1 = true) := fun Q => by rw [k_isAct (P' := P) h0]
  by_cases c0 : f_X0_isAct S P x1 = true
  · by_cases c1 : lg_cmp (f_X6_owedFor S P x1) (lN 0) = 0
    · have he : e_X6_pay S P x1 = 3 := by
        unfold e_X6_pay
        rw [if_pos c0, if_pos c1]
      rw [he]
      show z_JM S ∧ u_X7_pay S P x1 110648 0 = nI 2 ∧ (nI 2 = 0 → v_X7_pay S P x1 206859 0 = f_X7_pay S P x1) ∧ i_I (u_X7_pay S P x1) (v_X7_pay S P x1)
      have hc : lg_cmp (f_X7_owedFor S P x1) (lN 0) = 0 := by rw [k_owedFor P P h0]; exact c1
      have hu : u_X7_pay S P x1 = va_up S 110648 (upd (S 110648) 0 (nI 2)) := by
        unfold u_X7_pay
        rw [if_pos ((m0 P).mpr c0), if_pos hc]
      have hv : v_X7_pay S P x1 = P := by
        unfold v_X7_pay
        rw [if_pos ((m0 P).mpr c0), if_pos hc]
      rw [hu, hv]
      exact ⟨i_JM h0, i_thr0 _ _, fun q => absurd q (by decide), i_fr (i_thr (x := nI 2) h0) (fun c hc => va_up_ne _ _ (by omega)) (fun _ _ => rfl) (fun _ _ => rfl) rfl rfl⟩
    · have he : e_X6_pay S P x1 = 0 := by
        unfold e_X6_pay
        rw [if_pos c0, if_neg c1]
      rw [he]
      have hu6 : u_X6_pay S P x1 = va_up S 69954 (upd (S 69954) x1.toNatClampNeg (vp_nar .boolean (nI 1))) := by
        unfold u_X6_pay
        rw [if_pos c0, if_neg c1]
      have hv6 : v_X6_pay S P x1 = z_fo (fun k47 a47 => l_X6_pay_47 S P x1 k47 a47) P 16 := by
        unfold v_X6_pay
        rw [if_pos c0, if_neg c1]
      have hf6 : f_X6_pay S P x1 = f_X6_owedFor S P x1 := by
        unfold f_X6_pay
        rw [if_pos c0, if_neg c1]
      show z_JM (u_X6_pay S P x1) ∧ u_X7_pay (u_X6_pay S P x1) (va_up (v_X6_pay S P x1) 206859 (vp_updL ((v_X6_pay S P x1) 206859) 0 (f_X6_pay S P x1))) x1 110648 0 = nI 0 ∧ (nI 0 = 0 → v_X7_pay (u_X6_pay S P x1) (va_up (v_X6_pay S P x1) 206859 (vp_updL ((v_X6_pay S P x1) 206859) 0 (f_X6_pay S P x1))) x1 206859 0 = f_X7_pay (u_X6_pay S P x1) (va_up (v_X6_pay S P x1) 206859 (vp_updL ((v_X6_pay S P x1) 206859) 0 (f_X6_pay S P x1))) x1) ∧ i_I (u_X7_pay (u_X6_pay S P x1) (va_up (v_X6_pay S P x1) 206859 (vp_updL ((v_X6_pay S P x1) 206859) 0 (f_X6_pay S P x1))) x1) (v_X7_pay (u_X6_pay S P x1) (va_up (v_X6_pay S P x1) 206859 (vp_updL ((v_X6_pay S P x1) 206859) 0 (f_X6_pay S P x1))) x1)
      have h1 : i_2 S (u_X6_pay S P x1) P P := i_fr h0 (fun _ _ => rfl) (fun q hq => w6_pay S P x1 q (by omega)) (fun k _ => by rw [w6_pay S P x1 110648 (Nat.le_refl _)]) rfl rfl
      have hP1 : ∀ c, c < 206859 → va_up (v_X6_pay S P x1) 206859 (vp_updL ((v_X6_pay S P x1) 206859) 0 (f_X6_pay S P x1)) c = v_X6_pay S P x1 c := fun c hc => va_up_ne _ _ (by omega)
      have hP2 : va_up (v_X6_pay S P x1) 206859 (vp_updL ((v_X6_pay S P x1) 206859) 0 (f_X6_pay S P x1)) 206859 0 = f_X6_pay S P x1 := by
        rw [va_up_self]
        exact if_pos rfl
      generalize hQ : va_up (v_X6_pay S P x1) 206859 (vp_updL ((v_X6_pay S P x1) 206859) 0 (f_X6_pay S P x1)) = P1 at *
      have hcl : v_X6_pay S P x1 116787 = P 116787 := by
        rw [hv6]
        exact (k_pays h1 x1 P P h1.2.2.2.2.2.2 16 (Nat.le_refl _)).2.1 _ (by decide)
      have hpp : P 18483 = P1 116787 := by rw [hP1 116787 (by decide), hcl]; exact h1.2.2.2.2.2.2
      obtain ⟨p1, -, p3⟩ := k_pays h1 x1 P P1 hpp 16 (Nat.le_refl _)
      have hact : f_X7_isAct (u_X6_pay S P x1) P1 x1 = true := by rw [k_isAct (P' := P) h1]; exact c0
      have how : ∀ T' Q', i_2 S T' P Q' → ∀ Q'', f_X7_owedFor T' Q'' x1 = f_X6_owedFor S P x1 := fun T' Q' hh Q'' => k_owedFor P Q'' hh x1
      have hnc : ¬ lg_cmp (f_X7_owedFor (u_X6_pay S P x1) P1 x1) (lN 0) = 0 := by rw [how _ _ h1]; exact c1
      have hu : u_X7_pay (u_X6_pay S P x1) P1 x1 = va_up (va_up (u_X6_pay S P x1) 110648 (upd ((u_X6_pay S P x1) 110648) 0 (nI 0))) 164162 (upd ((va_up (u_X6_pay S P x1) 110648 (upd ((u_X6_pay S P x1) 110648) 0 (nI 0))) 164162) x1.toNatClampNeg (vp_nar .boolean (nI 1))) := by
        unfold u_X7_pay
        rw [if_pos hact, if_neg hnc]
      have hv : v_X7_pay (u_X6_pay S P x1) P1 x1 = z_fo (fun k47 a47 => l_X7_pay_47 (u_X6_pay S P x1) P1 x1 k47 a47) P1 16 := by
        unfold v_X7_pay
        rw [if_pos hact, if_neg hnc]
      have hf : f_X7_pay (u_X6_pay S P x1) P1 x1 = f_X7_owedFor (va_up (u_X6_pay S P x1) 110648 (upd ((u_X6_pay S P x1) 110648) 0 (nI 0))) P1 x1 := by
        unfold f_X7_pay
        rw [if_pos hact, if_neg hnc]
      have hs : i_2 (u_X6_pay S P x1) (u_X7_pay (u_X6_pay S P x1) P1 x1) P P := by
        rw [hu]
        have h2 := i_thr (x := nI 0) h1
        have h3 := s_pair (a := 69954) (b := 164162) (k := x1.toNatClampNeg) (k' := x1.toNatClampNeg) (x := vp_nar .boolean (nI 1)) (x' := vp_nar .boolean (nI 1)) h2 (by decide) rfl rfl (i_bl_no (by decide)) (i_T_pair h1.2.2.2.2.1 (by decide))
        rw [← hu6] at h3
        exact h3
      refine ⟨i_JM h1, ?_, fun _ => ?_, ?_⟩
      · rw [hu, va_up_ne _ _ (by decide)]
        exact i_thr0 _ _
      · rw [hf, how _ _ (i_thr (x := nI 0) h1), hv, p3 206859 (by decide), hP2, hf6]
      · obtain ⟨s1, s2, s3, s4, s5, s6, -⟩ := hs
        have hl : v_X7_pay (u_X6_pay S P x1) P1 x1 18483 = v_X7_pay (u_X6_pay S P x1) P1 x1 116787 := by
          rw [hv, p3 18483 (by decide), hP1 18483 (by decide), hv6, p1]
        have hfin : i_2 (u_X6_pay S P x1) (u_X7_pay (u_X6_pay S P x1) P1 x1) (v_X7_pay (u_X6_pay S P x1) P1 x1) (v_X7_pay (u_X6_pay S P x1) P1 x1) := ⟨s1, s2, s3, s4, s5, s6, hl⟩
        exact i_fr hfin (fun q hq => w7_pay _ _ _ q hq) (fun _ _ => rfl) (fun _ _ => rfl) rfl rfl
  · have he : e_X6_pay S P x1 = 1 := by
      unfold e_X6_pay
      rw [if_neg c0]
    rw [he]
    show z_JM S ∧ u_X7_pay S P x1 110648 0 = nI 1 ∧ (nI 1 = 0 → v_X7_pay S P x1 206859 0 = f_X7_pay S P x1) ∧ i_I (u_X7_pay S P x1) (v_X7_pay S P x1)
    have hn : ¬ f_X7_isAct S P x1 = true := fun q => c0 ((m0 P).mp q)
    have hu : u_X7_pay S P x1 = va_up S 110648 (upd (S 110648) 0 (nI 1)) := by
      unfold u_X7_pay
      rw [if_neg hn]
    have hv : v_X7_pay S P x1 = P := by
      unfold v_X7_pay
      rw [if_neg hn]
    rw [hu, hv]
    exact ⟨i_JM h0, i_thr0 _ _, fun q => absurd q (by decide), i_fr (i_thr (x := nI 1) h0) (fun c hc => va_up_ne _ _ (by omega)) (fun _ _ => rfl) (fun _ _ => rfl) rfl rfl⟩
