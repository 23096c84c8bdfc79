/-! each operation: the model goes with the class -/
def i_G (a b c e : Nat) (S Su : z_MI) (P Q : z_ML) (U : z_MI) (out A : Int64) : Prop := U 110648 0 = w_c a b c e ∧ (w_c a b c e = 0 → out = A) ∧ i_2 (w_d e S Su) U P Q
theorem i_Gerr {a b c e n : Nat} {S T Su U : z_MI} {P Q : z_ML} {out A : Int64} (h : i_2 S T P Q) (he : e = n) (hU : U = va_up T 110648 (upd (T 110648) 0 (w_c a b c n))) (h1 : w_c a b c n ≠ 0) (h2 : ∀ x y : z_MI, w_d n x y = x) : i_G a b c e S Su P Q U out A := by
  subst he; subst hU
  refine ⟨i_thr0 _ _, fun q => absurd q h1, ?_⟩
  rw [h2]
  exact i_thr h
theorem i_Gok {a b c e : Nat} {S Su W U V : z_MI} {P Q : z_ML} {out A : Int64} (he : e = 0) (hu : Su = W) (hU : U = V) (hv : V 110648 0 = nI 0) (ho : out = A) (hi : i_2 W V P Q) : i_G a b c e S Su P Q U out A := by
  subst he; subst hu; subst hU
  exact ⟨hv, fun _ => ho, hi⟩
theorem i_w2 {S Su : z_MI} {P P1 : z_ML} {e : Nat} (h0 : i_I S P) (hu : ∀ q, 110648 ≤ q → Su q = S q) (hP : P1 116787 = P 116787) : i_2 S (w_d e S Su) P P1 := by
  have e1 : ∀ q, 110648 ≤ q → w_d e S Su q = S q := fun q hq => by
    unfold w_d
    split
    · exact hu q hq
    · rfl
  exact i_fr h0 (fun _ _ => rfl) (fun q hq => e1 q (by omega)) (fun k _ => by rw [e1 110648 (Nat.le_refl _)]) rfl hP
theorem i_FO {S Su : z_MI} {P : z_ML} {a b c e : Nat} {out : Int64} {UM : z_MI → z_ML → z_MI} {A : z_MI → z_ML → Int64} (h0 : i_I S P) (hu : ∀ q, 110648 ≤ q → Su q = S q) (hm : ∀ T Q q, q < 110648 → UM T Q q = T q) (hok : ∀ T Q, i_2 S T P Q → i_G a b c e S Su P Q (UM T Q) out (A T Q)) (hw : w_c a b c e = 0 → e = 0) :
    z_JM (w_d e S Su) ∧ f_X7_thrown (UM (w_d e S Su) (w_d e P (va_up P 206859 (vp_updL (P 206859) 0 out)))) (w_d e P (va_up P 206859 (vp_updL (P 206859) 0 out))) = w_c a b c e ∧ (w_c a b c e = 0 → (w_d e P (va_up P 206859 (vp_updL (P 206859) 0 out))) 206859 0 = A (w_d e S Su) (w_d e P (va_up P 206859 (vp_updL (P 206859) 0 out)))) ∧ i_I (UM (w_d e S Su) (w_d e P (va_up P 206859 (vp_updL (P 206859) 0 out)))) (w_d e P (va_up P 206859 (vp_updL (P 206859) 0 out))) := by
  have hp : ∀ q, q < 206859 → w_d e P (va_up P 206859 (vp_updL (P 206859) 0 out)) q = P q := fun q hq => by
    unfold w_d
    split
    · exact va_up_ne _ _ (by omega)
    · rfl
  have h1 := i_w2 (P1 := w_d e P (va_up P 206859 (vp_updL (P 206859) 0 out))) (e := e) h0 hu (hp 116787 (by decide))
  obtain ⟨g1, g2, g3⟩ := hok _ _ h1
  refine ⟨i_JM h1, g1, fun q => ?_, ?_⟩
  · rw [← g2 q]
    have e0 := hw q
    rw [e0]
    show va_up P 206859 _ 206859 0 = out
    rw [va_up_self]
    exact if_pos rfl
  · exact i_fr g3 (fun q hq => hm _ _ q hq) (fun _ _ => rfl) (fun _ _ => rfl) (hp 18483 (by decide)) rfl
theorem i_FV {S Su : z_MI} {P : z_ML} {a b c e : Nat} {UM : z_MI → z_ML → z_MI} (h0 : i_I S P) (hu : ∀ q, 110648 ≤ q → Su q = S q) (hm : ∀ T Q q, q < 110648 → UM T Q q = T q) (hok : ∀ T Q, i_2 S T P Q → i_G a b c e S Su P Q (UM T Q) (lN 0) (lN 0)) :
    z_JM (w_d e S Su) ∧ f_X7_thrown (UM (w_d e S Su) (w_d e P P)) (w_d e P P) = w_c a b c e ∧ i_I (UM (w_d e S Su) (w_d e P P)) (w_d e P P) := by
  have hp : w_d e P P = P := by
    unfold w_d
    split <;> rfl
  rw [hp]
  have h1 := i_w2 (P1 := P) (e := e) h0 hu rfl
  obtain ⟨g1, g2, g3⟩ := hok _ _ h1
  exact ⟨i_JM h1, g1, i_fr g3 (fun q hq => hm _ _ q hq) (fun _ _ => rfl) (fun _ _ => rfl) rfl rfl⟩
theorem k_full {x : Int32} {N : Nat} (hx : z_le x N) (hN : N < 2 ^ 31) : x = nI N ↔ ¬ x < nI N := by
  obtain ⟨n, hn, rfl⟩ := hx
  rw [nI_eq (by omega) hN, nI_ltI (by omega) hN]
  omega
theorem k_nle {x b : Int32} : ¬ b < x ↔ x ≤ b := by
  rw [Int32.lt_iff_toInt_lt, Int32.le_iff_toInt_le]
  omega
theorem k_in2 {T : z_MI} {Q : z_ML} {x a b : Int32} : f_X7_in T Q x a b = true ↔ ¬ x < a ∧ ¬ b < x := by
  unfold f_X7_in
  by_cases h1 : x < a <;> by_cases h2 : b < x <;> simp only [h1, h2, if_true, if_false] <;> simp
theorem k_in1 {T : z_MI} {Q : z_ML} {x a b : Int32} : f_X7_in T Q x a b = true ↔ ¬ x < a ∧ x ≤ b := k_in2.trans (and_congr_right fun _ => k_nle)
theorem k_in2z {T : z_MI} {Q : z_ML} {x b : Int32} : f_X7_in T Q x (nI 0) b = true ↔ ¬ x < 0 ∧ ¬ b < x := by
  rw [k_in2, nI_0]
theorem k_in1z {T : z_MI} {Q : z_ML} {x b : Int32} : f_X7_in T Q x (nI 0) b = true ↔ ¬ x < 0 ∧ x ≤ b := by
  rw [k_in1, nI_0]
theorem k_month (S T : z_MI) (P Q : z_ML) (x : Int32) : f_X7_in T Q x (nI 0) (nI 5000) = true ↔ f_X6_isMonth S P x = true := by
  rw [k_in2z]
  unfold f_X6_isMonth
  by_cases h1 : x < 0 <;> by_cases h2 : nI 5000 < x <;> simp only [h1, h2, if_true, if_false] <;> simp
theorem k_pN (S : z_MI) (P : z_ML) (x : Int32) : f_X2_isPersonOrNone S P x = true ↔ (x = -1 ∨ f_X2_isPerson S P x = true) := by
  unfold f_X2_isPersonOrNone
  by_cases h1 : x = -1
  · simp only [h1, if_true, true_or]
  · simp only [h1, if_false, false_or]
    cases f_X2_isPerson S P x <;> simp
theorem k_pred {c : Int32} {n : Nat} (h : z_le c n) (hn : n < 2 ^ 30) : c + nI 1 - nI 1 = c := Int32.add_sub_cancel _ _
theorem k_zle {x : Int32} {n : Nat} (h : z_le x n) (hn : n < 2 ^ 31) (h2 : x < nI n) : z_le (x + nI 1) n := by
  obtain ⟨k, hk, rfl⟩ := h
  rw [nI_ltI (by omega) hn] at h2
  exact ⟨k + 1, h2, nI_add k 1⟩
theorem k_inc {x : Int32} {n : Nat} (h : z_le x n) (hn : n < 2 ^ 31) (h2 : x < nI n) : (x + nI 1).toInt = x.toInt + 1 := by
  obtain ⟨k, hk, rfl⟩ := h
  rw [nI_ltI (by omega) hn] at h2
  rw [nI_add, nI_toInt (by omega), nI_toInt (by omega)]
  omega
theorem i_same {S : z_MI} {a k : Nat} {x : Int32} (h : S a k = x) : va_up S a (upd (S a) k x) = S := by
  funext c
  by_cases e : c = a
  · subst e
    rw [va_up_self, fa_upd_same h]
  · rw [va_up_ne _ _ e]
theorem va_up_comm {S : z_MI} {a b : Nat} {f g : Nat → Int32} (h : a ≠ b) : va_up (va_up S a f) b g = va_up (va_up S b g) a f := by
  funext c
  by_cases e : c = a
  · subst e
    rw [va_up_ne _ _ h, va_up_self, va_up_self]
  · rw [va_up_ne _ f e]
    by_cases e2 : c = b
    · subst e2
      rw [va_up_self, va_up_self]
    · rw [va_up_ne _ _ e2, va_up_ne _ _ e2, va_up_ne _ _ e]
/-! steps of the relation -/
theorem i_prs_far : ∀ q ∈ i_prs, (∀ r ∈ i_prc, r.1.1 ≠ q.1) ∧ q.2 ≠ 110648 ∧ (∀ r ∈ i_nl, r.1.1 ≠ q.1) ∧ q.1 ∉ [8216, 41441, 43489, 45537, 47585, 2096] ∧ q.2 ∉ [110648, 135649, 137697, 139745, 141793] := by decide +kernel
theorem s_pair {S T : z_MI} {P Q : z_ML} {a b k k' : Nat} {x x' : Int32} (h : i_2 S T P Q) (hm : (a, b) ∈ i_prs) (hk : k = k') (hx : x = x') (hB : ∀ q ∈ i_bl, q.1 = a → q.2 x) (hT : i_T (va_up S a (upd (S a) k x))) : i_2 (va_up S a (upd (S a) k x)) (va_up T b (upd (T b) k' x')) P Q := by
  obtain ⟨f1, f2, f3, f4, f5⟩ := i_prs_far _ hm
  simp only [List.mem_cons, List.not_mem_nil, or_false, not_or] at f4 f5
  obtain ⟨g1, g2, g3, g4, g5, g6⟩ := f4
  obtain ⟨r1, r2, r3, r4, r5⟩ := f5
  refine ⟨i_A_pair h.1 hm hk hx, i_C_l (i_C_r h.2.1 f2) f1, i_B_up h.2.2.1 hB, i_N_fr h.2.2.2.1 f3, hT, i_M_fr h.2.2.2.2.2.1 ?_ ?_ ?_ ?_ ?_ ?_ ?_ ?_ ?_ ?_ ?_, h.2.2.2.2.2.2⟩
  · rw [va_up_ne _ _ (Ne.symm g1)]
  · rw [va_up_ne _ _ (Ne.symm g2)]
  · rw [va_up_ne _ _ (Ne.symm g3)]
  · rw [va_up_ne _ _ (Ne.symm g4)]
  · rw [va_up_ne _ _ (Ne.symm g5)]
  · rw [va_up_ne _ _ (Ne.symm g6)]
  · rw [va_up_ne _ _ (Ne.symm r1)]
  · rw [va_up_ne _ _ (Ne.symm r2)]
  · rw [va_up_ne _ _ (Ne.symm r3)]
  · rw [va_up_ne _ _ (Ne.symm r4)]
  · rw [va_up_ne _ _ (Ne.symm r5)]
theorem i_prc_far : ∀ q ∈ i_prc, (∀ r ∈ i_prs, r.1 ≠ q.1.1) ∧ (∀ r ∈ i_prs, r.2 ≠ q.2.1) ∧ q.1.1 ∉ i_bl.map (fun r => r.1) ∧ q.1.1 ∉ [41441, 43489, 45537, 47585] ∧ q.2.1 ∉ [135649, 137697, 139745, 141793] := by decide +kernel
theorem i_prc_q : ∀ q ∈ i_prc, q.1 ≠ (8216, 7) → q.2.2 ≠ 16 := by decide +kernel
theorem s_cnt {S T : z_MI} {P Q : z_ML} {a b k k' : Nat} {x x' : Int32} (h : i_2 S T P Q) (hm : ((a, k), (b, k')) ∈ i_prc) (h1 : (a, k) ≠ (8216, 7)) (h2 : a ≠ 2096) (hx : x = x') (hN : ∀ q ∈ i_nl, q.1 = (a, k) → z_le x q.2) (hT : i_T (va_up S a (upd (S a) k x))) : i_2 (va_up S a (upd (S a) k x)) (va_up T b (upd (T b) k' x')) P Q := by
  obtain ⟨f1, f2, f3, f4, f5⟩ := i_prc_far _ hm
  have f6 := i_prc_q _ hm h1
  simp only [List.mem_cons, List.not_mem_nil, or_false, not_or] at f4 f5
  obtain ⟨g1, g2, g3, g4⟩ := f4
  obtain ⟨r1, r2, r3, r4⟩ := f5
  refine ⟨i_A_l (i_A_r h.1 f2) f1, i_C_pair h.2.1 hm hx, i_B_fr h.2.2.1 (fun q hq e => f3 (by rw [← e]; exact hq)), i_N_up h.2.2.2.1 hN, hT, i_M_fr h.2.2.2.2.2.1 ?_ ?_ ?_ ?_ ?_ ?_ ?_ ?_ ?_ ?_ ?_, h.2.2.2.2.2.2⟩
  · by_cases e : 8216 = a
    · subst e
      rw [va_up_self]
      exact if_neg (fun q => h1 (by rw [← q]))
    · rw [va_up_ne _ _ e]
  · rw [va_up_ne _ _ (Ne.symm g1)]
  · rw [va_up_ne _ _ (Ne.symm g2)]
  · rw [va_up_ne _ _ (Ne.symm g3)]
  · rw [va_up_ne _ _ (Ne.symm g4)]
  · rw [va_up_ne _ _ (Ne.symm h2)]
  · by_cases e : 110648 = b
    · subst e
      rw [va_up_self]
      exact if_neg (Ne.symm f6)
    · rw [va_up_ne _ _ e]
  · rw [va_up_ne _ _ (Ne.symm r1)]
  · rw [va_up_ne _ _ (Ne.symm r2)]
  · rw [va_up_ne _ _ (Ne.symm r3)]
  · rw [va_up_ne _ _ (Ne.symm r4)]
theorem i_T_pair {S : z_MI} {a : Nat} {f : Nat → Int32} (h : i_T S) (ha : a ∉ [55617, 2096, 12296, 77921, 14368, 98401, 71777, 4112, 6184, 32849]) : i_T (va_up S a f) := by
  simp only [List.mem_cons, List.not_mem_nil, or_false, not_or] at ha
  obtain ⟨g1, g2, g3, g4, g5, g6, g7, g8, g9, g10⟩ := ha
  refine i_T_fr h ?_ ?_ ?_ ?_ ?_ ?_ ?_ ?_ ?_ ?_
  · rw [va_up_ne _ _ (Ne.symm g1)]
  · rw [va_up_ne _ _ (Ne.symm g2)]
  · rw [va_up_ne _ _ (Ne.symm g3)]
  · rw [va_up_ne _ _ (Ne.symm g4)]
  · rw [va_up_ne _ _ (Ne.symm g5)]
  · rw [va_up_ne _ _ (Ne.symm g6)]
  · rw [va_up_ne _ _ (Ne.symm g7)]
  · rw [va_up_ne _ _ (Ne.symm g8)]
  · rw [va_up_ne _ _ (Ne.symm g9)]
  · rw [va_up_ne _ _ (Ne.symm g10)]
theorem i_bl_no {a : Nat} {x : Int32} (h : a ∉ i_bl.map (fun q => q.1)) : ∀ q ∈ i_bl, q.1 = a → q.2 x := fun q hq e => absurd (List.mem_map.mpr ⟨q, hq, e⟩) h
theorem i_updc {S : z_MI} {a k : Nat} {x : Int32} {i : Nat} : (i = k ∧ upd (S a) k x i = x) ∨ (i ≠ k ∧ upd (S a) k x i = S a i) := by
  unfold upd
  by_cases e : i = k
  · exact Or.inl ⟨e, if_pos e⟩
  · exact Or.inr ⟨e, if_neg e⟩
theorem k_clI {c : Int32} {N : Nat} (h : z_le c N) (hN : N < 2 ^ 31) : (c.toNatClampNeg : Int) = c.toInt := by
  obtain ⟨n, hn, rfl⟩ := h
  rw [nI_clamp (by omega), nI_toInt (by omega)]
/-- peoples grow -/
theorem i_T_peoples {S : z_MI} {x : Int32} (h : i_T S) (hx : x = S 4112 6 + nI 1) (hN : z_le (S 4112 6) 6) (hc : S 4112 6 < nI 6) : i_T (va_up S 4112 (upd (S 4112) 6 x)) := by
  obtain ⟨t1, t2, t3, t4, t5⟩ := h
  have e : (va_up S 4112 (upd (S 4112) 6 x) 4112 6).toInt = (S 4112 6).toInt + 1 := by
    rw [va_up_self, pk_us, hx, k_inc hN (by decide) hc]
  have r : ∀ c, c ≠ 4112 → va_up S 4112 (upd (S 4112) 6 x) c = S c := fun c hc => va_up_ne _ _ hc
  unfold i_T
  rw [r 55617 (by decide), r 2096 (by decide), r 12296 (by decide), r 77921 (by decide), r 14368 (by decide), r 98401 (by decide), r 71777 (by decide), r 6184 (by decide), r 32849 (by decide), e]
  exact ⟨t1, t2, t3, fun i hi => by have := t4 i hi; omega, fun i hi => by have := t5 i hi; omega⟩
theorem i_T_other {S : z_MI} {k : Nat} {x : Int32} (h : i_T S) (hk : k ≠ 6) : i_T (va_up S 4112 (upd (S 4112) k x)) := by
  refine i_T_fr h rfl rfl rfl rfl rfl rfl rfl ?_ rfl rfl
  rw [va_up_self]
  exact if_neg (Ne.symm hk)
/-- a story's people, then the count -/
theorem i_T_stp {S : z_MI} {k : Nat} {x : Int32} (h : i_T S) (hk : (S 6184 4).toInt ≤ (k : Int)) : i_T (va_up S 32849 (upd (S 32849) k x)) := by
  obtain ⟨t1, t2, t3, t4, t5⟩ := h
  refine ⟨t1, t2, t3, t4, fun i hi => ?_⟩
  have hi' : (i : Int) < (S 6184 4).toInt := hi
  show (upd (S 32849) k x i).toInt < (S 4112 6).toInt
  rw [pk_un (by omega)]
  exact t5 i hi'
theorem i_T_stc {S : z_MI} {x : Int32} (h : i_T S) (hx : x = S 6184 4 + nI 1) (hN : z_le (S 6184 4) 10) (hc : S 6184 4 < nI 10) (hp : (S 32849 (S 6184 4).toNatClampNeg).toInt < (S 4112 6).toInt) : i_T (va_up S 6184 (upd (S 6184) 4 x)) := by
  obtain ⟨t1, t2, t3, t4, t5⟩ := h
  refine ⟨t1, t2, t3, t4, fun i hi => ?_⟩
  have e : (va_up S 6184 (upd (S 6184) 4 x) 6184 4).toInt = (S 6184 4).toInt + 1 := by
    rw [va_up_self, pk_us, hx, k_inc hN (by decide) hc]
  rw [e] at hi
  show (S 32849 i).toInt < (S 4112 6).toInt
  by_cases q : i = (S 6184 4).toNatClampNeg
  · rw [q]; exact hp
  · have := k_clI hN (by decide)
    exact t5 i (by omega)
/-- a claim's people, its state, then the count -/
theorem i_T_clp {S : z_MI} {k : Nat} {x : Int32} (h : i_T S) (hk : (S 12296 8).toInt ≤ (k : Int)) : i_T (va_up S 71777 (upd (S 71777) k x)) := by
  obtain ⟨t1, t2, t3, t4, t5⟩ := h
  refine ⟨t1, t2, t3, fun i hi => ?_, t5⟩
  have hi' : (i : Int) < (S 12296 8).toInt := hi
  show (upd (S 71777) k x i).toInt < (S 4112 6).toInt
  rw [pk_un (by omega)]
  exact t4 i hi'
theorem i_T_cls {S : z_MI} {k : Nat} {x : Int32} (h : i_T S) (hk : (k : Int) < (S 12296 8).toInt) : i_T (va_up S 77921 (upd (S 77921) k x)) := by
  obtain ⟨t1, t2, t3, t4, t5⟩ := h
  refine ⟨t1, fun i hi => ?_, t3, t4, t5⟩
  have hi' : (S 12296 8).toInt ≤ (i : Int) := hi
  show upd (S 77921) k x i = 0
  rw [pk_un (by omega)]
  exact t2 i hi'
theorem i_T_clc {S : z_MI} {x : Int32} (h : i_T S) (hx : x = S 12296 8 + nI 1) (hN : z_le (S 12296 8) 12) (hc : S 12296 8 < nI 12) (hp : (S 71777 (S 12296 8).toNatClampNeg).toInt < (S 4112 6).toInt) : i_T (va_up S 12296 (upd (S 12296) 8 x)) := by
  obtain ⟨t1, t2, t3, t4, t5⟩ := h
  have e : (va_up S 12296 (upd (S 12296) 8 x) 12296 8).toInt = (S 12296 8).toInt + 1 := by
    rw [va_up_self, pk_us, hx, k_inc hN (by decide) hc]
  refine ⟨t1, fun i hi => ?_, t3, fun i hi => ?_, t5⟩
  · rw [e] at hi
    exact t2 i (by omega)
  · rw [e] at hi
    show (S 71777 i).toInt < (S 4112 6).toInt
    by_cases q : i = (S 12296 8).toNatClampNeg
    · rw [q]; exact hp
    · have := k_clI hN (by decide)
      exact t4 i (by omega)
/-- a notice's state, the count -/
theorem i_T_nos {S : z_MI} {k : Nat} {x : Int32} (h : i_T S) (hk : (k : Int) < (S 14368 11).toInt) : i_T (va_up S 98401 (upd (S 98401) k x)) := by
  obtain ⟨t1, t2, t3, t4, t5⟩ := h
  refine ⟨t1, t2, fun i hi => ?_, t4, t5⟩
  have hi' : (S 14368 11).toInt ≤ (i : Int) := hi
  show upd (S 98401) k x i = 0
  rw [pk_un (by omega)]
  exact t3 i hi'
theorem i_T_noc {S : z_MI} {x : Int32} (h : i_T S) (hx : x = S 14368 11 + nI 1) (hN : z_le (S 14368 11) 12) (hc : S 14368 11 < nI 12) : i_T (va_up S 14368 (upd (S 14368) 11 x)) := by
  obtain ⟨t1, t2, t3, t4, t5⟩ := h
  have e : (va_up S 14368 (upd (S 14368) 11 x) 14368 11).toInt = (S 14368 11).toInt + 1 := by
    rw [va_up_self, pk_us, hx, k_inc hN (by decide) hc]
  refine ⟨t1, t2, fun i hi => ?_, t4, t5⟩
  rw [e] at hi
  exact t3 i (by omega)
/-- an act's month -/
theorem i_T_acm {S : z_MI} {k : Nat} {x : Int32} (h : i_T S) (h0 : 0 ≤ x.toInt) (h1 : x.toInt ≤ (S 2096 8).toInt) : i_T (va_up S 55617 (upd (S 55617) k x)) := by
  obtain ⟨t1, t2, t3, t4, t5⟩ := h
  refine ⟨fun i => ?_, t2, t3, t4, t5⟩
  show 0 ≤ (upd (S 55617) k x i).toInt ∧ (upd (S 55617) k x i).toInt ≤ (S 2096 8).toInt
  rcases @i_updc S 55617 k x i with ⟨-, e⟩ | ⟨-, e⟩
  · rw [e]; exact ⟨h0, h1⟩
  · rw [e]; exact t1 i
/-- months go by -/
theorem i_T_now {S : z_MI} {x : Int32} (h : i_T S) (hx : (S 2096 8).toInt ≤ x.toInt) : i_T (va_up S 2096 (upd (S 2096) 8 x)) := by
  obtain ⟨t1, t2, t3, t4, t5⟩ := h
  refine ⟨fun i => ?_, t2, t3, t4, t5⟩
  have e : (va_up S 2096 (upd (S 2096) 8 x) 2096 8) = x := by rw [va_up_self, pk_us]
  rw [e]
  show 0 ≤ (S 55617 i).toInt ∧ (S 55617 i).toInt ≤ x.toInt
  have := t1 i
  omega
/-! ranges -/
theorem k_zleR {x : Int32} {n : Nat} (h1 : ¬ x < 0) (h2 : x ≤ nI n) (hn : n < 2 ^ 31) : z_le x n := by
  obtain ⟨j, hj, rfl⟩ := nI_of h1
  exact ⟨j, (nI_leI hj hn).mp h2, rfl⟩
theorem k_zleR' {x : Int32} {n : Nat} (h1 : ¬ x < 0) (h2 : ¬ nI n < x) (hn : n < 2 ^ 31) : z_le x n := k_zleR h1 (k_nle.mp h2) hn
theorem k_vpL {S : z_MI} {P : z_ML} {x : Int32} (h : f_X6_isPlace S P x = true) : vp_in x 16 := by
  obtain ⟨k, rfl, hk⟩ := k_idxL h
  exact vp_in_nI hk (by decide)
theorem k_rightsR {S : z_MI} {P : z_ML} {x : Int32} (h : f_X6_isSomeRights S P x = true) : z_le x 31 := by
  unfold f_X6_isSomeRights at h
  split at h
  · cases h
  · split at h
    · cases h
    · rename_i h1 h2
      refine k_zleR' (fun q => h1 ?_) h2 (by decide)
      rw [Int32.lt_iff_toInt_lt] at q ⊢
      have z0 : (0 : Int32).toInt = 0 := by decide
      have z1 : (nI 1).toInt = 1 := nI_toInt (by decide)
      omega
theorem k_deedR {S : z_MI} {P : z_ML} {a x c : Int32} (h : f_X6_isDeed S P a x c = true) : z_le x 31 := by
  unfold f_X6_isDeed at h
  split at h
  · split at h
    · rename_i h1
      exact k_rightsR h1
    · cases h
  · cases h
theorem k_pNge {S T : z_MI} {P Q P' : z_ML} (h : i_2 S T P Q) {x : Int32} (hx : f_X2_isPersonOrNone S P' x = true) : -1 ≤ x.toInt := by
  rcases (k_pN S P' x).mp hx with rfl | e
  · decide
  · obtain ⟨k, rfl, hk, -⟩ := k_idxR h e
    rw [nI_toInt (by omega)]
    omega
theorem k_withNN (S : z_MI) (P : z_ML) {a k x : Int32} (ha : 0 ≤ a.toInt) {j : Nat} (hk : k = nI j) (hj : j < 31) : 0 ≤ (f_X6_with S P a k x).toInt := by
  unfold f_X6_with
  split
  · exact j_nn_andl ha
  · rw [hk]; exact j_nn_or ha (j_nn_one hj)
theorem i_bl_kin_mother {x : Int32} (hx : (fun x : Int32 => -1 ≤ x.toInt) x) : ∀ q ∈ i_bl, q.1 = 24817 → q.2 x := by
  intro q hq e
  simp only [i_bl, List.mem_cons, List.not_mem_nil, or_false] at hq
  rcases hq with rfl | rfl | rfl | rfl | rfl | rfl | rfl | rfl | rfl | rfl | rfl | rfl | rfl | rfl | rfl <;> first | exact hx | exact absurd e (by decide)
theorem i_bl_kin_father {x : Int32} (hx : (fun x : Int32 => -1 ≤ x.toInt) x) : ∀ q ∈ i_bl, q.1 = 26865 → q.2 x := by
  intro q hq e
  simp only [i_bl, List.mem_cons, List.not_mem_nil, or_false] at hq
  rcases hq with rfl | rfl | rfl | rfl | rfl | rfl | rfl | rfl | rfl | rfl | rfl | rfl | rfl | rfl | rfl <;> first | exact hx | exact absurd e (by decide)
theorem i_bl_kin_adopter {x : Int32} (hx : (fun x : Int32 => -1 ≤ x.toInt) x) : ∀ q ∈ i_bl, q.1 = 28913 → q.2 x := by
  intro q hq e
  simp only [i_bl, List.mem_cons, List.not_mem_nil, or_false] at hq
  rcases hq with rfl | rfl | rfl | rfl | rfl | rfl | rfl | rfl | rfl | rfl | rfl | rfl | rfl | rfl | rfl <;> first | exact hx | exact absurd e (by decide)
theorem i_bl_kin_roots {x : Int32} (hx : (fun x : Int32 => 0 ≤ x.toInt) x) : ∀ q ∈ i_bl, q.1 = 22577 → q.2 x := by
  intro q hq e
  simp only [i_bl, List.mem_cons, List.not_mem_nil, or_false] at hq
  rcases hq with rfl | rfl | rfl | rfl | rfl | rfl | rfl | rfl | rfl | rfl | rfl | rfl | rfl | rfl | rfl <;> first | exact hx | exact absurd e (by decide)
theorem i_bl_kin_rank {x : Int32} (hx : (fun x : Int32 => z_le x 3) x) : ∀ q ∈ i_bl, q.1 = 30961 → q.2 x := by
  intro q hq e
  simp only [i_bl, List.mem_cons, List.not_mem_nil, or_false] at hq
  rcases hq with rfl | rfl | rfl | rfl | rfl | rfl | rfl | rfl | rfl | rfl | rfl | rfl | rfl | rfl | rfl <;> first | exact hx | exact absurd e (by decide)
theorem i_bl_stories_people {x : Int32} (hx : (fun x : Int32 => vp_in x 6) x) : ∀ q ∈ i_bl, q.1 = 32849 → q.2 x := by
  intro q hq e
  simp only [i_bl, List.mem_cons, List.not_mem_nil, or_false] at hq
  rcases hq with rfl | rfl | rfl | rfl | rfl | rfl | rfl | rfl | rfl | rfl | rfl | rfl | rfl | rfl | rfl <;> first | exact hx | exact absurd e (by decide)
theorem i_bl_stories_parts {x : Int32} (hx : (fun x : Int32 => z_le x 12) x) : ∀ q ∈ i_bl, q.1 = 34897 → q.2 x := by
  intro q hq e
  simp only [i_bl, List.mem_cons, List.not_mem_nil, or_false] at hq
  rcases hq with rfl | rfl | rfl | rfl | rfl | rfl | rfl | rfl | rfl | rfl | rfl | rfl | rfl | rfl | rfl <;> first | exact hx | exact absurd e (by decide)
theorem i_bl_stories_place {x : Int32} (hx : (fun x : Int32 => vp_in x 16) x) : ∀ q ∈ i_bl, q.1 = 37825 → q.2 x := by
  intro q hq e
  simp only [i_bl, List.mem_cons, List.not_mem_nil, or_false] at hq
  rcases hq with rfl | rfl | rfl | rfl | rfl | rfl | rfl | rfl | rfl | rfl | rfl | rfl | rfl | rfl | rfl <;> first | exact hx | exact absurd e (by decide)
theorem i_bl_stories_level {x : Int32} (hx : (fun x : Int32 => z_le x 3) x) : ∀ q ∈ i_bl, q.1 = 39873 → q.2 x := by
  intro q hq e
  simp only [i_bl, List.mem_cons, List.not_mem_nil, or_false] at hq
  rcases hq with rfl | rfl | rfl | rfl | rfl | rfl | rfl | rfl | rfl | rfl | rfl | rfl | rfl | rfl | rfl <;> first | exact hx | exact absurd e (by decide)
theorem i_bl_marks_explained {x : Int32} (hx : (fun x : Int32 => z_le x 8) x) : ∀ q ∈ i_bl, q.1 = 49201 → q.2 x := by
  intro q hq e
  simp only [i_bl, List.mem_cons, List.not_mem_nil, or_false] at hq
  rcases hq with rfl | rfl | rfl | rfl | rfl | rfl | rfl | rfl | rfl | rfl | rfl | rfl | rfl | rfl | rfl <;> first | exact hx | exact absurd e (by decide)
theorem i_bl_acts_rights {x : Int32} (hx : (fun x : Int32 => z_le x 31) x) : ∀ q ∈ i_bl, q.1 = 59713 → q.2 x := by
  intro q hq e
  simp only [i_bl, List.mem_cons, List.not_mem_nil, or_false] at hq
  rcases hq with rfl | rfl | rfl | rfl | rfl | rfl | rfl | rfl | rfl | rfl | rfl | rfl | rfl | rfl | rfl <;> first | exact hx | exact absurd e (by decide)
theorem i_bl_claims_people {x : Int32} (hx : (fun x : Int32 => vp_in x 6) x) : ∀ q ∈ i_bl, q.1 = 71777 → q.2 x := by
  intro q hq e
  simp only [i_bl, List.mem_cons, List.not_mem_nil, or_false] at hq
  rcases hq with rfl | rfl | rfl | rfl | rfl | rfl | rfl | rfl | rfl | rfl | rfl | rfl | rfl | rfl | rfl <;> first | exact hx | exact absurd e (by decide)
theorem i_bl_claims_granted {x : Int32} (hx : (fun x : Int32 => 0 ≤ x.toInt) x) : ∀ q ∈ i_bl, q.1 = 79969 → q.2 x := by
  intro q hq e
  simp only [i_bl, List.mem_cons, List.not_mem_nil, or_false] at hq
  rcases hq with rfl | rfl | rfl | rfl | rfl | rfl | rfl | rfl | rfl | rfl | rfl | rfl | rfl | rfl | rfl <;> first | exact hx | exact absurd e (by decide)
theorem i_bl_notices_rights {x : Int32} (hx : (fun x : Int32 => z_le x 31) x) : ∀ q ∈ i_bl, q.1 = 92257 → q.2 x := by
  intro q hq e
  simp only [i_bl, List.mem_cons, List.not_mem_nil, or_false] at hq
  rcases hq with rfl | rfl | rfl | rfl | rfl | rfl | rfl | rfl | rfl | rfl | rfl | rfl | rfl | rfl | rfl <;> first | exact hx | exact absurd e (by decide)
theorem i_bl_bench_values {x : Int32} (hx : (fun x : Int32 => z_le x 1000000) x) : ∀ q ∈ i_bl, q.1 = 16513 → q.2 x := by
  intro q hq e
  simp only [i_bl, List.mem_cons, List.not_mem_nil, or_false] at hq
  rcases hq with rfl | rfl | rfl | rfl | rfl | rfl | rfl | rfl | rfl | rfl | rfl | rfl | rfl | rfl | rfl <;> first | exact hx | exact absurd e (by decide)
theorem i_nl_kin_peoples {x : Int32} (hx : z_le x 6) : ∀ q ∈ i_nl, q.1 = (4112, 6) → z_le x q.2 := by
  intro q hq e
  simp only [i_nl, List.mem_cons, List.not_mem_nil, or_false] at hq
  rcases hq with rfl | rfl | rfl | rfl | rfl | rfl | rfl | rfl <;> first | exact hx | exact absurd e (by decide)
theorem i_nl_kin_persons {x : Int32} (hx : z_le x 30) : ∀ q ∈ i_nl, q.1 = (4112, 7) → z_le x q.2 := by
  intro q hq e
  simp only [i_nl, List.mem_cons, List.not_mem_nil, or_false] at hq
  rcases hq with rfl | rfl | rfl | rfl | rfl | rfl | rfl | rfl <;> first | exact hx | exact absurd e (by decide)
theorem i_nl_stories_count {x : Int32} (hx : z_le x 10) : ∀ q ∈ i_nl, q.1 = (6184, 4) → z_le x q.2 := by
  intro q hq e
  simp only [i_nl, List.mem_cons, List.not_mem_nil, or_false] at hq
  rcases hq with rfl | rfl | rfl | rfl | rfl | rfl | rfl | rfl <;> first | exact hx | exact absurd e (by decide)
theorem i_nl_marks_count {x : Int32} (hx : z_le x 60) : ∀ q ∈ i_nl, q.1 = (8216, 7) → z_le x q.2 := by
  intro q hq e
  simp only [i_nl, List.mem_cons, List.not_mem_nil, or_false] at hq
  rcases hq with rfl | rfl | rfl | rfl | rfl | rfl | rfl | rfl <;> first | exact hx | exact absurd e (by decide)
theorem i_nl_acts_count {x : Int32} (hx : z_le x 40) : ∀ q ∈ i_nl, q.1 = (10240, 8) → z_le x q.2 := by
  intro q hq e
  simp only [i_nl, List.mem_cons, List.not_mem_nil, or_false] at hq
  rcases hq with rfl | rfl | rfl | rfl | rfl | rfl | rfl | rfl <;> first | exact hx | exact absurd e (by decide)
theorem i_nl_claims_count {x : Int32} (hx : z_le x 12) : ∀ q ∈ i_nl, q.1 = (12296, 8) → z_le x q.2 := by
  intro q hq e
  simp only [i_nl, List.mem_cons, List.not_mem_nil, or_false] at hq
  rcases hq with rfl | rfl | rfl | rfl | rfl | rfl | rfl | rfl <;> first | exact hx | exact absurd e (by decide)
theorem i_nl_notices_count {x : Int32} (hx : z_le x 12) : ∀ q ∈ i_nl, q.1 = (14368, 11) → z_le x q.2 := by
  intro q hq e
  simp only [i_nl, List.mem_cons, List.not_mem_nil, or_false] at hq
  rcases hq with rfl | rfl | rfl | rfl | rfl | rfl | rfl | rfl <;> first | exact hx | exact absurd e (by decide)
theorem i_nl_bench_now {x : Int32} (hx : z_le x 5000) : ∀ q ∈ i_nl, q.1 = (2096, 8) → z_le x q.2 := by
  intro q hq e
  simp only [i_nl, List.mem_cons, List.not_mem_nil, or_false] at hq
  rcases hq with rfl | rfl | rfl | rfl | rfl | rfl | rfl | rfl <;> first | exact hx | exact absurd e (by decide)
