/-! rights that are held -/
theorem j_ct0 {p : Nat → Bool} : ∀ {n : Nat}, j_ct p n = 0 ↔ ∀ k, k < n → p k = false
  | 0 => ⟨fun _ k hk => absurd hk (Nat.not_lt_zero k), fun _ => rfl⟩
  | n + 1 => by
    unfold j_ct
    constructor
    · intro h k hk
      have h1 : j_ct p n = 0 := by omega
      by_cases e : k = n
      · subst e
        cases hp : p k
        · rfl
        · rw [hp] at h; simp at h
      · exact j_ct0.mp h1 k (by omega)
    · intro h
      rw [j_ct0.mpr (fun k hk => h k (by omega)), h n (by omega)]
      rfl
theorem j_ctC {p q : Nat → Bool} : ∀ {n : Nat}, (∀ k, k < n → p k = q k) → j_ct p n = j_ct q n
  | 0, _ => rfl
  | n + 1, h => by
    unfold j_ct
    rw [j_ctC (fun k hk => h k (by omega)), h n (by omega)]
theorem j_ctR {p : Nat → Bool} {j : Nat} (hp : p j = true) : ∀ {n : Nat}, j < n → j_ct p n = j_ct (fun i => p i && !decide (i = j)) n + 1
  | 0, h => absurd h (Nat.not_lt_zero j)
  | n + 1, h => by
    unfold j_ct
    by_cases e : j = n
    · subst e
      rw [hp, j_ctC (p := p) (q := fun i => p i && !decide (i = j)) (fun k hk => by
        have : ¬ k = j := by omega
        simp [this])]
      simp
    · rw [j_ctR hp (by omega)]
      have : ¬ n = j := fun q => e q.symm
      simp [this]
      omega
theorem k_only {x : Int32} {j : Nat} (hj : j < 31) (hx : 0 ≤ x.toInt) (hb : bt x j = true) : (x &&& ((nI 1 <<< (nI j &&& 31)) ^^^ (-1)) = 0) ↔ (nI (j_ct (bt x) 31) ≤ nI 1) := by
  have hl := j_ct_le (bt x) 31
  rw [nI_leI (by omega) (by decide), j_ctR hb hj]
  have h31 := j_nn.mp hx
  constructor
  · intro h
    have : j_ct (fun i => bt x i && !decide (i = j)) 31 = 0 := j_ct0.mpr fun k hk => by
      have h2 : bt (x &&& ((nI 1 <<< (nI j &&& 31)) ^^^ (-1))) k = false := by rw [h, b_0]
      rw [j_clr _ (by omega) (by omega)] at h2
      exact h2
    omega
  · intro h
    refine b_ext fun i hi => ?_
    rw [j_clr _ (by omega) hi, b_0]
    by_cases e : i = 31
    · subst e; rw [h31]; rfl
    · exact j_ct0.mp (by omega : j_ct (fun i => bt x i && !decide (i = j)) 31 = 0) i (by omega)
theorem k_b15 : ∀ i, i < 32 → bt (nI 15) i = decide (i < 4) := by decide +kernel
theorem k_excl {a : Int32} (h : ∀ i, i < 32 → 5 ≤ i → bt a i = false) : a &&& ((nI 1 <<< (nI 4 &&& 31)) ^^^ (-1)) = a &&& nI 15 := by
  refine b_ext fun i hi => ?_
  rw [j_clr _ (by decide) hi, b_and, k_b15 i hi]
  by_cases g : 5 ≤ i
  · rw [h i hi g]; rfl
  · by_cases e : i = 4
    · subst e; simp
    · have : i < 4 := by omega
      simp [e, this]
theorem k_granted {S T : z_MI} {P Q P' Q' : z_ML} (h : i_2 S T P Q) (p : Int32) {w : Int32} (hw : ¬ w < 0) : z_fo (fun k5 a5 => l_X7_rightsOf_5 T Q' p w k5 a5) (nI 0) (T 110648 33).toNatClampNeg = f_X1_grantedTo S P' p w := by
  unfold f_X1_grantedTo
  rw [i_c_claims h]
  refine k_fo fun k a hk => ?_
  unfold l_X7_rightsOf_5 l_X1_grantedTo_5
  rw [i_a_claimOf h, i_a_claimRights h, k_isGranted (P' := P') h hw, j_or0]
theorem k_grant0 {S T : z_MI} {P Q P' : z_ML} (h : i_2 S T P Q) {j : Nat} (hj : j < 6) {w : Int32} (hb : bt (f_X1_holdersOf S P' w) j = false) : f_X1_grantedTo S P' (nI j) w = 0 := by
  have hc := k_cl (z_J_claims (i_J h)) (by decide)
  have : ∀ n, n ≤ 12 → (bt (z_fo (fun k4 a4 => l_X1_holdersOf_4 S P' w k4 a4) (nI 0) n) j = false → z_fo (fun k5 a5 => l_X1_grantedTo_5 S P' (nI j) w k5 a5) (nI 0) n = 0) := by
    intro n
    induction n with
    | zero => intro _ _; exact nI_0
    | succ n ih =>
      intro hn q
      have q' : bt (l_X1_holdersOf_4 S P' w n (z_fo (fun k4 a4 => l_X1_holdersOf_4 S P' w k4 a4) (nI 0) n)) j = false := q
      show l_X1_grantedTo_5 S P' (nI j) w n (z_fo (fun k5 a5 => l_X1_grantedTo_5 S P' (nI j) w k5 a5) (nI 0) n) = 0
      unfold l_X1_holdersOf_4 at q'
      unfold l_X1_grantedTo_5
      rw [k_nI (by omega)] at q' ⊢
      have h1 : vp_in (S 71777 n) 6 := i_b_claims_people h n
      obtain ⟨i, hi, hi2⟩ := vp_in_of h1 (by decide)
      rw [hi2] at q' ⊢
      by_cases e : f_X1_isHeld S P' (nI n) w = true
      · rw [if_pos e, j_w1, j_set _ (by omega) (by omega), Bool.or_eq_false_iff, decide_eq_false_iff_not] at q'
        rw [if_neg (fun z => q'.2 ((nI_eq (by omega) (by omega)).mp z).symm)]
        exact ih (by omega) q'.1
      · rw [if_neg e] at q'
        have := ih (by omega) q'
        rw [if_neg e]
        split <;> exact this
  exact this _ hc hb
theorem k_rightsOf {S T : z_MI} {P Q P' Q' : z_ML} (h : i_2 S T P Q) {p : Int32} (hp : f_X2_isPeople S P' p = true) {w : Int32} (hw : ¬ w < 0) : f_X7_rightsOf T Q' p w = f_X6_rightsOf S P' p w := by
  obtain ⟨j, rfl, hj, -⟩ := k_idxP h hp
  unfold f_X7_rightsOf f_X6_rightsOf
  obtain ⟨l1, l2⟩ := k_leftIn (P' := P') (Q' := Q') h hw (S 2096 8)
  rw [i_c_now h, l1, k_granted (P' := P') h (nI j) hw, k_holdersOf (P' := P') h hw, j_w0, j_w0, j_bits]
  have hnn := k_nn6 h (k_holdP h P' w)
  have h5 : ∀ i, i < 32 → 5 ≤ i → bt (f_X1_grantedTo S P' (nI j) w &&& f_X0_leftAt S P' w (S 2096 8)) i = false := fun i hi g => by
    rw [b_and, l2 i hi g]; simp
  by_cases hb : bt (f_X1_holdersOf S P' w) j = true
  · have e := k_only (by omega) hnn hb
    by_cases g : f_X1_holdersOf S P' w &&& ((nI 1 <<< (nI j &&& 31)) ^^^ (-1)) = 0
    · rw [if_pos g, if_pos (e.mp g)]
    · rw [if_neg g, if_neg (fun z => g (e.mpr z)), k_excl h5]
  · have hb' : bt (f_X1_holdersOf S P' w) j = false := by simpa using hb
    rw [k_grant0 h hj hb']
    have z : ∀ y : Int32, (0 : Int32) &&& y = 0 := fun y => b_ext fun i hi => by rw [b_and, b_0]; rfl
    simp only [z]
    split <;> split <;> rfl
theorem k_yield {S T : z_MI} {P Q P' Q' : z_ML} (h : i_2 S T P Q) {w : Int32} (hw : ¬ w < 0) {i : Nat} (hi : i < 32) (m : Int32) : bt (z_fo (fun k5 a5 => l_X0_yieldingAt_5 S P' w m k5 a5) (nI 0) (S 10240 8).toNatClampNeg) i = k_ex (fun k => decide (S 61761 (nI k).toNatClampNeg = nI 2) && (bt (S 59713 (nI k).toNatClampNeg) i && (f_X6_isIn S P' (S 57665 (nI k).toNatClampNeg) w && f_X0_counts S P' (nI k) m))) (S 10240 8).toNatClampNeg := by
  have : ∀ n, bt (z_fo (fun k5 a5 => l_X0_yieldingAt_5 S P' w m k5 a5) (nI 0) n) i = k_ex (fun k => decide (S 61761 (nI k).toNatClampNeg = nI 2) && (bt (S 59713 (nI k).toNatClampNeg) i && (f_X6_isIn S P' (S 57665 (nI k).toNatClampNeg) w && f_X0_counts S P' (nI k) m))) n := by
    intro n
    induction n with
    | zero => show bt (nI 0) i = false; rw [nI_0, b_0]
    | succ n ih =>
      show bt (l_X0_yieldingAt_5 S P' w m n (z_fo (fun k5 a5 => l_X0_yieldingAt_5 S P' w m k5 a5) (nI 0) n)) i = _
      rw [k_ex_s, ← ih]
      generalize z_fo (fun k5 a5 => l_X0_yieldingAt_5 S P' w m k5 a5) (nI 0) n = acc
      unfold l_X0_yieldingAt_5
      have key : ∀ (E : Prop) [Decidable E] (I C : Bool) (r : Int32), bt (if E then if I = true then if C = true then acc ||| r else acc else acc else acc) i = (bt acc i || (decide E && (bt r i && (I && C)))) := by
        intro E _ I C r
        by_cases e : E <;> cases I <;> cases C <;> simp [e, b_or]
      exact key _ _ _ _
  exact this _
theorem k_mayY {S T : z_MI} {P Q P' Q' : z_ML} (h : i_2 S T P Q) {p w : Int32} (hw : ¬ w < 0) {i : Nat} (hi : i < 32) (hr : f_X6_isIn S P' (f_X6_rightsOf S P' p w) (nI i) = true) : (z_fo (fun k56 a56 => l_X7_may_56 T Q' p w (nI i) k56 a56) (nI 0) (T 110648 24).toNatClampNeg = 0) ↔ ¬ f_X6_isIn S P' (f_X0_yieldingAt S P' w (S 2096 8)) (nI i) = true := by
  have hT := @i_thr S T P Q (nI 0) h
  have e1 : z_fo (fun k56 a56 => l_X7_may_56 T Q' p w (nI i) k56 a56) (nI 0) (T 110648 24).toNatClampNeg = if k_ex (fun k => decide (S 61761 (nI k).toNatClampNeg = nI 2) && (bt (S 59713 (nI k).toNatClampNeg) i && (f_X6_isIn S P' (S 57665 (nI k).toNatClampNeg) w && f_X0_counts S P' (nI k) (S 2096 8)))) (S 10240 8).toNatClampNeg = true then nI 1 else nI 0 := by
    rw [i_c_acts h]
    refine k_foE fun k a hk => ?_
    unfold l_X7_may_56
    rw [i_a_actDoes h, i_a_actRights h, i_c_now h, k_counts (P' := P') hT hw, j_has _ _ _ hi]
    (repeat' split) <;> simp_all
  rw [e1, ← k_yield (T := T) (P := P) (Q := Q) (Q' := Q') h hw hi]
  have hl : bt (f_X0_leftAt S P' w (S 2096 8)) i = true := by
    rw [j_isIn _ _ _ hi] at hr
    unfold f_X6_rightsOf at hr
    rw [j_w0 S P' (_ &&& _)] at hr
    split at hr
    · rw [b_and, Bool.and_eq_true] at hr
      exact hr.2
    · rw [j_clr _ (by decide) hi, b_and] at hr
      simp only [Bool.and_eq_true] at hr
      exact hr.1.2
  rw [j_isIn _ _ _ hi]
  unfold f_X0_yieldingAt
  rw [b_and, hl, Bool.and_true]
  by_cases g : bt (z_fo (fun k5 a5 => l_X0_yieldingAt_5 S P' w (S 2096 8) k5 a5) (nI 0) (S 10240 8).toNatClampNeg) i = true
  · rw [if_pos g]
    simp only [g]
    decide
  · rw [if_neg g]
    simp only [g]
    decide
/-! payments -/
theorem k_took {S T : z_MI} {P Q P' Q' : z_ML} (h : i_2 S T P Q) (a : Int32) {w : Int32} (hw : ¬ w < 0) : f_X7_took T Q' a w = f_X0_takenBy S P' a w := by
  unfold f_X7_took f_X0_takenBy
  rw [i_c_acts h, i_a_actRights h]
  have h31 : z_le (S 59713 a.toNatClampNeg) 31 := i_b_acts_rights h _
  refine (k_foI (f := fun k10 a10 => l_X7_took_10 T Q' a w k10 a10) (fun a => ∀ i, i < 32 → 5 ≤ i → bt a i = false) (fun i hi g => k_31 h31 i hi g) (fun k b hk hI => ?_)).1
  have e31 := k_b31' b hI
  unfold l_X7_took_10 l_X0_takenBy_10 f_X0_isAhead f_X0_stillExtinguishes
  rw [i_a_actDoes h, i_a_actPlaces h, i_a_areVoid h, i_a_gaveUp h, i_a_actMonth h, i_a_actRights h, k_has S T P' Q' _ hw, e31]
  refine ⟨?_, ?_⟩
  · skip
    have key : ∀ (D0 V0 G A1 A2 A3 : Prop) [Decidable D0] [Decidable V0] [Decidable G] [Decidable A1] [Decidable A2] [Decidable A3] (L : Bool) (X b : Int32), (if D0 then (if L = true then (if V0 then (if G then (if A1 then X else (if A2 then (if A3 then b else X) else b)) else (if A1 then b else (if A2 then (if A3 then b else b) else b))) else (if A1 then b else (if A2 then (if A3 then b else b) else b))) else (if A1 then b else (if A2 then (if A3 then b else b) else b))) else (if A1 then b else (if A2 then (if A3 then b else b) else b))) = (if (if A1 then true else if A2 then if A3 then false else true else false) = true then if (if D0 then if V0 then if G then true else false else false else false) = true then if L = true then X else b else b else b) := by
      intro D0 V0 G A1 A2 A3 _ _ _ _ _ _ L X b
      by_cases h1 : D0 <;> by_cases h2 : V0 <;> by_cases h3 : G <;> by_cases h4 : A1 <;> by_cases h5 : A2 <;> by_cases h6 : A3 <;> cases L <;> simp only [h1, h2, h3, h4, h5, h6, if_true, if_false, Bool.false_eq_true]
    exact key _ _ _ _ _ _ _ _ _
  · (repeat' split) <;> first | exact k_an5 hI | exact hI
theorem k_weight (S : z_MI) (P : z_ML) (x : Int32) : (((((x &&& nI 1) * nI 10) + (((x >>> (nI 1 &&& 31)) &&& nI 1) * nI 15)) + (((x >>> (nI 2 &&& 31)) &&& nI 1) * nI 15)) + (((x >>> (nI 3 &&& 31)) &&& nI 1) * nI 20)) + (((x >>> (nI 4 &&& 31)) &&& nI 1) * nI 40) = f_X6_weightOf S P x ∧ z_le (f_X6_weightOf S P x) 100 := by
  have e : f_X6_weightOf S P x = l_X6_weightOf_4 S P x 4 (l_X6_weightOf_4 S P x 3 (l_X6_weightOf_4 S P x 2 (l_X6_weightOf_4 S P x 1 (l_X6_weightOf_4 S P x 0 (nI 0))))) := rfl
  have s : ∀ k, k < 5 → (x >>> (nI k &&& 31)) &&& nI 1 = nI (if bt x k then 1 else 0) := fun k hk => by
    have e : (if k + 0 < 32 then bt x (k + 0) else bt x 31) = bt x k := if_pos (by omega)
    rw [j_lowv, b_sshr k (by omega) x (by decide), e]
  rw [e, s 1 (by decide), s 2 (by decide), s 3 (by decide), s 4 (by decide), j_lowv]
  unfold l_X6_weightOf_4
  rw [j_isIn _ _ _ (by decide), j_isIn _ _ _ (by decide), j_isIn _ _ _ (by decide), j_isIn _ _ _ (by decide), j_isIn _ _ _ (by decide), k_nI (by decide), k_nI (by decide), k_nI (by decide), k_nI (by decide), k_nI (by decide)]
  have key : ∀ b0 b1 b2 b3 b4 : Bool, (((((nI (if b0 then 1 else 0)) * nI 10) + ((nI (if b1 then 1 else 0)) * nI 15)) + ((nI (if b2 then 1 else 0)) * nI 15)) + ((nI (if b3 then 1 else 0)) * nI 20)) + ((nI (if b4 then 1 else 0)) * nI 40) = (if b4 = true then (if b3 = true then (if b2 = true then (if b1 = true then (if b0 = true then nI 0 + z_wt 0 else nI 0 + nI 0) + z_wt 1 else (if b0 = true then nI 0 + z_wt 0 else nI 0 + nI 0) + nI 0) + z_wt 2 else (if b1 = true then (if b0 = true then nI 0 + z_wt 0 else nI 0 + nI 0) + z_wt 1 else (if b0 = true then nI 0 + z_wt 0 else nI 0 + nI 0) + nI 0) + nI 0) + z_wt 3 else (if b2 = true then (if b1 = true then (if b0 = true then nI 0 + z_wt 0 else nI 0 + nI 0) + z_wt 1 else (if b0 = true then nI 0 + z_wt 0 else nI 0 + nI 0) + nI 0) + z_wt 2 else (if b1 = true then (if b0 = true then nI 0 + z_wt 0 else nI 0 + nI 0) + z_wt 1 else (if b0 = true then nI 0 + z_wt 0 else nI 0 + nI 0) + nI 0) + nI 0) + nI 0) + z_wt 4 else (if b3 = true then (if b2 = true then (if b1 = true then (if b0 = true then nI 0 + z_wt 0 else nI 0 + nI 0) + z_wt 1 else (if b0 = true then nI 0 + z_wt 0 else nI 0 + nI 0) + nI 0) + z_wt 2 else (if b1 = true then (if b0 = true then nI 0 + z_wt 0 else nI 0 + nI 0) + z_wt 1 else (if b0 = true then nI 0 + z_wt 0 else nI 0 + nI 0) + nI 0) + nI 0) + z_wt 3 else (if b2 = true then (if b1 = true then (if b0 = true then nI 0 + z_wt 0 else nI 0 + nI 0) + z_wt 1 else (if b0 = true then nI 0 + z_wt 0 else nI 0 + nI 0) + nI 0) + z_wt 2 else (if b1 = true then (if b0 = true then nI 0 + z_wt 0 else nI 0 + nI 0) + z_wt 1 else (if b0 = true then nI 0 + z_wt 0 else nI 0 + nI 0) + nI 0) + nI 0) + nI 0) + nI 0) := by decide +kernel
  have keyB : ∀ b0 b1 b2 b3 b4 : Bool, (((((nI (if b0 then 1 else 0)) * nI 10) + ((nI (if b1 then 1 else 0)) * nI 15)) + ((nI (if b2 then 1 else 0)) * nI 15)) + ((nI (if b3 then 1 else 0)) * nI 20)) + ((nI (if b4 then 1 else 0)) * nI 40) = nI ((if b0 then 10 else 0) + (if b1 then 15 else 0) + (if b2 then 15 else 0) + (if b3 then 20 else 0) + (if b4 then 40 else 0)) := by decide +kernel
  rw [← key]
  refine ⟨rfl, ?_⟩
  rw [keyB]
  refine ⟨_, ?_, rfl⟩
  (repeat' split) <;> omega
theorem k_owedAt {S T : z_MI} {P Q : z_ML} (P' Q' : z_ML) (h : i_2 S T P Q) (a : Int32) {w : Int32} (hw : ¬ w < 0) : f_X7_owedAt T Q' a w = f_X6_owedAt S P' a w := by
  unfold f_X7_owedAt f_X6_owedAt
  rw [i_a_actPlaces h, k_has S T P' Q' _ hw, k_holdersOf (P' := P') h hw, i_a_values h, i_a_actMonth h, i_c_now h, k_took (P' := P') h a hw, (k_weight S P' _).1]
theorem k_owedNN {S T : z_MI} {P Q : z_ML} (P' : z_ML) (h : i_2 S T P Q) (a w : Int32) : 0 ≤ (f_X6_owedAt S P' a w).toInt := by
  unfold f_X6_owedAt
  have z0 : 0 ≤ (lN 0).toInt := by rw [lN_toInt (by decide)]; decide
  split
  · split
    · exact z0
    · obtain ⟨v, hv, hv2⟩ : z_le (S 16513 w.toNatClampNeg) 1000000 := i_b_bench_values h _
      obtain ⟨g, hg, hg2⟩ := (k_weight S P' (f_X0_takenBy S P' a w)).2
      obtain ⟨n, hn, hn2⟩ := z_J_now (i_J h)
      obtain ⟨t1, t2⟩ := h.2.2.2.2.1.1 a.toNatClampNeg
      rw [hn2, nI_toInt (by omega)] at t2
      obtain ⟨m, hm2, hm⟩ : ∃ m, m ≤ n ∧ S 55617 a.toNatClampNeg = nI m := ⟨(S 55617 a.toNatClampNeg).toInt.toNat, by omega, Int32.toInt_inj.mp (by rw [nI_toInt (by omega)]; omega)⟩
      rw [hv2, hg2, hn2, hm, pk_sub (by omega), nI_l (by omega), nI_l (by omega), nI_l (by omega), lN_mul]
      have hvg : v * g ≤ 1000000 * 100 := Nat.mul_le_mul hv hg
      rw [pk_lDiv (by omega) (by decide) (by decide)]
      generalize hB : v * g / 100 = B
      have hB2 : B ≤ 1000000 := by omega
      have hBm : B * 2 * (n - m) ≤ 2000000 * 5000 := Nat.mul_le_mul (by omega) (by omega)
      rw [lN_mul, lN_mul, pk_lDiv (by omega) (by decide) (by decide), pk_lDiv (by omega) (by decide) (by decide), lN_add, lN_add, pk_lT (by omega)]
      omega
  · exact z0
theorem k_fxI {α : Type} {f : Nat → α → α ⊕ α} {g : Nat → α → α} {a : α} : ∀ {n : Nat}, (∀ k a, k < n → f k a = .inl (g k a)) → z_fx f a n = .inl (z_fo g a n)
  | 0, _ => rfl
  | n + 1, h => by
    rw [z_fx_s (k_fxI (fun k a hk => h k a (by omega))), h n _ (by omega)]
    rfl
theorem k_owedFor {S T : z_MI} {P Q : z_ML} (P' Q' : z_ML) (h : i_2 S T P Q) (a : Int32) : f_X7_owedFor T Q' a = f_X6_owedFor S P' a := by
  have hc : f_X7_canBePaid T Q' a = f_X0_isPayable S P' a := by
    unfold f_X7_canBePaid f_X0_isPayable f_X0_stillExtinguishes
    rw [i_a_actDoes h, i_a_areVoid h, i_a_gaveUp h, i_a_arePaid h]
    (repeat' split) <;> simp_all
  unfold f_X7_owedFor f_X6_owedFor
  by_cases e : f_X0_isPayable S P' a = true
  · rw [if_pos e, k_fxI (g := fun k18 a18 => l_X6_owedFor_18 S P' a k18 a18) (fun k b hk => ?_)]
    · rfl
    · unfold l_X7_owedFor_5 l_X6_owedFor_18
      rw [hc, if_pos e, k_owedAt P' Q' h a (nI_pos (by omega))]
  · rw [if_neg e]
    have e1 : z_fx (fun k5 a5 => l_X7_owedFor_5 T Q' a k5 a5) (lN 0) 1 = .inr (lN 0) := by
      show l_X7_owedFor_5 T Q' a 0 (lN 0) = _
      unfold l_X7_owedFor_5
      rw [hc, if_neg e]
    rw [z_fx_r e1 (by decide)]
    rfl
/-- the class's and the model's shares -/
theorem k_foN {α : Type} {f : Nat → α → α} {a : α} {m : Nat} : ∀ {d : Nat}, (∀ k a, m ≤ k → k < m + d → f k a = a) → z_fo f a (m + d) = z_fo f a m
  | 0, _ => rfl
  | d + 1, h => by
    show f (m + d) (z_fo f a (m + d)) = _
    rw [k_foN (fun k a h1 h2 => h k a h1 (by omega)), h (m + d) _ (by omega) (by omega)]
theorem k_heads {S : z_MI} {P : z_ML} {x : Int32} (hx : 0 ≤ x.toInt) (h0 : ¬ x = 0) : ¬ f_J6_bitCount_0f7a4 S P x = 0 := by
  rw [← j_pop S S P P hx, j_bits]
  intro q
  have hl := j_ct_le (bt x) 31
  rw [← nI_0, nI_eq (by omega) (by decide)] at q
  apply h0
  refine b_ext fun i hi => ?_
  rw [b_0]
  by_cases e : i = 31
  · subst e; exact j_nn.mp hx
  · exact j_ct0.mp q i (by omega)
theorem k_shares {S T : z_MI} {P Q : z_ML} (h : i_2 S T P Q) (A B : z_ML) (hAB : A 18483 = B 116787) (x : Int64) {set : Int32} (hs : ∀ i, i < 32 → bt set i = true → (i : Int) < (S 4112 6).toInt) (h0 : ¬ set = 0) : (v_X6_share S A x set) 18483 = (v_X7_shares T B x set) 116787 ∧ (∀ c, c ≠ 18483 → v_X6_share S A x set c = A c) ∧ (∀ c, c ≠ 116787 → v_X7_shares T B x set c = B c) := by
  have hnn := k_nn6 h hs
  obtain ⟨n, hn, hn2⟩ := z_J_peoples (i_J h)
  unfold v_X6_share v_X7_shares
  rw [if_neg (k_heads hnn h0), j_pop S T A B hnn, i_c_peoples h, hn2, k_nI (by omega)]
  rw [hn2, nI_toInt (by omega)] at hs
  have e6 : (6 : Nat) = n + (6 - n) := by omega
  rw [e6, k_foN (fun k a h1 h2 => by
    unfold l_X6_share_22
    rw [j_isIn _ _ _ (by omega)]
    rw [if_neg (fun q => by have := hs k (by omega) q; omega)])]
  have key : ∀ m, m ≤ 6 → (z_fo (fun k22 a22 => l_X6_share_22 S A x set k22 a22) (x - x / ((f_J6_bitCount_0f7a4 S A set).toInt64) * ((f_J6_bitCount_0f7a4 S A set).toInt64), A) m).1 = (z_fo (fun k24 a24 => l_X7_shares_24 T B x set k24 a24) (x - x / ((f_J6_bitCount_0f7a4 S A set).toInt64) * ((f_J6_bitCount_0f7a4 S A set).toInt64), B) m).1 ∧ (z_fo (fun k22 a22 => l_X6_share_22 S A x set k22 a22) (x - x / ((f_J6_bitCount_0f7a4 S A set).toInt64) * ((f_J6_bitCount_0f7a4 S A set).toInt64), A) m).2 18483 = (z_fo (fun k24 a24 => l_X7_shares_24 T B x set k24 a24) (x - x / ((f_J6_bitCount_0f7a4 S A set).toInt64) * ((f_J6_bitCount_0f7a4 S A set).toInt64), B) m).2 116787 ∧ (∀ c, c ≠ 18483 → (z_fo (fun k22 a22 => l_X6_share_22 S A x set k22 a22) (x - x / ((f_J6_bitCount_0f7a4 S A set).toInt64) * ((f_J6_bitCount_0f7a4 S A set).toInt64), A) m).2 c = A c) ∧ (∀ c, c ≠ 116787 → (z_fo (fun k24 a24 => l_X7_shares_24 T B x set k24 a24) (x - x / ((f_J6_bitCount_0f7a4 S A set).toInt64) * ((f_J6_bitCount_0f7a4 S A set).toInt64), B) m).2 c = B c) := by
    intro m
    induction m with
    | zero => intro _; exact ⟨rfl, hAB, fun _ _ => rfl, fun _ _ => rfl⟩
    | succ m ih =>
      intro hm
      obtain ⟨i1, i2, i3, i4⟩ := ih (by omega)
      show (l_X6_share_22 S A x set m (z_fo (fun k22 a22 => l_X6_share_22 S A x set k22 a22) _ m)).1 = (l_X7_shares_24 T B x set m (z_fo (fun k24 a24 => l_X7_shares_24 T B x set k24 a24) _ m)).1 ∧ (l_X6_share_22 S A x set m (z_fo (fun k22 a22 => l_X6_share_22 S A x set k22 a22) _ m)).2 18483 = (l_X7_shares_24 T B x set m (z_fo (fun k24 a24 => l_X7_shares_24 T B x set k24 a24) _ m)).2 116787 ∧ (∀ c, c ≠ 18483 → (l_X6_share_22 S A x set m (z_fo (fun k22 a22 => l_X6_share_22 S A x set k22 a22) _ m)).2 c = A c) ∧ (∀ c, c ≠ 116787 → (l_X7_shares_24 T B x set m (z_fo (fun k24 a24 => l_X7_shares_24 T B x set k24 a24) _ m)).2 c = B c)
      generalize z_fo (fun k22 a22 => l_X6_share_22 S A x set k22 a22) (x - x / ((f_J6_bitCount_0f7a4 S A set).toInt64) * ((f_J6_bitCount_0f7a4 S A set).toInt64), A) m = u at *
      generalize z_fo (fun k24 a24 => l_X7_shares_24 T B x set k24 a24) (x - x / ((f_J6_bitCount_0f7a4 S A set).toInt64) * ((f_J6_bitCount_0f7a4 S A set).toInt64), B) m = v at *
      unfold l_X6_share_22 l_X7_shares_24
      rw [j_isIn _ _ _ (by omega), j_has _ _ _ (by omega), j_pop S T A B hnn]
      by_cases e : bt set m = true
      · rw [if_pos e, if_pos e]
        refine ⟨rfl, ?_, fun c hc => ?_, fun c hc => ?_⟩
        · rw [i1, i2]
          dsimp only
          rw [va_up_self, va_up_self]
        · show va_up u.2 18483 _ c = _
          rw [va_up_ne _ _ hc]; exact i3 c hc
        · show va_up v.2 116787 _ c = _
          rw [va_up_ne _ _ hc]; exact i4 c hc
      · rw [if_neg e, if_neg e]
        exact ⟨i1, i2, i3, i4⟩
  exact (key n hn).2
theorem k_share0 (S : z_MI) (A : z_ML) (set : Int32) : (v_X6_share S A (lN 0) set) 18483 = A 18483 ∧ ∀ c, c ≠ 18483 → v_X6_share S A (lN 0) set c = A c := by
  unfold v_X6_share
  split
  · exact ⟨rfl, fun _ _ => rfl⟩
  · have d0 : ∀ y : Int64, lN 0 / y = 0 := fun y => Int64.zero_div
    have m0 : lN 0 - lN 0 / ((f_J6_bitCount_0f7a4 S A set).toInt64) * ((f_J6_bitCount_0f7a4 S A set).toInt64) = 0 := by rw [d0, Int64.zero_mul]; rfl
    rw [m0]
    refine (k_foP (fun _ (u : Int64 × z_ML) => u.1 = 0 ∧ (u.2 18483 = A 18483 ∧ ∀ c, c ≠ 18483 → u.2 c = A c)) ⟨rfl, rfl, fun _ _ => rfl⟩ (fun k u hk ⟨i1, i2, i3⟩ => ?_)).2
    unfold l_X6_share_22
    split
    · refine ⟨rfl, ?_, fun c hc => ?_⟩
      · dsimp only
        rw [va_up_self, d0, i1, i2]
        funext j
        unfold vp_updL
        split
        · rename_i e
          subst e
          show _ + (0 + 0) = _
          rw [Int64.add_zero, Int64.add_zero]
        · rfl
      · show va_up u.2 18483 _ c = _
        rw [va_up_ne _ _ hc]; exact i3 c hc
    · exact ⟨i1, i2, i3⟩

