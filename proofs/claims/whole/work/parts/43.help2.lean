/-! stories, acts, claims, notices -/
theorem k_ltI {x : Int32} {k n : Nat} (hx : x = nI k) (hk : k < 2 ^ 31) (hn : n < 2 ^ 31) : x < nI n ↔ k < n := by rw [hx]; exact nI_ltI hk hn
theorem k_mem {S T : z_MI} {P Q : z_ML} (h : i_2 S T P Q) {a : Int32} (h0 : 0 ≤ a.toInt) (h1 : a.toInt < (S 4112 6).toInt) (P' : z_ML) : f_X2_isPeople S P' a = true := by
  unfold f_X2_isPeople
  have z : (0 : Int32).toInt = 0 := by decide
  rw [if_neg (by rw [Int32.lt_iff_toInt_lt]; omega), if_neg (by rw [Int32.le_iff_toInt_le]; omega)]
theorem k_idx {x c : Int32} {N : Nat} (h1 : ¬ x < 0) (h2 : ¬ c ≤ x) (hc : z_le c N) (hN : N < 2 ^ 31) : ∃ k, x = nI k ∧ k < N ∧ (k : Int) < c.toInt := by
  obtain ⟨j, hj, rfl⟩ := nI_of h1
  obtain ⟨n, hn, rfl⟩ := hc
  rw [Int32.le_iff_toInt_le, nI_toInt (by omega), nI_toInt hj] at h2
  exact ⟨j, rfl, by omega, by rw [nI_toInt (by omega)]; omega⟩
theorem k_idxP {S T : z_MI} {P Q P' : z_ML} (h : i_2 S T P Q) {x : Int32} (hx : f_X2_isPeople S P' x = true) : ∃ k, x = nI k ∧ k < 6 ∧ (k : Int) < (S 4112 6).toInt := by
  unfold f_X2_isPeople at hx
  split at hx
  · cases hx
  · split at hx
    · cases hx
    · exact k_idx ‹_› ‹_› (z_J_peoples (i_J h)) (by decide)
theorem k_idxR {S T : z_MI} {P Q P' : z_ML} (h : i_2 S T P Q) {x : Int32} (hx : f_X2_isPerson S P' x = true) : ∃ k, x = nI k ∧ k < 30 ∧ (k : Int) < (S 4112 7).toInt := by
  unfold f_X2_isPerson at hx
  split at hx
  · cases hx
  · split at hx
    · cases hx
    · exact k_idx ‹_› ‹_› (z_J_persons (i_J h)) (by decide)
theorem k_idxS {S T : z_MI} {P Q P' : z_ML} (h : i_2 S T P Q) {x : Int32} (hx : f_X5_isStory S P' x = true) : ∃ k, x = nI k ∧ k < 10 ∧ (k : Int) < (S 6184 4).toInt := by
  unfold f_X5_isStory at hx
  split at hx
  · cases hx
  · split at hx
    · cases hx
    · exact k_idx ‹_› ‹_› (z_J_stories (i_J h)) (by decide)
theorem k_idxA {S T : z_MI} {P Q P' : z_ML} (h : i_2 S T P Q) {x : Int32} (hx : f_X0_isAct S P' x = true) : ∃ k, x = nI k ∧ k < 40 ∧ (k : Int) < (S 10240 8).toInt := by
  unfold f_X0_isAct at hx
  split at hx
  · cases hx
  · split at hx
    · cases hx
    · exact k_idx ‹_› ‹_› (z_J_acts (i_J h)) (by decide)
theorem k_idxC {S T : z_MI} {P Q P' : z_ML} (h : i_2 S T P Q) {x : Int32} (hx : f_X1_isClaim S P' x = true) : ∃ k, x = nI k ∧ k < 12 ∧ (k : Int) < (S 12296 8).toInt := by
  unfold f_X1_isClaim at hx
  split at hx
  · cases hx
  · split at hx
    · cases hx
    · exact k_idx ‹_› ‹_› (z_J_claims (i_J h)) (by decide)
theorem k_idxN {S T : z_MI} {P Q P' : z_ML} (h : i_2 S T P Q) {x : Int32} (hx : f_X4_isNotice S P' x = true) : ∃ k, x = nI k ∧ k < 12 ∧ (k : Int) < (S 14368 11).toInt := by
  unfold f_X4_isNotice at hx
  split at hx
  · cases hx
  · split at hx
    · cases hx
    · exact k_idx ‹_› ‹_› (z_J_notices (i_J h)) (by decide)
theorem k_idxL {S : z_MI} {P : z_ML} {x : Int32} (hx : f_X6_isPlace S P x = true) : ∃ k, x = nI k ∧ k < 16 := by
  unfold f_X6_isPlace at hx
  split at hx
  · cases hx
  · split at hx
    · cases hx
    · obtain ⟨k, h1, h2, -⟩ := k_idx (N := 16) ‹_› ‹_› ⟨16, Nat.le_refl _, rfl⟩ (by decide)
      exact ⟨k, h1, h2⟩
/-- a claim's people is there -/
theorem k_clp {S T : z_MI} {P Q : z_ML} (h : i_2 S T P Q) {k : Nat} (hk : (k : Int) < (S 12296 8).toInt) (P' : z_ML) : f_X2_isPeople S P' (S 71777 k) = true := by
  have h1 : vp_in (S 71777 k) 6 := i_b_claims_people h k
  exact k_mem h (vp_in_iff.mp h1).1 (h.2.2.2.2.1.2.2.2.1 k hk) P'
theorem k_stp {S T : z_MI} {P Q : z_ML} (h : i_2 S T P Q) {k : Nat} (hk : (k : Int) < (S 6184 4).toInt) (P' : z_ML) : f_X2_isPeople S P' (S 32849 k) = true := by
  have h1 : vp_in (S 32849 k) 6 := i_b_stories_people h k
  exact k_mem h (vp_in_iff.mp h1).1 (h.2.2.2.2.1.2.2.2.2 k hk) P'
theorem k_mayHear {S T : z_MI} {P Q P' Q' : z_ML} (h : i_2 S T P Q) {p : Int32} (hp : f_X2_isPerson S P' p = true) {s : Nat} (hs : s < 2 ^ 31) (hs2 : (s : Int) < (S 6184 4).toInt) (part : Int32) : f_X7_mayHear T Q' p (nI s) part = decide (¬ f_X6_levelHeard S P' p (nI s) < S 39873 ((nI s * nI 12 + part).toNatClampNeg)) := by
  obtain ⟨k, rfl, hk, -⟩ := k_idxR h hp
  have hpe := k_stp h hs2 P'
  unfold f_X7_mayHear f_X6_levelHeard
  rw [i_a_partLevel h, i_a_ranks h, i_a_storyOf h, k_nI hs, k_membersOf h hpe, k_has S T P' Q' _ (nI_pos (by omega)), Int32.mul_comm (nI 12)]
  obtain ⟨r, hr, hr2⟩ : z_le (S 30961 (nI k).toNatClampNeg) 3 := i_b_kin_rank h _
  obtain ⟨l, hl, hl2⟩ : z_le (S 39873 ((nI s * nI 12 + part).toNatClampNeg)) 3 := i_b_stories_level h _
  rw [hr2, hl2]
  have e0 : nI l = 0 ↔ l = 0 := by rw [← nI_0, nI_eq (by omega) (by omega)]
  cases f_X6_isIn S P' (f_X2_membersOf S P' (S 32849 s)) (nI k)
  · simp only [nI_ltI (show 0 < 2 ^ 31 by decide) (show l < 2 ^ 31 by omega), e0, if_neg Bool.false_ne_true]
    by_cases z : l = 0
    · simp [z]
    · have : 0 < l := by omega
      simp [z, this]
  · simp only [nI_ltI (show r < 2 ^ 31 by omega) (show l < 2 ^ 31 by omega), e0, if_pos]
    by_cases z : l = 0
    · simp [z]
    · by_cases w : r < l
      · simp [z, w]
      · simp [z, w]
theorem k_dN {P : Prop} [Decidable P] : (if decide (¬ P) = true then true else false) = !decide P := by by_cases h : P <;> simp [h]
/-! acts -/
theorem k_counts {S T : z_MI} {P Q P' Q' : z_ML} (h : i_2 S T P Q) {w : Int32} (hw : ¬ w < 0) (a m : Int32) : f_X7_counts T Q' a w m = (f_X6_isIn S P' (S 57665 a.toNatClampNeg) w && f_X0_counts S P' a m) := by
  unfold f_X7_counts f_X0_counts
  rw [i_a_actPlaces h, i_a_areVoid h, i_a_actMonth h, i_a_gaveUp h, k_has S T P' Q' _ hw]
  cases f_X6_isIn S P' (S 57665 a.toNatClampNeg) w <;> simp
def k_tk (S : z_MI) (P : z_ML) (w m : Int32) (k : Nat) : Bool := f_X0_takes S P (nI k) w m
theorem k_31 {a : Int32} (h : z_le a 31) (i : Nat) (hi : i < 32) (h5 : 5 ≤ i) : bt a i = false := by
  obtain ⟨n, hn, rfl⟩ := h
  have := (by decide +kernel : ∀ n, n < 32 → ∀ i, i < 32 → 5 ≤ i → bt (nI n) i = false)
  exact this n (by omega) i hi h5
theorem k_b31 : ∀ i, i < 32 → bt (nI 31) i = decide (i < 5) := by decide +kernel
theorem k_b31' (a : Int32) (h : ∀ i, i < 32 → 5 ≤ i → bt a i = false) : a &&& nI 31 = a := by
  refine b_ext fun i hi => ?_
  rw [b_and, k_b31 i hi]
  by_cases g : i < 5
  · simp [g]
  · rw [h i hi (by omega)]; rfl
theorem k_an5 {a b : Int32} (h : ∀ i, i < 32 → 5 ≤ i → bt a i = false) : ∀ i, i < 32 → 5 ≤ i → bt (a &&& b) i = false := fun i hi h5 => by rw [b_and, h i hi h5]; rfl
theorem k_leftIn {S T : z_MI} {P Q P' Q' : z_ML} (h : i_2 S T P Q) {w : Int32} (hw : ¬ w < 0) (m : Int32) : f_X7_leftIn T Q' w m = f_X0_leftAt S P' w m ∧ ∀ i, i < 32 → 5 ≤ i → bt (f_X0_leftAt S P' w m) i = false := by
  unfold f_X7_leftIn f_X0_leftAt
  rw [i_c_acts h]
  have := k_foI (f := fun k6 a6 => l_X0_leftAt_6 S P' w m k6 a6) (g := fun k6 a6 => l_X7_leftIn_6 T Q' w m k6 a6) (a := nI 31) (fun a => ∀ i, i < 32 → 5 ≤ i → bt a i = false) (fun i hi h5 => by rw [k_b31 i hi]; simp; omega) (n := (S 10240 8).toNatClampNeg) (fun k a hk hI => ?_)
  · exact ⟨this.1.symm, this.2⟩
  · have e31 := k_b31' a hI
    unfold l_X0_leftAt_6 l_X7_leftIn_6 f_X0_takes
    rw [k_counts (P' := P') h hw, i_a_actDoes h, i_a_actLast h, i_a_actRights h, e31]
    refine ⟨?_, ?_⟩
    · have key : ∀ (I C : Bool) (E0 E1 L : Prop) [Decidable E0] [Decidable E1] [Decidable L] (X a : Int32), (if (if E0 then if I = true then if C = true then true else false else false else if E1 then if L then false else if I = true then if C = true then true else false else false else false) = true then X else a) = (if (I && C) = true then (if E0 then X else if E1 then if L then a else X else a) else a) := by
        intro I C E0 E1 L _ _ _ X a
        cases I <;> cases C <;> by_cases h0 : E0 <;> by_cases h1 : E1 <;> by_cases hL : L <;> simp [h0, h1, hL]
      exact key _ _ _ _ _ _ _
    · (repeat' split) <;> first | exact k_an5 hI | exact hI
/-- each right by itself -/
theorem k_isTaken (S : z_MI) (P : z_ML) (r w m : Int32) : f_X0_isTaken S P r w m = k_ex (fun k => f_X6_isIn S P (S 59713 (nI k).toNatClampNeg) r && f_X0_takes S P (nI k) w m) (S 10240 8).toNatClampNeg := by
  unfold f_X0_isTaken
  refine k_fxB fun k hk => ?_
  unfold l_X0_isTaken_3
  cases f_X6_isIn S P (S 59713 (nI k).toNatClampNeg) r <;> cases f_X0_takes S P (nI k) w m <;> rfl
theorem k_leftBit (S : z_MI) (P : z_ML) (w m : Int32) {i : Nat} (hi : i < 32) : bt (f_X0_leftAt S P w m) i = (decide (i < 5) && !f_X0_isTaken S P (nI i) w m) := by
  rw [k_isTaken]
  unfold f_X0_leftAt
  have : ∀ n, bt (z_fo (fun k6 a6 => l_X0_leftAt_6 S P w m k6 a6) (nI 31) n) i = (decide (i < 5) && !k_ex (fun k => f_X6_isIn S P (S 59713 (nI k).toNatClampNeg) (nI i) && f_X0_takes S P (nI k) w m) n) := by
    intro n
    induction n with
    | zero =>
      show bt (nI 31) i = _
      rw [k_b31 i hi]
      unfold k_ex
      simp
    | succ n ih =>
      show bt (l_X0_leftAt_6 S P w m n (z_fo (fun k6 a6 => l_X0_leftAt_6 S P w m k6 a6) (nI 31) n)) i = _
      rw [k_ex_s]
      generalize z_fo (fun k6 a6 => l_X0_leftAt_6 S P w m k6 a6) (nI 31) n = acc at ih ⊢
      generalize k_ex (fun k => f_X6_isIn S P (S 59713 (nI k).toNatClampNeg) (nI i) && f_X0_takes S P (nI k) w m) n = ex at ih ⊢
      unfold l_X0_leftAt_6
      cases hT : f_X0_takes S P (nI n) w m
      · rw [if_neg Bool.false_ne_true, ih]
        simp
      · rw [if_pos rfl, b_and, b_xor, b_m1 i hi, ih, j_isIn S P _ hi]
        cases decide (i < 5) <;> cases bt (S 59713 (nI n).toNatClampNeg) i <;> cases ex <;> rfl
  exact this _
theorem k_leftAnew (S : z_MI) (P : z_ML) (w m : Int32) : z_fo (fun k39 a39 => l_X6_leftAnew_39 S P w m k39 a39) (nI 0) 5 = f_X0_leftAt S P w m := by
  refine b_ext fun i hi => ?_
  rw [k_leftBit S P w m hi]
  have : ∀ n, n ≤ 5 → bt (z_fo (fun k39 a39 => l_X6_leftAnew_39 S P w m k39 a39) (nI 0) n) i = (decide (i < n) && !f_X0_isTaken S P (nI i) w m) := by
    intro n
    induction n with
    | zero =>
      intro _
      show bt (nI 0) i = _
      rw [nI_0, b_0]
      simp
    | succ n ih =>
      intro hn
      show bt (l_X6_leftAnew_39 S P w m n (z_fo (fun k39 a39 => l_X6_leftAnew_39 S P w m k39 a39) (nI 0) n)) i = _
      have ih := ih (by omega)
      generalize z_fo (fun k39 a39 => l_X6_leftAnew_39 S P w m k39 a39) (nI 0) n = acc at ih ⊢
      unfold l_X6_leftAnew_39
      by_cases e : i = n
      · subst e
        cases hT : f_X0_isTaken S P (nI i) w m
        · rw [if_neg Bool.false_ne_true, j_w1, j_set _ hi hi]
          simp
        · rw [if_pos rfl, j_w0, j_clr _ hi hi]
          simp
      · have g : decide (i < n + 1) = decide (i < n) := by
          by_cases q : i < n
          · have : i < n + 1 := by omega
            simp [q, this]
          · have : ¬ i < n + 1 := by omega
            simp [q, this]
        rw [g, ← ih]
        split
        · rw [j_w0, j_clr _ (by omega) hi]
          simp [e]
        · rw [j_w1, j_set _ (by omega) hi]
          simp [e]
  exact this 5 (Nat.le_refl _)
/-! claims -/
theorem k_isStrong {S T : z_MI} {P Q P' Q' : z_ML} (h : i_2 S T P Q) (c : Int32) : f_X7_isStrong T Q' c = f_X1_stands S P' c := by
  unfold f_X7_isStrong f_X1_stands
  rw [i_a_claimState h]
theorem k_isGranted {S T : z_MI} {P Q P' Q' : z_ML} (h : i_2 S T P Q) {w : Int32} (hw : ¬ w < 0) (c : Int32) : f_X7_isGranted T Q' c w = f_X1_isHeld S P' c w := by
  unfold f_X7_isGranted f_X1_isHeld
  rw [i_a_claimState h, i_a_granted h, k_has S T P' Q' _ hw]
theorem k_hasOther {S T : z_MI} {P Q P' Q' : z_ML} (h : i_2 S T P Q) (c : Int32) : f_X7_hasOther T Q' c = f_X1_isBarred S P' c := by
  unfold f_X7_hasOther f_X1_isBarred
  rw [i_c_claims h]
  have e1 : ∀ k, k < (S 12296 8).toNatClampNeg → l_X1_isBarred_2 S P' c k () = if (fun k => !decide (nI k = c) && (decide (S 71777 (nI k).toNatClampNeg = S 71777 c.toNatClampNeg) && (decide (S 77921 (nI k).toNatClampNeg = nI 1) && !decide (S 73825 (nI k).toNatClampNeg &&& S 73825 c.toNatClampNeg = 0)))) k = true then .inr true else .inl () := by
    intro k _
    unfold l_X1_isBarred_2
    (repeat' split) <;> simp_all
  rw [k_fxB (f := fun k2 a2 => l_X1_isBarred_2 S P' c k2 a2) e1]
  refine k_foB fun k a hk => ?_
  unfold l_X7_hasOther_4
  rw [i_a_claimOf h, i_a_claimState h, i_a_claimPlaces h]
  (repeat' split) <;> simp_all
theorem k_rivals {S T : z_MI} {P Q P' Q' : z_ML} (h : i_2 S T P Q) (c : Int32) : f_X7_rivals T Q' c = f_X1_rivalsOf S P' c := by
  unfold f_X7_rivals f_X1_rivalsOf
  rw [i_c_claims h]
  refine k_fo fun k a hk => ?_
  unfold l_X7_rivals_4 l_X1_rivalsOf_4
  rw [i_a_claimOf h, i_a_claimPlaces h, k_isStrong (P' := P') h, j_or0, j_w1]
theorem k_holdersOf {S T : z_MI} {P Q P' Q' : z_ML} (h : i_2 S T P Q) {w : Int32} (hw : ¬ w < 0) : f_X7_holdersOf T Q' w = f_X1_holdersOf S P' w := by
  unfold f_X7_holdersOf f_X1_holdersOf
  rw [i_c_claims h]
  refine k_fo fun k a hk => ?_
  unfold l_X7_holdersOf_4 l_X1_holdersOf_4
  rw [k_isGranted (P' := P') h hw, i_a_claimOf h, j_or0, j_w1]
theorem k_partiesOf {S T : z_MI} {P Q P' Q' : z_ML} (h : i_2 S T P Q) (n : Int32) : f_X7_partiesOf T Q' n = f_X6_partiesOf S P' n := by
  unfold f_X7_partiesOf f_X6_partiesOf f_X1_partiesAt
  rw [i_c_claims h]
  refine k_fo fun k a hk => ?_
  unfold l_X7_partiesOf_4 l_X1_partiesAt_5
  rw [k_isStrong (P' := P') h, i_a_claimPlaces h, i_a_noticePlaces h, i_a_noticeMonth h, i_a_registeredIn h, i_a_claimOf h, j_or0, j_w1]
  (repeat' split) <;> simp_all
/-- a set of peoples made of the claims' peoples: only peoples that are there -/
theorem k_six {S T : z_MI} {P Q : z_ML} (h : i_2 S T P Q) {f : Nat → Int32 → Int32} (hf : ∀ k a, k < 13 → f k a = a ∨ f k a = a ||| (nI 1 <<< (S 71777 k &&& 31))) : ∀ i, i < 32 → bt (z_fo f (nI 0) (S 12296 8).toNatClampNeg) i = true → (i : Int) < (S 4112 6).toInt := by
  have hc := z_le_cl (z_J_claims (i_J h)) (by decide)
  intro i hi
  refine k_foP (fun _ b => bt b i = true → (i : Int) < (S 4112 6).toInt) (fun q => ?_) (fun k b hk hb => ?_)
  · rw [nI_0, b_0] at q; cases q
  · rcases hf k b (by omega) with e | e
    · rw [e]; exact hb
    · rw [e]
      have h1 : vp_in (S 71777 k) 6 := i_b_claims_people h k
      obtain ⟨j, hj, hj2⟩ := vp_in_of h1 (by decide)
      have h2 := h.2.2.2.2.1.2.2.2.1 k (by rw [hc.1, nI_toInt (by omega)]; omega)
      rw [hj2] at h2 ⊢
      rw [nI_toInt (by omega)] at h2
      rw [j_set _ (by omega) hi, Bool.or_eq_true, decide_eq_true_eq]
      rintro (q | q)
      · exact hb q
      · rw [q]; exact h2
theorem k_holdP {S T : z_MI} {P Q : z_ML} (h : i_2 S T P Q) (P' : z_ML) (w : Int32) : ∀ i, i < 32 → bt (f_X1_holdersOf S P' w) i = true → (i : Int) < (S 4112 6).toInt := by
  refine k_six h (f := fun k4 a4 => l_X1_holdersOf_4 S P' w k4 a4) fun k a hk => ?_
  unfold l_X1_holdersOf_4
  rw [k_nI (show k < 2 ^ 31 by omega)]
  split
  · right
    rw [j_w1]
  · left; rfl
theorem k_partP {S T : z_MI} {P Q : z_ML} (h : i_2 S T P Q) (P' : z_ML) (n : Int32) : ∀ i, i < 32 → bt (f_X6_partiesOf S P' n) i = true → (i : Int) < (S 4112 6).toInt := by
  unfold f_X6_partiesOf
  refine k_six h (f := fun k5 a5 => l_X1_partiesAt_5 S P' (S 90209 n.toNatClampNeg) (S 88161 n.toNatClampNeg + nI 3) k5 a5) fun k a hk => ?_
  unfold l_X1_partiesAt_5
  rw [k_nI (show k < 2 ^ 31 by omega), j_w1]
  (repeat' split) <;> simp
theorem k_nn6 {S T : z_MI} {P Q : z_ML} (h : i_2 S T P Q) {x : Int32} (hx : ∀ i, i < 32 → bt x i = true → (i : Int) < (S 4112 6).toInt) : 0 ≤ x.toInt := by
  rw [j_nn]
  cases e : bt x 31
  · rfl
  · have h1 := hx 31 (by decide) e
    obtain ⟨n, hn, hn2⟩ := z_J_peoples (i_J h)
    rw [hn2, nI_toInt (by omega)] at h1
    omega

