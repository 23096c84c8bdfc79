/-! the model's questions are the class's -/
theorem k_cnt {x c : Int32} {N : Nat} (hc : z_le c N) (hN : N < 2 ^ 30) : (if x < nI 0 then false else if c - nI 1 < x then false else true) = (if x < 0 then false else if c ≤ x then false else true) := by
  obtain ⟨n, hn, rfl⟩ := hc
  have e : (nI n - nI 1 < x) ↔ nI n ≤ x := by
    rw [Int32.lt_iff_toInt_lt, Int32.le_iff_toInt_le, pk_sub_toInt (by omega) (by decide), nI_toInt (by omega)]
    omega
  simp only [e, nI_0]
theorem k_isPeople {S T : z_MI} {P Q P' Q' : z_ML} (h : i_2 S T P Q) (x : Int32) : f_X7_isPeople T Q' x = f_X2_isPeople S P' x := by
  unfold f_X7_isPeople f_X7_in f_X2_isPeople
  rw [i_c_peoples h]
  exact k_cnt (z_J_peoples (i_J h)) (by decide)
theorem k_isPerson {S T : z_MI} {P Q P' Q' : z_ML} (h : i_2 S T P Q) (x : Int32) : f_X7_isPerson T Q' x = f_X2_isPerson S P' x := by
  unfold f_X7_isPerson f_X7_in f_X2_isPerson
  rw [i_c_persons h]
  exact k_cnt (z_J_persons (i_J h)) (by decide)
theorem k_isStory {S T : z_MI} {P Q P' Q' : z_ML} (h : i_2 S T P Q) (x : Int32) : f_X7_isStory T Q' x = f_X5_isStory S P' x := by
  unfold f_X7_isStory f_X7_in f_X5_isStory
  rw [i_c_stories h]
  exact k_cnt (z_J_stories (i_J h)) (by decide)
theorem k_isAct {S T : z_MI} {P Q P' Q' : z_ML} (h : i_2 S T P Q) (x : Int32) : f_X7_isAct T Q' x = f_X0_isAct S P' x := by
  unfold f_X7_isAct f_X7_in f_X0_isAct
  rw [i_c_acts h]
  exact k_cnt (z_J_acts (i_J h)) (by decide)
theorem k_isClaim {S T : z_MI} {P Q P' Q' : z_ML} (h : i_2 S T P Q) (x : Int32) : f_X7_isClaim T Q' x = f_X1_isClaim S P' x := by
  unfold f_X7_isClaim f_X7_in f_X1_isClaim
  rw [i_c_claims h]
  exact k_cnt (z_J_claims (i_J h)) (by decide)
theorem k_isNotice {S T : z_MI} {P Q P' Q' : z_ML} (h : i_2 S T P Q) (x : Int32) : f_X7_isNotice T Q' x = f_X4_isNotice S P' x := by
  unfold f_X7_isNotice f_X7_in f_X4_isNotice
  rw [i_c_notices h]
  exact k_cnt (z_J_notices (i_J h)) (by decide)
theorem k_isPlace (S T : z_MI) (P Q : z_ML) (x : Int32) : f_X7_isPlace T Q x = f_X6_isPlace S P x := k_cnt (c := nI 16) ⟨16, Nat.le_refl _, rfl⟩ (by decide)
theorem k_isPart {S T : z_MI} {P Q P' Q' : z_ML} (h : i_2 S T P Q) (s p : Int32) : f_X5_isPart S P' s p = (f_X7_isStory T Q' s && f_X7_in T Q' p (nI 0) (T 129105 s.toNatClampNeg - nI 1)) := by
  rw [k_isStory (P' := P') h, i_a_parts h]
  unfold f_X5_isPart
  have e := k_cnt (x := p) (z_J_parts (i_J h) s.toNatClampNeg) (by decide)
  unfold f_X7_in
  rw [e]
  cases f_X5_isStory S P' s <;> simp
theorem k_isWhat (S T : z_MI) (P Q : z_ML) (a b c d m : Int32) : f_X7_isWhat T Q a b c d m = (f_X6_isDeed S P a b c && f_X6_isLast S P d c m) := by
  have e1 : f_X7_in T Q a (nI 1) (nI 65535) = f_X6_isSomePlaces S P a := rfl
  have e2 : f_X7_in T Q b (nI 1) (nI 31) = f_X6_isSomeRights S P b := rfl
  unfold f_X7_isWhat f_X6_isDeed f_X6_isLast
  rw [e1, e2]
  unfold f_X7_in
  rw [nI_0]
  have key : ∀ (X Y Z V : Bool) (E W : Prop) [Decidable E] [Decidable W], (if X = true then if Y = true then if Z = true then if E then if V = true then true else false else if W then true else false else false else false else false) = ((if X = true then if Y = true then Z else false else false) && if E then V else if W then true else false) := by
    intro X Y Z V E W _ _
    cases X <;> cases Y <;> cases Z <;> cases V <;> by_cases hE : E <;> by_cases hW : W <;> simp [hE, hW]
  exact key _ _ _ _ _ _
theorem k_mask (j : Nat) : (nI j &&& 31 : Int32) = nI (j % 32) &&& 31 := by
  show nI j &&& nI 31 = nI (j % 32) &&& nI 31
  rw [fa_and, fa_and, show (31 : Nat) = 2 ^ 5 - 1 from rfl, Nat.and_two_pow_sub_one_eq_mod, Nat.and_two_pow_sub_one_eq_mod]
  congr 1
  omega
theorem k_has (S T : z_MI) (P Q : z_ML) (x : Int32) {k : Int32} (hk : ¬ k < 0) : f_X7_has T Q x k = f_X6_isIn S P x k := by
  obtain ⟨j, hj, rfl⟩ := nI_of hk
  have e1 : f_X7_has T Q x (nI j) = f_X7_has T Q x (nI (j % 32)) := by
    unfold f_X7_has
    rw [k_mask]
  have e2 : f_X6_isIn S P x (nI j) = f_X6_isIn S P x (nI (j % 32)) := by
    unfold f_X6_isIn
    rw [if_neg hk, if_neg (nI_pos (by omega))]
    have e3 : (nI j).toUInt32 &&& Int32.toUInt32 31 = (nI (j % 32)).toUInt32 &&& Int32.toUInt32 31 := by
      show (nI j &&& 31).toUInt32 = (nI (j % 32) &&& 31).toUInt32
      rw [k_mask]
    rw [e3]
  rw [e1, e2, j_has _ _ _ (Nat.mod_lt _ (by decide)), j_isIn _ _ _ (Nat.mod_lt _ (by decide))]
theorem k_isInM (S T : z_MI) (P Q : z_ML) (x : Int32) {k : Int32} (hk : -1 ≤ k.toInt) : f_X7_isIn T Q x k = f_X6_isIn S P x k := by
  unfold f_X7_isIn
  by_cases h : k = -1
  · subst h
    rw [if_pos rfl]
    rfl
  · have h2 : ¬ k < 0 := by
      intro q
      rw [Int32.lt_iff_toInt_lt] at q
      have h0 : (0 : Int32).toInt = 0 := by decide
      have h1 : k.toInt = (-1 : Int32).toInt := by
        have : (-1 : Int32).toInt = -1 := by decide
        omega
      exact h (Int32.toInt_inj.mp h1)
    rw [if_neg h, k_has S T P Q x h2]
    cases f_X6_isIn S P x k <;> rfl
theorem k_fo {α : Type} {f g : Nat → α → α} {a : α} : ∀ {n : Nat}, (∀ k a, k < n → f k a = g k a) → z_fo f a n = z_fo g a n
  | 0, _ => rfl
  | n + 1, h => by
    show f n (z_fo f a n) = g n (z_fo g a n)
    rw [k_fo (fun k a hk => h k a (by omega)), h n _ (by omega)]
theorem k_foI {α : Type} {f g : Nat → α → α} {a : α} (I : α → Prop) (h0 : I a) : ∀ {n : Nat}, (∀ k a, k < n → I a → f k a = g k a ∧ I (f k a)) → z_fo f a n = z_fo g a n ∧ I (z_fo f a n)
  | 0, _ => ⟨rfl, h0⟩
  | n + 1, h => by
    obtain ⟨h1, h2⟩ := k_foI I h0 (fun k a hk => h k a (by omega) : ∀ k a, k < n → I a → f k a = g k a ∧ I (f k a))
    obtain ⟨h3, h4⟩ := h n _ (Nat.lt_succ_self n) h2
    exact ⟨by show f n (z_fo f a n) = g n (z_fo g a n); rw [← h1, h3], h4⟩
theorem k_foP {α : Type} {f : Nat → α → α} {a : α} (I : Nat → α → Prop) (h0 : I 0 a) : ∀ {n : Nat}, (∀ k a, k < n → I k a → I (k + 1) (f k a)) → I n (z_fo f a n)
  | 0, _ => h0
  | n + 1, h => h n _ (Nat.lt_succ_self n) (k_foP I h0 (fun k a hk => h k a (by omega)))
def k_ex (c : Nat → Bool) : Nat → Bool
  | 0 => false
  | n + 1 => k_ex c n || c n
theorem k_ex_s (c : Nat → Bool) (n : Nat) : k_ex c (n + 1) = (k_ex c n || c n) := rfl
theorem k_exI {c : Nat → Bool} : ∀ {n : Nat}, k_ex c n = true ↔ ∃ k, k < n ∧ c k = true
  | 0 => ⟨fun h => Bool.noConfusion h, fun ⟨k, hk, _⟩ => absurd hk (Nat.not_lt_zero k)⟩
  | n + 1 => by
    rw [k_ex_s, Bool.or_eq_true, k_exI]
    constructor
    · rintro (⟨k, hk, hc⟩ | hc)
      · exact ⟨k, by omega, hc⟩
      · exact ⟨n, by omega, hc⟩
    · rintro ⟨k, hk, hc⟩
      by_cases e : k = n
      · subst e; exact Or.inr hc
      · exact Or.inl ⟨k, by omega, hc⟩
theorem k_exC {c d : Nat → Bool} : ∀ {n : Nat}, (∀ k, k < n → c k = d k) → k_ex c n = k_ex d n
  | 0, _ => rfl
  | n + 1, h => by
    rw [k_ex_s, k_ex_s, k_exC (fun k hk => h k (by omega)), h n (by omega)]
theorem k_fxE {f : Nat → Unit → Unit ⊕ Bool} {c : Nat → Bool} : ∀ {n : Nat}, (∀ k, k < n → f k () = if c k = true then .inr true else .inl ()) → z_fx f () n = if k_ex c n = true then .inr true else .inl ()
  | 0, _ => rfl
  | n + 1, h => by
    show Sum.elim (fun a => f n a) (fun r => .inr r) (z_fx f () n) = _
    rw [k_fxE (fun k hk => h k (by omega)), k_ex_s]
    by_cases e : k_ex c n = true
    · rw [if_pos e, e]; rfl
    · rw [if_neg e]
      show f n () = _
      rw [h n (by omega)]
      simp at e
      rw [e]
      rfl
theorem k_fxB {f : Nat → Unit → Unit ⊕ Bool} {c : Nat → Bool} {n : Nat} (h : ∀ k, k < n → f k () = if c k = true then .inr true else .inl ()) : Sum.elim (fun _ => false) (fun r => r) (z_fx f () n) = k_ex c n := by
  rw [k_fxE h]
  cases k_ex c n <;> rfl
theorem k_foE {g : Nat → Int32 → Int32} {c : Nat → Bool} : ∀ {n : Nat}, (∀ k a, k < n → g k a = if a = 0 then (if c k = true then nI 1 else nI 0) else nI 1) → z_fo g (nI 0) n = if k_ex c n = true then nI 1 else nI 0
  | 0, _ => rfl
  | n + 1, h => by
    show g n (z_fo g (nI 0) n) = _
    rw [h n _ (by omega), k_foE (fun k a hk => h k a (by omega)), k_ex_s]
    cases k_ex c n <;> cases c n <;> rfl
theorem k_foB {g : Nat → Int32 → Int32} {c : Nat → Bool} {n : Nat} (h : ∀ k a, k < n → g k a = if a = 0 then (if c k = true then nI 1 else nI 0) else nI 1) : z_i2b (z_fo g (nI 0) n) = k_ex c n := by
  rw [k_foE h]
  cases k_ex c n <;> rfl
theorem k_cl {c : Int32} {N : Nat} (h : z_le c N) (hN : N < 2 ^ 31) : c.toNatClampNeg ≤ N := (z_le_cl h hN).2
theorem k_nI {k : Nat} (h : k < 2 ^ 31) : (nI k).toNatClampNeg = k := nI_clamp h
/-! who belongs -/
theorem k_round {S T : z_MI} {P Q P' Q' : z_ML} (h : i_2 S T P Q) (x a : Int32) : m_mo T Q' x a = f_X2_withNext S P' a (S 20529 x.toNatClampNeg) := by
  unfold m_mo f_X2_withNext
  rw [i_c_persons h]
  refine k_fo fun k b hk => ?_
  unfold l_X7_membersOf_19 l_X2_withNext_5 f_X2_isNext
  have hb1 : -1 ≤ (S 24817 (nI k).toNatClampNeg).toInt := i_b_kin_mother h _
  have hb2 : -1 ≤ (S 26865 (nI k).toNatClampNeg).toInt := i_b_kin_father h _
  have hb3 : -1 ≤ (S 28913 (nI k).toNatClampNeg).toInt := i_b_kin_adopter h _
  rw [i_a_rules h, i_a_mothers h, i_a_fathers h, i_a_adopters h, k_isInM S T P' Q' b hb1, k_isInM S T P' Q' b hb2, k_isInM S T P' Q' b hb3, j_w1, j_or0]
  (repeat' split) <;> simp_all
theorem k_sub {S : z_MI} {P : z_ML} (a r : Int32) (hp : (S 4112 7).toNatClampNeg ≤ 30) (i : Nat) (hi : i < 32) : (bt a i = true → bt (f_X2_withNext S P a r) i = true) ∧ (bt (f_X2_withNext S P a r) i = true → bt a i = true ∨ i < (S 4112 7).toNatClampNeg) := by
  unfold f_X2_withNext
  refine k_foP (fun n b => (bt a i = true → bt b i = true) ∧ (bt b i = true → bt a i = true ∨ i < n)) ⟨fun h => h, Or.inl⟩ (fun k b hk ⟨h1, h2⟩ => ?_)
  unfold l_X2_withNext_5
  split
  · rw [j_w1, j_set _ (by omega) hi]
    refine ⟨fun h => by rw [h1 h]; rfl, fun h => ?_⟩
    rw [Bool.or_eq_true, decide_eq_true_eq] at h
    rcases h with h | h
    · rcases h2 h with h | h
      · exact Or.inl h
      · exact Or.inr (by omega)
    · exact Or.inr (by omega)
  · exact ⟨h1, fun h => (h2 h).imp id (by omega)⟩
theorem k_ctm {p q : Nat → Bool} : ∀ {n : Nat}, (∀ k, k < n → p k = true → q k = true) → j_ct p n ≤ j_ct q n ∧ ((∃ k, k < n ∧ p k = false ∧ q k = true) → j_ct p n < j_ct q n)
  | 0, _ => ⟨Nat.le_refl _, fun ⟨k, hk, _⟩ => absurd hk (Nat.not_lt_zero k)⟩
  | n + 1, h => by
    obtain ⟨h1, h2⟩ := k_ctm (fun k hk => h k (by omega) : ∀ k, k < n → p k = true → q k = true)
    have h3 := h n (by omega)
    unfold j_ct
    refine ⟨?_, ?_⟩
    · cases hp : p n
      · simp; omega
      · rw [h3 hp]; simp; omega
    · rintro ⟨k, hk, hp, hq⟩
      by_cases e : k = n
      · subst e
        rw [hp, hq]; simp; omega
      · have := h2 ⟨k, by omega, hp, hq⟩
        cases hp : p n
        · simp; omega
        · rw [h3 hp]; simp; omega
theorem k_fixall {S : z_MI} {P : z_ML} {a r : Int32} (hp : (S 4112 7).toNatClampNeg ≤ 30) (h : f_X2_withNext S P a r ≠ a) : j_ct (fun k => !bt (f_X2_withNext S P a r) k) (S 4112 7).toNatClampNeg < j_ct (fun k => !bt a k) (S 4112 7).toNatClampNeg := by
  refine (k_ctm (p := fun k => !bt (f_X2_withNext S P a r) k) (q := fun k => !bt a k) (fun k hk => ?_)).2 ?_
  · have := (k_sub (P := P) a r hp k (by omega)).1
    simp only [Bool.not_eq_true']
    intro q
    cases hb : bt a k
    · rfl
    · rw [this hb] at q; cases q
  · apply Classical.byContradiction
    intro hn
    apply h
    refine b_ext fun i hi => ?_
    obtain ⟨s1, s2⟩ := k_sub (P := P) a r hp i hi
    cases hb : bt (f_X2_withNext S P a r) i
    · cases ha : bt a i
      · rfl
      · rw [s1 ha] at hb; cases hb
    · cases ha : bt a i
      · rcases s2 hb with q | q
        · rw [q] at ha; cases ha
        · exact absurd ⟨i, q, by simp [hb], by simp [ha]⟩ hn
      · rfl
def k_it {α : Type} (N : α → α) : Nat → α → α
  | 0, a => a
  | n + 1, a => k_it N n (N a)
theorem k_it_s {α : Type} (N : α → α) : ∀ n a, k_it N (n + 1) a = N (k_it N n a)
  | 0, _ => rfl
  | n + 1, a => k_it_s N n (N a)
theorem k_it_fix {α : Type} {N : α → α} {a : α} (h : N a = a) : ∀ n, k_it N n a = a
  | 0 => rfl
  | n + 1 => by
    show k_it N n (N a) = a
    rw [h]; exact k_it_fix h n
theorem k_mw {T : z_MI} {Q : z_ML} {x c : Int32} (hc : m_mo T Q x c = c) : ∀ (j n : Nat) (a p : Int32), k_it (m_mo T Q x) j a = c → j + 2 ≤ n → (a = p → a = c) → m_w T Q x n a p = c
  | 0, n, a, p, hj, hn, hp => by
    have ha : a = c := hj
    subst ha
    obtain ⟨n, rfl⟩ := Nat.exists_eq_add_of_le' hn
    show m_w T Q x (n + 1 + 1) a p = a
    unfold m_w
    by_cases e : a = p
    · rw [if_pos e]
    · rw [if_neg e, hc]
      unfold m_w
      rw [if_pos rfl]
  | j + 1, n, a, p, hj, hn, hp => by
    obtain ⟨n, rfl⟩ := Nat.exists_eq_add_of_le' hn
    show m_w T Q x ((n + (j + 2)) + 1) a p = c
    unfold m_w
    by_cases e : a = p
    · rw [if_pos e]; exact hp e
    · rw [if_neg e]
      refine k_mw hc j _ _ _ hj (by omega) (fun q => ?_)
      have h2 := k_it_fix q (j + 1)
      rw [q]
      rw [← h2]
      exact hj
theorem k_membersOf {S T : z_MI} {P Q P' Q' : z_ML} (h : i_2 S T P Q) {x : Int32} (hx : f_X2_isPeople S P' x = true) : f_X7_membersOf T Q' x = f_X2_membersOf S P' x := by
  have hp : (S 4112 7).toNatClampNeg ≤ 30 := k_cl (z_J_persons (i_J h)) (by decide)
  unfold f_X2_membersOf f_X7_membersOf
  rw [if_pos hx, i_a_roots h]
  have hr : ∀ a, m_mo T Q' x a = f_X2_withNext S P' a (S 20529 x.toNatClampNeg) := fun a => k_round h x a
  have key : ∀ n, n ≤ (S 4112 7).toNatClampNeg → (∃ r, z_fx (fun k19 a19 => l_X2_membersOf_19 S P' x k19 a19) (S 22577 x.toNatClampNeg) n = .inr r ∧ m_mo T Q' x r = r ∧ ∃ j, j ≤ n ∧ k_it (m_mo T Q' x) j (S 22577 x.toNatClampNeg) = r) ∨ (z_fx (fun k19 a19 => l_X2_membersOf_19 S P' x k19 a19) (S 22577 x.toNatClampNeg) n = .inl (k_it (m_mo T Q' x) n (S 22577 x.toNatClampNeg)) ∧ j_ct (fun k => !bt (k_it (m_mo T Q' x) n (S 22577 x.toNatClampNeg)) k) (S 4112 7).toNatClampNeg + n ≤ (S 4112 7).toNatClampNeg) := by
    intro n
    induction n with
    | zero =>
      intro _
      exact Or.inr ⟨rfl, j_ct_le _ _⟩
    | succ n ih =>
      intro hn
      rcases ih (by omega) with ⟨r, h1, h2, j, hj, h3⟩ | ⟨h1, h2⟩
      · exact Or.inl ⟨r, z_fx_r h1 (by omega), h2, j, by omega, h3⟩
      · rw [z_fx_s h1]
        unfold l_X2_membersOf_19
        by_cases e : f_X2_withNext S P' (k_it (m_mo T Q' x) n (S 22577 x.toNatClampNeg)) (S 20529 x.toNatClampNeg) = k_it (m_mo T Q' x) n (S 22577 x.toNatClampNeg)
        · rw [if_pos e]
          exact Or.inl ⟨_, rfl, by rw [hr, e, e], n, by omega, e.symm⟩
        · rw [if_neg e, k_it_s, hr]
          refine Or.inr ⟨rfl, ?_⟩
          have := k_fixall hp e
          omega
  have h1 : ∀ r j, k_it (m_mo T Q' x) j (S 22577 x.toNatClampNeg) = r → S 22577 x.toNatClampNeg = -1 → S 22577 x.toNatClampNeg = r := by
    intro r j hj e
    have f : m_mo T Q' x (-1) = -1 := by
      rw [hr]
      refine b_ext fun i hi => ?_
      rw [b_m1 i hi]
      exact (k_sub (P := P') (-1) _ hp i hi).1 (b_m1 i hi)
    rw [e] at hj ⊢
    rw [k_it_fix f] at hj
    exact hj
  have hN : (S 4112 7).toNatClampNeg + 2 ≤ m_N := by
    have : m_N = 4294967297 := rfl
    omega
  rcases key _ (Nat.le_refl _) with ⟨r, g1, g2, j, hj, g3⟩ | ⟨g1, g2⟩
  · rw [g1]
    exact k_mw g2 j _ _ _ g3 (by omega) (h1 r j g3)
  · rw [g1]
    have g4 : m_mo T Q' x (k_it (m_mo T Q' x) (S 4112 7).toNatClampNeg (S 22577 x.toNatClampNeg)) = k_it (m_mo T Q' x) (S 4112 7).toNatClampNeg (S 22577 x.toNatClampNeg) := by
      apply Classical.byContradiction
      intro hn
      rw [hr] at hn
      have := k_fixall hp hn
      omega
    exact k_mw g4 _ _ _ _ rfl hN (h1 _ _ rfl)

