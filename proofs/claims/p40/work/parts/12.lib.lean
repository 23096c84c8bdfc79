
def z_b (b : Bool) : Int32 := match b with
  | true => nI 1
  | false => nI 0
theorem z_nb (b : Bool) : narrow .boolean (.int (z_b b)) = .int (z_b b) := by cases b <;> rfl
theorem z_b0 {b : Bool} : z_b b = 0 ↔ b = false := by cases b <;> decide
theorem z_nt {b : Bool} (h : b = false) : ¬ b = true := by rw [h]; decide
theorem z_br {b : Bool} {A B : Prop} (f : b = false → A) (t : b = true → B) : (z_b b = 0 → A) ∧ (¬ z_b b = 0 → B) := ⟨fun h => f (z_b0.mp h), fun h => t (by cases b <;> first | rfl | exact absurd (z_b0.mpr rfl) h)⟩
theorem z_brn {b : Bool} {A B : Prop} (t : b = true → A) (f : b = false → B) : (¬ z_b b = 0 → A) ∧ (z_b b = 0 → B) := ⟨fun h => t (by cases b <;> first | rfl | exact absurd (z_b0.mpr rfl) h), fun h => f (z_b0.mp h)⟩
theorem z_p3 {Po : z_PO} {a b : Option Value} {S S' : z_MI} {P P' : z_ML} (h : Po a S P) (h1 : a = b) (h2 : S = S') (h3 : P = P') : Po b S' P' := by
  subst h1; subst h2; subst h3; exact h
theorem z_pb {Po : z_PO} {a b : Bool} {S S' : z_MI} {P P' : z_ML} (h : Po (some (.int (z_b a))) S P) (h1 : a = b) (h2 : S = S') (h3 : P = P') : Po (some (.int (z_b b))) S' P' := by
  subst h1; subst h2; subst h3; exact h
theorem z_pi {Po : z_PO} {a b : Int32} {S S' : z_MI} {P P' : z_ML} (h : Po (some (.int a)) S P) (h1 : a = b) (h2 : S = S') (h3 : P = P') : Po (some (.int b)) S' P' := by
  subst h1; subst h2; subst h3; exact h
theorem z_pl {Po : z_PO} {a b : Int64} {S S' : z_MI} {P P' : z_ML} (h : Po (some (.long a)) S P) (h1 : a = b) (h2 : S = S') (h3 : P = P') : Po (some (.long b)) S' P' := by
  subst h1; subst h2; subst h3; exact h
theorem z_pv {Po : z_PO} {S S' : z_MI} {P P' : z_ML} (h : Po none S P) (h2 : S = S') (h3 : P = P') : Po none S' P' := by
  subst h2; subst h3; exact h
def z_fo {α : Type} (f : Nat → α → α) (a : α) : Nat → α
  | 0 => a
  | k + 1 => f k (z_fo f a k)
def z_fx {α β : Type} (f : Nat → α → α ⊕ β) (a : α) : Nat → α ⊕ β
  | 0 => .inl a
  | k + 1 => Sum.elim (fun a => f k a) (fun r => .inr r) (z_fx f a k)
theorem z_fx_s {α β : Type} {f : Nat → α → α ⊕ β} {i a : α} {k : Nat} (h : z_fx f i k = .inl a) : z_fx f i (k + 1) = f k a := by
  show Sum.elim _ _ (z_fx f i k) = _
  rw [h]
  rfl
theorem z_fx_r {α β : Type} {f : Nat → α → α ⊕ β} {i : α} {k n : Nat} {r : β} (h : z_fx f i k = .inr r) (hn : k ≤ n) : z_fx f i n = .inr r := by
  induction n with
  | zero =>
    have : k = 0 := by omega
    subst this
    exact h
  | succ n ih =>
    by_cases hk : k = n + 1
    · subst hk; exact h
    · show Sum.elim _ _ (z_fx f i n) = _
      rw [ih (by omega)]
      rfl
def z_le (x : Int32) (N : Nat) : Prop := ∃ n, n ≤ N ∧ x = nI n
theorem z_le_cl {x : Int32} {N : Nat} (h : z_le x N) (hN : N < 2 ^ 31) : x = nI x.toNatClampNeg ∧ x.toNatClampNeg ≤ N := by
  obtain ⟨n, h1, rfl⟩ := h
  rw [nI_clamp (by omega)]
  exact ⟨rfl, h1⟩
theorem z_brge {b : Int32} {n k : Nat} (hb : b = nI n) (hn : n < 2 ^ 31) (hk : k < 2 ^ 31) : b ≤ nI k ↔ n ≤ k := by
  rw [hb]
  exact nI_leI hn hk
theorem z_brgt {n k : Nat} (hb : nI (n + 1) = nI (n + 1)) (hn : n + 1 < 2 ^ 31) (hk : k < 2 ^ 31) : nI n < nI k ↔ n + 1 ≤ k := by
  rw [nI_ltI (by omega) hk]
  omega
theorem z_in_le {x : Int32} {n N : Nat} (h : vp_in x n) (hN : n ≤ N) : vp_in x N := fun q => h (by
  rcases q with q | q
  · exact Or.inl q
  · exact Or.inr (by omega))
theorem z_in_ma {x : Int32} {k m N M : Nat} (h : vp_in x N) (hk : k < m) (hM : N * m ≤ M ∧ M < 2 ^ 31) : vp_in (x * nI m + nI k) M := by
  have hN : N < 2 ^ 31 := by
    have : N * 1 ≤ N * m := Nat.mul_le_mul_left N (by omega)
    omega
  obtain ⟨j, hj, rfl⟩ := vp_in_of h hN
  rw [pk_mul, nI_add]
  have : (j + 1) * m ≤ N * m := Nat.mul_le_mul_right m hj
  rw [Nat.succ_mul] at this
  exact vp_in_nI (by omega) hM.2
theorem z_i64 {x : Int32} (h : ¬ x = 0) : ¬ x.toInt64 = 0 := fun q => h (Int32.toInt_inj.mp (by
  have h1 : x.toInt64.toInt = (0 : Int64).toInt := by rw [q]
  rw [Int32.toInt_toInt64] at h1
  rw [h1]
  decide))
theorem z_ck {x c : Int32} {N : Nat} (h1 : ¬ x < 0) (h2 : ¬ c ≤ x) (hc : z_le c N) (hN : N < 2 ^ 31) : vp_in x N := by
  obtain ⟨n, hn, rfl⟩ := hc
  rw [vp_in_iff]
  rw [Int32.lt_iff_toInt_lt] at h1
  rw [Int32.le_iff_toInt_le, nI_toInt (by omega)] at h2
  have h0 : (0 : Int32).toInt = 0 := by decide
  omega
def z_i2b (x : Int32) : Bool := decide (x = nI 1)

