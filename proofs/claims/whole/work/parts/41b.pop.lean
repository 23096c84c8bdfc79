/-! the two ways to count bits -/
def j_M (w m : Nat) : Nat → Nat
  | 0 => 0
  | k + 1 => 2 ^ w * j_M w m k + m
def j_b (n i : Nat) : Nat := n / 2 ^ i % 2
def j_D4 : Nat → Nat → Nat
  | 0, _ => 0
  | k + 1, n => 4 * j_D4 k (n / 4) + (n % 2 + n / 2 % 2)
theorem j_L1 : ∀ k n, n < 4 ^ k → (n / 2 &&& j_M 2 1 k) ≤ n ∧ n - (n / 2 &&& j_M 2 1 k) = j_D4 k n
  | 0, n, h => by
    have : n = 0 := by simpa using h
    subst this
    exact ⟨by simp [j_M], by simp [j_M, j_D4]⟩
  | k + 1, n, h => by
    obtain ⟨h1, h2⟩ := j_L1 k (n / 4) (by rw [Nat.pow_succ] at h; omega)
    have e : n / 2 &&& j_M 2 1 (k + 1) = 4 * (n / 4 / 2 &&& j_M 2 1 k) + n / 2 % 2 := by
      show n / 2 &&& (2 ^ 2 * j_M 2 1 k + 1) = _
      rw [j_and 2 (n / 2) (j_M 2 1 k) 1 (by decide), Nat.and_one_is_mod]
      have a1 : n / 2 / 2 ^ 2 = n / 4 / 2 := by omega
      have a2 : n / 2 % 2 ^ 2 % 2 = n / 2 % 2 := by omega
      rw [a1, a2]
    rw [e]
    show _ ∧ _ = 4 * j_D4 k (n / 4) + (n % 2 + n / 2 % 2)
    rw [← h2]
    omega
def j_E : Nat → Nat → Nat
  | 0, _ => 0
  | k + 1, n => 16 * j_E k (n / 16) + ((n % 2 + n / 2 % 2) + (n / 4 % 2 + n / 8 % 2))
theorem j_m3 (x : Nat) : x % 2 ^ 4 &&& 3 = x % 4 := by
  rw [show (3 : Nat) = 2 ^ 2 - 1 from rfl, Nat.and_two_pow_sub_one_eq_mod]
  omega
theorem j_m15 (x : Nat) : x % 2 ^ 8 &&& 15 = x % 16 := by
  rw [show (15 : Nat) = 2 ^ 4 - 1 from rfl, Nat.and_two_pow_sub_one_eq_mod]
  omega
theorem j_le2 (a b : Nat) : a % 2 + b % 2 ≤ 2 := by omega
theorem j_s2 {d a b : Nat} (ha : a ≤ 2) (hb : b ≤ 2) : (16 * d + 4 * b + a) / 2 ^ 4 = d ∧ (16 * d + 4 * b + a) / 4 / 2 ^ 4 = d / 4 ∧ (16 * d + 4 * b + a) % 4 = a ∧ (16 * d + 4 * b + a) / 4 % 4 = b := by omega
theorem j_s3 {d s a b : Nat} (hs : s ≤ 4) (ha : a ≤ 4) (hb : b ≤ 4) : (256 * (16 * d + s) + 16 * b + a + (256 * (16 * d + s) + 16 * b + a) / 16) / 2 ^ 8 = 16 * d + s + (16 * d + s) / 16 ∧ (256 * (16 * d + s) + 16 * b + a + (256 * (16 * d + s) + 16 * b + a) / 16) % 16 = a + b := by
  have e : (256 * (16 * d + s) + 16 * b + a) / 16 = 256 * d + 16 * s + b := by omega
  rw [e]
  omega
theorem j_L2 : ∀ k n, (j_D4 (2 * k) n &&& j_M 4 3 k) + (j_D4 (2 * k) n / 4 &&& j_M 4 3 k) = j_E k n
  | 0, n => by simp [j_M, j_E]
  | k + 1, n => by
    have ih := j_L2 k (n / 16)
    have e : j_D4 (2 * (k + 1)) n = 16 * j_D4 (2 * k) (n / 16) + 4 * (n / 4 % 2 + n / 8 % 2) + (n % 2 + n / 2 % 2) := by
      rw [show 2 * (k + 1) = 2 * k + 1 + 1 from by omega]
      simp only [j_D4]
      have a1 : n / 4 / 4 = n / 16 := by omega
      have a2 : n / 4 / 2 = n / 8 := by omega
      rw [a1, a2]
      generalize n / 4 % 2 + n / 8 % 2 = b
      generalize n % 2 + n / 2 % 2 = a
      omega
    rw [e]
    simp only [j_M, j_E]
    rw [j_and 4 _ _ 3 (by decide), j_and 4 _ _ 3 (by decide), j_m3, j_m3, ← ih]
    have ha := j_le2 n (n / 2)
    have hb := j_le2 (n / 4) (n / 8)
    generalize n / 4 % 2 + n / 8 % 2 = b at *
    generalize n % 2 + n / 2 % 2 = a at *
    obtain ⟨s1, s2, s3, s4⟩ := j_s2 (d := j_D4 (2 * k) (n / 16)) ha hb
    rw [s1, s2, s3, s4]
    omega
def j_G : Nat → Nat → Nat
  | 0, _ => 0
  | k + 1, n => 256 * j_G k (n / 256) + (((n % 2 + n / 2 % 2) + (n / 4 % 2 + n / 8 % 2)) + ((n / 16 % 2 + n / 32 % 2) + (n / 64 % 2 + n / 128 % 2)))
theorem j_E16 : ∀ k n, ∃ d s, s ≤ 4 ∧ j_E k n = 16 * d + s
  | 0, n => ⟨0, 0, by decide, rfl⟩
  | k + 1, n => ⟨j_E k (n / 16), (n % 2 + n / 2 % 2) + (n / 4 % 2 + n / 8 % 2), Nat.add_le_add (j_le2 _ _) (j_le2 _ _), rfl⟩
theorem j_L3 : ∀ k n, (j_E (2 * k) n + j_E (2 * k) n / 16 &&& j_M 8 15 k) = j_G k n
  | 0, n => by simp [j_M, j_G]
  | k + 1, n => by
    have ih := j_L3 k (n / 256)
    have e : j_E (2 * (k + 1)) n = 256 * j_E (2 * k) (n / 256) + 16 * ((n / 16 % 2 + n / 32 % 2) + (n / 64 % 2 + n / 128 % 2)) + ((n % 2 + n / 2 % 2) + (n / 4 % 2 + n / 8 % 2)) := by
      rw [show 2 * (k + 1) = 2 * k + 1 + 1 from by omega]
      simp only [j_E]
      have a1 : n / 16 / 16 = n / 256 := by omega
      have a2 : n / 16 / 2 = n / 32 := by omega
      have a3 : n / 16 / 4 = n / 64 := by omega
      have a4 : n / 16 / 8 = n / 128 := by omega
      rw [a1, a2, a3, a4]
      generalize (n / 16 % 2 + n / 32 % 2) + (n / 64 % 2 + n / 128 % 2) = b
      generalize (n % 2 + n / 2 % 2) + (n / 4 % 2 + n / 8 % 2) = a
      omega
    obtain ⟨d, s, hs, hd⟩ := j_E16 (2 * k) (n / 256)
    rw [e]
    simp only [j_M, j_G]
    rw [j_and 8 _ _ 15 (by decide), j_m15, ← ih]
    have ha : (n % 2 + n / 2 % 2) + (n / 4 % 2 + n / 8 % 2) ≤ 4 := Nat.add_le_add (j_le2 _ _) (j_le2 _ _)
    have hb : (n / 16 % 2 + n / 32 % 2) + (n / 64 % 2 + n / 128 % 2) ≤ 4 := Nat.add_le_add (j_le2 _ _) (j_le2 _ _)
    generalize (n / 16 % 2 + n / 32 % 2) + (n / 64 % 2 + n / 128 % 2) = b at *
    generalize (n % 2 + n / 2 % 2) + (n / 4 % 2 + n / 8 % 2) = a at *
    rw [hd]
    obtain ⟨s1, s2⟩ := j_s3 (d := d) hs ha hb
    rw [s1, s2]
