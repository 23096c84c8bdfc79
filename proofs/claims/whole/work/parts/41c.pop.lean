/-! the two ways to count bits: the end -/
def j_g1 (x : Int32) : Int32 := x - ((x.toUInt32 >>> ((nI 1).toUInt32 &&& Int32.toUInt32 31)).toInt32 &&& nI 1431655765)
def j_g2 (x : Int32) : Int32 := (x &&& nI 858993459) + ((x.toUInt32 >>> ((nI 2).toUInt32 &&& Int32.toUInt32 31)).toInt32 &&& nI 858993459)
def j_g3 (x : Int32) : Int32 := (x + (x.toUInt32 >>> ((nI 4).toUInt32 &&& Int32.toUInt32 31)).toInt32) &&& nI 252645135
def j_g4 (x : Int32) : Int32 := x + (x.toUInt32 >>> ((nI 8).toUInt32 &&& Int32.toUInt32 31)).toInt32
def j_g5 (x : Int32) : Int32 := (x + (x.toUInt32 >>> ((nI 16).toUInt32 &&& Int32.toUInt32 31)).toInt32) &&& nI 63
theorem j_bc0 (S : z_MI) (P : z_ML) (x : Int32) : f_J6_bitCount_0f7a4 S P x = j_g5 (j_g4 (j_g3 (j_g2 (j_g1 x)))) := rfl
theorem j_E_lt : ∀ k n, j_E k n < 16 ^ k
  | 0, _ => by simp [j_E]
  | k + 1, n => by
    have := j_E_lt k (n / 16)
    show 16 * j_E k (n / 16) + _ < _
    rw [Nat.pow_succ]
    omega
theorem j_bt (n i : Nat) (hn : n < 2 ^ 32) : bt (nI n) i = decide (n / 2 ^ i % 2 = 1) := by
  unfold bt
  rw [← BitVec.testBit_toNat, pk_tn hn, Nat.testBit_eq_decide_div_mod_eq]
theorem j_d2 (z : Nat) : (if decide (z % 2 = 1) = true then 1 else 0) = z % 2 := by
  rcases Nat.mod_two_eq_zero_or_one z with h | h
  · rw [h]; rfl
  · rw [h]; rfl
theorem j_p8 (m : Nat) : ((m % 2 + m / 2 % 2) + (m / 4 % 2 + m / 8 % 2)) + ((m / 16 % 2 + m / 32 % 2) + (m / 64 % 2 + m / 128 % 2)) = j_ct (fun i => decide (m / 2 ^ i % 2 = 1)) 8 := by
  simp only [j_ct, j_d2, Nat.reducePow, Nat.div_one, Nat.zero_add, Nat.add_assoc]
theorem j_fin {p0 p1 p2 p3 : Nat} (h0 : p0 ≤ 8) (h1 : p1 ≤ 8) (h2 : p2 ≤ 8) (h3 : p3 ≤ 8) {v : Nat} (e : v = 256 * (256 * (256 * (256 * 0 + p3) + p2) + p1) + p0) : v < 2 ^ 32 ∧ v + v / 256 < 2 ^ 32 ∧ (v + v / 256 + (v + v / 256) / 2 ^ 16) % 2 ^ 6 = p0 + p1 + p2 + p3 := by
  have e1 : v / 256 = 256 * (256 * p3 + p2) + p1 := by omega
  have e2 : (v + v / 256) / 65536 = 256 * p3 + (p2 + p3) := by omega
  refine ⟨by omega, by omega, ?_⟩
  rw [show (2 : Nat) ^ 16 = 65536 from by decide, show (2 : Nat) ^ 6 = 64 from by decide, e2, e1, e]
  omega
theorem j_ct_add (p : Nat → Bool) (m : Nat) : ∀ n, j_ct p (m + n) = j_ct p m + j_ct (fun i => p (m + i)) n
  | 0 => rfl
  | n + 1 => by
    show j_ct p (m + n) + (if p (m + n) = true then 1 else 0) = j_ct p m + (j_ct (fun i => p (m + i)) n + (if p (m + n) = true then 1 else 0))
    rw [j_ct_add p m n, Nat.add_assoc]
theorem j_b8 (n k : Nat) : (fun i => decide (n / 2 ^ (k + i) % 2 = 1)) = fun i => decide (n / 2 ^ k / 2 ^ i % 2 = 1) := by
  funext i
  rw [Nat.div_div_eq_div_mul, ← Nat.pow_add]
theorem j_e32 {n : Nat} (hn : n < 2 ^ 32) : j_ct (bt (nI n)) 32 = j_ct (fun i => decide (n / 2 ^ i % 2 = 1)) 8 + j_ct (fun i => decide (n / 256 / 2 ^ i % 2 = 1)) 8 + j_ct (fun i => decide (n / 256 / 256 / 2 ^ i % 2 = 1)) 8 + j_ct (fun i => decide (n / 256 / 256 / 256 / 2 ^ i % 2 = 1)) 8 := by
  have hb : bt (nI n) = fun i => decide (n / 2 ^ i % 2 = 1) := funext fun i => j_bt n i hn
  have c8 := j_b8 n 8
  have c16 := j_b8 n 16
  have c24 := j_b8 n 24
  have d16 : n / 2 ^ 16 = n / 256 / 256 := by rw [Nat.div_div_eq_div_mul]
  have d24 : n / 2 ^ 24 = n / 256 / 256 / 256 := by rw [Nat.div_div_eq_div_mul, Nat.div_div_eq_div_mul]
  rw [show n / 2 ^ 8 = n / 256 from rfl] at c8
  rw [d16] at c16
  rw [d24] at c24
  rw [hb]
  have a1 := j_ct_add (fun i => decide (n / 2 ^ i % 2 = 1)) 24 8
  have a2 := j_ct_add (fun i => decide (n / 2 ^ i % 2 = 1)) 16 8
  have a3 := j_ct_add (fun i => decide (n / 2 ^ i % 2 = 1)) 8 8
  simp only [Nat.reduceAdd] at a1 a2 a3
  rw [a1, a2, a3, c8, c16, c24]
theorem j_bc {n : Nat} (hn : n < 2 ^ 32) (S : z_MI) (P : z_ML) : f_J6_bitCount_0f7a4 S P (nI n) = nI (j_ct (bt (nI n)) 32) := by
  have M1 : j_M 2 1 16 = 1431655765 := by decide +kernel
  have M2 : j_M 4 3 8 = 858993459 := by decide +kernel
  have M3 : j_M 8 15 4 = 252645135 := by decide +kernel
  have e16 : (4 : Nat) ^ 16 = 2 ^ 32 := by decide +kernel
  obtain ⟨l1, l2⟩ := j_L1 16 n (by rw [e16]; exact hn)
  have q1 : j_g1 (nI n) = nI (j_D4 16 n) := by
    unfold j_g1
    rw [pk_ushrN hn _ 1 (by decide), fa_and, Nat.pow_one, ← M1, pk_sub l1, l2]
  have b1 : j_D4 16 n < 2 ^ 32 := by
    rw [← l2]
    exact Nat.lt_of_le_of_lt (Nat.sub_le _ _) hn
  have q2 : j_g2 (nI (j_D4 16 n)) = nI (j_E 8 n) := by
    unfold j_g2
    rw [pk_ushrN b1 _ 2 (by decide), fa_and, fa_and, nI_add, show (2 : Nat) ^ 2 = 4 from by decide, ← M2]
    exact congrArg nI (j_L2 8 n)
  have e8 : (16 : Nat) ^ 8 = 2 ^ 32 := by decide +kernel
  have b2 : j_E 8 n < 2 ^ 32 := by rw [← e8]; exact j_E_lt 8 n
  have q3 : j_g3 (nI (j_E 8 n)) = nI (j_G 4 n) := by
    unfold j_g3
    rw [pk_ushrN b2 _ 4 (by decide), nI_add, fa_and, show (2 : Nat) ^ 4 = 16 from by decide, ← M3]
    exact congrArg nI (j_L3 4 n)
  have e4 : j_G 4 n = 256 * (256 * (256 * (256 * 0 + (((n / 256 / 256 / 256 % 2 + n / 256 / 256 / 256 / 2 % 2) + (n / 256 / 256 / 256 / 4 % 2 + n / 256 / 256 / 256 / 8 % 2)) + ((n / 256 / 256 / 256 / 16 % 2 + n / 256 / 256 / 256 / 32 % 2) + (n / 256 / 256 / 256 / 64 % 2 + n / 256 / 256 / 256 / 128 % 2)))) + (((n / 256 / 256 % 2 + n / 256 / 256 / 2 % 2) + (n / 256 / 256 / 4 % 2 + n / 256 / 256 / 8 % 2)) + ((n / 256 / 256 / 16 % 2 + n / 256 / 256 / 32 % 2) + (n / 256 / 256 / 64 % 2 + n / 256 / 256 / 128 % 2)))) + (((n / 256 % 2 + n / 256 / 2 % 2) + (n / 256 / 4 % 2 + n / 256 / 8 % 2)) + ((n / 256 / 16 % 2 + n / 256 / 32 % 2) + (n / 256 / 64 % 2 + n / 256 / 128 % 2)))) + (((n % 2 + n / 2 % 2) + (n / 4 % 2 + n / 8 % 2)) + ((n / 16 % 2 + n / 32 % 2) + (n / 64 % 2 + n / 128 % 2))) := by simp only [j_G]
  have hp : ∀ m, ∃ p, p ≤ 8 ∧ (((m % 2 + m / 2 % 2) + (m / 4 % 2 + m / 8 % 2)) + ((m / 16 % 2 + m / 32 % 2) + (m / 64 % 2 + m / 128 % 2))) = p ∧ p = j_ct (fun i => decide (m / 2 ^ i % 2 = 1)) 8 := fun m =>
    ⟨_, Nat.add_le_add (Nat.add_le_add (j_le2 _ _) (j_le2 _ _)) (Nat.add_le_add (j_le2 _ _) (j_le2 _ _)), rfl, j_p8 m⟩
  obtain ⟨p0, h0, r0, s0⟩ := hp n
  obtain ⟨p1, h1, r1, s1⟩ := hp (n / 256)
  obtain ⟨p2, h2, r2, s2⟩ := hp (n / 256 / 256)
  obtain ⟨p3, h3, r3, s3⟩ := hp (n / 256 / 256 / 256)
  rw [r0, r1, r2, r3] at e4
  obtain ⟨b3, b4, v3⟩ := j_fin h0 h1 h2 h3 e4
  have q4 : j_g4 (nI (j_G 4 n)) = nI (j_G 4 n + j_G 4 n / 256) := by
    unfold j_g4
    rw [pk_ushrN b3 _ 8 (by decide), nI_add, show (2 : Nat) ^ 8 = 256 from by decide]
  have q5 : j_g5 (nI (j_G 4 n + j_G 4 n / 256)) = nI (p0 + p1 + p2 + p3) := by
    unfold j_g5
    rw [pk_ushrN b4 _ 16 (by decide), nI_add, show (63 : Nat) = 2 ^ 6 - 1 from rfl, fa_and, Nat.and_two_pow_sub_one_eq_mod, v3]
  rw [j_bc0, q1, q2, q3, q4, q5]
  rw [j_e32 hn, s0, s1, s2, s3]
theorem j_pop (S T : z_MI) (P Q : z_ML) {x : Int32} (hx : 0 ≤ x.toInt) : f_X7_bits T Q x = f_J6_bitCount_0f7a4 S P x := by
  have e : x = nI x.toBitVec.toNat := by
    apply Int32.toBitVec_inj.1
    show x.toBitVec = BitVec.ofNat 32 x.toBitVec.toNat
    simp
  have hb : bt x 31 = false := j_nn.mp hx
  rw [j_bits, e, j_bc x.toBitVec.isLt, ← e]
  have e32 : j_ct (bt x) 32 = j_ct (bt x) 31 + (if bt x 31 = true then 1 else 0) := rfl
  rw [e32, hb]
  rfl
