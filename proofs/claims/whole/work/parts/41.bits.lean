/-! bits and numbers (the families bt, fa_, fb_ began as kit/laws) -/
def bt (x : Int32) (i : Nat) : Bool := x.toBitVec.getLsbD i
theorem b_ext {x y : Int32} (h : ∀ i, i < 32 → bt x i = bt y i) : x = y := Int32.toBitVec_inj.mp (BitVec.eq_of_getLsbD_eq (fun i hi => h i hi))
theorem b_or (x y : Int32) (i : Nat) : bt (x ||| y) i = (bt x i || bt y i) := by unfold bt; rw [Int32.toBitVec_or, BitVec.getLsbD_or]
theorem b_and (x y : Int32) (i : Nat) : bt (x &&& y) i = (bt x i && bt y i) := by unfold bt; rw [Int32.toBitVec_and, BitVec.getLsbD_and]
theorem b_xor (x y : Int32) (i : Nat) : bt (x ^^^ y) i = (bt x i ^^ bt y i) := by unfold bt; rw [Int32.toBitVec_xor, BitVec.getLsbD_xor]
theorem b_big {x : Int32} {i : Nat} (h : 32 ≤ i) : bt x i = false := BitVec.getLsbD_of_ge _ _ h
theorem b_255 (i : Nat) : bt 255 i = decide (i < 8) := by
  rcases Nat.lt_or_ge i 32 with h | h
  · exact (by decide +kernel : ∀ i, i < 32 → bt 255 i = decide (i < 8)) i h
  · rw [b_big h, decide_eq_false (by omega)]
theorem b_65535 (i : Nat) : bt 65535 i = decide (i < 16) := by
  rcases Nat.lt_or_ge i 32 with h | h
  · exact (by decide +kernel : ∀ i, i < 32 → bt 65535 i = decide (i < 16)) i h
  · rw [b_big h, decide_eq_false (by omega)]
theorem b_m1 : ∀ i, i < 32 → bt (-1) i = true := by decide +kernel
theorem b_0 (i : Nat) : bt 0 i = false := BitVec.getLsbD_zero
theorem s_l : ∀ n, n < 32 → ((nI n &&& 31).toBitVec.smod 32).toNat = n := by decide +kernel
theorem s_u : ∀ n, n < 32 → (((nI n).toUInt32 &&& Int32.toUInt32 31).toBitVec % 32).toNat = n := by decide +kernel
theorem b_shl (n : Nat) (hn : n < 32) (x : Int32) {i : Nat} (hi : i < 32) : bt (x <<< (nI n &&& 31)) i = (decide (n ≤ i) && bt x (i - n)) := by
  unfold bt
  rw [Int32.toBitVec_shiftLeft]
  show (x.toBitVec <<< ((nI n &&& 31).toBitVec.smod 32).toNat).getLsbD i = _
  rw [s_l n hn, BitVec.getLsbD_shiftLeft]
  rcases Nat.lt_or_ge i n with h | h
  · simp [h, Nat.not_le.mpr h]
  · simp [hi, h, Nat.not_lt.mpr h]
theorem b_ushr (n : Nat) (hn : n < 32) (x : Int32) (i : Nat) : bt ((x.toUInt32 >>> ((nI n).toUInt32 &&& Int32.toUInt32 31)).toInt32) i = bt x (n + i) := by
  show (x.toUInt32 >>> ((nI n).toUInt32 &&& Int32.toUInt32 31)).toBitVec.getLsbD i = x.toUInt32.toBitVec.getLsbD (n + i)
  rw [UInt32.toBitVec_shiftRight]
  show (x.toUInt32.toBitVec >>> (((nI n).toUInt32 &&& Int32.toUInt32 31).toBitVec % 32).toNat).getLsbD i = _
  rw [s_u n hn, BitVec.getLsbD_ushiftRight]
theorem b_sshr (n : Nat) (hn : n < 32) (x : Int32) {i : Nat} (hi : i < 32) : bt (x >>> (nI n &&& 31)) i = if n + i < 32 then bt x (n + i) else bt x 31 := by
  unfold bt
  rw [Int32.toBitVec_shiftRight]
  show (x.toBitVec.sshiftRight ((nI n &&& 31).toBitVec.smod 32).toNat).getLsbD i = _
  rw [s_l n hn, BitVec.getLsbD_sshiftRight, BitVec.msb_eq_getLsbD_last]
  simp [hi]
theorem fa_lt (a b : Int32) : a < b ↔ a.toInt < b.toInt := Int32.lt_iff_toInt_lt
theorem fa_le (a b : Int32) : a ≤ b ↔ a.toInt ≤ b.toInt := Int32.le_iff_toInt_le
theorem fa_eq (a b : Int32) : a = b ↔ a.toInt = b.toInt := Int32.toInt_inj.symm
theorem fa_lt64 (a b : Int64) : a < b ↔ a.toInt < b.toInt := Int64.lt_iff_toInt_lt
theorem fa_le64 (a b : Int64) : a ≤ b ↔ a.toInt ≤ b.toInt := Int64.le_iff_toInt_le
theorem fa_eq64 (a b : Int64) : a = b ↔ a.toInt = b.toInt := Int64.toInt_inj.symm
theorem fa_and (a b : Nat) : nI a &&& nI b = nI (a &&& b) := by
  apply Int32.toBitVec_inj.1
  show BitVec.ofNat 32 a &&& BitVec.ofNat 32 b = BitVec.ofNat 32 (a &&& b)
  apply BitVec.eq_of_getLsbD_eq
  intro i hi
  simp [hi]
theorem fa_or (a b : Nat) : nI a ||| nI b = nI (a ||| b) := by
  apply Int32.toBitVec_inj.1
  show BitVec.ofNat 32 a ||| BitVec.ofNat 32 b = BitVec.ofNat 32 (a ||| b)
  apply BitVec.eq_of_getLsbD_eq
  intro i hi
  simp [hi]
theorem fa_upd_same {f : Nat → Int32} {i : Nat} {x : Int32} (h : f i = x) : upd f i x = f := by
  funext k
  by_cases e : k = i
  · subst e
    rw [pk_us, h]
  · rw [pk_un e]
theorem fb_rng (x : Int32) : -2147483648 ≤ x.toInt ∧ x.toInt < 2147483648 := by
  have h1 := Int32.le_toInt x
  have h2 := Int32.toInt_lt x
  omega
theorem fb_bmod {z : Int} (h1 : -2147483648 ≤ z) (h2 : z < 2147483648) : z.bmod (2 ^ 32) = z := by
  rw [Int.bmod_eq_of_le (by omega) (by omega)]
theorem fb_addI {x y : Int32} (h1 : -2147483648 ≤ x.toInt + y.toInt) (h2 : x.toInt + y.toInt < 2147483648) : (x + y).toInt = x.toInt + y.toInt := by
  rw [Int32.toInt_add, fb_bmod h1 h2]
theorem fb_subI {x y : Int32} (h1 : -2147483648 ≤ x.toInt - y.toInt) (h2 : x.toInt - y.toInt < 2147483648) : (x - y).toInt = x.toInt - y.toInt := by
  rw [Int32.toInt_sub, fb_bmod h1 h2]
theorem fb_mulI {x y : Int32} (h1 : -2147483648 ≤ x.toInt * y.toInt) (h2 : x.toInt * y.toInt < 2147483648) : (x * y).toInt = x.toInt * y.toInt := by
  rw [Int32.toInt_mul, fb_bmod h1 h2]
theorem fb_rngL (x : Int64) : -9223372036854775808 ≤ x.toInt ∧ x.toInt < 9223372036854775808 := by
  have h1 := Int64.le_toInt x
  have h2 := Int64.toInt_lt x
  omega
theorem fb_bmodL {z : Int} (h1 : -9223372036854775808 ≤ z) (h2 : z < 9223372036854775808) : z.bmod (2 ^ 64) = z := by
  rw [Int.bmod_eq_of_le (by omega) (by omega)]
theorem fb_addL {x y : Int64} (h1 : -9223372036854775808 ≤ x.toInt + y.toInt) (h2 : x.toInt + y.toInt < 9223372036854775808) : (x + y).toInt = x.toInt + y.toInt := by
  rw [Int64.toInt_add, fb_bmodL h1 h2]
theorem fb_subL {x y : Int64} (h1 : -9223372036854775808 ≤ x.toInt - y.toInt) (h2 : x.toInt - y.toInt < 9223372036854775808) : (x - y).toInt = x.toInt - y.toInt := by
  rw [Int64.toInt_sub, fb_bmodL h1 h2]
theorem fb_mulL {x y : Int64} (h1 : -9223372036854775808 ≤ x.toInt * y.toInt) (h2 : x.toInt * y.toInt < 9223372036854775808) : (x * y).toInt = x.toInt * y.toInt := by
  rw [Int64.toInt_mul, fb_bmodL h1 h2]
theorem j_1b : ∀ i, i < 32 → bt (nI 1) i = decide (i = 0) := by decide +kernel
theorem j_low (y : Int32) : y &&& nI 1 = nI 1 ↔ bt y 0 = true := by
  constructor
  · intro h
    have h2 : bt (y &&& nI 1) 0 = bt (nI 1) 0 := by rw [h]
    rw [b_and, j_1b 0 (by decide)] at h2
    simpa using h2
  · intro h
    refine b_ext fun i hi => ?_
    rw [b_and, j_1b i hi]
    by_cases e : i = 0
    · subst e; rw [h]; rfl
    · simp [e]
theorem j_lowv (y : Int32) : y &&& nI 1 = nI (if bt y 0 then 1 else 0) := by
  by_cases h : bt y 0 = true
  · rw [if_pos h]; exact (j_low y).mpr h
  · rw [if_neg h]
    refine b_ext fun i hi => ?_
    rw [b_and, j_1b i hi, show nI 0 = 0 from nI_0, b_0]
    by_cases e : i = 0
    · subst e; simp [h]
    · simp [e]
theorem j_has (S : z_MI) (P : z_ML) (x : Int32) {k : Nat} (hk : k < 32) : f_X7_has S P x (nI k) = bt x k := by
  unfold f_X7_has
  have h0 : bt (x >>> (nI k &&& 31)) 0 = bt x k := by
    rw [b_sshr k hk x (by decide)]
    simp [hk]
  by_cases h : bt x k = true
  · rw [if_pos ((j_low _).mpr (by rw [h0, h])), h]
  · rw [if_neg (fun q => h (by rw [← h0]; exact (j_low _).mp q))]
    simp at h
    exact h.symm
theorem j_isIn (S : z_MI) (P : z_ML) (x : Int32) {k : Nat} (hk : k < 32) : f_X6_isIn S P x (nI k) = bt x k := by
  unfold f_X6_isIn
  rw [if_neg (nI_pos (by omega))]
  have h0 : bt ((x.toUInt32 >>> ((nI k).toUInt32 &&& Int32.toUInt32 31)).toInt32) 0 = bt x k := b_ushr k hk x 0
  by_cases h : bt x k = true
  · rw [if_pos ((j_low _).mpr (by rw [h0, h])), h]
  · rw [if_neg (fun q => h (by rw [← h0]; exact (j_low _).mp q))]
    simp at h
    exact h.symm
theorem j_hasIn (S T : z_MI) (P Q : z_ML) (x : Int32) {k : Int32} {N : Nat} (hk : vp_in k N) (hN : N ≤ 32) : f_X7_has T Q x k = f_X6_isIn S P x k := by
  obtain ⟨j, hj, rfl⟩ := vp_in_of hk (by omega)
  rw [j_has _ _ _ (by omega), j_isIn _ _ _ (by omega)]
theorem j_w1 (S : z_MI) (P : z_ML) (a k : Int32) : f_X6_with S P a k (nI 1) = a ||| (nI 1 <<< (k &&& 31)) := if_neg (by decide)
theorem j_w0 (S : z_MI) (P : z_ML) (a k : Int32) : f_X6_with S P a k (nI 0) = a &&& ((nI 1 <<< (k &&& 31)) ^^^ (-1)) := if_pos (by decide)
theorem j_one {k i : Nat} (hk : k < 32) (hi : i < 32) : bt (nI 1 <<< (nI k &&& 31)) i = decide (i = k) := by
  rw [b_shl k hk _ hi]
  by_cases h : k ≤ i
  · rw [j_1b (i - k) (by omega)]
    by_cases e : i = k
    · subst e; simp
    · have : ¬ i - k = 0 := by omega
      simp [e, this]
  · have : ¬ i = k := by omega
    simp [h, this]
theorem j_set {k i : Nat} (a : Int32) (hk : k < 32) (hi : i < 32) : bt (a ||| (nI 1 <<< (nI k &&& 31))) i = (bt a i || decide (i = k)) := by rw [b_or, j_one hk hi]
theorem j_clr {k i : Nat} (a : Int32) (hk : k < 32) (hi : i < 32) : bt (a &&& ((nI 1 <<< (nI k &&& 31)) ^^^ (-1))) i = (bt a i && !decide (i = k)) := by
  rw [b_and, b_xor, j_one hk hi, b_m1 i hi]
  cases bt a i <;> simp
theorem j_or0 (a : Int32) : a ||| nI 0 = a := b_ext fun i hi => by rw [b_or, show nI 0 = 0 from nI_0, b_0]; simp
/-- the class adds or takes out, the model takes out and adds -/
theorem j_wm0 (S : z_MI) (P : z_ML) (a : Int32) (k : Int32) : (a &&& ((nI 1 <<< (k &&& 31)) ^^^ (-1))) ||| nI 0 = f_X6_with S P a k (nI 0) := by rw [j_or0, j_w0]
theorem j_wm1 (S : z_MI) (P : z_ML) (a : Int32) (k : Int32) : (a &&& ((nI 1 <<< (k &&& 31)) ^^^ (-1))) ||| (nI 1 <<< (k &&& 31)) = f_X6_with S P a k (nI 1) := by
  rw [j_w1]
  refine b_ext fun i hi => ?_
  rw [b_or, b_or, b_and, b_xor, b_m1 i hi]
  cases bt a i <;> cases bt (nI 1 <<< (k &&& 31)) i <;> rfl
theorem j_nn {x : Int32} : 0 ≤ x.toInt ↔ bt x 31 = false := by
  have h : x.toBitVec.msb = bt x 31 := by
    unfold bt
    rw [BitVec.msb_eq_getLsbD_last]
  rw [← h]
  have h2 : x.toInt = x.toBitVec.toInt := rfl
  rw [h2, BitVec.msb_eq_toInt]
  simp
theorem j_nn_nI {n : Nat} (h : n < 2 ^ 31) : 0 ≤ (nI n).toInt := by rw [nI_toInt h]; omega
theorem j_nn_or {x y : Int32} (hx : 0 ≤ x.toInt) (hy : 0 ≤ y.toInt) : 0 ≤ (x ||| y).toInt := by
  rw [j_nn] at hx hy ⊢
  rw [b_or, hx, hy]; rfl
theorem j_nn_andr {x y : Int32} (hy : 0 ≤ y.toInt) : 0 ≤ (x &&& y).toInt := by
  rw [j_nn] at hy ⊢
  rw [b_and, hy]; simp
theorem j_nn_andl {x y : Int32} (hx : 0 ≤ x.toInt) : 0 ≤ (x &&& y).toInt := by
  rw [j_nn] at hx ⊢
  rw [b_and, hx]; simp
theorem j_nn_xor {x y : Int32} (hx : 0 ≤ x.toInt) (hy : 0 ≤ y.toInt) : 0 ≤ (x ^^^ y).toInt := by
  rw [j_nn] at hx hy ⊢
  rw [b_xor, hx, hy]; rfl
theorem j_nn_one {k : Nat} (hk : k < 31) : 0 ≤ (nI 1 <<< (nI k &&& 31)).toInt := by
  rw [j_nn, j_one (by omega) (by decide)]
  simp; omega
/-! how many bits -/
def j_ct (p : Nat → Bool) : Nat → Nat
  | 0 => 0
  | n + 1 => j_ct p n + (if p n then 1 else 0)
theorem j_ct_le (p : Nat → Bool) : ∀ n, j_ct p n ≤ n
  | 0 => Nat.le_refl _
  | n + 1 => by
    have h := j_ct_le p n
    unfold j_ct
    split <;> omega
theorem j_bits (S : z_MI) (P : z_ML) (x : Int32) : f_X7_bits S P x = nI (j_ct (bt x) 31) := by
  unfold f_X7_bits
  have h : ∀ n, n < 32 → z_fo (fun k4 a4 => l_X7_bits_4 S P x k4 a4) (nI 0) n = nI (j_ct (bt x) n) := by
    intro n
    induction n with
    | zero => intro _; rfl
    | succ n ih =>
      intro hn
      show l_X7_bits_4 S P x n (z_fo (fun k4 a4 => l_X7_bits_4 S P x k4 a4) (nI 0) n) = _
      rw [ih (by omega)]
      unfold l_X7_bits_4
      rw [j_lowv, b_sshr n (by omega) x (by decide), nI_add]
      have : n + 0 < 32 := by omega
      rw [if_pos this]
      rfl
  exact h 31 (by decide)
theorem j_and (w n M m : Nat) (hm : m < 2 ^ w) : n &&& (2 ^ w * M + m) = 2 ^ w * (n / 2 ^ w &&& M) + (n % 2 ^ w &&& m) := by
  have h1 : (n &&& (2 ^ w * M + m)) / 2 ^ w = n / 2 ^ w &&& M := by
    rw [Nat.and_div_two_pow, Nat.mul_add_div (Nat.two_pow_pos w), Nat.div_eq_of_lt hm, Nat.add_zero]
  have h2 : (n &&& (2 ^ w * M + m)) % 2 ^ w = n % 2 ^ w &&& m := by
    rw [Nat.and_mod_two_pow, Nat.mul_add_mod, Nat.mod_eq_of_lt hm]
  rw [← h1, ← h2, Nat.div_add_mod]
