
def z_len : Instr → Nat
  | .bipush _ => 2
  | .sipush _ => 3
  | .ldc _ => 2
  | .ldc_w _ => 3
  | .ldc2_w _ => 3
  | .iload _ => 2
  | .lload _ => 2
  | .aload _ => 2
  | .istore _ => 2
  | .lstore _ => 2
  | .astore _ => 2
  | .iinc _ _ => 3
  | .ifCond _ _ => 3
  | .if_icmp _ _ => 3
  | .goto _ => 3
  | .getfield _ => 3
  | .putfield _ => 3
  | .getstatic _ => 3
  | .invokevirtual _ => 3
  | .invokestatic _ => 3
  | .invokespecial _ => 3
  | .new _ => 3
  | _ => 1
def z_isw : Instr → Bool
  | .tableswitch _ _ _ _ => true
  | _ => false
/-- a row of a code table is what the bytes say -/
def z_tok (cc : ByteArray) (sw : List Nat) (q : Nat × Instr × Nat × Nat) : Bool := match decode cc q.1 with
  | .ok (i, n) => decide (i = q.2.1) && (z_isw i || (n == z_len i)) && (q.2.2.1 == q.1 + n) && (match i with
    | .goto off => decide ((q.1 : Int) + off = (q.2.2.2 : Int))
    | .ifCond _ off => decide ((q.1 : Int) + off = (q.2.2.2 : Int))
    | .if_icmp _ off => decide ((q.1 : Int) + off = (q.2.2.2 : Int))
    | .tableswitch d lo hi offs => decide ((q.1 : Int) + d = (q.2.2.2 : Int)) && decide (lo = 0) && decide (hi + 1 = (sw.length : Int)) && decide (offs.toList.map (fun o => (q.1 : Int) + o) = sw.map (fun (t : Nat) => (t : Int)))
    | _ => true)
  | .error _ => false
/-- a row of a field table is what the pool says -/
def z_fok (own : String) (q : Nat × Nat × Nat × Option Nat) : Bool := match z_cl[z_n q.2.1]? with
  | some (C, T, N) => (q.2.1 % 8 == 0) && z_ids.contains q.2.1 && decide (q.2.2.1 < N) && decide (Jvm.Cond.fieldLink own q.1 (T q.2.2.1).1 (T q.2.2.1).2.1 (T q.2.2.1).2.2.1 ∈ z_T) && decide ((z_fl.getD (z_n q.2.1) [])[q.2.2.1]? = some q.2.2.2) && (match q.2.2.2 with
    | some t => z_ids.contains t
    | none => decide ((T q.2.2.1).2.2.2 = false) && decide ((T q.2.2.1).2.2.1 = "I")) && decide ((z_fl.getD (z_n q.2.1) []).length = N)
  | none => false
def z_sok (own : String) (q : Nat × Nat × Nat × Option Nat) : Bool := (q.2.1 == z_WT) && decide (Jvm.Cond.fieldLink own q.1 "Songlinebench" "WEIGHTS" "[I" ∈ z_T)
theorem z_cl_ok : ∀ (k : Nat) (q : vw_C), z_cl[k]? = some q → (∀ w ∈ u_ws q.1 q.2.1 q.2.2, w ∈ z_T) ∧ (∃ ty : Nat → FieldType, ∀ j, j < q.2.2 → parseFieldDescriptor (q.2.1 j).2.2.1 = some (ty j)) ∧ ∀ a, a < q.2.2 → ∀ b, b < q.2.2 → a ≠ b → (q.2.1 a).2.1 ≠ (q.2.1 b).2.1 := by
  intro k q hq
  match k, hq with
  | 0, hq => cases hq; exact ⟨by decide +kernel, ⟨tyX0, tyX0_ok⟩, nmX0⟩
  | 1, hq => cases hq; exact ⟨by decide +kernel, ⟨tyX1, tyX1_ok⟩, nmX1⟩
  | 2, hq => cases hq; exact ⟨by decide +kernel, ⟨tyX2, tyX2_ok⟩, nmX2⟩
  | 3, hq => cases hq; exact ⟨by decide +kernel, ⟨tyX3, tyX3_ok⟩, nmX3⟩
  | 4, hq => cases hq; exact ⟨by decide +kernel, ⟨tyX4, tyX4_ok⟩, nmX4⟩
  | 5, hq => cases hq; exact ⟨by decide +kernel, ⟨tyX5, tyX5_ok⟩, nmX5⟩
  | 6, hq => cases hq; exact ⟨by decide +kernel, ⟨tyX6, tyX6_ok⟩, nmX6⟩
  | k + 7, hq => simp [z_cl] at hq
/-- what a method owes at its ends, and its calls -/
def z_H (p : Program) (l : Launch) (e : Env) (R : Room) (s : State) (m : MethodId) (args : Array Value) (below : List Frame) (meth : Method) (c : Code) (cells slots : Nat) (Q : State → Prop) (nL : Nat) (D : va_G) (cI cZ cJ : ClassId) (ad : Nat → Nat) (A : Nat → Prop) (cc : ByteArray) (G : z_G) (Po : z_PO) (Px : z_PX) : Prop :=
  (∀ (pc : Nat) (H : Heap) (locs : List Loc) (ls : Array Slot) (v : Int32) (S : z_MI) (P : z_ML), decode cc pc = .ok (.ireturn, 1) → (z_rt G = some .int ∨ z_rt G = some .boolean ∧ narrow .boolean (.int v) = .int v) → Po (some (.int v)) S P → va_P D z_cl (z_w cI cZ cJ ad S P) H → va_S A s.heap H locs → W p l e R s m args below meth c H locs cells slots Q (F0 m pc ls [.int v])) ∧
  (∀ (pc : Nat) (H : Heap) (locs : List Loc) (ls : Array Slot) (v : Int64) (S : z_MI) (P : z_ML), decode cc pc = .ok (.lreturn, 1) → z_rt G = some .long → Po (some (.long v)) S P → va_P D z_cl (z_w cI cZ cJ ad S P) H → va_S A s.heap H locs → W p l e R s m args below meth c H locs cells slots Q (F0 m pc ls [.long v])) ∧
  (∀ (pc : Nat) (H : Heap) (locs : List Loc) (ls : Array Slot) (S : z_MI) (P : z_ML), decode cc pc = .ok (.return_, 1) → z_rt G = none → Po none S P → va_P D z_cl (z_w cI cZ cJ ad S P) H → va_S A s.heap H locs → W p l e R s m args below meth c H locs cells slots Q (F0 m pc ls [])) ∧
  (∀ (pc : Nat) (E : String) (lv : z_LV) (S : z_MI) (P : z_ML), z_fnd (z_th G) pc = some E → Px E S P → z_V p l e R s m args below meth c cells slots Q nL D cI cZ cJ ad A pc lv [] S P) ∧
  (∀ (pc i j n : Nat) (sp : z_SP) (as r : List Value) (lv : z_LV) (S : z_MI) (P : z_ML) (k : z_PO), (decode cc pc = .ok (.invokevirtual j, 3) ∧ i = j ∧ j < 100000 ∨ decode cc pc = .ok (.invokestatic j, 3) ∧ i = j + 100000) → z_fnd (z_cm G) i = some (n, sp) → as.length = n → z_cs r ≤ 8 → sp as S P k → (∀ v S' P', (∀ a, v ≠ some (.ref a)) → k v S' P' → z_V p l e R s m args below meth c cells slots Q nL D cI cZ cJ ad A (pc + 3) lv (v.toList ++ r) S' P') → z_V p l e R s m args below meth c cells slots Q nL D cI cZ cJ ad A pc lv (as.reverse ++ r) S P)

