/-! the law's level: two objects, each in some state that holds what holds at all times; g: the heap is at least so large; u: what was spent -/
abbrev y_KT : Type := Nat → z_LV → List Value → Nat → Nat → Prop
abbrev y_PO : Type := Option Value → Nat → Prop
abbrev y_PX : Type := String → Nat → Prop
abbrev y_SP : Type := List Value → Nat → Nat → (Option Value → Nat → Nat → Prop) → Prop
abbrev y_SX : Type := List Value → Nat → y_PO → y_PX → Prop
abbrev y_G : Type := List (Nat × Instr × Nat × Nat) × List (Nat × Nat × y_SP) × List (Nat × Nat) × List (Nat × Nat) × Option FieldType
def y_code (G : y_G) : List (Nat × Instr × Nat × Nat) := G.1
def y_cm (G : y_G) : List (Nat × Nat × y_SP) := G.2.1
def y_ci (G : y_G) : List (Nat × Nat) := G.2.2.1
def y_cL (G : y_G) : List (Nat × Nat) := G.2.2.2.1
def y_rt (G : y_G) : Option FieldType := G.2.2.2.2
def y_stp (G : y_G) (MC : Nat) (Po : y_PO) (ins : Instr) (nx tg : Nat) (lv : z_LV) (st : List Value) (g u : Nat) (K : y_KT) : Prop := match ins with
  | .iconst n => match n with
    | .ofNat k => K nx lv (.int (nI k) :: st) g u
    | .negSucc 0 => K nx lv (.int (-1) :: st) g u
    | .negSucc _ => False
  | .bipush n => match n with
    | .ofNat k => match Nat.ble k 127 with
      | true => K nx lv (.int (nI k) :: st) g u
      | false => False
    | .negSucc k => K nx lv (.int (Int8.ofInt (Int.negSucc k)).toInt32 :: st) g u
  | .sipush n => match n with
    | .ofNat k => match Nat.ble k 32767 with
      | true => K nx lv (.int (nI k) :: st) g u
      | false => False
    | .negSucc _ => False
  | .lconst n => K nx lv (.long (lN n.val) :: st) g u
  | .ldc i => match z_fnd (y_ci G) i with
    | some v => K nx lv (.int (nI v) :: st) g u
    | none => False
  | .ldc2_w i => match z_fnd (y_cL G) i with
    | some v => K nx lv (.long (lN v) :: st) g u
    | none => False
  | .iload_n k => match z_get lv k.val with
    | some (.int x) => K nx lv (.int x :: st) g u
    | _ => False
  | .iload k => match z_get lv k with
    | some (.int x) => K nx lv (.int x :: st) g u
    | _ => False
  | .lload_n k => match z_get lv k.val with
    | some (.long x) => K nx lv (.long x :: st) g u
    | _ => False
  | .lload k => match z_get lv k with
    | some (.long x) => K nx lv (.long x :: st) g u
    | _ => False
  | .aload_n k => match z_get lv k.val with
    | some (.ref x) => K nx lv (.ref x :: st) g u
    | _ => False
  | .aload k => match z_get lv k with
    | some (.ref x) => K nx lv (.ref x :: st) g u
    | _ => False
  | .istore_n k => match st with
    | .int x :: r => z_put k.val (.int x) lv false (fun lv' => K nx lv' r g u)
    | _ => False
  | .istore k => match st with
    | .int x :: r => z_put k (.int x) lv false (fun lv' => K nx lv' r g u)
    | _ => False
  | .lstore_n k => match st with
    | .long x :: r => z_put k.val (.long x) lv false (fun lv' => K nx lv' r g u)
    | _ => False
  | .lstore k => match st with
    | .long x :: r => z_put k (.long x) lv false (fun lv' => K nx lv' r g u)
    | _ => False
  | .iinc k n => match z_get lv k with
    | some (.int x) => match n with
      | .ofNat j => z_put k (.int (x + nI j)) lv false (fun lv' => K nx lv' st g u)
      | .negSucc 0 => z_put k (.int (x + (-1))) lv false (fun lv' => K nx lv' st g u)
      | .negSucc _ => False
    | _ => False
  | .iadd => match st with
    | .int y :: .int x :: r => K nx lv (.int (x + y) :: r) g u
    | _ => False
  | .isub => match st with
    | .int y :: .int x :: r => K nx lv (.int (x - y) :: r) g u
    | _ => False
  | .imul => match st with
    | .int y :: .int x :: r => K nx lv (.int (x * y) :: r) g u
    | _ => False
  | .iand => match st with
    | .int y :: .int x :: r => K nx lv (.int (x &&& y) :: r) g u
    | _ => False
  | .ior => match st with
    | .int y :: .int x :: r => K nx lv (.int (x ||| y) :: r) g u
    | _ => False
  | .ixor => match st with
    | .int y :: .int x :: r => K nx lv (.int (x ^^^ y) :: r) g u
    | _ => False
  | .idiv => match st with
    | .int y :: .int x :: r => ¬ y = 0 ∧ K nx lv (.int (x / y) :: r) g u
    | _ => False
  | .irem => match st with
    | .int y :: .int x :: r => ¬ y = 0 ∧ K nx lv (.int (x - x / y * y) :: r) g u
    | _ => False
  | .ishl => match st with
    | .int y :: .int x :: r => K nx lv (.int (x <<< (y &&& 31)) :: r) g u
    | _ => False
  | .ishr => match st with
    | .int y :: .int x :: r => K nx lv (.int (x >>> (y &&& 31)) :: r) g u
    | _ => False
  | .ladd => match st with
    | .long y :: .long x :: r => K nx lv (.long (x + y) :: r) g u
    | _ => False
  | .lsub => match st with
    | .long y :: .long x :: r => K nx lv (.long (x - y) :: r) g u
    | _ => False
  | .lcmp => match st with
    | .long y :: .long x :: r => K nx lv (.int (lg_cmp x y) :: r) g u
    | _ => False
  | .ifCond op _ => match st with
    | .int x :: r => match op with
      | .eq => (x = 0 → K tg lv r g u) ∧ (¬ x = 0 → K nx lv r g u)
      | .ne => (¬ x = 0 → K tg lv r g u) ∧ (x = 0 → K nx lv r g u)
      | .lt => (x < 0 → K tg lv r g u) ∧ (¬ x < 0 → K nx lv r g u)
      | .ge => (0 ≤ x → K tg lv r g u) ∧ (¬ 0 ≤ x → K nx lv r g u)
      | .gt => (0 < x → K tg lv r g u) ∧ (¬ 0 < x → K nx lv r g u)
      | .le => (x ≤ 0 → K tg lv r g u) ∧ (¬ x ≤ 0 → K nx lv r g u)
    | _ => False
  | .if_icmp op _ => match st with
    | .int y :: .int x :: r => match op with
      | .eq => (x = y → K tg lv r g u) ∧ (¬ x = y → K nx lv r g u)
      | .ne => (¬ x = y → K tg lv r g u) ∧ (x = y → K nx lv r g u)
      | .lt => (x < y → K tg lv r g u) ∧ (¬ x < y → K nx lv r g u)
      | .ge => (y ≤ x → K tg lv r g u) ∧ (¬ y ≤ x → K nx lv r g u)
      | .gt => (y < x → K tg lv r g u) ∧ (¬ y < x → K nx lv r g u)
      | .le => (x ≤ y → K tg lv r g u) ∧ (¬ x ≤ y → K nx lv r g u)
    | _ => False
  | .goto _ => K tg lv st g u
  | .l2i => match st with
    | .long x :: r => K nx lv (.int x.toInt32 :: r) g u
    | _ => False
  | .invokevirtual i => match z_fnd (y_cm G) i with
    | some (n, sp) => z_pop n st [] (fun as r => match Nat.ble (z_cs r) 8 with
      | true => sp as g u (fun v g' u' => K nx lv (v.toList ++ r) g' u')
      | false => False)
    | none => False
  | .invokestatic i => match z_fnd (y_cm G) (i + 100000) with
    | some (n, sp) => z_pop n st [] (fun as r => match Nat.ble (z_cs r) 8 with
      | true => sp as g u (fun v g' u' => K nx lv (v.toList ++ r) g' u')
      | false => False)
    | none => False
  | .ireturn => match st with
    | [.int v] => match y_rt G with
      | some .int => u ≤ MC ∧ Po (some (.int v)) g
      | some .boolean => narrow .boolean (.int v) = .int v ∧ u ≤ MC ∧ Po (some (.int v)) g
      | _ => False
    | _ => False
  | .lreturn => match st with
    | [.long v] => match y_rt G with
      | some .long => u ≤ MC ∧ Po (some (.long v)) g
      | _ => False
    | _ => False
  | _ => False
def y_wp (G : y_G) (MC : Nat) (Po : y_PO) (cuts : List Nat) (J : y_KT) : Nat → y_KT
  | 0 => fun _ _ _ _ _ => False
  | n + 1 => fun pc lv st g u => match z_fnd (y_code G) pc with
    | some (ins, nx, tg) => y_stp G MC Po ins nx tg lv st g u (fun pc' lv' st' g' u' => match z_mem cuts pc' with
      | true => J pc' lv' st' g' u'
      | false => y_wp G MC Po cuts J n pc' lv' st' g' u')
    | none => False
def y_V (p : Program) (l : Launch) (e : Env) (R : Room) (s : State) (m : MethodId) (args : Array Value) (below : List Frame) (meth : Method) (c : Code) (c0 s0 : Nat) (Q : State → Prop) (nL : Nat) (ad : Nat → Nat) (A : Nat → Prop) (Wd : Heap → Prop) : y_KT := fun pc lv st g u =>
  ∀ (H : Heap) (locs : List Loc) (ls : Array Slot), Wd H → g ≤ H.size → va_S A s.heap H locs → lv_has ls nL (z_tl ad lv) → W p l e R s m args below meth c H locs (c0 + u) (s0 + 6 * u) Q (F0 m pc ls (z_ts ad st))
def y_lok (lim : Nat) (q : Nat × Instr × Nat × Nat) : Bool := match q.2.1 with
  | .invokevirtual _ => decide (q.1 < lim)
  | .invokestatic _ => decide (q.1 < lim)
  | _ => true
def y_cok (cc : ByteArray) (nL lim : Nat) (G : y_G) : Bool := (y_code G).all (fun q => z_tok cc [] q && z_lok nL q.2.1 && y_lok lim q)
def y_pok (own : String) (G : y_G) : Bool := (y_ci G).all (fun q => decide (Jvm.Cond.constant own q.1 (nI q.2) ∈ z_T)) && (y_cL G).all (fun q => decide (Jvm.Cond.constantLong own q.1 (lN q.2) ∈ z_T))
section YST
variable {p : Program} {l : Launch} {e : Env} {R : Room} {s : State} {m : MethodId} {args : Array Value} {below : List Frame} {meth : Method} {c : Code} {c0 s0 : Nat} {Q : State → Prop} {cc : ByteArray} {nL : Nat} {own : String} {ad : Nat → Nat} {A : Nat → Prop} {Wd : Heap → Prop}
variable {G : y_G} {MC : Nat} {Po : y_PO} {K : y_KT} {pc nx tg : Nat} {lv : z_LV} {st : List Value} {g u : Nat}
set_option maxHeartbeats 1000000 in
theorem y_x_iconst {n : Int} (C : CallFix p m c cc nL s args z_T own) (hd : decode cc pc = .ok (.iconst n, 1)) (hK : ∀ pc lv st g u, K pc lv st g u → y_V p l e R s m args below meth c c0 s0 Q nL ad A Wd pc lv st g u) (h : y_stp G MC Po (.iconst n) nx tg lv st g u K) (hn : nx = pc + 1) : y_V p l e R s m args below meth c c0 s0 Q nL ad A Wd pc lv st g u := by
  subst hn
  obtain ⟨hx, hb, hml, hown, hts⟩ := C
  simp only [y_stp] at h
  split at h
  · intro H locs ls hP hg hS hl
    exact lv_iconst hx hb hd (by first | rfl | exact Int32.ofInt_ofNat _ | simp [nI]) (hK _ _ _ _ _ h H locs ls hP hg hS hl)
  · intro H locs ls hP hg hS hl
    exact lv_iconst hx hb hd (by decide) (hK _ _ _ _ _ h H locs ls hP hg hS hl)
  · exact h.elim
set_option maxHeartbeats 1000000 in
theorem y_x_bipush {n : Int} (C : CallFix p m c cc nL s args z_T own) (hd : decode cc pc = .ok (.bipush n, 2)) (hK : ∀ pc lv st g u, K pc lv st g u → y_V p l e R s m args below meth c c0 s0 Q nL ad A Wd pc lv st g u) (h : y_stp G MC Po (.bipush n) nx tg lv st g u K) (hn : nx = pc + 2) : y_V p l e R s m args below meth c c0 s0 Q nL ad A Wd pc lv st g u := by
  subst hn
  obtain ⟨hx, hb, hml, hown, hts⟩ := C
  simp only [y_stp] at h
  split at h
  · split at h
    · rename_i hk
      intro H locs ls hP hg hS hl
      exact lv_bipush hx hb hd (z_b8 _ (Nat.le_of_ble_eq_true hk)) (hK _ _ _ _ _ h H locs ls hP hg hS hl)
    · exact h.elim
  · intro H locs ls hP hg hS hl
    exact lv_bipush hx hb hd rfl (hK _ _ _ _ _ h H locs ls hP hg hS hl)
set_option maxHeartbeats 1000000 in
theorem y_x_sipush {n : Int} (C : CallFix p m c cc nL s args z_T own) (hd : decode cc pc = .ok (.sipush n, 3)) (hK : ∀ pc lv st g u, K pc lv st g u → y_V p l e R s m args below meth c c0 s0 Q nL ad A Wd pc lv st g u) (h : y_stp G MC Po (.sipush n) nx tg lv st g u K) (hn : nx = pc + 3) : y_V p l e R s m args below meth c c0 s0 Q nL ad A Wd pc lv st g u := by
  subst hn
  obtain ⟨hx, hb, hml, hown, hts⟩ := C
  simp only [y_stp] at h
  split at h
  · split at h
    · rename_i hk
      intro H locs ls hP hg hS hl
      exact lv_sipush hx hb hd (z_s16 _ (Nat.le_of_ble_eq_true hk)) (hK _ _ _ _ _ h H locs ls hP hg hS hl)
    · exact h.elim
  · exact h.elim
set_option maxHeartbeats 1000000 in
theorem y_x_lconst {n : Fin 2} (C : CallFix p m c cc nL s args z_T own) (hd : decode cc pc = .ok (.lconst n, 1)) (hK : ∀ pc lv st g u, K pc lv st g u → y_V p l e R s m args below meth c c0 s0 Q nL ad A Wd pc lv st g u) (h : y_stp G MC Po (.lconst n) nx tg lv st g u K) (hn : nx = pc + 1) : y_V p l e R s m args below meth c c0 s0 Q nL ad A Wd pc lv st g u := by
  subst hn
  obtain ⟨hx, hb, hml, hown, hts⟩ := C
  simp only [y_stp] at h
  intro H locs ls hP hg hS hl
  exact lv_lconst hx hb hd rfl (hK _ _ _ _ _ h H locs ls hP hg hS hl)
set_option maxHeartbeats 1000000 in
theorem y_x_ldc {i : Nat} (hci : ∀ q ∈ y_ci G, Jvm.Cond.constant own q.1 (nI q.2) ∈ z_T) (C : CallFix p m c cc nL s args z_T own) (hd : decode cc pc = .ok (.ldc i, 2)) (hK : ∀ pc lv st g u, K pc lv st g u → y_V p l e R s m args below meth c c0 s0 Q nL ad A Wd pc lv st g u) (h : y_stp G MC Po (.ldc i) nx tg lv st g u K) (hn : nx = pc + 2) : y_V p l e R s m args below meth c c0 s0 Q nL ad A Wd pc lv st g u := by
  subst hn
  obtain ⟨hx, hb, hml, hown, hts⟩ := C
  simp only [y_stp] at h
  split at h
  · rename_i v hv
    intro H locs ls hP hg hS hl
    exact lv_ldc hx hb hown (hts _ (hci _ (z_fnd_mem _ _ _ hv))) hd (hK _ _ _ _ _ h H locs ls hP hg hS hl)
  · exact h.elim
set_option maxHeartbeats 1000000 in
theorem y_x_ldc2_w {i : Nat} (hci : ∀ q ∈ y_cL G, Jvm.Cond.constantLong own q.1 (lN q.2) ∈ z_T) (C : CallFix p m c cc nL s args z_T own) (hd : decode cc pc = .ok (.ldc2_w i, 3)) (hK : ∀ pc lv st g u, K pc lv st g u → y_V p l e R s m args below meth c c0 s0 Q nL ad A Wd pc lv st g u) (h : y_stp G MC Po (.ldc2_w i) nx tg lv st g u K) (hn : nx = pc + 3) : y_V p l e R s m args below meth c c0 s0 Q nL ad A Wd pc lv st g u := by
  subst hn
  obtain ⟨hx, hb, hml, hown, hts⟩ := C
  simp only [y_stp] at h
  split at h
  · rename_i v hv
    intro H locs ls hP hg hS hl
    exact lv_ldc2 hx hb hown (hts _ (hci _ (z_fnd_mem _ _ _ hv))) hd (hK _ _ _ _ _ h H locs ls hP hg hS hl)
  · exact h.elim
set_option maxHeartbeats 1000000 in
theorem y_x_iload_n {k : Fin 4} (C : CallFix p m c cc nL s args z_T own) (hd : decode cc pc = .ok (.iload_n k, 1)) (hK : ∀ pc lv st g u, K pc lv st g u → y_V p l e R s m args below meth c c0 s0 Q nL ad A Wd pc lv st g u) (h : y_stp G MC Po (.iload_n k) nx tg lv st g u K) (hn : nx = pc + 1) : y_V p l e R s m args below meth c c0 s0 Q nL ad A Wd pc lv st g u := by
  subst hn
  obtain ⟨hx, hb, hml, hown, hts⟩ := C
  simp only [y_stp] at h
  split at h
  · rename_i v hv
    intro H locs ls hP hg hS hl
    exact lv_iload_n hx hb hd rfl (z_lv_get hl hv) (hK _ _ _ _ _ h H locs ls hP hg hS hl)
  · exact h.elim
set_option maxHeartbeats 1000000 in
theorem y_x_iload {k : Nat} (C : CallFix p m c cc nL s args z_T own) (hd : decode cc pc = .ok (.iload k, 2)) (hK : ∀ pc lv st g u, K pc lv st g u → y_V p l e R s m args below meth c c0 s0 Q nL ad A Wd pc lv st g u) (h : y_stp G MC Po (.iload k) nx tg lv st g u K) (hn : nx = pc + 2) : y_V p l e R s m args below meth c c0 s0 Q nL ad A Wd pc lv st g u := by
  subst hn
  obtain ⟨hx, hb, hml, hown, hts⟩ := C
  simp only [y_stp] at h
  split at h
  · rename_i v hv
    intro H locs ls hP hg hS hl
    exact lv_iload hx hb hd (z_lv_get hl hv) (hK _ _ _ _ _ h H locs ls hP hg hS hl)
  · exact h.elim
set_option maxHeartbeats 1000000 in
theorem y_x_lload_n {k : Fin 4} (C : CallFix p m c cc nL s args z_T own) (hd : decode cc pc = .ok (.lload_n k, 1)) (hK : ∀ pc lv st g u, K pc lv st g u → y_V p l e R s m args below meth c c0 s0 Q nL ad A Wd pc lv st g u) (h : y_stp G MC Po (.lload_n k) nx tg lv st g u K) (hn : nx = pc + 1) : y_V p l e R s m args below meth c c0 s0 Q nL ad A Wd pc lv st g u := by
  subst hn
  obtain ⟨hx, hb, hml, hown, hts⟩ := C
  simp only [y_stp] at h
  split at h
  · rename_i v hv
    intro H locs ls hP hg hS hl
    exact lv_lload_n hx hb hd rfl (z_lv_get hl hv) (hK _ _ _ _ _ h H locs ls hP hg hS hl)
  · exact h.elim
set_option maxHeartbeats 1000000 in
theorem y_x_lload {k : Nat} (C : CallFix p m c cc nL s args z_T own) (hd : decode cc pc = .ok (.lload k, 2)) (hK : ∀ pc lv st g u, K pc lv st g u → y_V p l e R s m args below meth c c0 s0 Q nL ad A Wd pc lv st g u) (h : y_stp G MC Po (.lload k) nx tg lv st g u K) (hn : nx = pc + 2) : y_V p l e R s m args below meth c c0 s0 Q nL ad A Wd pc lv st g u := by
  subst hn
  obtain ⟨hx, hb, hml, hown, hts⟩ := C
  simp only [y_stp] at h
  split at h
  · rename_i v hv
    intro H locs ls hP hg hS hl
    exact lv_lload hx hb hd (z_lv_get hl hv) (hK _ _ _ _ _ h H locs ls hP hg hS hl)
  · exact h.elim
set_option maxHeartbeats 1000000 in
theorem y_x_aload_n {k : Fin 4} (C : CallFix p m c cc nL s args z_T own) (hd : decode cc pc = .ok (.aload_n k, 1)) (hK : ∀ pc lv st g u, K pc lv st g u → y_V p l e R s m args below meth c c0 s0 Q nL ad A Wd pc lv st g u) (h : y_stp G MC Po (.aload_n k) nx tg lv st g u K) (hn : nx = pc + 1) : y_V p l e R s m args below meth c c0 s0 Q nL ad A Wd pc lv st g u := by
  subst hn
  obtain ⟨hx, hb, hml, hown, hts⟩ := C
  simp only [y_stp] at h
  split at h
  · rename_i v hv
    intro H locs ls hP hg hS hl
    exact lv_aload_n hx hb hd rfl (z_lv_get hl hv) (hK _ _ _ _ _ h H locs ls hP hg hS hl)
  · exact h.elim
set_option maxHeartbeats 1000000 in
theorem y_x_aload {k : Nat} (C : CallFix p m c cc nL s args z_T own) (hd : decode cc pc = .ok (.aload k, 2)) (hK : ∀ pc lv st g u, K pc lv st g u → y_V p l e R s m args below meth c c0 s0 Q nL ad A Wd pc lv st g u) (h : y_stp G MC Po (.aload k) nx tg lv st g u K) (hn : nx = pc + 2) : y_V p l e R s m args below meth c c0 s0 Q nL ad A Wd pc lv st g u := by
  subst hn
  obtain ⟨hx, hb, hml, hown, hts⟩ := C
  simp only [y_stp] at h
  split at h
  · rename_i v hv
    intro H locs ls hP hg hS hl
    exact lv_aload hx hb hd (z_lv_get hl hv) (hK _ _ _ _ _ h H locs ls hP hg hS hl)
  · exact h.elim
set_option maxHeartbeats 1000000 in
theorem y_x_istore_n {k : Fin 4} (hkn : k.val < nL) (C : CallFix p m c cc nL s args z_T own) (hd : decode cc pc = .ok (.istore_n k, 1)) (hK : ∀ pc lv st g u, K pc lv st g u → y_V p l e R s m args below meth c c0 s0 Q nL ad A Wd pc lv st g u) (h : y_stp G MC Po (.istore_n k) nx tg lv st g u K) (hn : nx = pc + 1) : y_V p l e R s m args below meth c c0 s0 Q nL ad A Wd pc lv st g u := by
  subst hn
  obtain ⟨hx, hb, hml, hown, hts⟩ := C
  simp only [y_stp] at h
  split at h
  · rename_i v r
    obtain ⟨lv1, hk1, hm⟩ := z_put_eq _ _ _ _ _ h
    intro H locs ls hP hg hS hl
    exact lv_istore_n hx hb hd rfl hl hkn rfl (fun ls1 hl1 => hK _ _ _ _ _ hk1 H locs ls1 hP hg hS (z_lv_put1 rfl hl1 hm))
  · exact h.elim
set_option maxHeartbeats 1000000 in
theorem y_x_istore {k : Nat} (hkn : k < nL) (C : CallFix p m c cc nL s args z_T own) (hd : decode cc pc = .ok (.istore k, 2)) (hK : ∀ pc lv st g u, K pc lv st g u → y_V p l e R s m args below meth c c0 s0 Q nL ad A Wd pc lv st g u) (h : y_stp G MC Po (.istore k) nx tg lv st g u K) (hn : nx = pc + 2) : y_V p l e R s m args below meth c c0 s0 Q nL ad A Wd pc lv st g u := by
  subst hn
  obtain ⟨hx, hb, hml, hown, hts⟩ := C
  simp only [y_stp] at h
  split at h
  · rename_i v r
    obtain ⟨lv1, hk1, hm⟩ := z_put_eq _ _ _ _ _ h
    intro H locs ls hP hg hS hl
    exact lv_istore hx hb hd hl hkn rfl (fun ls1 hl1 => hK _ _ _ _ _ hk1 H locs ls1 hP hg hS (z_lv_put1 rfl hl1 hm))
  · exact h.elim
set_option maxHeartbeats 1000000 in
theorem y_x_lstore_n {k : Fin 4} (hkn : k.val + 1 < nL) (C : CallFix p m c cc nL s args z_T own) (hd : decode cc pc = .ok (.lstore_n k, 1)) (hK : ∀ pc lv st g u, K pc lv st g u → y_V p l e R s m args below meth c c0 s0 Q nL ad A Wd pc lv st g u) (h : y_stp G MC Po (.lstore_n k) nx tg lv st g u K) (hn : nx = pc + 1) : y_V p l e R s m args below meth c c0 s0 Q nL ad A Wd pc lv st g u := by
  subst hn
  obtain ⟨hx, hb, hml, hown, hts⟩ := C
  simp only [y_stp] at h
  split at h
  · rename_i v r
    obtain ⟨lv1, hk1, hm⟩ := z_put_eq _ _ _ _ _ h
    intro H locs ls hP hg hS hl
    exact lv_lstore_n hx hb hd rfl hl hkn rfl (fun ls1 hl1 => hK _ _ _ _ _ hk1 H locs ls1 hP hg hS (z_lv_put2 rfl hl1 hm))
  · exact h.elim
set_option maxHeartbeats 1000000 in
theorem y_x_lstore {k : Nat} (hkn : k + 1 < nL) (C : CallFix p m c cc nL s args z_T own) (hd : decode cc pc = .ok (.lstore k, 2)) (hK : ∀ pc lv st g u, K pc lv st g u → y_V p l e R s m args below meth c c0 s0 Q nL ad A Wd pc lv st g u) (h : y_stp G MC Po (.lstore k) nx tg lv st g u K) (hn : nx = pc + 2) : y_V p l e R s m args below meth c c0 s0 Q nL ad A Wd pc lv st g u := by
  subst hn
  obtain ⟨hx, hb, hml, hown, hts⟩ := C
  simp only [y_stp] at h
  split at h
  · rename_i v r
    obtain ⟨lv1, hk1, hm⟩ := z_put_eq _ _ _ _ _ h
    intro H locs ls hP hg hS hl
    exact lv_lstore hx hb hd hl hkn rfl (fun ls1 hl1 => hK _ _ _ _ _ hk1 H locs ls1 hP hg hS (z_lv_put2 rfl hl1 hm))
  · exact h.elim
set_option maxHeartbeats 1000000 in
theorem y_x_iinc {k : Nat} {n : Int} (hkn : k < nL) (C : CallFix p m c cc nL s args z_T own) (hd : decode cc pc = .ok (.iinc k n, 3)) (hK : ∀ pc lv st g u, K pc lv st g u → y_V p l e R s m args below meth c c0 s0 Q nL ad A Wd pc lv st g u) (h : y_stp G MC Po (.iinc k n) nx tg lv st g u K) (hn : nx = pc + 3) : y_V p l e R s m args below meth c c0 s0 Q nL ad A Wd pc lv st g u := by
  subst hn
  obtain ⟨hx, hb, hml, hown, hts⟩ := C
  simp only [y_stp] at h
  split at h
  · rename_i v hv
    obtain ⟨k0, hk0⟩ := List.getElem?_of_mem (List.mem_map.mpr ⟨(k, Value.int v), z_get_mem lv k _ hv, rfl⟩ : (k, z_tv ad (.int v)) ∈ z_tl ad lv)
    split at h
    · rename_i j
      obtain ⟨lv1, hk1, hm⟩ := z_put_eq _ _ _ _ _ h
      intro H locs ls hP hg hS hl
      exact lv_iinc (v := v + nI j) hx hb hd hl hk0 (by first | rfl | (congr 1; exact Int32.ofInt_ofNat _) | simp [nI]) hkn rfl (fun ls1 hl1 => hK _ _ _ _ _ hk1 H locs ls1 hP hg hS (z_lv_put1 rfl hl1 hm))
    · obtain ⟨lv1, hk1, hm⟩ := z_put_eq _ _ _ _ _ h
      intro H locs ls hP hg hS hl
      exact lv_iinc (v := v + (-1)) hx hb hd hl hk0 (by first | rfl | (congr 1)) hkn rfl (fun ls1 hl1 => hK _ _ _ _ _ hk1 H locs ls1 hP hg hS (z_lv_put1 rfl hl1 hm))
    · exact h.elim
  · exact h.elim
set_option maxHeartbeats 1000000 in
theorem y_x_iadd  (C : CallFix p m c cc nL s args z_T own) (hd : decode cc pc = .ok (.iadd, 1)) (hK : ∀ pc lv st g u, K pc lv st g u → y_V p l e R s m args below meth c c0 s0 Q nL ad A Wd pc lv st g u) (h : y_stp G MC Po (.iadd) nx tg lv st g u K) (hn : nx = pc + 1) : y_V p l e R s m args below meth c c0 s0 Q nL ad A Wd pc lv st g u := by
  subst hn
  obtain ⟨hx, hb, hml, hown, hts⟩ := C
  simp only [y_stp] at h
  split at h
  · intro H locs ls hP hg hS hl
    exact lv_iadd hx hb hd (hK _ _ _ _ _ h H locs ls hP hg hS hl)
  · exact h.elim
set_option maxHeartbeats 1000000 in
theorem y_x_isub  (C : CallFix p m c cc nL s args z_T own) (hd : decode cc pc = .ok (.isub, 1)) (hK : ∀ pc lv st g u, K pc lv st g u → y_V p l e R s m args below meth c c0 s0 Q nL ad A Wd pc lv st g u) (h : y_stp G MC Po (.isub) nx tg lv st g u K) (hn : nx = pc + 1) : y_V p l e R s m args below meth c c0 s0 Q nL ad A Wd pc lv st g u := by
  subst hn
  obtain ⟨hx, hb, hml, hown, hts⟩ := C
  simp only [y_stp] at h
  split at h
  · intro H locs ls hP hg hS hl
    exact lv_isub hx hb hd (hK _ _ _ _ _ h H locs ls hP hg hS hl)
  · exact h.elim
set_option maxHeartbeats 1000000 in
theorem y_x_imul  (C : CallFix p m c cc nL s args z_T own) (hd : decode cc pc = .ok (.imul, 1)) (hK : ∀ pc lv st g u, K pc lv st g u → y_V p l e R s m args below meth c c0 s0 Q nL ad A Wd pc lv st g u) (h : y_stp G MC Po (.imul) nx tg lv st g u K) (hn : nx = pc + 1) : y_V p l e R s m args below meth c c0 s0 Q nL ad A Wd pc lv st g u := by
  subst hn
  obtain ⟨hx, hb, hml, hown, hts⟩ := C
  simp only [y_stp] at h
  split at h
  · intro H locs ls hP hg hS hl
    exact lv_imul hx hb hd (hK _ _ _ _ _ h H locs ls hP hg hS hl)
  · exact h.elim
set_option maxHeartbeats 1000000 in
theorem y_x_iand  (C : CallFix p m c cc nL s args z_T own) (hd : decode cc pc = .ok (.iand, 1)) (hK : ∀ pc lv st g u, K pc lv st g u → y_V p l e R s m args below meth c c0 s0 Q nL ad A Wd pc lv st g u) (h : y_stp G MC Po (.iand) nx tg lv st g u K) (hn : nx = pc + 1) : y_V p l e R s m args below meth c c0 s0 Q nL ad A Wd pc lv st g u := by
  subst hn
  obtain ⟨hx, hb, hml, hown, hts⟩ := C
  simp only [y_stp] at h
  split at h
  · intro H locs ls hP hg hS hl
    exact lv_iand hx hb hd (hK _ _ _ _ _ h H locs ls hP hg hS hl)
  · exact h.elim
set_option maxHeartbeats 1000000 in
theorem y_x_ior  (C : CallFix p m c cc nL s args z_T own) (hd : decode cc pc = .ok (.ior, 1)) (hK : ∀ pc lv st g u, K pc lv st g u → y_V p l e R s m args below meth c c0 s0 Q nL ad A Wd pc lv st g u) (h : y_stp G MC Po (.ior) nx tg lv st g u K) (hn : nx = pc + 1) : y_V p l e R s m args below meth c c0 s0 Q nL ad A Wd pc lv st g u := by
  subst hn
  obtain ⟨hx, hb, hml, hown, hts⟩ := C
  simp only [y_stp] at h
  split at h
  · intro H locs ls hP hg hS hl
    exact lv_ior hx hb hd (hK _ _ _ _ _ h H locs ls hP hg hS hl)
  · exact h.elim
set_option maxHeartbeats 1000000 in
theorem y_x_ixor  (C : CallFix p m c cc nL s args z_T own) (hd : decode cc pc = .ok (.ixor, 1)) (hK : ∀ pc lv st g u, K pc lv st g u → y_V p l e R s m args below meth c c0 s0 Q nL ad A Wd pc lv st g u) (h : y_stp G MC Po (.ixor) nx tg lv st g u K) (hn : nx = pc + 1) : y_V p l e R s m args below meth c c0 s0 Q nL ad A Wd pc lv st g u := by
  subst hn
  obtain ⟨hx, hb, hml, hown, hts⟩ := C
  simp only [y_stp] at h
  split at h
  · intro H locs ls hP hg hS hl
    exact lv_ixor hx hb hd (hK _ _ _ _ _ h H locs ls hP hg hS hl)
  · exact h.elim
set_option maxHeartbeats 1000000 in
theorem y_x_ishl  (C : CallFix p m c cc nL s args z_T own) (hd : decode cc pc = .ok (.ishl, 1)) (hK : ∀ pc lv st g u, K pc lv st g u → y_V p l e R s m args below meth c c0 s0 Q nL ad A Wd pc lv st g u) (h : y_stp G MC Po (.ishl) nx tg lv st g u K) (hn : nx = pc + 1) : y_V p l e R s m args below meth c c0 s0 Q nL ad A Wd pc lv st g u := by
  subst hn
  obtain ⟨hx, hb, hml, hown, hts⟩ := C
  simp only [y_stp] at h
  split at h
  · intro H locs ls hP hg hS hl
    exact lv_ishl hx hb hd (hK _ _ _ _ _ h H locs ls hP hg hS hl)
  · exact h.elim
set_option maxHeartbeats 1000000 in
theorem y_x_ishr  (C : CallFix p m c cc nL s args z_T own) (hd : decode cc pc = .ok (.ishr, 1)) (hK : ∀ pc lv st g u, K pc lv st g u → y_V p l e R s m args below meth c c0 s0 Q nL ad A Wd pc lv st g u) (h : y_stp G MC Po (.ishr) nx tg lv st g u K) (hn : nx = pc + 1) : y_V p l e R s m args below meth c c0 s0 Q nL ad A Wd pc lv st g u := by
  subst hn
  obtain ⟨hx, hb, hml, hown, hts⟩ := C
  simp only [y_stp] at h
  split at h
  · intro H locs ls hP hg hS hl
    exact lv_ishr hx hb hd (hK _ _ _ _ _ h H locs ls hP hg hS hl)
  · exact h.elim
set_option maxHeartbeats 1000000 in
theorem y_x_ladd  (C : CallFix p m c cc nL s args z_T own) (hd : decode cc pc = .ok (.ladd, 1)) (hK : ∀ pc lv st g u, K pc lv st g u → y_V p l e R s m args below meth c c0 s0 Q nL ad A Wd pc lv st g u) (h : y_stp G MC Po (.ladd) nx tg lv st g u K) (hn : nx = pc + 1) : y_V p l e R s m args below meth c c0 s0 Q nL ad A Wd pc lv st g u := by
  subst hn
  obtain ⟨hx, hb, hml, hown, hts⟩ := C
  simp only [y_stp] at h
  split at h
  · intro H locs ls hP hg hS hl
    exact lv_ladd hx hb hd (hK _ _ _ _ _ h H locs ls hP hg hS hl)
  · exact h.elim
set_option maxHeartbeats 1000000 in
theorem y_x_lsub  (C : CallFix p m c cc nL s args z_T own) (hd : decode cc pc = .ok (.lsub, 1)) (hK : ∀ pc lv st g u, K pc lv st g u → y_V p l e R s m args below meth c c0 s0 Q nL ad A Wd pc lv st g u) (h : y_stp G MC Po (.lsub) nx tg lv st g u K) (hn : nx = pc + 1) : y_V p l e R s m args below meth c c0 s0 Q nL ad A Wd pc lv st g u := by
  subst hn
  obtain ⟨hx, hb, hml, hown, hts⟩ := C
  simp only [y_stp] at h
  split at h
  · intro H locs ls hP hg hS hl
    exact lv_lsub hx hb hd (hK _ _ _ _ _ h H locs ls hP hg hS hl)
  · exact h.elim
set_option maxHeartbeats 1000000 in
theorem y_x_idiv  (C : CallFix p m c cc nL s args z_T own) (hd : decode cc pc = .ok (.idiv, 1)) (hK : ∀ pc lv st g u, K pc lv st g u → y_V p l e R s m args below meth c c0 s0 Q nL ad A Wd pc lv st g u) (h : y_stp G MC Po (.idiv) nx tg lv st g u K) (hn : nx = pc + 1) : y_V p l e R s m args below meth c c0 s0 Q nL ad A Wd pc lv st g u := by
  subst hn
  obtain ⟨hx, hb, hml, hown, hts⟩ := C
  simp only [y_stp] at h
  split at h
  · intro H locs ls hP hg hS hl
    exact lv_idiv hx hb hd h.1 (hK _ _ _ _ _ h.2 H locs ls hP hg hS hl)
  · exact h.elim
set_option maxHeartbeats 1000000 in
theorem y_x_irem  (C : CallFix p m c cc nL s args z_T own) (hd : decode cc pc = .ok (.irem, 1)) (hK : ∀ pc lv st g u, K pc lv st g u → y_V p l e R s m args below meth c c0 s0 Q nL ad A Wd pc lv st g u) (h : y_stp G MC Po (.irem) nx tg lv st g u K) (hn : nx = pc + 1) : y_V p l e R s m args below meth c c0 s0 Q nL ad A Wd pc lv st g u := by
  subst hn
  obtain ⟨hx, hb, hml, hown, hts⟩ := C
  simp only [y_stp] at h
  split at h
  · intro H locs ls hP hg hS hl
    exact lv_irem hx hb hd h.1 (hK _ _ _ _ _ h.2 H locs ls hP hg hS hl)
  · exact h.elim
set_option maxHeartbeats 1000000 in
theorem y_x_lcmp  (C : CallFix p m c cc nL s args z_T own) (hd : decode cc pc = .ok (.lcmp, 1)) (hK : ∀ pc lv st g u, K pc lv st g u → y_V p l e R s m args below meth c c0 s0 Q nL ad A Wd pc lv st g u) (h : y_stp G MC Po (.lcmp) nx tg lv st g u K) (hn : nx = pc + 1) : y_V p l e R s m args below meth c c0 s0 Q nL ad A Wd pc lv st g u := by
  subst hn
  obtain ⟨hx, hb, hml, hown, hts⟩ := C
  simp only [y_stp] at h
  split at h
  · intro H locs ls hP hg hS hl
    exact W.lcmp hx hb hd (hK _ _ _ _ _ h H locs ls hP hg hS hl)
  · exact h.elim
set_option maxHeartbeats 1000000 in
theorem y_x_ifCond {op : Jvm.ClassFile.Cond} {off : Int} (ht : (pc : Int) + off = (tg : Int)) (C : CallFix p m c cc nL s args z_T own) (hd : decode cc pc = .ok (.ifCond op off, 3)) (hK : ∀ pc lv st g u, K pc lv st g u → y_V p l e R s m args below meth c c0 s0 Q nL ad A Wd pc lv st g u) (h : y_stp G MC Po (.ifCond op off) nx tg lv st g u K) (hn : nx = pc + 3) : y_V p l e R s m args below meth c c0 s0 Q nL ad A Wd pc lv st g u := by
  subst hn
  obtain ⟨hx, hb, hml, hown, hts⟩ := C
  simp only [y_stp] at h
  split at h
  · cases op <;> simp only at h
    · intro H locs ls hP hg hS hl
      exact lv_if_eq hx hb hd ht (fun q => hK _ _ _ _ _ (h.1 q) H locs ls hP hg hS hl) (fun q => hK _ _ _ _ _ (h.2 q) H locs ls hP hg hS hl)
    · intro H locs ls hP hg hS hl
      exact lv_if_ne hx hb hd ht (fun q => hK _ _ _ _ _ (h.1 q) H locs ls hP hg hS hl) (fun q => hK _ _ _ _ _ (h.2 q) H locs ls hP hg hS hl)
    · intro H locs ls hP hg hS hl
      exact lv_if_lt hx hb hd ht (fun q => hK _ _ _ _ _ (h.1 q) H locs ls hP hg hS hl) (fun q => hK _ _ _ _ _ (h.2 q) H locs ls hP hg hS hl)
    · intro H locs ls hP hg hS hl
      exact lv_if_ge hx hb hd ht (fun q => hK _ _ _ _ _ (h.1 q) H locs ls hP hg hS hl) (fun q => hK _ _ _ _ _ (h.2 q) H locs ls hP hg hS hl)
    · intro H locs ls hP hg hS hl
      exact lv_if_gt hx hb hd ht (fun q => hK _ _ _ _ _ (h.1 q) H locs ls hP hg hS hl) (fun q => hK _ _ _ _ _ (h.2 q) H locs ls hP hg hS hl)
    · intro H locs ls hP hg hS hl
      exact lv_if_le hx hb hd ht (fun q => hK _ _ _ _ _ (h.1 q) H locs ls hP hg hS hl) (fun q => hK _ _ _ _ _ (h.2 q) H locs ls hP hg hS hl)
  · exact h.elim
set_option maxHeartbeats 1000000 in
theorem y_x_if_icmp {op : Jvm.ClassFile.Cond} {off : Int} (ht : (pc : Int) + off = (tg : Int)) (C : CallFix p m c cc nL s args z_T own) (hd : decode cc pc = .ok (.if_icmp op off, 3)) (hK : ∀ pc lv st g u, K pc lv st g u → y_V p l e R s m args below meth c c0 s0 Q nL ad A Wd pc lv st g u) (h : y_stp G MC Po (.if_icmp op off) nx tg lv st g u K) (hn : nx = pc + 3) : y_V p l e R s m args below meth c c0 s0 Q nL ad A Wd pc lv st g u := by
  subst hn
  obtain ⟨hx, hb, hml, hown, hts⟩ := C
  simp only [y_stp] at h
  split at h
  · cases op <;> simp only at h
    · intro H locs ls hP hg hS hl
      exact lv_icmp_eq hx hb hd ht (fun q => hK _ _ _ _ _ (h.1 q) H locs ls hP hg hS hl) (fun q => hK _ _ _ _ _ (h.2 q) H locs ls hP hg hS hl)
    · intro H locs ls hP hg hS hl
      exact lv_icmp_ne hx hb hd ht (fun q => hK _ _ _ _ _ (h.1 q) H locs ls hP hg hS hl) (fun q => hK _ _ _ _ _ (h.2 q) H locs ls hP hg hS hl)
    · intro H locs ls hP hg hS hl
      exact lv_icmp_lt hx hb hd ht (fun q => hK _ _ _ _ _ (h.1 q) H locs ls hP hg hS hl) (fun q => hK _ _ _ _ _ (h.2 q) H locs ls hP hg hS hl)
    · intro H locs ls hP hg hS hl
      exact lv_icmp_ge hx hb hd ht (fun q => hK _ _ _ _ _ (h.1 q) H locs ls hP hg hS hl) (fun q => hK _ _ _ _ _ (h.2 q) H locs ls hP hg hS hl)
    · intro H locs ls hP hg hS hl
      exact lv_icmp_gt hx hb hd ht (fun q => hK _ _ _ _ _ (h.1 q) H locs ls hP hg hS hl) (fun q => hK _ _ _ _ _ (h.2 q) H locs ls hP hg hS hl)
    · intro H locs ls hP hg hS hl
      exact lv_icmp_le hx hb hd ht (fun q => hK _ _ _ _ _ (h.1 q) H locs ls hP hg hS hl) (fun q => hK _ _ _ _ _ (h.2 q) H locs ls hP hg hS hl)
  · exact h.elim
set_option maxHeartbeats 1000000 in
theorem y_x_goto {off : Int} (ht : (pc : Int) + off = (tg : Int)) (C : CallFix p m c cc nL s args z_T own) (hd : decode cc pc = .ok (.goto off, 3)) (hK : ∀ pc lv st g u, K pc lv st g u → y_V p l e R s m args below meth c c0 s0 Q nL ad A Wd pc lv st g u) (h : y_stp G MC Po (.goto off) nx tg lv st g u K) (hn : nx = pc + 3) : y_V p l e R s m args below meth c c0 s0 Q nL ad A Wd pc lv st g u := by
  subst hn
  obtain ⟨hx, hb, hml, hown, hts⟩ := C
  simp only [y_stp] at h
  intro H locs ls hP hg hS hl
  exact lv_goto hx hb hd ht (hK _ _ _ _ _ h H locs ls hP hg hS hl)
set_option maxHeartbeats 1000000 in
theorem y_x_l2i (C : CallFix p m c cc nL s args z_T own) (hd : decode cc pc = .ok (.l2i, 1)) (hK : ∀ pc lv st g u, K pc lv st g u → y_V p l e R s m args below meth c c0 s0 Q nL ad A Wd pc lv st g u) (h : y_stp G MC Po (.l2i) nx tg lv st g u K) (hn : nx = pc + 1) : y_V p l e R s m args below meth c c0 s0 Q nL ad A Wd pc lv st g u := by
  subst hn
  obtain ⟨hx, hb, hml, hown, hts⟩ := C
  simp only [y_stp] at h
  split at h
  · intro H locs ls hP hg hS hl
    exact lv_l2i hx hb hd rfl (hK _ _ _ _ _ h H locs ls hP hg hS hl)
  · exact h.elim
end YST
/-- what a method owes at its ends, and its calls -/
def y_H (p : Program) (l : Launch) (e : Env) (R : Room) (s : State) (m : MethodId) (args : Array Value) (below : List Frame) (meth : Method) (c : Code) (c0 s0 : Nat) (Q : State → Prop) (nL : Nat) (ad : Nat → Nat) (A : Nat → Prop) (Wd : Heap → Prop) (cc : ByteArray) (lim : Nat) (G : y_G) (MC : Nat) (Po : y_PO) : Prop :=
  (∀ (pc : Nat) (H : Heap) (locs : List Loc) (ls : Array Slot) (v : Int32) (g u : Nat), decode cc pc = .ok (.ireturn, 1) → (y_rt G = some .int ∨ y_rt G = some .boolean ∧ narrow .boolean (.int v) = .int v) → u ≤ MC → Po (some (.int v)) g → Wd H → g ≤ H.size → va_S A s.heap H locs → W p l e R s m args below meth c H locs (c0 + u) (s0 + 6 * u) Q (F0 m pc ls [.int v])) ∧
  (∀ (pc : Nat) (H : Heap) (locs : List Loc) (ls : Array Slot) (v : Int64) (g u : Nat), decode cc pc = .ok (.lreturn, 1) → y_rt G = some .long → u ≤ MC → Po (some (.long v)) g → Wd H → g ≤ H.size → va_S A s.heap H locs → W p l e R s m args below meth c H locs (c0 + u) (s0 + 6 * u) Q (F0 m pc ls [.long v])) ∧
  (∀ (pc i j n : Nat) (sp : y_SP) (as r : List Value) (lv : z_LV) (g u : Nat) (k : Option Value → Nat → Nat → Prop), pc < lim → (decode cc pc = .ok (.invokevirtual j, 3) ∧ i = j ∧ j < 100000 ∨ decode cc pc = .ok (.invokestatic j, 3) ∧ i = j + 100000) → z_fnd (y_cm G) i = some (n, sp) → as.length = n → z_cs r ≤ 8 → sp as g u k → (∀ v g' u', (∀ a, v ≠ some (.ref a)) → k v g' u' → y_V p l e R s m args below meth c c0 s0 Q nL ad A Wd (pc + 3) lv (v.toList ++ r) g' u') → y_V p l e R s m args below meth c c0 s0 Q nL ad A Wd pc lv (as.reverse ++ r) g u)
section YSU
variable {p : Program} {l : Launch} {e : Env} {R : Room} {s : State} {m : MethodId} {args : Array Value} {below : List Frame} {meth : Method} {c : Code} {c0 s0 : Nat} {Q : State → Prop} {cc : ByteArray} {nL lim : Nat} {own : String} {ad : Nat → Nat} {A : Nat → Prop} {Wd : Heap → Prop}
variable {G : y_G} {MC : Nat} {Po : y_PO} {K : y_KT} {pc nx tg : Nat} {lv : z_LV} {st : List Value} {g u : Nat}
theorem y_x_inv {i : Nat} (hi : i < 100000) (hlm : pc < lim) (hd : decode cc pc = .ok (.invokevirtual i, 3)) (hH : y_H p l e R s m args below meth c c0 s0 Q nL ad A Wd cc lim G MC Po) (hK : ∀ pc lv st g u, K pc lv st g u → y_V p l e R s m args below meth c c0 s0 Q nL ad A Wd pc lv st g u) (h : y_stp G MC Po (.invokevirtual i) nx tg lv st g u K) (hn : nx = pc + 3) : y_V p l e R s m args below meth c c0 s0 Q nL ad A Wd pc lv st g u := by
  subst hn
  simp only [y_stp] at h
  split at h
  · rename_i n sp hf
    obtain ⟨vs, r, h1, h2, h3⟩ := z_pop_eq _ _ _ _ h
    split at h3
    · rename_i hr
      have hr := Nat.le_of_ble_eq_true hr
      rw [h2, ← List.reverse_reverse vs, ← List.append_nil vs.reverse]
      exact hH.2.2 pc i i n sp _ r lv g u _ hlm (Or.inl ⟨hd, rfl, hi⟩) hf (by simp [h1]) hr h3 (fun v g' u' _ hk => hK _ _ _ _ _ hk)
    · exact h3.elim
  · exact h.elim
theorem y_x_ins {i : Nat} (hlm : pc < lim) (hd : decode cc pc = .ok (.invokestatic i, 3)) (hH : y_H p l e R s m args below meth c c0 s0 Q nL ad A Wd cc lim G MC Po) (hK : ∀ pc lv st g u, K pc lv st g u → y_V p l e R s m args below meth c c0 s0 Q nL ad A Wd pc lv st g u) (h : y_stp G MC Po (.invokestatic i) nx tg lv st g u K) (hn : nx = pc + 3) : y_V p l e R s m args below meth c c0 s0 Q nL ad A Wd pc lv st g u := by
  subst hn
  simp only [y_stp] at h
  split at h
  · rename_i n sp hf
    obtain ⟨vs, r, h1, h2, h3⟩ := z_pop_eq _ _ _ _ h
    split at h3
    · rename_i hr
      have hr := Nat.le_of_ble_eq_true hr
      rw [h2, ← List.reverse_reverse vs, ← List.append_nil vs.reverse]
      exact hH.2.2 pc (i + 100000) i n sp _ r lv g u _ hlm (Or.inr ⟨hd, rfl⟩) hf (by simp [h1]) hr h3 (fun v g' u' _ hk => hK _ _ _ _ _ hk)
    · exact h3.elim
  · exact h.elim
set_option maxHeartbeats 4000000 in
theorem y_step {ins : Instr} (C : CallFix p m c cc nL s args z_T own) (hH : y_H p l e R s m args below meth c c0 s0 Q nL ad A Wd cc lim G MC Po) (hco : y_cok cc nL lim G = true) (hpo : y_pok own G = true) (hm : (pc, ins, nx, tg) ∈ y_code G) (hK : ∀ pc lv st g u, K pc lv st g u → y_V p l e R s m args below meth c c0 s0 Q nL ad A Wd pc lv st g u) (h : y_stp G MC Po ins nx tg lv st g u K) : y_V p l e R s m args below meth c c0 s0 Q nL ad A Wd pc lv st g u := by
  simp only [y_cok, Bool.and_eq_true, List.all_eq_true] at hco
  obtain ⟨⟨htk, hlo⟩, hlm⟩ := hco _ hm
  simp only [y_pok, Bool.and_eq_true, List.all_eq_true, decide_eq_true_eq] at hpo
  obtain ⟨hci, hcL⟩ := hpo
  unfold z_tok at htk
  simp only at htk
  split at htk
  · rename_i i0 n hd
    simp only [Bool.and_eq_true, Bool.or_eq_true, decide_eq_true_eq, beq_iff_eq] at htk
    obtain ⟨⟨⟨hi, hln⟩, hnx⟩, hx⟩ := htk
    subst hi
    cases i0 with
    | iconst n =>
      have hln := hln.resolve_left (by simp [z_isw])
      rw [hln] at hd hnx
      exact y_x_iconst C hd hK h hnx
    | bipush n =>
      have hln := hln.resolve_left (by simp [z_isw])
      rw [hln] at hd hnx
      exact y_x_bipush C hd hK h hnx
    | sipush n =>
      have hln := hln.resolve_left (by simp [z_isw])
      rw [hln] at hd hnx
      exact y_x_sipush C hd hK h hnx
    | lconst n =>
      have hln := hln.resolve_left (by simp [z_isw])
      rw [hln] at hd hnx
      exact y_x_lconst C hd hK h hnx
    | ldc i =>
      have hln := hln.resolve_left (by simp [z_isw])
      rw [hln] at hd hnx
      exact y_x_ldc hci C hd hK h hnx
    | ldc2_w i =>
      have hln := hln.resolve_left (by simp [z_isw])
      rw [hln] at hd hnx
      exact y_x_ldc2_w hcL C hd hK h hnx
    | iload_n k =>
      have hln := hln.resolve_left (by simp [z_isw])
      rw [hln] at hd hnx
      exact y_x_iload_n C hd hK h hnx
    | iload k =>
      have hln := hln.resolve_left (by simp [z_isw])
      rw [hln] at hd hnx
      exact y_x_iload C hd hK h hnx
    | lload_n k =>
      have hln := hln.resolve_left (by simp [z_isw])
      rw [hln] at hd hnx
      exact y_x_lload_n C hd hK h hnx
    | lload k =>
      have hln := hln.resolve_left (by simp [z_isw])
      rw [hln] at hd hnx
      exact y_x_lload C hd hK h hnx
    | aload_n k =>
      have hln := hln.resolve_left (by simp [z_isw])
      rw [hln] at hd hnx
      exact y_x_aload_n C hd hK h hnx
    | aload k =>
      have hln := hln.resolve_left (by simp [z_isw])
      rw [hln] at hd hnx
      exact y_x_aload C hd hK h hnx
    | istore_n k =>
      have hln := hln.resolve_left (by simp [z_isw])
      rw [hln] at hd hnx
      exact y_x_istore_n (by simpa [z_lok] using hlo) C hd hK h hnx
    | istore k =>
      have hln := hln.resolve_left (by simp [z_isw])
      rw [hln] at hd hnx
      exact y_x_istore (by simpa [z_lok] using hlo) C hd hK h hnx
    | lstore_n k =>
      have hln := hln.resolve_left (by simp [z_isw])
      rw [hln] at hd hnx
      exact y_x_lstore_n (by simpa [z_lok] using hlo) C hd hK h hnx
    | lstore k =>
      have hln := hln.resolve_left (by simp [z_isw])
      rw [hln] at hd hnx
      exact y_x_lstore (by simpa [z_lok] using hlo) C hd hK h hnx
    | iinc k n =>
      have hln := hln.resolve_left (by simp [z_isw])
      rw [hln] at hd hnx
      exact y_x_iinc (by simpa [z_lok] using hlo) C hd hK h hnx
    | iadd =>
      have hln := hln.resolve_left (by simp [z_isw])
      rw [hln] at hd hnx
      exact y_x_iadd C hd hK h hnx
    | isub =>
      have hln := hln.resolve_left (by simp [z_isw])
      rw [hln] at hd hnx
      exact y_x_isub C hd hK h hnx
    | imul =>
      have hln := hln.resolve_left (by simp [z_isw])
      rw [hln] at hd hnx
      exact y_x_imul C hd hK h hnx
    | iand =>
      have hln := hln.resolve_left (by simp [z_isw])
      rw [hln] at hd hnx
      exact y_x_iand C hd hK h hnx
    | ior =>
      have hln := hln.resolve_left (by simp [z_isw])
      rw [hln] at hd hnx
      exact y_x_ior C hd hK h hnx
    | ixor =>
      have hln := hln.resolve_left (by simp [z_isw])
      rw [hln] at hd hnx
      exact y_x_ixor C hd hK h hnx
    | idiv =>
      have hln := hln.resolve_left (by simp [z_isw])
      rw [hln] at hd hnx
      exact y_x_idiv C hd hK h hnx
    | irem =>
      have hln := hln.resolve_left (by simp [z_isw])
      rw [hln] at hd hnx
      exact y_x_irem C hd hK h hnx
    | ishl =>
      have hln := hln.resolve_left (by simp [z_isw])
      rw [hln] at hd hnx
      exact y_x_ishl C hd hK h hnx
    | ishr =>
      have hln := hln.resolve_left (by simp [z_isw])
      rw [hln] at hd hnx
      exact y_x_ishr C hd hK h hnx
    | ladd =>
      have hln := hln.resolve_left (by simp [z_isw])
      rw [hln] at hd hnx
      exact y_x_ladd C hd hK h hnx
    | lsub =>
      have hln := hln.resolve_left (by simp [z_isw])
      rw [hln] at hd hnx
      exact y_x_lsub C hd hK h hnx
    | lcmp =>
      have hln := hln.resolve_left (by simp [z_isw])
      rw [hln] at hd hnx
      exact y_x_lcmp C hd hK h hnx
    | ifCond op off =>
      have hln := hln.resolve_left (by simp [z_isw])
      rw [hln] at hd hnx
      exact y_x_ifCond (by simpa using hx) C hd hK h hnx
    | if_icmp op off =>
      have hln := hln.resolve_left (by simp [z_isw])
      rw [hln] at hd hnx
      exact y_x_if_icmp (by simpa using hx) C hd hK h hnx
    | goto off =>
      have hln := hln.resolve_left (by simp [z_isw])
      rw [hln] at hd hnx
      exact y_x_goto (by simpa using hx) C hd hK h hnx
    | l2i =>
      have hln := hln.resolve_left (by simp [z_isw])
      rw [hln] at hd hnx
      exact y_x_l2i C hd hK h hnx
    | invokevirtual i =>
      have hln := hln.resolve_left (by simp [z_isw])
      rw [hln] at hd hnx
      exact y_x_inv (by simpa [z_lok] using hlo) (by simpa [y_lok] using hlm) hd hH hK h hnx
    | invokestatic i =>
      have hln := hln.resolve_left (by simp [z_isw])
      rw [hln] at hd hnx
      exact y_x_ins (by simpa [y_lok] using hlm) hd hH hK h hnx
    | ireturn =>
      have hln := hln.resolve_left (by simp [z_isw])
      rw [hln] at hd hnx
      simp only [y_stp] at h
      split at h
      · split at h
        · rename_i hr
          intro H locs ls hP hg hS hl
          exact hH.1 pc H locs ls _ g u hd (Or.inl hr) h.1 h.2 hP hg hS
        · rename_i hr
          intro H locs ls hP hg hS hl
          exact hH.1 pc H locs ls _ g u hd (Or.inr ⟨hr, h.1⟩) h.2.1 h.2.2 hP hg hS
        · exact h.elim
      · exact h.elim
    | lreturn =>
      have hln := hln.resolve_left (by simp [z_isw])
      rw [hln] at hd hnx
      simp only [y_stp] at h
      split at h
      · split at h
        · rename_i hr
          intro H locs ls hP hg hS hl
          exact hH.2.1 pc H locs ls _ g u hd hr h.1 h.2 hP hg hS
        · exact h.elim
      · exact h.elim
    | _ => exact h.elim
  · cases htk
theorem y_sound {cuts : List Nat} {J : y_KT} (C : CallFix p m c cc nL s args z_T own) (hH : y_H p l e R s m args below meth c c0 s0 Q nL ad A Wd cc lim G MC Po) (hco : y_cok cc nL lim G = true) (hpo : y_pok own G = true) (hJ : ∀ pc lv st g u, J pc lv st g u → y_V p l e R s m args below meth c c0 s0 Q nL ad A Wd pc lv st g u) : ∀ (n pc : Nat) (lv : z_LV) (st : List Value) (g u : Nat), y_wp G MC Po cuts J n pc lv st g u → y_V p l e R s m args below meth c c0 s0 Q nL ad A Wd pc lv st g u := by
  intro n
  induction n with
  | zero => intro pc lv st g u h; exact h.elim
  | succ n ih =>
    intro pc lv st g u h
    unfold y_wp at h
    split at h
    · rename_i ins nx tg hf
      refine y_step C hH hco hpo (z_fnd_mem _ _ _ hf) (fun pc lv st g u hk => ?_) h
      split at hk
      · exact hJ _ _ _ _ _ hk
      · exact ih _ _ _ _ _ hk
    · exact h.elim
theorem y_V_keep {ks : List Nat} (h : y_V p l e R s m args below meth c c0 s0 Q nL ad A Wd pc (z_keep ks lv) st g u) : y_V p l e R s m args below meth c c0 s0 Q nL ad A Wd pc lv st g u := by
  intro H locs ls hP hg hS hl
  refine h H locs ls hP hg hS ⟨hl.1, hl.2.1, fun q hq => hl.2.2 q ?_⟩
  obtain ⟨q0, h0, rfl⟩ := List.mem_map.mp hq
  exact List.mem_map.mpr ⟨q0, z_keep_mem h0, rfl⟩
theorem y_V_g {g' : Nat} (hg : g ≤ g') (h : y_V p l e R s m args below meth c c0 s0 Q nL ad A Wd pc lv st g u) : y_V p l e R s m args below meth c c0 s0 Q nL ad A Wd pc lv st g' u := fun H locs ls hP h2 hS hl => h H locs ls hP (Nat.le_trans hg h2) hS hl
end YSU
