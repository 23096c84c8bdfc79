
def z_C (p : Program) (s : State) (m : MethodId) (args : Array Value) (meth : Method) (c : Code) (cc : ByteArray) (nL : Nat) (own : String) (D : va_G) (cI cZ cJ : ClassId) (ad : Nat → Nat) (A : Nat → Prop) (sc : Option (Nat × (Nat → Int32))) : Prop :=
  CallFix p m c cc nL s args z_T own ∧ z_inj ad ∧ (∀ a ∈ z_ids, A (ad a)) ∧ (∀ q, s.heap.size ≤ q → A q) ∧ z_E D cI cZ cJ ad A s ∧ meth.locks = false ∧ ∀ (L : Nat) (f : Nat → Int32), sc = some (L, f) → va_X (ad z_SC) L f s s.heap ∧ ad z_SC < s.heap.size ∧ ¬ A (ad z_SC)
def z_V (p : Program) (l : Launch) (e : Env) (R : Room) (s : State) (m : MethodId) (args : Array Value) (below : List Frame) (meth : Method) (c : Code) (cells slots : Nat) (Q : State → Prop) (nL : Nat) (D : va_G) (cI cZ cJ : ClassId) (ad : Nat → Nat) (A : Nat → Prop) : z_KT := fun pc lv st S P =>
  ∀ (H : Heap) (locs : List Loc) (ls : Array Slot), va_P D z_cl (z_w cI cZ cJ ad S P) H → va_S A s.heap H locs → lv_has ls nL (z_tl ad lv) → z_rl lv = true → z_rs st = true → W p l e R s m args below meth c H locs cells slots Q (F0 m pc ls (z_ts ad st))
theorem z_put_eq (i : Nat) (v : Value) : ∀ (l : z_LV) (b : Bool) (k : z_LV → Prop), z_put i v l b k → ∃ l' : z_LV, k l' ∧ ∀ q ∈ l', q = (i, v) ∨ (q ∈ l ∧ q.1 ≠ i ∧ ¬ (z_is2 v = true ∧ q.1 = i + 1) ∧ ¬ (z_is2 q.2 = true ∧ q.1 + 1 = i))
  | [], true, k, h => ⟨[], h, fun q hq => by cases hq⟩
  | [], false, k, h => ⟨[(i, v)], h, fun q hq => Or.inl (List.mem_singleton.mp hq)⟩
  | (j, w) :: l, b, k, h => by
    unfold z_put at h
    split at h
    · rename_i hj
      split at h
      · obtain ⟨l', h1, h2⟩ := z_put_eq i v l true k h
        refine ⟨l', h1, fun q hq => ?_⟩
        rcases h2 q hq with h3 | ⟨h3, h4⟩
        · exact Or.inl h3
        · exact Or.inr ⟨List.mem_cons_of_mem _ h3, h4⟩
      · obtain ⟨l', h1, h2⟩ := z_put_eq i v l true (fun l' => k ((i, v) :: l')) h
        refine ⟨_, h1, fun q hq => ?_⟩
        rcases List.mem_cons.mp hq with rfl | hq
        · exact Or.inl rfl
        · rcases h2 q hq with h3 | ⟨h3, h4⟩
          · exact Or.inl h3
          · exact Or.inr ⟨List.mem_cons_of_mem _ h3, h4⟩
    · rename_i hj
      have hj' : j ≠ i := fun e => by rw [e, Nat.beq_refl] at hj; cases hj
      split at h
      · obtain ⟨l', h1, h2⟩ := z_put_eq i v l b k h
        refine ⟨l', h1, fun q hq => ?_⟩
        rcases h2 q hq with h3 | ⟨h3, h4⟩
        · exact Or.inl h3
        · exact Or.inr ⟨List.mem_cons_of_mem _ h3, h4⟩
      · rename_i hc
        obtain ⟨l', h1, h2⟩ := z_put_eq i v l b (fun l' => k ((j, w) :: l')) h
        refine ⟨_, h1, fun q hq => ?_⟩
        rcases List.mem_cons.mp hq with rfl | hq
        · refine Or.inr ⟨List.mem_cons_self, hj', ?_, ?_⟩
          · rintro ⟨g1, g2⟩
            have g3 : j = i + 1 := g2
            rw [g1, g3, Nat.beq_refl] at hc
            simp at hc
          · rintro ⟨g1, g2⟩
            have g3 : j + 1 = i := g2
            have g4 : z_is2 w = true := g1
            rw [g4, g3, Nat.beq_refl] at hc
            simp at hc
        · rcases h2 q hq with h3 | ⟨h3, h4⟩
          · exact Or.inl h3
          · exact Or.inr ⟨List.mem_cons_of_mem _ h3, h4⟩
theorem z_is2_iff (v : Value) : z_is2 v = true ↔ v.category = 2 := by cases v <;> simp [z_is2, Value.category]
theorem z_is2_tv (ad : Nat → Nat) (v : Value) : z_is2 (z_tv ad v) = z_is2 v := by cases v <;> rfl
theorem z_cat_tv (ad : Nat → Nat) (v : Value) : (z_tv ad v).category = v.category := by cases v <;> rfl
theorem z_get_mem : ∀ (l : z_LV) (i : Nat) (v : Value), z_get l i = some v → (i, v) ∈ l
  | [], i, v, h => by cases h
  | (j, w) :: l, i, v, h => by
    unfold z_get at h
    split at h
    · rename_i hj
      cases h
      rw [Nat.eq_of_beq_eq_true hj]
      exact List.mem_cons_self
    · exact List.mem_cons_of_mem _ (z_get_mem l i v h)
theorem z_fnd_mem {α : Type} : ∀ (l : List (Nat × α)) (i : Nat) (v : α), z_fnd l i = some v → (i, v) ∈ l
  | [], i, v, h => by cases h
  | (j, w) :: l, i, v, h => by
    unfold z_fnd at h
    split at h
    · rename_i hj
      cases h
      rw [Nat.eq_of_beq_eq_true hj]
      exact List.mem_cons_self
    · exact List.mem_cons_of_mem _ (z_fnd_mem l i v h)
theorem z_lv_get {ad : Nat → Nat} {ls : Array Slot} {nL : Nat} {lv : z_LV} (h : lv_has ls nL (z_tl ad lv)) {i : Nat} {v : Value} (hg : z_get lv i = some v) : ls[i]? = some (.val (z_tv ad v)) :=
  h.2.2 (i, z_tv ad v) (List.mem_map.mpr ⟨(i, v), z_get_mem lv i v hg, rfl⟩)
theorem z_rl_get {lv : z_LV} (h : z_rl lv = true) {i : Nat} {v : Value} (hg : z_get lv i = some v) : z_rv v = true := List.all_eq_true.mp h (i, v) (z_get_mem lv i v hg)
/-- the new list of locals behind a store of one slot -/
theorem z_lv_put1 {ad : Nat → Nat} {ls' : Array Slot} {nL i : Nat} {v : Value} {lv lv' : z_LV} (h2 : z_is2 v = false) (h : lv_has ls' nL ((i, z_tv ad v) :: (z_tl ad lv).filter (fun q => !(q.1 == i) && !(q.1 + 1 == i && q.2.category == 2))))
    (hl : ∀ q ∈ lv', q = (i, v) ∨ (q ∈ lv ∧ q.1 ≠ i ∧ ¬ (z_is2 v = true ∧ q.1 = i + 1) ∧ ¬ (z_is2 q.2 = true ∧ q.1 + 1 = i))) : lv_has ls' nL (z_tl ad lv') := by
  refine ⟨h.1, h.2.1, fun q hq => h.2.2 q ?_⟩
  obtain ⟨q0, hq0, rfl⟩ := List.mem_map.mp hq
  rcases hl q0 hq0 with rfl | ⟨h3, h4, -, h6⟩
  · exact List.mem_cons_self
  · refine List.mem_cons_of_mem _ (List.mem_filter.mpr ⟨List.mem_map.mpr ⟨q0, h3, rfl⟩, ?_⟩)
    have e : (z_tv ad q0.2).category = q0.2.category := z_cat_tv ad q0.2
    by_cases hc : q0.2.category = 2
    · have h7 : ¬ q0.1 + 1 = i := fun e => h6 ⟨(z_is2_iff _).mpr hc, e⟩
      simp [e, h4, h7]
    · simp [e, h4, hc]
theorem z_lv_put2 {ad : Nat → Nat} {ls' : Array Slot} {nL i : Nat} {v : Value} {lv lv' : z_LV} (h2 : z_is2 v = true) (h : lv_has ls' nL ((i, z_tv ad v) :: (z_tl ad lv).filter (fun q => !(q.1 == i) && (!(q.1 == i + 1) && !(q.1 + 1 == i && q.2.category == 2)))))
    (hl : ∀ q ∈ lv', q = (i, v) ∨ (q ∈ lv ∧ q.1 ≠ i ∧ ¬ (z_is2 v = true ∧ q.1 = i + 1) ∧ ¬ (z_is2 q.2 = true ∧ q.1 + 1 = i))) : lv_has ls' nL (z_tl ad lv') := by
  refine ⟨h.1, h.2.1, fun q hq => h.2.2 q ?_⟩
  obtain ⟨q0, hq0, rfl⟩ := List.mem_map.mp hq
  rcases hl q0 hq0 with rfl | ⟨h3, h4, h5, h6⟩
  · exact List.mem_cons_self
  · refine List.mem_cons_of_mem _ (List.mem_filter.mpr ⟨List.mem_map.mpr ⟨q0, h3, rfl⟩, ?_⟩)
    have e : (z_tv ad q0.2).category = q0.2.category := z_cat_tv ad q0.2
    have h8 : ¬ q0.1 = i + 1 := fun e => h5 ⟨h2, e⟩
    by_cases hc : q0.2.category = 2
    · have h7 : ¬ q0.1 + 1 = i := fun e => h6 ⟨(z_is2_iff _).mpr hc, e⟩
      simp [e, h4, h7, h8]
    · simp [e, h4, hc, h8]
theorem z_rl_put {i : Nat} {v : Value} {lv lv' : z_LV} (hv : z_rv v = true) (h : z_rl lv = true) (hl : ∀ q ∈ lv', q = (i, v) ∨ (q ∈ lv ∧ q.1 ≠ i ∧ ¬ (z_is2 v = true ∧ q.1 = i + 1) ∧ ¬ (z_is2 q.2 = true ∧ q.1 + 1 = i))) : z_rl lv' = true := by
  refine List.all_eq_true.mpr fun q hq => ?_
  rcases hl q hq with rfl | ⟨h3, -⟩
  · exact hv
  · exact List.all_eq_true.mp h q h3
theorem z_rs_cons {v : Value} {st : List Value} : z_rs (v :: st) = true ↔ z_rv v = true ∧ z_rs st = true := by simp [z_rs]
theorem z_in {a : Nat} (h : z_rv (.ref a) = true) (h4 : a % 8 ≠ 4) (h5 : a % 8 ≠ 5) : a ∈ z_ids := by
  simp only [z_rv, Bool.or_eq_true, List.contains_iff_mem, beq_iff_eq] at h
  rcases h with h | h | h
  · exact h
  · rw [h] at h4; exact absurd rfl h4
  · rw [h] at h5; exact absurd rfl h5
theorem z_kinds : ∀ a ∈ z_ids, a % 8 < 4 := by decide +kernel
theorem z_sc_of {a : Nat} (h : z_rv (.ref a) = true) (h4 : a % 8 = 4) : a = z_SC := by
  simp only [z_rv, Bool.or_eq_true, List.contains_iff_mem, beq_iff_eq] at h
  rcases h with h | h | h
  · have := z_kinds a h; omega
  · exact h
  · rw [h] at h4; exact absurd h4 (by decide)
theorem z_wt_of {a : Nat} (h : z_rv (.ref a) = true) (h4 : a % 8 = 5) : a = z_WT := by
  simp only [z_rv, Bool.or_eq_true, List.contains_iff_mem, beq_iff_eq] at h
  rcases h with h | h | h
  · have := z_kinds a h; omega
  · rw [h] at h4; exact absurd h4 (by decide)
  · exact h
theorem z_e1 {cI cZ cJ : ClassId} {ad : Nat → Nat} {S : z_MI} {P : z_ML} {a : Nat} (h : a % 8 = 1) : z_e cI cZ cJ ad S P a = .inl (cI, z_n a, .inl (S a)) := by unfold z_e; rw [h]; rfl
theorem z_e2 {cI cZ cJ : ClassId} {ad : Nat → Nat} {S : z_MI} {P : z_ML} {a : Nat} (h : a % 8 = 2) : z_e cI cZ cJ ad S P a = .inl (cZ, z_n a, .inl (S a)) := by unfold z_e; rw [h]; rfl
theorem z_e3 {cI cZ cJ : ClassId} {ad : Nat → Nat} {S : z_MI} {P : z_ML} {a : Nat} (h : a % 8 = 3) : z_e cI cZ cJ ad S P a = .inl (cJ, z_n a, .inr (.inl (P a))) := by unfold z_e; rw [h]; rfl
theorem z_e0 {cI cZ cJ : ClassId} {ad : Nat → Nat} {S : z_MI} {P : z_ML} {a : Nat} (h : a % 8 = 0) : z_e cI cZ cJ ad S P a = .inr (z_n a, z_fs ad S a) := by unfold z_e; rw [h]; rfl
theorem z_e_neS {cI cZ cJ : ClassId} {ad : Nat → Nat} {S : z_MI} {P : z_ML} {a b : Nat} {f : Nat → Int32} (h : b ≠ a) : z_e cI cZ cJ ad (va_up S a f) P b = z_e cI cZ cJ ad S P b := by
  unfold z_e z_fs
  rw [va_up_ne _ _ h]
theorem z_e_neP {cI cZ cJ : ClassId} {ad : Nat → Nat} {S : z_MI} {P : z_ML} {a b : Nat} {f : Nat → Int64} (h : b ≠ a) : z_e cI cZ cJ ad S (va_up P a f) b = z_e cI cZ cJ ad S P b := by
  unfold z_e
  rw [va_up_ne _ _ h]

