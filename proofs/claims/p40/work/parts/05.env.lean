def z_T : List Jvm.Cond := lw_tbl.filter goodWord
theorem z_T_good {c : Jvm.Cond} (h : c ∈ z_T) : (c.onTables && c.keeps) = true ∨ ∃ ty, c = .arrayClass ty := good_of_word (List.mem_filter.mp h).2
def z_nest : List (String × Nat × MethodName × String) := [("Songlinebench", 9, ⟨"Songlinebench$Kin", "<init>", "()V"⟩, "Songlinebench"), ("Songlinebench", 18, ⟨"Songlinebench$Stories", "<init>", "()V"⟩, "Songlinebench"), ("Songlinebench", 25, ⟨"Songlinebench$Marks", "<init>", "()V"⟩, "Songlinebench"), ("Songlinebench", 32, ⟨"Songlinebench$Acts", "<init>", "()V"⟩, "Songlinebench"), ("Songlinebench", 39, ⟨"Songlinebench$Claims", "<init>", "()V"⟩, "Songlinebench"), ("Songlinebench", 46, ⟨"Songlinebench$Notices", "<init>", "()V"⟩, "Songlinebench"), ("Songlinebench$Acts", 41, ⟨"Songlinebench", "isIn", "(II)Z"⟩, "Songlinebench"), ("Songlinebench$Claims", 44, ⟨"Songlinebench", "with", "(IIZ)I"⟩, "Songlinebench"), ("Songlinebench$Claims", 48, ⟨"Songlinebench", "isIn", "(II)Z"⟩, "Songlinebench"), ("Songlinebench$Kin", 52, ⟨"Songlinebench", "with", "(IIZ)I"⟩, "Songlinebench"), ("Songlinebench$Kin", 56, ⟨"Songlinebench", "isIn", "(II)Z"⟩, "Songlinebench"), ("Songlinebench$Stories", 36, ⟨"Songlinebench", "with", "(IIZ)I"⟩, "Songlinebench")]
def z_strs : List (String × Nat × String) := [("Songlinebench", 65, "rule is out of range"), ("Songlinebench", 75, "there are 6 peoples"), ("Songlinebench", 88, "no such mother or father"), ("Songlinebench", 91, "mother and father are the same person"), ("Songlinebench", 96, "there are 30 persons"), ("Songlinebench", 108, "no such people or person"), ("Songlinebench", 125, "no such person"), ("Songlinebench", 127, "nobody adopts oneself"), ("Songlinebench", 135, "the rank is 3"), ("Songlinebench", 137, "no such people"), ("Songlinebench", 142, "there are 10 stories"), ("Songlinebench", 153, "no such story or place"), ("Songlinebench", 155, "level is out of range"), ("Songlinebench", 160, "the story has 12 parts"), ("Songlinebench", 170, "no such person, story or part"), ("Songlinebench", 187, "no such people or place"), ("Songlinebench", 189, "month or weight is out of range"), ("Songlinebench", 192, "there are 60 marks"), ("Songlinebench", 197, "from or to is out of range"), ("Songlinebench", 202, "the people has explained months 8 times"), ("Songlinebench", 217, "an argument is out of range"), ("Songlinebench", 220, "there are 40 acts"), ("Songlinebench", 228, "no such act"), ("Songlinebench", 237, "the act was given up"), ("Songlinebench", 242, "no such place"), ("Songlinebench", 247, "month is out of range"), ("Songlinebench", 261, "places or rights is out of range"), ("Songlinebench", 264, "there are 12 claims"), ("Songlinebench", 271, "no such person or claim"), ("Songlinebench", 277, "the claim is not FILED, or the person does not belong"), ("Songlinebench", 285, "no such claim"), ("Songlinebench", 287, "the claim is not FILED"), ("Songlinebench", 293, "the claim is not REGISTERED"), ("Songlinebench", 305, "the claim is not DETERMINED"), ("Songlinebench", 307, "what is out of range"), ("Songlinebench", 315, "no such people, place or right"), ("Songlinebench", 336, "there are 12 notices"), ("Songlinebench", 348, "no such people or notice"), ("Songlinebench", 357, "the notice does not WAIT, or the people is no party, or agreed"), ("Songlinebench", 362, "the notice does not WAIT, is not quick, or is too old"), ("Songlinebench", 367, "the people is no party, or objected"), ("Songlinebench", 369, "no such notice"), ("Songlinebench", 374, "the notice does not WAIT, is not old enough, or was allowed"), ("Songlinebench", 382, "the notice cannot be done now"), ("Songlinebench", 387, "the last month is gone"), ("Songlinebench", 407, "value is out of range"), ("Songlinebench", 413, "the act cannot be paid for, or nothing is owed"), ("Songlinebench", 426, "months is out of range"), ("Songlinebench", 428, "the month would be above 5000")]
def z_ncs : List (String × String) := [("java/lang/IllegalArgumentException", "java/lang/IndexOutOfBoundsException"), ("java/lang/IllegalStateException", "java/lang/IndexOutOfBoundsException"), ("java/lang/IllegalStateException", "java/lang/IllegalArgumentException")]
def z_cas : List String := ["java/lang/IllegalArgumentException", "java/lang/IllegalStateException", "java/lang/IndexOutOfBoundsException"]
def z_dec : List MethodName := [⟨"java/lang/RuntimeException", "<init>", "(Ljava/lang/String;)V"⟩, ⟨"java/lang/Exception", "<init>", "(Ljava/lang/String;)V"⟩, ⟨"java/lang/Throwable", "<init>", "(Ljava/lang/String;)V"⟩]

def z_tv (ad : Nat → Nat) : Value → Value
  | .ref a => .ref (ad a)
  | v => v
def z_ts (ad : Nat → Nat) (st : List Value) : List Value := st.map (z_tv ad)
def z_tl (ad : Nat → Nat) (lv : z_LV) : z_LV := lv.map (fun q => (q.1, z_tv ad q.2))
def z_rv : Value → Bool
  | .ref a => z_ids.contains a || (a == z_SC || a == z_WT)
  | _ => true
def z_rs (st : List Value) : Bool := st.all z_rv
def z_rl (lv : z_LV) : Bool := lv.all (fun q => z_rv q.2)
def z_fs (ad : Nat → Nat) (S : z_MI) (a : Nat) : List Value := (z_fl.getD (z_n a) []).mapIdx (fun k o => match o with
  | none => .int (S a k)
  | some t => .ref (ad t))
def z_e (cI cZ cJ : ClassId) (ad : Nat → Nat) (S : z_MI) (P : z_ML) (a : Nat) : va_E := match a % 8 with
  | 0 => .inr (z_n a, z_fs ad S a)
  | 1 => .inl (cI, z_n a, .inl (S a))
  | 2 => .inl (cZ, z_n a, .inl (S a))
  | _ => .inl (cJ, z_n a, .inr (.inl (P a)))
def z_w (cI cZ cJ : ClassId) (ad : Nat → Nat) (S : z_MI) (P : z_ML) : va_W := z_ids.map (fun a => (ad a, z_e cI cZ cJ ad S P a))
def z_inj (ad : Nat → Nat) : Prop := ∀ a ∈ z_ids, ∀ b ∈ z_ids, ad a = ad b → a = b
theorem z_nodup : z_ids.Nodup := by decide +kernel
theorem z_w_at {cI cZ cJ : ClassId} {ad : Nat → Nat} {S : z_MI} {P : z_ML} {a : Nat} (h : a ∈ z_ids) : ∃ k : Nat, (z_w cI cZ cJ ad S P)[k]? = some (ad a, z_e cI cZ cJ ad S P a) ∧ z_ids[k]? = some a := by
  obtain ⟨k, hk⟩ := List.getElem?_of_mem h
  exact ⟨k, by simp [z_w, hk], hk⟩
theorem z_w_set {cI cZ cJ : ClassId} {ad : Nat → Nat} {S S' : z_MI} {P P' : z_ML} {a k : Nat} (hk : z_ids[k]? = some a) (he : ∀ b, b ≠ a → z_e cI cZ cJ ad S' P' b = z_e cI cZ cJ ad S P b) : (z_w cI cZ cJ ad S P).set k (ad a, z_e cI cZ cJ ad S' P' a) = z_w cI cZ cJ ad S' P' := by
  apply List.ext_getElem?
  intro j
  have hkl : k < z_ids.length := (List.getElem?_eq_some_iff.mp hk).1
  by_cases hj : j = k
  · subst hj
    rw [List.getElem?_set_self (by simpa [z_w] using hkl)]
    simp [z_w, hk]
  · rw [List.getElem?_set_ne (Ne.symm hj)]
    simp only [z_w, List.getElem?_map]
    cases hb : z_ids[j]? with
    | none => rfl
    | some b =>
      have hne : b ≠ a := by
        intro e
        subst e
        have hjl : j < z_ids.length := (List.getElem?_eq_some_iff.mp hb).1
        exact hj ((List.getElem?_inj hjl z_nodup).mp (hb.trans hk.symm))
      simp [he b hne]
theorem z_D_of {cI cZ cJ : ClassId} {ad : Nat → Nat} {S : z_MI} {P : z_ML} {A : Nat → Prop} (hi : z_inj ad) (hA : ∀ a ∈ z_ids, A (ad a)) : va_D A (z_w cI cZ cJ ad S P) := by
  have key : ∀ (k : Nat) (q : Nat × va_E), (z_w cI cZ cJ ad S P)[k]? = some q → ∃ a, z_ids[k]? = some a ∧ q.1 = ad a := by
    intro k q h
    simp only [z_w, List.getElem?_map, Option.map_eq_some_iff] at h
    obtain ⟨a, h1, h2⟩ := h
    exact ⟨a, h1, by rw [← h2]⟩
  refine ⟨fun i j p q hp hq hpq => ?_, fun k q hk => ?_⟩
  · obtain ⟨a, h1, h2⟩ := key i p hp
    obtain ⟨b, h3, h4⟩ := key j q hq
    have hab : a = b := hi a (List.mem_of_getElem? h1) b (List.mem_of_getElem? h3) (by rw [← h2, ← h4]; exact hpq)
    subst hab
    exact (List.getElem?_inj (List.getElem?_eq_some_iff.mp h1).1 z_nodup).mp (h1.trans h3.symm)
  · obtain ⟨a, h1, h2⟩ := key k q hk
    rw [h2]
    exact hA a (List.mem_of_getElem? h1)
def z_E (D : va_G) (cI cZ cJ : ClassId) (ad : Nat → Nat) (A : Nat → Prop) (U : State) : Prop :=
  va_K D z_cl [(cI, .int), (cZ, .boolean), (cJ, .long)] U ∧ (∀ q ∈ z_nest, va_Nw (.methodLinkNest q.1 q.2.1 q.2.2.1 q.2.2.2) U) ∧ (∀ q ∈ z_strs, ∃ a, vk_R q.1 q.2.1 q.2.2 a U) ∧
  vx_Zq Bundle.tN "UNASSIGNED_STACK" Bundle.steD A U U.heap ∧ vx_Zq Bundle.tN "SUPPRESSED_SENTINEL" Bundle.listD A U U.heap ∧ va_Z "Songlinebench" "WEIGHTS" "[I" (.ref (ad z_WT)) A U U.heap ∧ va_T .int (ad z_WT) 5 (fun j => .int (z_wt j)) A U U.heap ∧ (∀ q ∈ z_ncs, va_Nc q.1 q.2 U) ∧ (∀ q ∈ z_cas, va_Nw (.castable q q) U) ∧ ∀ q ∈ z_dec, va_Nw (.declares q) U
theorem z_E.warm {D : va_G} {cI cZ cJ : ClassId} {ad : Nat → Nat} {A B : Nat → Prop} {s U : State} (hW : s.WarmedH U.vm) (hS : ∀ q : Nat, q < s.heap.size → ¬ A q → U.heap[q]? = s.heap[q]?) (hBA : ∀ q, B q → A q) (h : z_E D cI cZ cJ ad A s) : z_E D cI cZ cJ ad B U := by
  obtain ⟨h1, h2, h3, h4, h5, h6, h7, h8, h9, h10⟩ := h
  refine ⟨va_K.moved hW.alike h1, fun q hq => va_Nw.warmM hW (h2 q hq), fun q hq => ?_, ?_, ?_, ?_, ?_, fun q hq => va_Nc.moved hW.alike (h8 q hq), fun q hq => va_Nw.warmC hW (h9 q hq), fun q hq => va_Nw.warmD hW (h10 q hq)⟩
  · obtain ⟨a, ha⟩ := h3 q hq
    exact ⟨a, vk_R.warm hW ha⟩
  · exact (vx_Zq.moved hW.alike (h4.kept hS)).narrow hBA
  · exact (vx_Zq.moved hW.alike (h5.kept hS)).narrow hBA
  · exact (va_Z.moved hW.alike (h6.kept hS)).narrow hBA
  · exact (va_T.moved hW.alike (h7.kept hS)).narrow hBA
theorem z_E.same {D : va_G} {cI cZ cJ : ClassId} {ad : Nat → Nat} {A : Nat → Prop} {u U : State} (hv : U.vm = u.vm) (hh : U.heap = u.heap) (h : z_E D cI cZ cJ ad A u) : z_E D cI cZ cJ ad A U := by
  obtain ⟨h1, h2, h3, h4, h5, h6, h7, h8, h9, h10⟩ := h
  have al : u.vm.Alike U.vm := by rw [hv]; exact Vm.Alike.refl _
  refine ⟨va_K.moved al h1, fun q hq => va_Nw.same rfl hv.symm (h2 q hq), fun q hq => ?_, ?_, ?_, ?_, ?_, fun q hq => va_Nc.moved al (h8 q hq), fun q hq => va_Nw.same rfl hv.symm (h9 q hq), fun q hq => va_Nw.same rfl hv.symm (h10 q hq)⟩
  · obtain ⟨a, ha⟩ := h3 q hq
    exact ⟨a, vk_R.same hv ha⟩
  · rw [hh]; exact vx_Zq.moved al h4
  · rw [hh]; exact vx_Zq.moved al h5
  · rw [hh]; exact va_Z.moved al h6
  · rw [hh]; exact va_T.moved al h7

