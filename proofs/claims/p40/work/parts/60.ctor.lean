/-! constructors: a world that is being built -/
def x_0 : z_MI := fun _ _ => 0
def x_0L : z_ML := fun _ _ => 0
def x_fl (o : Nat) : List (Option Nat) := z_fl.getD (z_n o) []
def x_fs (ad : Nat → Nat) (done : List Nat) (o : Nat) : List Value := (x_fl o).map (fun f => match f with
  | none => .int 0
  | some t => if t ∈ done then .ref (ad t) else .null)
def x_L (cI cZ cJ : ClassId) (ad : Nat → Nat) (done : List Nat) : va_W := done.map (fun a => (ad a, z_e cI cZ cJ ad x_0 x_0L a))
def x_W (cI cZ cJ : ClassId) (ad : Nat → Nat) (done : List Nat) (h0 o : Nat) : va_W := (h0, .inr (z_n o, x_fs ad done o)) :: x_L cI cZ cJ ad done
theorem x_e_fr {cI cZ cJ : ClassId} {ad ad' : Nat → Nat} {a : Nat} (h : a % 8 = 0 → ∀ t, some t ∈ x_fl a → ad' t = ad t) : z_e cI cZ cJ ad' x_0 x_0L a = z_e cI cZ cJ ad x_0 x_0L a := by
  by_cases e : a % 8 = 0
  · rw [z_e0 e, z_e0 e]
    have : z_fs ad' x_0 a = z_fs ad x_0 a := by
      unfold z_fs
      apply List.ext_getElem?
      intro j
      rw [List.getElem?_mapIdx, List.getElem?_mapIdx]
      cases hj : (z_fl.getD (z_n a) [])[j]? with
      | none => rfl
      | some f => cases f with
        | none => rfl
        | some t =>
          have := h e t (List.mem_of_getElem? hj)
          simp only [Option.map_some, this]
    rw [this]
  · have hk : a % 8 = 1 ∨ a % 8 = 2 ∨ (a % 8 ≠ 0 ∧ a % 8 ≠ 1 ∧ a % 8 ≠ 2) := by omega
    rcases hk with k | k | k
    · rw [z_e1 k, z_e1 k]
    · rw [z_e2 k, z_e2 k]
    · unfold z_e
      split
      · exact absurd ‹_› k.1
      · exact absurd ‹_› k.2.1
      · exact absurd ‹_› k.2.2
      · rfl
theorem x_L_fr {cI cZ cJ : ClassId} {ad ad' : Nat → Nat} {done : List Nat} (h : ∀ a ∈ done, ad' a = ad a ∧ (a % 8 = 0 → ∀ t, some t ∈ x_fl a → ad' t = ad t)) : x_L cI cZ cJ ad' done = x_L cI cZ cJ ad done := by
  unfold x_L
  refine List.map_congr_left fun a ha => ?_
  rw [(h a ha).1, x_e_fr (h a ha).2]
theorem x_fs_set {ad ad' : Nat → Nat} {done new : List Nat} {o k t q : Nat} (hk : (x_fl o)[k]? = some (some t)) (hu : ∀ j, (x_fl o)[j]? = some (some t) → j = k) (ht : t ∈ new) (hq : ad' t = q) (hn : ∀ u, some u ∈ x_fl o → u ≠ t → u ∉ new) (hf : ∀ u ∈ done, ad' u = ad u) : x_fs ad' (done ++ new) o = (x_fs ad done o).set k (.ref q) := by
  unfold x_fs
  apply List.ext_getElem?
  intro j
  by_cases e : j = k
  · subst e
    have hlt := (List.getElem?_eq_some_iff.mp hk).1
    rw [List.getElem?_set_self (by rw [List.length_map]; exact hlt), List.getElem?_map, hk]
    show some (if t ∈ done ++ new then Value.ref (ad' t) else .null) = _
    rw [if_pos (List.mem_append_right _ ht), hq]
  · rw [List.getElem?_set_ne (Ne.symm e), List.getElem?_map, List.getElem?_map]
    cases hj : (x_fl o)[j]? with
    | none => rfl
    | some f => cases f with
      | none => rfl
      | some u =>
        have hne : u ≠ t := fun z => e (hu j (by rw [hj, z]))
        have hnn := hn u (List.mem_of_getElem? hj) hne
        show some (if u ∈ done ++ new then Value.ref (ad' u) else .null) = some (if u ∈ done then Value.ref (ad u) else .null)
        by_cases g : u ∈ done
        · rw [if_pos (List.mem_append_left _ g), if_pos g, hf u g]
        · rw [if_neg g, if_neg (fun z => (List.mem_append.mp z).elim g hnn)]
theorem x_fs_end {ad : Nat → Nat} {done : List Nat} {o : Nat} (h : ∀ t, some t ∈ x_fl o → t ∈ done) : x_fs ad done o = z_fs ad x_0 o := by
  unfold x_fs z_fs
  apply List.ext_getElem?
  intro j
  rw [List.getElem?_map, List.getElem?_mapIdx]
  show Option.map _ (z_fl.getD (z_n o) [])[j]? = _
  cases hj : (z_fl.getD (z_n o) [])[j]? with
  | none => rfl
  | some f => cases f with
    | none => rfl
    | some u =>
      show some (if u ∈ done then Value.ref (ad u) else .null) = some (.ref (ad u))
      rw [if_pos (h u (List.mem_of_getElem? hj))]
theorem x_find {s : State} {D : va_G} {tys : List (ClassId × FieldType)} {cA cX : ClassId} {ty : FieldType} {j : Nat} (hp : ∀ C, ty ≠ .object C) (hK : va_K D z_cl (tys ++ [(cA, ty)]) s) (hX : tys[j]? = some (cX, ty)) : cA = cX := by
  have h1 := (hK.2 j (cX, ty) (by rw [List.getElem?_append_left (List.getElem?_eq_some_iff.mp hX).1]; exact hX)).2
  have h2 := (hK.2 tys.length (cA, ty) (by simp)).2
  unfold va_RA at h1 h2
  cases ty with
  | object C => exact absurd rfl (hp C)
  | _ => exact Option.some.inj (h2.symm.trans h1)
section XC
variable {p : Program} {l : Launch} {e : Env} {R : Room} {s : State} {m : MethodId} {args : Array Value} {below : List Frame} {meth : Method} {c : Code} {H : Heap} {locs : List Loc} {cells slots : Nat} {Q : State → Prop} {cc : ByteArray} {nL : Nat} {own : String} {D : va_G} {cI cZ cJ : ClassId} {A : Nat → Prop} {pc : Nat} {ls : Array Slot}
/-- this.f = new T[n] -/
theorem x_arr (F : CallFix p m c cc nL s args z_T own) (hinit : meth.name = "<init>") {ad : Nat → Nat} {done : List Nat} {h0 o t k idx N j n : Nat} {T : u_T} {at_ : ArrayType} {ty fty : FieldType} {cX : ClassId} {a0 : vp_A}
    (hK : va_K D z_cl [(cI, .int), (cZ, .boolean), (cJ, .long)] s) (hP : va_P D z_cl (x_W cI cZ cJ ad done h0 o) H) (hD : va_D A (x_W cI cZ cJ ad done h0 o)) (hS : va_S A s.heap H locs) (hA : ∀ q, s.heap.size ≤ q → A q) (hl : lv_has ls nL [(0, .ref h0)])
    (d1 : decode cc pc = .ok (.aload_n 0, 1)) (d2 : decode cc (pc + 1) = .ok (.bipush (n : Int), 2)) (d3 : decode cc (pc + 1 + 2) = .ok (.newarray at_, 2)) (d4 : decode cc (pc + 1 + 2 + 2) = .ok (.putfield idx, 3)) (hn : n ≤ 127)
    (hty : newarray.typeOf at_ = ty) (hp : ∀ C, ty ≠ .object C) (hX : [(cI, FieldType.int), (cZ, .boolean), (cJ, .long)][j]? = some (cX, ty)) (hb : n * componentBytes ty ≤ 536870912) (ha : ∀ cA : ClassId, vp_cell cA a0 = arrV cA n (fun _ => defaultValue ty)) (he : ∀ ad, z_e cI cZ cJ ad x_0 x_0L t = .inl (cX, a0)) (harr : Jvm.Cond.arrayClass ty ∈ z_T)
    (hc : z_cl[z_n o]? = some (own, T, N)) (hk : k < N) (hlink : Jvm.Cond.fieldLink own idx (T k).1 (T k).2.1 (T k).2.2.1 ∈ z_T) (hfin : (T k).2.2.2 = true) (hdecl : (T k).1 = own) (hd : parseFieldDescriptor (T k).2.2.1 = some fty) (hnw : ∀ q, narrow fty (.ref q) = .ref q) (hfit : ∀ q, fits fty (.ref q) = true)
    (hkt : (x_fl o)[k]? = some (some t)) (hu : ∀ j, (x_fl o)[j]? = some (some t) → j = k) (htd : t ∉ done) (hdk : ∀ a ∈ done, a % 8 = 0 → ∀ u, some u ∈ x_fl a → u ≠ t)
    (hcells : cells + 1 ≤ R.cells) (hslots : slots + n ≤ R.slots)
    (kk : ∀ (q : Nat) (H1 : Heap) (locs1 : List Loc), va_P D z_cl (x_W cI cZ cJ (va_up ad t q) (done ++ [t]) h0 o) H1 → va_D A (x_W cI cZ cJ (va_up ad t q) (done ++ [t]) h0 o) → va_S A s.heap H1 locs1 → W p l e R s m args below meth c H1 locs1 (cells + 1) (slots + n) Q (F0 m (pc + 8) ls [])) : W p l e R s m args below meth c H locs cells slots Q (F0 m pc ls []) := by
  obtain ⟨hx, hbb, hml, hown, hts⟩ := id F
  have hok := z_cl_ok (z_n o) _ hc
  obtain ⟨hin, ⟨tyf, htyf⟩, hnm⟩ := hok
  refine lv_aload_n hx hbb d1 rfl (lv_at hl 0 rfl) ?_
  refine lv_bipush hx hbb d2 (z_b8 n hn) ?_
  subst hty
  refine va_newa (cl := z_cl) (N' := n) (n := nI n) (a0 := a0) hx hbb (hts _ harr) rfl hK hP hD hS hA ha (nI_pos (by omega)) (nI_clamp (by omega)) hb hcells hslots d3 (fun q cA H1 hK1 hP1 hD1 hS1 => ?_)
  have hcA : cA = cX := x_find hp hK1 hX
  subst hcA
  refine va_putF (D := D) (cl := z_cl) (ci := z_n o) (v := .ref q) (ty := fty) (C := own) (T := T) (N := N) (ref := (T k).1) hx hbb hts hin tyf htyf hnm hown hK1 hP1 hD1 hS1 0 rfl hc k hk (hts _ hlink) (fun _ h9 => h9) hfin hinit hdecl hd (hnw q) (hfit q) ?_ d4 (fun H2 locs2 hP2 hD2 hS2 => ?_)
  · unfold x_fs
    rw [List.length_map]
    exact (List.getElem?_eq_some_iff.mp hkt).1
  · have e1 : x_fs (va_up ad t q) (done ++ [t]) o = (x_fs ad done o).set k (.ref q) := x_fs_set hkt hu (List.mem_singleton.mpr rfl) (va_up_self _ _ _) (fun u _ hne z => hne (List.mem_singleton.mp z)) (fun u hu => va_up_ne _ _ (fun z => htd (by rw [← z]; exact hu)))
    have e2 : x_L cI cZ cJ (va_up ad t q) (done ++ [t]) = x_L cI cZ cJ ad done ++ [(q, Sum.inl (cA, a0))] := by
      have e3 : x_L cI cZ cJ (va_up ad t q) done = x_L cI cZ cJ ad done := x_L_fr (fun a ha => ⟨va_up_ne _ _ (fun z => htd (by rw [← z]; exact ha)), fun h8 u hu => va_up_ne _ _ (hdk a ha h8 u hu)⟩)
      rw [← e3]
      unfold x_L
      rw [List.map_append, List.map_cons, List.map_nil, he, va_up_self]
    have hW : x_W cI cZ cJ (va_up ad t q) (done ++ [t]) h0 o = ((x_W cI cZ cJ ad done h0 o) ++ [(q, Sum.inl (cA, a0))]).set 0 (h0, Sum.inr (z_n o, (x_fs ad done o).set k (.ref q))) := by
      unfold x_W
      rw [e1, e2]
      rfl
    have := kk q H2 locs2 (by rw [hW]; exact hP2) (by rw [hW]; exact hD2) hS2
    exact this
end XC
