/-! constructors: contracts, and how one is called -/
def x_c0 (h0 o : Nat) : va_W := [(h0, .inr (z_n o, x_fs (fun _ => 0) [] o))]
def x_Q (cI cZ cJ : ClassId) (D : va_G) (h0 sz o : Nat) (ids : List Nat) : Array Value → State → Outcome → State → Prop := va_Qv (fun ad : Nat → Nat => ad o = h0) (fun ad u => va_P D z_cl (x_L cI cZ cJ ad ids) u.heap ∧ va_D (va_A (x_c0 h0 o) sz) (x_L cI cZ cJ ad ids)) (va_A (x_c0 h0 o) sz)
def x_B (cI cZ cJ : ClassId) (D : va_G) (h0 sz o : Nat) (U : State) : Prop := U.heap.size = sz ∧ va_P D z_cl (x_c0 h0 o) U.heap ∧ va_K D z_cl [(cI, .int), (cZ, .boolean), (cJ, .long)] U ∧ ∀ q ∈ z_nest, va_Nw (.methodLinkNest q.1 q.2.1 q.2.2.1 q.2.2.2) U
def x_KT (l : Launch) (y : MethodName) (b : ByteArray) (o : Nat) (ids : List Nat) (fr lo nc ns : Nat) : Prop := ∀ (D : va_G) (cI cZ cJ : ClassId) (h0 sz : Nat), Met l y (Jvm.Cond.code y b 1 none :: z_T) { frames := fr, cells := nc, slots := ns, locals := lo } (va_Pc [.ref h0] (x_B cI cZ cJ D h0 sz o)) (x_Q cI cZ cJ D h0 sz o ids) nc ns (va_A (x_c0 h0 o) sz)
theorem x_B_blind {cI cZ cJ : ClassId} {D : va_G} {h0 sz o : Nat} : FrameBlind (va_Pc [.ref h0] (x_B cI cZ cJ D h0 sz o)) := by
  intro a U g mk h
  obtain ⟨h1, h2, h3, h4, h5⟩ := h
  exact ⟨h1, h2, h3, va_K.moved (u := U) (U := U.calling g mk a) (Vm.Alike.refl U.vm) h4, fun q hq => va_Nw.same (u := U) (U := U.calling g mk a) rfl rfl (h5 q hq)⟩
theorem x_nd : ∀ l : List Nat, l.Nodup → va_nd l = true
  | [], _ => rfl
  | a :: l, h => by
    have h1 := List.nodup_cons.mp h
    show (decide (a ∉ l) && va_nd l) = true
    rw [decide_eq_true h1.1, x_nd l h1.2]
    rfl
theorem x_app1 {α : Type} (ws : List α) (x : α) : [ws.length].map (fun i => (ws ++ [x])[i]?) = [x].map some := by simp
theorem x_app2 {α : Type} (ws : List α) (x : α) : (List.range ws.length).map (fun i => (ws ++ [x])[i]?) = ws.map some := by
  apply List.ext_getElem?
  intro j
  rw [List.getElem?_map, List.getElem?_map]
  by_cases h : j < ws.length
  · rw [List.getElem?_range h]
    show some ((ws ++ [x])[j]?) = _
    rw [List.getElem?_append_left h, List.getElem?_eq_getElem h]
    rfl
  · rw [List.getElem?_eq_none (by rw [List.length_range]; omega), List.getElem?_eq_none (by omega)]
    rfl
section XC
variable {p : Program} {l : Launch} {e : Env} {R : Room} {s : State} {m : MethodId} {args : Array Value} {below : List Frame} {meth : Method} {c : Code} {H : Heap} {locs : List Loc} {cells slots : Nat} {Q : State → Prop} {cc : ByteArray} {nL : Nat} {own : String} {D : va_G} {cI cZ cJ : ClassId} {A : Nat → Prop} {pc : Nat} {ls : Array Slot}
/-- new C(), on any stack -/
theorem x_make (F : CallFix p m c cc nL s args z_T own) {ws : va_W} {t idx1 N nc ns : Nat} {idst : List Nat} {C : String} {T : u_T} {rest : List Value}
    (hK : va_K D z_cl [(cI, .int), (cZ, .boolean), (cJ, .long)] s) (hNest : ∀ q ∈ z_nest, va_Nw (.methodLinkNest q.1 q.2.1 q.2.2.1 q.2.2.2) s) (hP : va_P D z_cl ws H) (hD : va_D A ws) (hS : va_S A s.heap H locs) (hA : ∀ q, s.heap.size ≤ q → A q)
    (hc : z_cl[z_n t]? = some (C, T, N)) (ty : Nat → FieldType) (hty : ∀ k, k < N → parseFieldDescriptor (T k).2.2.1 = some (ty k)) (hcl : Jvm.Cond.classLink own idx1 C ∈ z_T) (hinst : Jvm.Cond.instantiable C N ∈ z_T) (hini : Jvm.Cond.initialized C ∈ z_T) (hfs : ∀ j, j < N → defaultValue (ty j) = vp_V (x_fs (fun _ => 0) [] t) j)
    (d1 : decode cc pc = .ok (.new idx1, 3)) (d2 : decode cc (pc + 3) = .ok (.dup, 1))
    (hrun : ∀ (q : Nat) (H : Heap) (locs : List Loc) (cells slots : Nat), PreS s H (va_Pc [.ref q] (x_B cI cZ cJ D q H.size t)) [.ref q] → cells + nc ≤ R.cells ∧ slots + ns ≤ R.slots → va_Run p l e R s m args below meth c H locs cells slots nc ns (F0 m (pc + 3 + 1) ls (.ref q :: .ref q :: rest)) (.ref q :: rest) (x_Q cI cZ cJ D q H.size t idst (Value.ref q :: []).toArray) (va_A (x_c0 q t) H.size))
    (hcells : cells + 1 + nc ≤ R.cells) (hslots : slots + N + ns ≤ R.slots)
    (kk : ∀ (q : Nat) (ad : Nat → Nat) (H1 : Heap) (locs1 : List Loc), ad t = q → va_P D z_cl (ws ++ x_L cI cZ cJ ad idst) H1 → va_D A (ws ++ x_L cI cZ cJ ad idst) → va_S A s.heap H1 locs1 → W p l e R s m args below meth c H1 locs1 (cells + 1 + nc) (slots + N + ns) Q (F0 m (pc + 3 + 1 + 3) ls (.ref q :: rest))) : W p l e R s m args below meth c H locs cells slots Q (F0 m pc ls rest) := by
  obtain ⟨hx, hbb, hml, hown, hts⟩ := id F
  obtain ⟨hin, -, -⟩ := z_cl_ok (z_n t) _ hc
  refine va_new (ci := z_n t) (fs := x_fs (fun _ => 0) [] t) (C := C) (T := T) (N := N) hx hbb hts hin ty hty hown (hts _ hcl) (hts _ hinst) (hts _ hini) hK hP hD hS hA hc hfs (by omega) (by omega) d1 (fun q H1 hP1 hD1 hS1 => ?_)
  refine lv_dup hx hbb d2 rfl ?_
  have hPc : va_P D z_cl (x_c0 q t) H1 := fun k r hr => hP1 (ws.length + k) r (by rw [List.getElem?_append_right (by omega), Nat.add_sub_cancel_left]; exact hr)
  have hFc : ∀ r, va_A (x_c0 q t) H1.size r → A r := va_free (wc := x_c0 q t) hD1 hS1 hA [ws.length] (x_app1 ws _)
  refine va_callv (hrun q H1 locs (cells + 1) (slots + N) ⟨x_B_blind, fun U hU hW => ⟨rfl, by rw [hU], by rw [hU]; exact hPc, va_K.moved hW.alike hK, fun q hq => va_Nw.warmM hW (hNest q hq)⟩⟩ ⟨hcells, hslots⟩) hS1 (fun r _ h => hFc r h) hFc (fun ad tt H2 locs2 ht hvm h5 hB hz1 hk1 hS2 => ?_)
  obtain ⟨hP2, hD2⟩ := hB
  rw [ht] at hP2
  obtain ⟨hP3, hD3⟩ := va_join (wc := x_c0 q t) (wr := ws) (w1 := x_L cI cZ cJ ad idst) hP1 hD1 [ws.length] (List.range ws.length) (x_app1 ws _) (x_app2 ws _) (x_nd _ List.nodup_range) (fun i hi => by
    have := List.mem_range.mp hi
    simp only [List.mem_cons, List.not_mem_nil, or_false]
    omega) hk1 hFc hP2 hD2
  exact kk q ad H2 locs2 h5 hP3 hD3 hS2
/-- how a nest mate's constructor is called -/
theorem x_runN (F : CallFix p m c cc nL s args z_T own) {t idx nc ns fr lo : Nat} {ids : List Nat} {y : MethodName} {b : ByteArray} {host : String} {rest : List Value} (ct : x_KT l y b t ids fr lo nc ns) (hNest : ∀ q ∈ z_nest, va_Nw (.methodLinkNest q.1 q.2.1 q.2.2.1 q.2.2.2) s) (hn : (own, idx, y, host) ∈ z_nest) (hcode : Jvm.Cond.code y b 1 none ∈ z_T) (hini : Jvm.Cond.initialized y.cls ∈ z_T) (hne : y.cls ≠ "java/lang/invoke/MethodHandle" ∧ y.cls ≠ "java/lang/invoke/VarHandle") (hds : y.desc = "()V") (hnm : y.name = "<init>") (him : Jvm.Cond.instanceMethod y ∈ z_T)
    (hfr : fr + 1 ≤ R.frames) (hlo : 20 + lo ≤ R.locals) (hsz : ls.size = nL) (hrest : (rest.map fun v => v.category).sum ≤ 7) (d3 : decode cc (pc + 3 + 1) = .ok (.invokespecial idx, 3)) :
    ∀ (q : Nat) (H : Heap) (locs : List Loc) (cells slots : Nat), PreS s H (va_Pc [.ref q] (x_B cI cZ cJ D q H.size t)) [.ref q] → cells + nc ≤ R.cells ∧ slots + ns ≤ R.slots → va_Run p l e R s m args below meth c H locs cells slots nc ns (F0 m (pc + 3 + 1) ls (.ref q :: .ref q :: rest)) (.ref q :: rest) (x_Q cI cZ cJ D q H.size t ids (Value.ref q :: []).toArray) (va_A (x_c0 q t) H.size) := by
  intro q H locs cells slots hp hf
  obtain ⟨hx, hbb, hml, hown, hts⟩ := id F
  refine va_runIN (As := []) (rest := .ref q :: rest) F (ct D cI cZ cJ q H.size) ⟨⟨⟨rfl, rfl, hfr, (by show 8 + (1 + 11) + lo ≤ R.locals; omega), fun w hw a' U hW => ?_, List.mem_cons_self⟩, hts _ hcode, hts _ hini, hne, fun sig h => ?_, va_Nw.use rfl (hNest _ hn)⟩, hnm, hts _ him⟩ hp rfl rfl hsz rfl (lv_room ?_) d3 hf
  · have hw' : w ∈ z_T := by
      rcases List.mem_cons.mp hw with rfl | h
      · exact hcode
      · exact h
    exact word_at hW (z_T_good hw') (hts w hw')
  · rw [hds] at h
    have : (parseMethodDescriptor "()V").map (fun d => d.parameters.length) = some 0 := by decide +kernel
    rw [h] at this
    exact (Option.some.inj this).symm
  · show 1 + (rest.map fun v => v.category).sum ≤ 8
    omega
theorem x_runS (F : CallFix p m c cc nL s args z_T own) {t idx nc ns fr lo : Nat} {ids : List Nat} {y : MethodName} {b : ByteArray} {rest : List Value} (ct : x_KT l y b t ids fr lo nc ns) (hn : Jvm.Cond.methodLink own idx y ∈ z_T) (hcode : Jvm.Cond.code y b 1 none ∈ z_T) (hini : Jvm.Cond.initialized y.cls ∈ z_T) (hne : y.cls ≠ "java/lang/invoke/MethodHandle" ∧ y.cls ≠ "java/lang/invoke/VarHandle") (hds : y.desc = "()V") (hnm : y.name = "<init>") (him : Jvm.Cond.instanceMethod y ∈ z_T)
    (hfr : fr + 1 ≤ R.frames) (hlo : 20 + lo ≤ R.locals) (hsz : ls.size = nL) (hrest : (rest.map fun v => v.category).sum ≤ 7) (d3 : decode cc (pc + 3 + 1) = .ok (.invokespecial idx, 3)) :
    ∀ (q : Nat) (H : Heap) (locs : List Loc) (cells slots : Nat), PreS s H (va_Pc [.ref q] (x_B cI cZ cJ D q H.size t)) [.ref q] → cells + nc ≤ R.cells ∧ slots + ns ≤ R.slots → va_Run p l e R s m args below meth c H locs cells slots nc ns (F0 m (pc + 3 + 1) ls (.ref q :: .ref q :: rest)) (.ref q :: rest) (x_Q cI cZ cJ D q H.size t ids (Value.ref q :: []).toArray) (va_A (x_c0 q t) H.size) := by
  intro q H locs cells slots hp hf
  obtain ⟨hx, hbb, hml, hown, hts⟩ := id F
  refine va_runI (As := []) (rest := .ref q :: rest) (n := 0) F (ct D cI cZ cJ q H.size) ⟨⟨rfl, rfl, hfr, (by show 8 + (1 + 11) + lo ≤ R.locals; omega), fun w hw a' U hW => ?_, List.mem_cons_self, hts _ hcode, hts _ hini, hne, fun sig h => ?_, hts _ hn⟩, hnm, hts _ him⟩ hp rfl rfl hsz rfl (lv_room ?_) d3 hf
  · have hw' : w ∈ z_T := by
      rcases List.mem_cons.mp hw with rfl | h
      · exact hcode
      · exact h
    exact word_at hW (z_T_good hw') (hts w hw')
  · rw [hds] at h
    have : (parseMethodDescriptor "()V").map (fun d => d.parameters.length) = some 0 := by decide +kernel
    rw [h] at this
    exact (Option.some.inj this).symm
  · show 1 + (rest.map fun v => v.category).sum ≤ 8
    omega
end XC
