
def z_rm (d : Nat) : Room := { frames := d, cells := 0, slots := 0, locals := 28 * d }
def z_AA (ad : Nat → Nat) (sz : Nat) : Nat → Prop := fun q => (∃ a ∈ z_ids, q = ad a) ∨ sz ≤ q
def z_Pr (D : va_G) (cI cZ cJ : ClassId) (ad : Nat → Nat) (sz : Nat) (S : z_MI) (P : z_ML) (U : State) : Prop := U.heap.size = sz ∧ va_P D z_cl (z_w cI cZ cJ ad S P) U.heap ∧ z_E D cI cZ cJ ad (z_AA ad sz) U
def z_Q (D : va_G) (cI cZ cJ : ClassId) (ad : Nat → Nat) (sz : Nat) (Po : z_PO) : Array Value → State → Outcome → State → Prop := fun _ st oc t => (∃ (v : Option Value) (S : z_MI) (P : z_ML), oc = .returned v ∧ (∀ a, v ≠ some (.ref a)) ∧ Po v S P ∧ va_P D z_cl (z_w cI cZ cJ ad S P) t.heap) ∧ va_F (z_AA ad sz) st t
/-- a method's contract: what it owes is said by sp -/
def z_CT (l : Launch) (y : MethodName) (b : ByteArray) (maxL : Nat) (ret : Option FieldType) (sp : z_SP) (d : Nat) : Prop :=
  ∀ (D : va_G) (cI cZ cJ : ClassId) (ad : Nat → Nat) (sz : Nat) (as : List Value) (S : z_MI) (P : z_ML) (Po : z_PO), z_inj ad → z_rs as = true → sp as S P Po → Met l y (Jvm.Cond.code y b maxL ret :: z_T) (z_rm d) (va_Pc (z_ts ad as) (z_Pr D cI cZ cJ ad sz S P)) (z_Q D cI cZ cJ ad sz Po) 0 0 (z_AA ad sz)
def z_rc (o : Nat) (sp : z_SP) : z_SP := fun as S P k => match as with
  | .ref a :: as' => match Nat.beq a o with
    | true => sp as' S P k
    | false => False
  | _ => False
/-- a call that a method of room d may do -/
def z_CO (l : Launch) (d : Nat) (own : String) (i n : Nat) (sp : z_SP) : Prop :=
  ∀ (p : Program) (e : Env) (R : Room) (s : State) (m : MethodId) (args : Array Value) (below : List Frame) (meth : Method) (c : Code) (cells slots : Nat) (Q : State → Prop) (cc : ByteArray) (nL : Nat) (D : va_G) (cI cZ cJ : ClassId) (ad : Nat → Nat) (A : Nat → Prop) (sc : Option (Nat × (Nat → Int32))) (pc j : Nat) (as r : List Value) (lv : z_LV) (S : z_MI) (P : z_ML) (k : z_PO),
  z_C p s m args meth c cc nL own D cI cZ cJ ad A sc → d ≤ R.frames → 28 * d ≤ R.locals → cells ≤ R.cells → slots ≤ R.slots → (decode cc pc = .ok (.invokevirtual j, 3) ∧ i = j ∧ j < 100000 ∨ decode cc pc = .ok (.invokestatic j, 3) ∧ i = j + 100000) → as.length = n → z_cs r ≤ 8 → sp as S P k →
  (∀ v S' P', (∀ a, v ≠ some (.ref a)) → k v S' P' → z_V p l e R s m args below meth c cells slots Q nL D cI cZ cJ ad A (pc + 3) lv (v.toList ++ r) S' P') → z_V p l e R s m args below meth c cells slots Q nL D cI cZ cJ ad A pc lv (as.reverse ++ r) S P
theorem z_ts_app (ad : Nat → Nat) (a b : List Value) : z_ts ad (a ++ b) = z_ts ad a ++ z_ts ad b := by simp [z_ts]
theorem z_ts_rev (ad : Nat → Nat) (a : List Value) : z_ts ad a.reverse = (z_ts ad a).reverse := by simp [z_ts]
theorem z_ts_nr {ad : Nat → Nat} {v : Option Value} (h : ∀ a, v ≠ some (.ref a)) : z_ts ad v.toList = v.toList := by
  cases v with
  | none => rfl
  | some x => cases x <;> first | rfl | exact absurd rfl (h _)
theorem z_rs_nr {v : Option Value} (h : ∀ a, v ≠ some (.ref a)) : z_rs v.toList = true := by
  cases v with
  | none => rfl
  | some x => cases x <;> first | rfl | exact absurd rfl (h _)
theorem z_rs_app {a b : List Value} : z_rs (a ++ b) = true ↔ z_rs a = true ∧ z_rs b = true := by simp [z_rs]
theorem z_cs_sum (ad : Nat → Nat) : ∀ r : List Value, ((z_ts ad r).map fun v => v.category).sum = z_cs r
  | [] => rfl
  | v :: r => by
    have h := z_cs_sum ad r
    show (z_tv ad v).category + ((z_ts ad r).map fun v => v.category).sum = _
    rw [h, z_cat_tv]
    show _ = (match z_is2 v with
      | true => z_cs r + 2
      | false => z_cs r + 1)
    cases v <;> exact Nat.add_comm _ _
theorem z_Pr_blind {D : va_G} {cI cZ cJ : ClassId} {ad : Nat → Nat} {sz : Nat} {S : z_MI} {P : z_ML} {av : List Value} : FrameBlind (va_Pc av (z_Pr D cI cZ cJ ad sz S P)) := by
  intro a U g mk h
  obtain ⟨h1, h2, h3, h4⟩ := h
  exact ⟨h1, h2, h3, z_E.same (u := U) rfl rfl h4⟩
theorem z_Pr_call {D : va_G} {cI cZ cJ : ClassId} {ad : Nat → Nat} {S : z_MI} {P : z_ML} {A : Nat → Prop} {s U : State} {H : Heap} {locs : List Loc} {av : List Value} (hAd : ∀ a ∈ z_ids, A (ad a)) (hA : ∀ q, s.heap.size ≤ q → A q) (hE : z_E D cI cZ cJ ad A s) (hP : va_P D z_cl (z_w cI cZ cJ ad S P) H) (hS : va_S A s.heap H locs) (hU : U.heap = H) (hW : s.WarmedH U.vm) : va_Pc av (z_Pr D cI cZ cJ ad H.size S P) av.toArray U := by
  refine ⟨rfl, by rw [hU], by rw [hU]; exact hP, z_E.warm hW (fun q h1 h2 => by rw [hU]; exact hS.2.1 q h1 h2) (fun q hq => ?_) hE⟩
  rcases hq with ⟨a, ha, rfl⟩ | hq
  · exact hAd a ha
  · exact hA q (Nat.le_trans hS.1 hq)
section ZCA
variable {p : Program} {l : Launch} {e : Env} {R : Room} {s : State} {m : MethodId} {args : Array Value} {below : List Frame} {meth : Method} {c : Code} {cells slots : Nat} {Q : State → Prop} {cc : ByteArray} {nL : Nat} {own : String} {D : va_G} {cI cZ cJ : ClassId} {ad : Nat → Nat} {A : Nat → Prop} {sc : Option (Nat × (Nat → Int32))}
variable {pc i n d : Nat} {lv : z_LV} {as r : List Value} {S : z_MI} {P : z_ML} {k : z_PO}
/-- behind a call -/
theorem z_back {H : Heap} {locs : List Loc} {ls : Array Slot} {a : Array Value} (C : z_C p s m args meth c cc nL own D cI cZ cJ ad A sc) (hS : va_S A s.heap H locs) (hl : lv_has ls nL (z_tl ad lv)) (hrl : z_rl lv = true) (hrs : z_rs r = true)
    (hr : va_Run p l e R s m args below meth c H locs cells slots 0 0 (F0 m pc ls (z_ts ad (as.reverse ++ r))) (z_ts ad r) (z_Q D cI cZ cJ ad H.size k a) (z_AA ad H.size))
    (hK : ∀ v S' P', (∀ a, v ≠ some (.ref a)) → k v S' P' → z_V p l e R s m args below meth c cells slots Q nL D cI cZ cJ ad A (pc + 3) lv (v.toList ++ r) S' P') : W p l e R s m args below meth c H locs cells slots Q (F0 m pc ls (z_ts ad (as.reverse ++ r))) := by
  obtain ⟨-, hinj, hAd, hA, hE, hlk, hsc⟩ := C
  have hAA : ∀ q, z_AA ad H.size q → A q := fun q hq => by
    rcases hq with ⟨a, ha, rfl⟩ | hq
    · exact hAd a ha
    · exact hA q (Nat.le_trans hS.1 hq)
  intro T hT X
  obtain ⟨v, st₀, t, T', L, h0, X', hL, e1, e2, ⟨⟨v', S', P', hv, hnr, hk, hP1⟩, hz, hkp⟩, st⟩ := hr T hT X
  cases hv
  rw [h0] at hz hkp
  obtain ⟨t2, a1, b1⟩ := hK v S' P' hnr hk T'.heap (locs ++ L) ls (by rw [e1]; exact hP1)
    ⟨Nat.le_trans hS.1 (by rw [e1]; exact hz), fun q h1 h2 => by rw [e1, hkp q (Nat.lt_of_lt_of_le h1 hS.1) (fun z => h2 (hAA q z))]; exact hS.2.1 q h1 h2, fun q hq => by
      rcases List.mem_append.mp hq with h | h
      · exact hS.2.2 q h
      · exact hAA _ (hL q h)⟩ hl hrl (z_rs_app.mpr ⟨z_rs_nr hnr, hrs⟩) T' rfl X'
  refine ⟨t2, st t2 ?_, b1⟩
  rw [z_ts_app, z_ts_nr hnr] at a1
  exact a1
end ZCA
def z_kB (y : MethodName) (b : ByteArray) (maxL : Nat) (ret : Option FieldType) (n : Nat) : Bool := decide (Jvm.Cond.initialized y.cls ∈ z_T) && decide (Jvm.Cond.code y b maxL ret ∈ z_T) && decide (y.cls ≠ "java/lang/invoke/MethodHandle" ∧ y.cls ≠ "java/lang/invoke/VarHandle") && decide ((parseMethodDescriptor y.desc).map (fun d => d.parameters.length) = some n)
def z_kV (own : String) (i : Nat) (y : MethodName) : Bool := decide (Jvm.Cond.methodLink own i y ∈ z_T) && decide (Jvm.Cond.instanceMethod y ∈ z_T) && decide (Jvm.Cond.selects y.cls y y ∈ z_T)
def z_kS (own : String) (i : Nat) (y : MethodName) : Bool := decide (Jvm.Cond.methodLink own i y ∈ z_T) && decide (Jvm.Cond.static y ∈ z_T)
def z_kN (own : String) (i : Nat) (y : MethodName) (host : String) : Bool := decide ((own, i, y, host) ∈ z_nest) && decide (Jvm.Cond.static y ∈ z_T)
def z_kO (o : Nat) (C : String) : Bool := z_ids.contains o && (o % 8 == 0) && (match z_cl[z_n o]? with
  | some q => decide (q.1 = C)
  | none => false)
theorem z_CallB {R : Room} {s : State} {args : Array Value} {y : MethodName} {b : ByteArray} {maxL : Nat} {ret : Option FieldType} {n d : Nat} (hts : ∀ w ∈ z_T, w.before args s = true) (hk : z_kB y b maxL ret n = true) (h1 : d + 1 ≤ R.frames) (h2 : 8 + (maxL + 11) + 28 * d ≤ R.locals) :
    ((z_rm d).cells = 0 ∧ (z_rm d).slots = 0 ∧ (z_rm d).frames + 1 ≤ R.frames ∧ 8 + (maxL + 11) + (z_rm d).locals ≤ R.locals ∧ (∀ w ∈ (Jvm.Cond.code y b maxL ret :: z_T), ∀ (a' : Array Value) (U : State), s.WarmedH U.vm → w.before a' U = true) ∧ Jvm.Cond.code y b maxL ret ∈ (Jvm.Cond.code y b maxL ret :: z_T)) ∧
    (Jvm.Cond.code y b maxL ret).before args s = true ∧ (Jvm.Cond.initialized y.cls).before args s = true ∧ (y.cls ≠ "java/lang/invoke/MethodHandle" ∧ y.cls ≠ "java/lang/invoke/VarHandle") ∧ (∀ sig, parseMethodDescriptor y.desc = some sig → n = sig.parameters.length) := by
  simp only [z_kB, Bool.and_eq_true, decide_eq_true_eq] at hk
  obtain ⟨⟨⟨k1, k2⟩, k3⟩, k4⟩ := hk
  refine ⟨⟨rfl, rfl, h1, h2, fun w hw a' U hW => ?_, List.mem_cons_self⟩, hts _ k2, hts _ k1, k3, fun sig h => ?_⟩
  · have hw' : w ∈ z_T := by
      rcases List.mem_cons.mp hw with rfl | h
      · exact k2
      · exact h
    exact word_at hW (z_T_good hw') (hts w hw')
  · rw [h] at k4
    exact (Option.some.inj k4).symm
theorem z_kO_of {o : Nat} {C : String} (h : z_kO o C = true) : o ∈ z_ids ∧ o % 8 = 0 ∧ ∃ q, z_cl[z_n o]? = some q ∧ q.1 = C := by
  simp only [z_kO, Bool.and_eq_true, List.contains_iff_mem, beq_iff_eq] at h
  obtain ⟨⟨h1, h2⟩, h3⟩ := h
  refine ⟨h1, h2, ?_⟩
  cases hq : z_cl[z_n o]? with
  | none => rw [hq] at h3; cases h3
  | some q => rw [hq] at h3; exact ⟨q, rfl, by simpa using h3⟩
theorem z_rc_of {o : Nat} {sp : z_SP} {as : List Value} {S : z_MI} {P : z_ML} {k : z_PO} (h : z_rc o sp as S P k) : ∃ as', as = .ref o :: as' ∧ sp as' S P k := by
  unfold z_rc at h
  split at h
  · split at h
    · rename_i a as' _ hb
      exact ⟨as', by rw [Nat.eq_of_beq_eq_true hb], h⟩
    · exact h.elim
  · exact h.elim
set_option maxHeartbeats 1000000 in
theorem z_coV {l : Launch} {d d' : Nat} {own : String} {i n o : Nat} {sp : z_SP} {y : MethodName} {b : ByteArray} {maxL : Nat} {ret : Option FieldType} (ct : z_CT l y b maxL ret (z_rc o sp) d') (hB : z_kB y b maxL ret n = true) (hV : z_kV own i y = true) (hO : z_kO o y.cls = true) (hd1 : d' + 1 ≤ d) (hd2 : 8 + (maxL + 11) + 28 * d' ≤ 28 * d) (hi : i < 100000) : z_CO l d own i (n + 1) (z_rc o sp) := by
  intro p e R s m args below meth c cells slots Q cc nL D cI cZ cJ ad A sc pc j as r lv S P k C hf hlo hcl hsl hd hn hr hsp hK H locs ls hP hS hl hrl hrs
  rcases hd with ⟨hd, hij, -⟩ | ⟨-, hij⟩
  · subst hij
    obtain ⟨as', rfl, hsp'⟩ := z_rc_of hsp
    obtain ⟨ho1, ho2, q, hq1, hq2⟩ := z_kO_of hO
    obtain ⟨⟨hx, hb, hml, hown, hts⟩, hinj, hAd, hA, hE, hlk, hsc⟩ := id C
    obtain ⟨hrs1, hrs2⟩ := z_rs_app.mp hrs
    have hras : z_rs (Value.ref o :: as') = true := by
      rw [z_rs, List.all_reverse] at hrs1
      exact hrs1
    obtain ⟨k0, hk0, -⟩ := z_w_at (cI := cI) (cZ := cZ) (cJ := cJ) (ad := ad) (S := S) (P := P) ho1
    rw [z_e0 ho2] at hk0
    simp only [z_kV, Bool.and_eq_true, decide_eq_true_eq] at hV
    obtain ⟨⟨v1, v2⟩, v3⟩ := hV
    obtain ⟨c1, c2, c3, c4, c5⟩ := z_CallB hts hB (R := R) (d := d') (by omega) (by omega)
    have hnl : (z_ts ad as').length = n := by simp only [z_ts, List.length_map]; simpa using hn
    have hcw : CallW R s args own y.cls i y b maxL ret (Jvm.Cond.code y b maxL ret :: z_T) (z_rm d') 0 0 n :=
      ⟨⟨c1.1, c1.2.1, c1.2.2.1, c1.2.2.2.1, c1.2.2.2.2.1, c1.2.2.2.2.2, c2, c3, c4, c5, hts _ v1⟩, hts _ v2, hts _ v3⟩
    have hpre : PreV s H y.cls (ad o) (va_Pc (z_ts ad (.ref o :: as')) (z_Pr D cI cZ cJ ad H.size S P)) (z_ts ad as') := by
      refine ⟨z_Pr_blind, ?_, fun U hU hW => z_Pr_call (av := z_ts ad (.ref o :: as')) hAd hA hE hP hS hU hW⟩
      have h9 := va_recv hE.1 hP hq1 hk0
      rw [hq2] at h9
      exact h9
    refine z_back (as := .ref o :: as') (a := (Value.ref (ad o) :: z_ts ad as').toArray) C hS hl hrl hrs2 ?_ hK
    have hstk : z_ts ad ((Value.ref o :: as').reverse ++ r) = (z_ts ad as').reverse ++ .ref (ad o) :: z_ts ad r := by
      simp [z_ts, z_tv]
    exact va_runV (g := F0 m pc ls (z_ts ad ((Value.ref o :: as').reverse ++ r))) (As := z_ts ad as') (rest := z_ts ad r) (nL := nL) ⟨hx, hb, hml, hown, hts⟩ (ct D cI cZ cJ ad H.size (.ref o :: as') S P k hinj hras hsp) hcw hpre rfl hnl hl.1 hstk (lv_room (by rw [z_cs_sum]; exact hr)) hd ⟨hcl, hsl⟩
  · omega
set_option maxHeartbeats 1000000 in
theorem z_coS {l : Launch} {d d' : Nat} {own : String} {i n : Nat} {sp : z_SP} {y : MethodName} {b : ByteArray} {maxL : Nat} {ret : Option FieldType} (ct : z_CT l y b maxL ret sp d') (hB : z_kB y b maxL ret n = true) (hV : z_kS own i y = true) (hd1 : d' + 1 ≤ d) (hd2 : 8 + (maxL + 11) + 28 * d' ≤ 28 * d) : z_CO l d own (i + 100000) n sp := by
  intro p e R s m args below meth c cells slots Q cc nL D cI cZ cJ ad A sc pc j as r lv S P k C hf hlo hcl hsl hd hn hr hsp hK H locs ls hP hS hl hrl hrs
  rcases hd with ⟨hd, hij, hj9⟩ | ⟨hd, hij⟩
  · omega
  · have hij : i = j := by omega
    subst hij
    obtain ⟨⟨hx, hb, hml, hown, hts⟩, hinj, hAd, hA, hE, hlk, hsc⟩ := id C
    obtain ⟨hrs1, hrs2⟩ := z_rs_app.mp hrs
    have hras : z_rs as = true := by
      rw [z_rs, List.all_reverse] at hrs1
      exact hrs1
    simp only [z_kS, Bool.and_eq_true, decide_eq_true_eq] at hV
    obtain ⟨v1, v2⟩ := hV
    obtain ⟨c1, c2, c3, c4, c5⟩ := z_CallB hts hB (R := R) (d := d') (by omega) (by omega)
    have hnl : (z_ts ad as).length = n := by simp only [z_ts, List.length_map]; exact hn
    have hpre : PreS s H (va_Pc (z_ts ad as) (z_Pr D cI cZ cJ ad H.size S P)) (z_ts ad as) :=
      ⟨z_Pr_blind, fun U hU hW => z_Pr_call (av := z_ts ad as) hAd hA hE hP hS hU hW⟩
    refine z_back (as := as) (a := (z_ts ad as).toArray) C hS hl hrl hrs2 ?_ hK
    have hstk : z_ts ad (as.reverse ++ r) = (z_ts ad as).reverse ++ z_ts ad r := by
      rw [z_ts_app, z_ts_rev]
    exact va_runS (g := F0 m pc ls (z_ts ad (as.reverse ++ r))) (As := z_ts ad as) (rest := z_ts ad r) (nL := nL) ⟨hx, hb, hml, hown, hts⟩ (ct D cI cZ cJ ad H.size as S P k hinj hras hsp) ⟨⟨c1.1, c1.2.1, c1.2.2.1, c1.2.2.2.1, c1.2.2.2.2.1, c1.2.2.2.2.2, c2, c3, c4, c5, hts _ v1⟩, hts _ v2⟩ hpre rfl hnl hl.1 hstk (lv_room (by rw [z_cs_sum]; exact hr)) hd ⟨hcl, hsl⟩
set_option maxHeartbeats 1000000 in
theorem z_coN {l : Launch} {d d' : Nat} {own host : String} {i n : Nat} {sp : z_SP} {y : MethodName} {b : ByteArray} {maxL : Nat} {ret : Option FieldType} (ct : z_CT l y b maxL ret sp d') (hB : z_kB y b maxL ret n = true) (hV : z_kN own i y host = true) (hd1 : d' + 1 ≤ d) (hd2 : 8 + (maxL + 11) + 28 * d' ≤ 28 * d) : z_CO l d own (i + 100000) n sp := by
  intro p e R s m args below meth c cells slots Q cc nL D cI cZ cJ ad A sc pc j as r lv S P k C hf hlo hcl hsl hd hn hr hsp hK H locs ls hP hS hl hrl hrs
  rcases hd with ⟨hd, hij, hj9⟩ | ⟨hd, hij⟩
  · omega
  · have hij : i = j := by omega
    subst hij
    obtain ⟨⟨hx, hb, hml, hown, hts⟩, hinj, hAd, hA, hE, hlk, hsc⟩ := id C
    obtain ⟨hrs1, hrs2⟩ := z_rs_app.mp hrs
    have hras : z_rs as = true := by
      rw [z_rs, List.all_reverse] at hrs1
      exact hrs1
    simp only [z_kN, Bool.and_eq_true, decide_eq_true_eq] at hV
    obtain ⟨v1, v2⟩ := hV
    obtain ⟨c1, c2, c3, c4, c5⟩ := z_CallB hts hB (R := R) (d := d') (by omega) (by omega)
    have hnl : (z_ts ad as).length = n := by simp only [z_ts, List.length_map]; exact hn
    have hpre : PreS s H (va_Pc (z_ts ad as) (z_Pr D cI cZ cJ ad H.size S P)) (z_ts ad as) :=
      ⟨z_Pr_blind, fun U hU hW => z_Pr_call (av := z_ts ad as) hAd hA hE hP hS hU hW⟩
    refine z_back (as := as) (a := (z_ts ad as).toArray) C hS hl hrl hrs2 ?_ hK
    have hstk : z_ts ad (as.reverse ++ r) = (z_ts ad as).reverse ++ z_ts ad r := by
      rw [z_ts_app, z_ts_rev]
    exact va_runSN (g := F0 m pc ls (z_ts ad (as.reverse ++ r))) (As := z_ts ad as) (rest := z_ts ad r) (nL := nL) (host := host) ⟨hx, hb, hml, hown, hts⟩ (ct D cI cZ cJ ad H.size as S P k hinj hras hsp) ⟨⟨c1, c2, c3, c4, c5, va_Nw.use rfl (hE.2.1 _ v1)⟩, hts _ v2, trivial⟩ hpre rfl hnl hl.1 hstk (lv_room (by rw [z_cs_sum]; exact hr)) hd ⟨hcl, hsl⟩

