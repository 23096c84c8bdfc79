
def z_keep (ks : List Nat) (lv : z_LV) : z_LV := ks.filterMap (fun k => (z_get lv k).map (fun v => (k, v)))
theorem z_keep_mem {ks : List Nat} {lv : z_LV} {q : Nat × Value} (h : q ∈ z_keep ks lv) : q ∈ lv := by
  obtain ⟨k, -, hk⟩ := List.mem_filterMap.mp h
  simp only [Option.map_eq_some_iff] at hk
  obtain ⟨v, hv, rfl⟩ := hk
  exact z_get_mem lv k v hv
theorem z_V_keep {p : Program} {l : Launch} {e : Env} {R : Room} {s : State} {m : MethodId} {args : Array Value} {below : List Frame} {meth : Method} {c : Code} {cells slots : Nat} {Q : State → Prop} {nL : Nat} {D : va_G} {cI cZ cJ : ClassId} {ad : Nat → Nat} {A : Nat → Prop} {ks : List Nat} {pc : Nat} {lv : z_LV} {st : List Value} {S : z_MI} {P : z_ML} (h : z_V p l e R s m args below meth c cells slots Q nL D cI cZ cJ ad A pc (z_keep ks lv) st S P) : z_V p l e R s m args below meth c cells slots Q nL D cI cZ cJ ad A pc lv st S P := by
  intro H locs ls hP hS hl hrl hrs
  refine h H locs ls hP hS ⟨hl.1, hl.2.1, fun q hq => hl.2.2 q ?_⟩ (List.all_eq_true.mpr fun q hq => List.all_eq_true.mp hrl q (z_keep_mem hq)) hrs
  obtain ⟨q0, h0, rfl⟩ := List.mem_map.mp hq
  exact List.mem_map.mpr ⟨q0, z_keep_mem h0, rfl⟩
theorem z_lvargs (ad : Nat → Nat) : ∀ (vs : List Value) (i : Nat), lv_args i (z_ts ad vs) = z_tl ad (lv_args i vs)
  | [], i => rfl
  | v :: vs, i => by
    show (i, z_tv ad v) :: lv_args (if (z_tv ad v).category = 2 then i + 2 else i + 1) (z_ts ad vs) = _
    rw [z_cat_tv, z_lvargs ad vs]
    rfl
theorem z_sllen (ad : Nat → Nat) : ∀ vs : List Value, (lg_sl (z_ts ad vs)).length = z_cs vs
  | [] => rfl
  | v :: vs => by
    have h := z_sllen ad vs
    have e : lg_sl (z_ts ad (v :: vs)) = (if (z_tv ad v).category = 2 then [.val (z_tv ad v), .second] else [.val (z_tv ad v)]) ++ lg_sl (z_ts ad vs) := rfl
    rw [e, List.length_append, h, z_cat_tv]
    show _ = (match z_is2 v with
      | true => z_cs vs + 2
      | false => z_cs vs + 1)
    cases v <;> exact Nat.add_comm _ _
theorem z_rlargs : ∀ (vs : List Value) (i : Nat), z_rs vs = true → z_rl (lv_args i vs) = true
  | [], i, h => rfl
  | v :: vs, i, h => by
    have h1 := z_rs_cons.mp h
    show (z_rv v && z_rl (lv_args _ vs)) = true
    rw [h1.1, z_rlargs vs _ h1.2]
    rfl
set_option maxHeartbeats 2000000 in
/-- a contract out of a walk of the pure machine -/
theorem z_CT_of {l : Launch} {y : MethodName} {b : ByteArray} {maxL : Nat} {ret : Option FieldType} {sp : z_SP} {d : Nat} (G : z_G) (hpl : plainName y.cls = true) (hco : z_cok b maxL G = true) (hpo : z_pok y.cls G = true) (hrt : z_rt G = ret) (hth : z_th G = [])
    (hlen : ∀ as S P Po, sp as S P Po → z_cs as ≤ maxL) (hcalls : ∀ q ∈ z_cm G, z_CO l d y.cls q.1 q.2.1 q.2.2)
    (body : ∀ (as : List Value) (S : z_MI) (P : z_ML) (Po : z_PO), sp as S P Po → ∀ V : z_KT, (∀ (cuts : List Nat) (n pc : Nat) (lv : z_LV) (st : List Value) (S : z_MI) (P : z_ML), z_wp G Po (fun _ _ _ => False) none cuts V n pc lv st S P → V pc lv st S P) → (∀ (ks : List Nat) (pc : Nat) (lv : z_LV) (st : List Value) (S : z_MI) (P : z_ML), V pc (z_keep ks lv) st S P → V pc lv st S P) → V 0 (lv_args 0 as) [] S P) : z_CT l y b maxL ret sp d := by
  intro D cI cZ cJ ad sz as S P Po hinj hras hsp
  refine Met.ofW (cc := b) (maxL := maxL) (ret := ret) hpl rfl ?_
  intro p e s m args below meth c s₁ B hml hv
  obtain ⟨rfl, hsz, hP, hE⟩ := hv
  subst hsz
  have hts0 := atoms_spec (ws := Jvm.Cond.code y b maxL ret :: z_T) B.pre
  have hown : s.vm.findClass y.cls = some m.cls := findClass_of_methodNamed B.named
  have hr := B.returns
  have hlk := B.notSynchronized
  have hC : z_C p s m (z_ts ad as).toArray meth c b maxL y.cls D cI cZ cJ ad (z_AA ad s.heap.size) none :=
    ⟨⟨B.exec, B.bytes, hml, hown, fun w hw => hts0 w (List.mem_cons_of_mem _ hw)⟩, hinj, fun a ha => Or.inl ⟨a, ha, rfl⟩, fun q hq => Or.inr hq, hE, hlk, fun L f h => by cases h⟩
  have hq0 : ∀ (v : Option Value) (S : z_MI) (P : z_ML) (H : Heap) (locs : List Loc), (∀ a, v ≠ some (.ref a)) → Po v S P → va_P D z_cl (z_w cI cZ cJ ad S P) H → va_S (z_AA ad s.heap.size) s.heap H locs → ∀ t : State, t.heap = H → s.WarmedH t.vm → z_Q D cI cZ cJ ad s.heap.size Po (z_ts ad as).toArray s (.returned v) t :=
    fun v S P H locs hn hp hP hS t ht _ => ⟨⟨v, S, P, rfl, hn, hp, by rw [ht]; exact hP⟩, hS.F ht⟩
  have hH : z_H p l e (headSpec (Jvm.Cond.code y b maxL ret :: z_T) (z_rm d)).room s m (z_ts ad as).toArray below meth c 0 0 (MQ below (z_Q D cI cZ cJ ad s.heap.size Po) (z_ts ad as).toArray s 0 0 (z_AA ad s.heap.size)) maxL D cI cZ cJ ad (z_AA ad s.heap.size) b G Po (fun _ _ _ => False) := by
    refine ⟨?_, ?_, ?_, ?_, ?_⟩
    · intro pc H locs ls v S P hd hv hp hP hS
      rcases hv with hv | ⟨hv, hn⟩
      · exact W.iret B.exec B.bytes (by rw [hr, ← hrt, hv]) (hq0 _ S P H locs (fun a h => by cases h) hp hP hS) hS.2.2 hd
      · exact W.zret B.exec B.bytes (ty := .boolean) (by rw [hr, ← hrt, hv]) hn (hq0 _ S P H locs (fun a h => by cases h) hp hP hS) hS.2.2 hd
    · intro pc H locs ls v S P hd hv hp hP hS
      exact W.lret B.exec B.bytes (by rw [hr, ← hrt, hv]) (hq0 _ S P H locs (fun a h => by cases h) hp hP hS) hS.2.2 hd
    · intro pc H locs ls S P hd hv hp hP hS
      exact W.vret B.exec B.bytes (by rw [hr, ← hrt, hv]) (hq0 _ S P H locs (fun a h => by cases h) hp hP hS) hS.2.2 hd
    · intro pc E lv S P hf
      rw [hth] at hf
      cases hf
    · intro pc i j n sp' as' r lv S P k hd hf hn hrr hsp' hK
      exact hcalls _ (z_fnd_mem _ _ _ hf) p e _ s m _ below meth c 0 0 _ b maxL D cI cZ cJ ad _ none pc j as' r lv S P k hC (Nat.le_refl _) (Nat.le_refl _) (Nat.zero_le _) (Nat.zero_le _) hd hn hrr hsp' hK
  have hb := body as S P Po hsp _ (fun cuts n pc lv st S P h => z_sound (cuts := cuts) hC hH hco hpo (fun _ _ _ _ _ h => h) n pc lv st S P h) (fun _ _ _ _ _ _ h => z_V_keep h)
  have hl := lv_entry (z_ts ad as) (n := maxL) (by rw [z_sllen]; exact hlen _ _ _ _ hsp)
  rw [lg_entry_eq]
  generalize (lg_sl (z_ts ad as) ++ List.replicate (maxL - (lg_sl (z_ts ad as)).length) Slot.unset).toArray = ls at hl ⊢
  rw [z_lvargs] at hl
  exact hb s.heap [] ls hP va_S.rf hl (z_rlargs as 0 hras) rfl
/-! methods that may throw -/
def z_rmX (d : Nat) : Room := { frames := d, cells := 1, slots := 6, locals := 28 * d }
abbrev z_SX : Type := List Value → z_MI → z_ML → z_PO → z_PX → Prop
def z_XC (D : va_G) (cI cZ cJ : ClassId) (ad : Nat → Nat) (sz : Nat) (Px : z_PX) : String → State → State → Prop := fun E st t => ((∃ (S : z_MI) (P : z_ML), Px E S P ∧ va_P D z_cl (z_w cI cZ cJ ad S P) t.heap) ∧ va_F (z_AA ad sz) st t) ∧ sz < t.heap.size
def z_CX (l : Launch) (y : MethodName) (b : ByteArray) (maxL : Nat) (ret : Option FieldType) (sx : z_SX) (d : Nat) : Prop :=
  ∀ (D : va_G) (cI cZ cJ : ClassId) (ad : Nat → Nat) (sz : Nat) (as : List Value) (S : z_MI) (P : z_ML) (Po : z_PO) (Px : z_PX), z_inj ad → z_rs as = true → sx as S P Po Px → vx_Met l y (Jvm.Cond.code y b maxL ret :: z_T) (z_rmX d) (va_Pc (z_ts ad as) (z_Pr D cI cZ cJ ad sz S P)) (z_Q D cI cZ cJ ad sz Po) (z_XC D cI cZ cJ ad sz Px) 1 6 (z_AA ad sz)
/-- a place where a text is thrown: pc, the name, new's index, ldc's, the constructor's, the text, ldc_w or ldc -/
abbrev z_ST : Type := Nat × String × Nat × Nat × Nat × String × Bool
def z_nms : List String := ["java/lang/RuntimeException", "java/lang/Exception"]
def z_wok (w : Jvm.Cond) : Bool := decide (w ∈ z_T) || (match w with
  | .castable a b => decide (a = b) && decide (a ∈ z_cas)
  | .declares x => decide (x ∈ z_dec)
  | _ => false)
def z_exs : List (String × Nat × Nat) := [("java/lang/IndexOutOfBoundsException", 86, 90), ("java/lang/IllegalArgumentException", 63, 67), ("java/lang/IllegalStateException", 73, 77)]
theorem z_exs_ok : ∀ q ∈ z_exs, (Bundle.fit q.1 && decide (Jvm.Cond.classLink "Songlinebench" q.2.1 q.1 ∈ z_T) && decide (Jvm.Cond.initialized q.1 ∈ z_T) && (vx_atS "Songlinebench" q.2.2 q.1 z_nms).all (fun w => z_wok w && vx_ot w)) = true := by decide +kernel
def z_sik (own : String) (cc : ByteArray) (q : z_ST) : Bool :=
  decide (own = "Songlinebench") && decide ((q.2.1, q.2.2.1, q.2.2.2.2.1) ∈ z_exs) && decide ((own, q.2.2.2.1, q.2.2.2.2.2.1) ∈ z_strs) &&
  decide (decode cc q.1 = .ok (.new q.2.2.1, 3)) && decide (decode cc (q.1 + 3) = .ok (.dup, 1)) &&
  (match q.2.2.2.2.2.2 with
    | false => decide (decode cc (q.1 + 4) = .ok (.ldc q.2.2.2.1, 2)) && decide (decode cc (q.1 + 6) = .ok (.invokespecial q.2.2.2.2.1, 3)) && decide (decode cc (q.1 + 9) = .ok (.athrow, 1))
    | true => decide (decode cc (q.1 + 4) = .ok (.ldc_w q.2.2.2.1, 3)) && decide (decode cc (q.1 + 7) = .ok (.invokespecial q.2.2.2.2.1, 3)) && decide (decode cc (q.1 + 10) = .ok (.athrow, 1)))
theorem z_wok_of {w : Jvm.Cond} {args : Array Value} {s : State} {D : va_G} {cI cZ cJ : ClassId} {ad : Nat → Nat} {A : Nat → Prop} (hts : ∀ w ∈ z_T, w.before args s = true) (hE : z_E D cI cZ cJ ad A s) (h : z_wok w = true) : w.before args s = true := by
  unfold z_wok at h
  rw [Bool.or_eq_true] at h
  rcases h with h | h
  · exact hts w (by simpa using h)
  · split at h
    · rename_i a b
      simp only [Bool.and_eq_true, decide_eq_true_eq] at h
      obtain ⟨rfl, h⟩ := h
      exact va_Nw.use rfl (hE.2.2.2.2.2.2.2.2.1 _ h)
    · rename_i x
      exact va_Nw.use rfl (hE.2.2.2.2.2.2.2.2.2 _ (by simpa using h))
    · cases h
theorem z_sot (own : String) (ik : Nat) (E : String) : vx_ot (.classLink own ik E) = true ∧ vx_ot (.initialized E) = true := ⟨rfl, rfl⟩
set_option maxHeartbeats 2000000 in
theorem z_throw {p : Program} {l : Launch} {e : Env} {R : Room} {s : State} {m : MethodId} {args : Array Value} {below : List Frame} {meth : Method} {c : Code} {cc : ByteArray} {nL : Nat} {own : String} {D : va_G} {cI cZ cJ : ClassId} {ad : Nat → Nat} {sc : Option (Nat × (Nat → Int32))} {q : z_ST} {lv : z_LV} {S : z_MI} {P : z_ML} {Po : z_PO} {Px : z_PX} (hl9 : l.stackTraces = false) (C : z_C p s m args meth c cc nL own D cI cZ cJ ad (z_AA ad s.heap.size) sc) (hex : ∀ x ∈ c.exceptionTable.toList, False) (hk : z_sik own cc q = true) (hf : 6 ≤ R.frames) (hlo : 82 ≤ R.locals) (hcl : 1 ≤ R.cells) (hsl : 6 ≤ R.slots) (h : Px q.2.1 S P) :
    z_V p l e R s m args below meth c 0 0 (vx_MQ below (z_Q D cI cZ cJ ad s.heap.size Po) (z_XC D cI cZ cJ ad s.heap.size Px) args s 1 6 (z_AA ad s.heap.size)) nL D cI cZ cJ ad (z_AA ad s.heap.size) q.1 lv [] S P := by
  obtain ⟨pc, E, ik, is, ic, tx, wd⟩ := q
  obtain ⟨⟨hx, hb, hml, hown, hts⟩, hinj, hAd, hA, hE, hlk, hsc⟩ := C
  simp only [z_sik, Bool.and_eq_true, decide_eq_true_eq] at hk
  obtain ⟨⟨⟨⟨⟨k0, k1⟩, k4⟩, k6⟩, k7⟩, k8⟩ := hk
  subst k0
  have hex9 := z_exs_ok _ k1
  simp only [Bool.and_eq_true, decide_eq_true_eq, List.all_eq_true] at hex9
  obtain ⟨⟨⟨k1, k2⟩, k3⟩, k5⟩ := hex9
  intro H locs ls hP hS hl hrl hrs
  obtain ⟨sa, hsa⟩ := hE.2.2.1 _ k4
  have hgood : ∀ w ∈ Jvm.Cond.classLink "Songlinebench" ik E :: Jvm.Cond.initialized E :: vx_atS "Songlinebench" ic E z_nms, vx_ot w = true := by
    intro w hw
    rcases List.mem_cons.mp hw with rfl | hw
    · rfl
    · rcases List.mem_cons.mp hw with rfl | hw
      · rfl
      · exact (k5 w hw).2
  have hXC : ∀ t : State, s.vm.Alike t.vm → H.size < t.heap.size → (∀ q : Nat, q < H.size → t.heap[q]? = H[q]?) → z_XC D cI cZ cJ ad s.heap.size Px E s t :=
    fun t _ h1 h2 => ⟨⟨⟨S, P, h, hP.kept (fun k q hk => h2 q.1 ((hP k q hk).lt))⟩, Nat.le_trans hS.1 (Nat.le_of_lt h1), fun q hq hn => (h2 q (Nat.lt_of_lt_of_le hq hS.1)).trans (hS.2.1 q hq hn)⟩, Nat.lt_of_le_of_lt hS.1 h1⟩
  cases wd with
  | false =>
    simp only [Bool.and_eq_true, decide_eq_true_eq] at k8
    exact vx_throwS hx hb hl9 hown k1 (by decide) (hts _ k2) (hts _ k3) hsa (fun w hw => z_wok_of hts hE (k5 w hw).1) hgood hE.2.2.2.1 hE.2.2.2.2.1 hS (hl.1.trans hml.symm) k6 k7 k8.1.1 k8.1.2 k8.2 (fun x hx => (hex x hx).elim) (show 2 + 3 < R.frames by omega) (show 0 + (13 * (2 + 1) + 43) ≤ R.locals by omega) (by omega) (by omega) hlk hXC hS.2.2 (by omega) (by omega)
  | true =>
    simp only [Bool.and_eq_true, decide_eq_true_eq] at k8
    exact vx_throwSW hx hb hl9 hown k1 (by decide) (hts _ k2) (hts _ k3) hsa (fun w hw => z_wok_of hts hE (k5 w hw).1) hgood hE.2.2.2.1 hE.2.2.2.2.1 hS (hl.1.trans hml.symm) k6 k7 k8.1.1 k8.1.2 k8.2 (fun x hx => (hex x hx).elim) (show 2 + 3 < R.frames by omega) (show 0 + (13 * (2 + 1) + 43) ≤ R.locals by omega) (by omega) (by omega) hlk hXC hS.2.2 (by omega) (by omega)
theorem z_st_fnd : ∀ (ss : List z_ST) (pc : Nat) (E : String), z_fnd (ss.map (fun q => (q.1, q.2.1))) pc = some E → ∃ q ∈ ss, q.1 = pc ∧ q.2.1 = E := by
  intro ss pc E h
  obtain ⟨q, hq, he⟩ := List.mem_map.mp (z_fnd_mem _ _ _ h)
  exact ⟨q, hq, congrArg Prod.fst he, congrArg Prod.snd he⟩
set_option maxHeartbeats 2000000 in
theorem z_CX_of {l : Launch} {y : MethodName} {b : ByteArray} {maxL : Nat} {ret : Option FieldType} {sx : z_SX} {d : Nat} (G : z_G) (ss : List z_ST) (hl9 : l.stackTraces = false) (hd6 : 6 ≤ d) (hpl : plainName y.cls = true) (hco : z_cok b maxL G = true) (hpo : z_pok y.cls G = true) (hrt : z_rt G = ret) (hth : z_th G = ss.map (fun q => (q.1, q.2.1))) (hss : ss.all (z_sik y.cls b) = true)
    (hlen : ∀ as S P Po Px, sx as S P Po Px → z_cs as ≤ maxL) (hcalls : ∀ q ∈ z_cm G, z_CO l d y.cls q.1 q.2.1 q.2.2)
    (body : ∀ (as : List Value) (S : z_MI) (P : z_ML) (Po : z_PO) (Px : z_PX), sx as S P Po Px → ∀ V : z_KT, (∀ (cuts : List Nat) (n pc : Nat) (lv : z_LV) (st : List Value) (S : z_MI) (P : z_ML), z_wp G Po Px none cuts V n pc lv st S P → V pc lv st S P) → (∀ (ks : List Nat) (pc : Nat) (lv : z_LV) (st : List Value) (S : z_MI) (P : z_ML), V pc (z_keep ks lv) st S P → V pc lv st S P) → V 0 (lv_args 0 as) [] S P) : z_CX l y b maxL ret sx d := by
  intro D cI cZ cJ ad sz as S P Po Px hinj hras hsp
  refine vx_ofW (cc := b) (maxL := maxL) (ret := ret) hpl rfl ?_
  intro p e s m args below meth c s₁ B hml hex hv
  obtain ⟨rfl, hsz, hP, hE⟩ := hv
  subst hsz
  have hts0 := atoms_spec (ws := Jvm.Cond.code y b maxL ret :: z_T) B.pre
  have hown : s.vm.findClass y.cls = some m.cls := findClass_of_methodNamed B.named
  have hr := B.returns
  have hlk := B.notSynchronized
  have hC : z_C p s m (z_ts ad as).toArray meth c b maxL y.cls D cI cZ cJ ad (z_AA ad s.heap.size) none :=
    ⟨⟨B.exec, B.bytes, hml, hown, fun w hw => hts0 w (List.mem_cons_of_mem _ hw)⟩, hinj, fun a ha => Or.inl ⟨a, ha, rfl⟩, fun q hq => Or.inr hq, hE, hlk, fun L f h => by cases h⟩
  have hq0 : ∀ (v : Option Value) (S : z_MI) (P : z_ML) (H : Heap) (locs : List Loc), (∀ a, v ≠ some (.ref a)) → Po v S P → va_P D z_cl (z_w cI cZ cJ ad S P) H → va_S (z_AA ad s.heap.size) s.heap H locs → ∀ t : State, t.heap = H → s.WarmedH t.vm → z_Q D cI cZ cJ ad s.heap.size Po (z_ts ad as).toArray s (.returned v) t :=
    fun v S P H locs hn hp hP hS t ht _ => ⟨⟨v, S, P, rfl, hn, hp, by rw [ht]; exact hP⟩, hS.F ht⟩
  have hH : z_H p l e (headSpec (Jvm.Cond.code y b maxL ret :: z_T) (z_rmX d)).room s m (z_ts ad as).toArray below meth c 0 0 (vx_MQ below (z_Q D cI cZ cJ ad s.heap.size Po) (z_XC D cI cZ cJ ad s.heap.size Px) (z_ts ad as).toArray s 1 6 (z_AA ad s.heap.size)) maxL D cI cZ cJ ad (z_AA ad s.heap.size) b G Po Px := by
    refine ⟨?_, ?_, ?_, ?_, ?_⟩
    · intro pc H locs ls v S P hd hv hp hP hS
      rcases hv with hv | ⟨hv, hn⟩
      · exact vx_ret (W.widen (k := 1) (n := 6) (by omega) (by omega) (W.iret B.exec B.bytes (by rw [hr, ← hrt, hv]) (hq0 _ S P H locs (fun a h => by cases h) hp hP hS) hS.2.2 hd))
      · exact vx_ret (W.widen (k := 1) (n := 6) (by omega) (by omega) (W.zret B.exec B.bytes (ty := .boolean) (by rw [hr, ← hrt, hv]) hn (hq0 _ S P H locs (fun a h => by cases h) hp hP hS) hS.2.2 hd))
    · intro pc H locs ls v S P hd hv hp hP hS
      exact vx_ret (W.widen (k := 1) (n := 6) (by omega) (by omega) (W.lret B.exec B.bytes (by rw [hr, ← hrt, hv]) (hq0 _ S P H locs (fun a h => by cases h) hp hP hS) hS.2.2 hd))
    · intro pc H locs ls S P hd hv hp hP hS
      exact vx_ret (W.widen (k := 1) (n := 6) (by omega) (by omega) (W.vret B.exec B.bytes (by rw [hr, ← hrt, hv]) (hq0 _ S P H locs (fun a h => by cases h) hp hP hS) hS.2.2 hd))
    · intro pc E lv S P hf hp
      rw [hth] at hf
      obtain ⟨q, hq, rfl, rfl⟩ := z_st_fnd _ _ _ hf
      exact z_throw hl9 hC hex (List.all_eq_true.mp hss q hq) hd6 (show 82 ≤ 28 * d by omega) (Nat.le_refl _) (Nat.le_refl _) hp
    · intro pc i j n sp' as' r lv S P k hd hf hn hrr hsp' hK
      exact hcalls _ (z_fnd_mem _ _ _ hf) p e _ s m _ below meth c 0 0 _ b maxL D cI cZ cJ ad _ none pc j as' r lv S P k hC (Nat.le_refl _) (Nat.le_refl _) (Nat.zero_le _) (Nat.zero_le _) hd hn hrr hsp' hK
  have hb := body as S P Po Px hsp _ (fun cuts n pc lv st S P h => z_sound (cuts := cuts) hC hH hco hpo (fun _ _ _ _ _ h => h) n pc lv st S P h) (fun _ _ _ _ _ _ h => z_V_keep h)
  have hl := lv_entry (z_ts ad as) (n := maxL) (by rw [z_sllen]; exact hlen _ _ _ _ _ hsp)
  rw [lg_entry_eq]
  generalize (lg_sl (z_ts ad as) ++ List.replicate (maxL - (lg_sl (z_ts ad as)).length) Slot.unset).toArray = ls at hl ⊢
  rw [z_lvargs] at hl
  exact hb s.heap [] ls hP va_S.rf hl (z_rlargs as 0 hras) rfl

