/-! THE CLAIM OUT OF ONE WALK OF THE LAW'S BODY. Your part is whole_start (and what it stands on); all else here is the same for every law, but numbers. -/
def R_law : String := "SonglinebenchLaw"
def lw_P (b : Addr) (xs : List Int32) (args : Array Value) (s : State) : Prop := args = #[.ref b] ∧ s.IntsAt b xs ∧ xs.length ≤ 3072 ∧ (Jvm.Cond.and given_1 narrow_1).before args s = true
def lw_Q (_ : Array Value) (s : State) (o : Outcome) (t : State) : Prop := o = .returned (some (.int 1)) ∧ Framed s o t [] 1197 11348
def lw_Z (below : List Frame) (a : Array Value) (s : State) : State → Prop := fun t => ∃ o, t.status = .running ∧ Ended t below o ∧ lw_Q a s o t
/-- the law's own end, with 1 on the stack, nothing written that was there before, its room as the claim has it -/
theorem lw_ret {p : Program} {l : Launch} {e : Env} {s : State} {m : MethodId} {below : List Frame} {meth : Method} {c : Code} {b : Nat} (hx : p.tables.exec = Jvm.exec) (hb : c.code = code) (hr : meth.sig.returnType = ret) (hlocks : meth.locks = false) {pc : Nat} {H : Heap} {ls : Array Slot} (hdg : decode code pc = .ok (.ireturn, 1)) : W p l e room_1 s m #[Value.ref b] below meth c H [] 1197 11348 (lw_Z below #[Value.ref b] s) (F0 m pc ls [.int 1]) := by
  intro T hT X
  obtain ⟨fs, hret, hrun, hended, hW, hframe⟩ := X.leave (v := some (.int 1)) (hlocks := hlocks) (fun h => by rw [hr] at h; cases h)
  have hmeth' : T.vm.method? m = some meth := X.method'
  refine ⟨T.setFrames fs, ?_, .returned (some (.int 1)), hrun, hended, rfl, ⟨_, rfl⟩, hW, hframe⟩
  jvm_step X.here [X.here.top, hx, hb, hdg, hmeth', hr, ret, narrow_b1]
  (try refine ⟨rfl, ?_⟩); (try refine ⟨rfl, ?_⟩)
  first | (intro acts; rw [hret _ acts rfl rfl rfl]) | rw [hret _ _ rfl rfl rfl]
  exact Steps.refl _
/-- what holds at the law's entry: the machine, the code, the tables' words (any of lw_tbl by 'hts w (by decide +kernel)'), the script of L ints xs at the cell b, what the Statement gives of the start (any of its parts by flat_of_before) -/
def lw_At (p : Program) (s : State) (m : MethodId) (meth : Method) (c : Code) (b L : Nat) (xs : Nat → Int32) : Prop :=
  p.tables.exec = Jvm.exec ∧ c.code = code ∧ meth.sig.returnType = ret ∧ c.maxLocals = 8 ∧ s.vm.findClass R_law = some m.cls ∧ (∀ w ∈ lw_tbl, w.before #[Value.ref b] s = true) ∧ va_X b L xs s s.heap ∧ b < s.heap.size ∧ meth.locks = false ∧ (Jvm.Cond.and given_1 narrow_1).before #[Value.ref b] s = true
theorem dY_0 : decode cL_law 0 = .ok (.new 8, 3) := by decide +kernel
theorem dY_3 : decode cL_law 3 = .ok (.dup, 1) := by decide +kernel
theorem dY_4 : decode cL_law 4 = .ok (.invokespecial 139, 3) := by decide +kernel
theorem dY_7 : decode cL_law 7 = .ok (.astore_n 1, 1) := by decide +kernel
theorem dY_8 : decode cL_law 8 = .ok (.new 140, 3) := by decide +kernel
theorem dY_11 : decode cL_law 11 = .ok (.dup, 1) := by decide +kernel
theorem dY_12 : decode cL_law 12 = .ok (.invokespecial 142, 3) := by decide +kernel
theorem dY_15 : decode cL_law 15 = .ok (.astore_n 2, 1) := by decide +kernel
theorem dY_16 : decode cL_law 16 = .ok (.iconst 1, 1) := by decide +kernel
theorem dY_17 : decode cL_law 17 = .ok (.newarray .long, 2) := by decide +kernel
theorem dY_19 : decode cL_law 19 = .ok (.astore_n 3, 1) := by decide +kernel
theorem dY_20 : decode cL_law 20 = .ok (.iconst 0, 1) := by decide +kernel
theorem dY_21 : decode cL_law 21 = .ok (.istore 4, 2) := by decide +kernel
theorem y_flags {l : Launch} (h : l.flags = flags0) : l.stackTraces = false := by
  unfold Launch.stackTraces
  rw [h]
  decide
-- ===== YOUR PART BEGINS =====
set_option maxRecDepth 20000 in
set_option maxHeartbeats 8000000 in
/-- YOUR PART: from the entry, for every script of at most 3072 ints, the law comes to its end with true ('hflags': the launch's flags, for a law that throws: no stack traces) -/
theorem whole_start {p : Program} {e : Env} {s : State} {m : MethodId} {below : List Frame} {meth : Method} {c : Code} (l : Launch) (hflags : l.flags = flags0) {b L : Nat} {xs : Nat → Int32} (hL : L ≤ 3072) (C0 : lw_At p s m meth c b L xs) : W p l e room_1 s m #[Value.ref b] below meth c s.heap [] 0 0 (lw_Z below #[Value.ref b] s) (entryFrame m ([Value.ref b] : List Value).toArray 8) := by
  obtain ⟨hx, hcode, hr, hml, hown, hts, hX, hbl, hlocks, hg⟩ := C0
  have h9 : l.stackTraces = false := y_flags hflags
  obtain ⟨D, cI, cZ, cJ, aw, haw, hE0⟩ := y_env hts hg
  have htz : ∀ w ∈ z_T, w.before #[Value.ref b] s = true := fun w hw => hts w (List.mem_filter.mp hw).1
  have F : CallFix p m c cL_law 8 s #[Value.ref b] z_T "SonglinebenchLaw" := ⟨hx, hcode, hml, hown, htz⟩
  obtain ⟨hK, hNest, -⟩ := hE0 (fun _ => aw) rfl
  have hA : ∀ q : Nat, s.heap.size ≤ q → (fun q => s.heap.size ≤ q) q := fun _ h => h
  have hP : va_P D z_cl [] s.heap := fun k q h => by simp at h
  have hD : va_D (fun q => s.heap.size ≤ q) [] := ⟨fun i j p q h => by simp at h, fun k q h => by simp at h⟩
  have hS : va_S (fun q => s.heap.size ≤ q) s.heap s.heap [] := va_S.rf
  have hl := lv_entry ([.ref b]) (n := 8) (Nat.le_of_ble_eq_true rfl)
  rw [lg_entry_eq]
  generalize (lg_sl ([.ref b]) ++ List.replicate (8 - (lg_sl ([.ref b])).length) Slot.unset).toArray = ls at hl ⊢
  have hl : lv_has ls 8 [(0, .ref b)] := hl
  refine x_make (ws := []) (t := 2096) (idx1 := 8) (N := 9) (nc := 52) (ns := 1355) (idst := xi_6) (C := RX6) (T := TX6) (rest := []) F hK hNest hP hD hS hA rfl tyX6 tyX6_ok (z_mT 68 (by decide +kernel) rfl) (z_mT 69 (by decide +kernel) rfl) (z_mT 53 (by decide +kernel) rfl) (by decide +kernel) dY_0 dY_3 (x_runS (idx := 139) (fr := 2) (lo := 32) F (kt_6 l) (z_mT 70 (by decide +kernel) rfl) (z_mT 72 (by decide +kernel) rfl) (z_mT 53 (by decide +kernel) rfl) (by decide) rfl rfl (z_mT 71 (by decide +kernel) rfl) (Nat.le_of_ble_eq_true rfl) (Nat.le_of_ble_eq_true rfl) hl.1 (Nat.le_of_ble_eq_true rfl) dY_4) (Nat.le_of_ble_eq_true rfl) (Nat.le_of_ble_eq_true rfl) (fun q6 ad6 H6 locs6 hq6 hP hD hS => ?_)
  refine lv_astore_n hx hcode dY_7 rfl hl (Nat.le_of_ble_eq_true rfl) rfl (fun ls hl => ?_)
  have hl : lv_has ls 8 [(1, .ref q6), (0, .ref b)] := hl
  refine x_make (ws := [] ++ x_L cI cZ cJ ad6 xi_6) (t := 110648) (idx1 := 140) (N := 55) (nc := 46) (ns := 1304) (idst := xi_7) (C := RX7) (T := TX7) (rest := []) F hK hNest hP hD hS hA rfl tyX7 tyX7_ok (z_mT 1020 (by decide +kernel) rfl) (z_mT 1021 (by decide +kernel) rfl) (z_mT 60 (by decide +kernel) rfl) (by decide +kernel) dY_8 dY_11 (x_runS (idx := 142) (fr := 1) (lo := 12) F (kt_7 l) (z_mT 1022 (by decide +kernel) rfl) (z_mT 1024 (by decide +kernel) rfl) (z_mT 60 (by decide +kernel) rfl) (by decide) rfl rfl (z_mT 1023 (by decide +kernel) rfl) (Nat.le_of_ble_eq_true rfl) (Nat.le_of_ble_eq_true rfl) hl.1 (Nat.le_of_ble_eq_true rfl) dY_12) (Nat.le_of_ble_eq_true rfl) (Nat.le_of_ble_eq_true rfl) (fun q7 ad7 H7 locs7 hq7 hP hD hS => ?_)
  refine lv_astore_n hx hcode dY_15 rfl hl (Nat.le_of_ble_eq_true rfl) rfl (fun ls hl => ?_)
  have hl : lv_has ls 8 [(2, .ref q7), (1, .ref q6), (0, .ref b)] := hl
  refine lv_iconst (v := 1) hx hcode dY_16 (by decide) ?_
  refine va_newa (atype := .long) (cl := z_cl) (ty := .long) (N' := 1) (n := 1) (a0 := (1, .inr (.inl (x_0L 206859)))) hx hcode (htz _ xa_long) rfl hK hP hD hS hA (fun _ => rfl) (by decide) (by decide) (by decide) (Nat.le_of_ble_eq_true rfl) (Nat.le_of_ble_eq_true rfl) dY_17 (fun q3 cA H3 hK3 hP hD hS => ?_)
  have hcA : cA = cJ := x_find (j := 2) (fun _ h => by cases h) hK3 rfl
  subst hcA
  refine lv_astore_n hx hcode dY_19 rfl hl (Nat.le_of_ble_eq_true rfl) rfl (fun ls hl => ?_)
  have hl : lv_has ls 8 [(3, .ref q3), (2, .ref q7), (1, .ref q6), (0, .ref b)] := hl
  refine lv_iconst (v := 0) hx hcode dY_20 (by decide) ?_
  refine lv_istore hx hcode dY_21 hl (Nat.le_of_ble_eq_true rfl) rfl (fun ls hl => ?_)
  have hl : lv_has ls 8 [(4, .int 0), (3, .ref q3), (2, .ref q7), (1, .ref q6), (0, .ref b)] := hl
  have hw := y_world (cI := cI) (cZ := cZ) (cJ := cA) (ad6 := ad6) (ad7 := ad7) (q3 := q3) (b := b) (aw := aw)
  rw [List.nil_append] at hP hD
  rw [hw] at hP hD
  obtain ⟨hP, hinj, hAd⟩ := y_join hP hD
  have C : y_C p s m meth c b D cI cZ cA (y_ad ad6 ad7 q3 b aw) L xs := ⟨F, hinj, hAd, hA, hE0 _ y_adW, hlocks, fun L' f' h => by
    cases h
    rw [y_adS]
    exact ⟨hX, hbl, Nat.not_le.mpr hbl⟩⟩
  have hrule := y_rule (l := l) (e := e) (below := below) (Q := lw_Z below #[Value.ref b] s) C (fun k pc H locs ls hk hd hf => va_forget hf (W.widen (k := 1197) (n := 11348) (by omega) (by omega) (lw_ret hx hcode hr hlocks hd)))
  have hloop := l_loop (N := 512) hrule (fun k _ => y_keep k) (y_CW h9 C) (Inv := i_I) (fun S P h => i_J h) i_FF (fun _ _ _ => rfl) (by omega) 512 0 0 (fun _ _ => 0) (fun _ _ => 0) (by omega) (by omega) (by omega) i_start
  refine hloop H3 locs7 ls hP hS ⟨hl.1, hl.2.1, fun q hq => ?_⟩ (by decide +kernel) rfl
  have e6 : y_ad ad6 ad7 q3 b aw 2096 = q6 := (y_ad6 (by decide +kernel)).trans hq6
  have e7 : y_ad ad6 ad7 q3 b aw 110648 = q7 := (y_ad7 (by decide +kernel)).trans hq7
  have hq : q ∈ [(0, Value.ref (y_ad ad6 ad7 q3 b aw z_SC)), (1, .ref (y_ad ad6 ad7 q3 b aw 2096)), (2, .ref (y_ad ad6 ad7 q3 b aw 110648)), (3, .ref (y_ad ad6 ad7 q3 b aw 206859)), (4, .int (nI 0))] := hq
  rw [y_adS, y_ad3, e6, e7] at hq
  refine hl.2.2 q ?_
  simp only [List.mem_cons, List.not_mem_nil, or_false] at hq ⊢
  rcases hq with h | h | h | h | h
  · exact Or.inr (Or.inr (Or.inr (Or.inr h)))
  · exact Or.inr (Or.inr (Or.inr (Or.inl h)))
  · exact Or.inr (Or.inr (Or.inl h))
  · exact Or.inr (Or.inl h)
  · exact Or.inl h
-- ===== YOUR PART ENDS =====
set_option maxHeartbeats 4000000 in
theorem lw_walk (l : Launch) (hflags : l.flags = flags0) (b : Addr) (xs : List Int32) : MetFree l x (headSpec (Jvm.Cond.code x code maxLocals ret :: tables_1) room_1) (lw_P b xs) (fun _ _ _ _ _ => True) lw_Q := by
  refine MetFree.of_bodyS (code := code) (maxLocals := maxLocals) (ret := ret) (by decide) ?_ ?_
  · intro args s m h hn
    obtain ⟨meth, c, h1, h2, h3, h4, h5, h6, -, -⟩ := Cond.code_spec hn (atoms_spec (ws := Jvm.Cond.code x code maxLocals ret :: tables_1) h _ List.mem_cons_self)
    exact ⟨meth, c, h1, h2, h3, h4, h5, h6⟩
  · intro p e s m args below meth c s₁ B hml0 hP _
    obtain ⟨rfl, hx, hbd, hgv⟩ := hP
    obtain ⟨scr, harrAt, hlist, hof, hsmall⟩ := hx
    obtain ⟨hcb, hkn, -, -⟩ := State.arrayAt?_spec harrAt
    have hown : s.vm.findClass R_law = some m.cls := findClass_of_methodNamed B.named
    have hts0 : ∀ c ∈ (Jvm.Cond.code x code maxLocals ret :: tables_1), c.before #[Value.ref b] s = true := atoms_spec (ws := Jvm.Cond.code x code maxLocals ret :: tables_1) B.pre
    have hts : ∀ w ∈ lw_tbl, w.before #[Value.ref b] s = true := k2_hts_sels lw_privs (fun w hw => hts0 w (List.mem_cons_of_mem _ hw)) lw_privs_ok
    have hml : c.maxLocals = 8 := B.maxLocals_eq (hts0 _ List.mem_cons_self)
    have X₀ : Stand p l e room_1 s m #[Value.ref b] below meth c s₁ [] 0 0 := Stand.of_body B
    have hh0 : s₁.heap = s.heap := by rw [B.state]; rfl
    have hsz : scr.slots.size = xs.length := by rw [← Array.length_toList, hlist, List.length_map]
    have hval : ∀ j : Nat, j < xs.length → scr.slots[j]? = some (.int (xs.getD j 0)) := fun j hj => by
      rw [← Array.getElem?_toList, hlist]
      simp [hj]
    have hbl : b < s.heap.size := (Array.getElem?_eq_some_iff.mp hcb).1
    have hX : va_X b xs.length (fun j => xs.getD j 0) s s.heap := ⟨scr, hcb, hof, hkn, hsz, hval⟩
    have K : W p l e room_1 s m #[Value.ref b] below meth c s₁.heap [] 0 0 (lw_Z below #[Value.ref b] s) (entryFrame m ([Value.ref b] : List Value).toArray 8) := by
      rw [hh0]
      exact whole_start l hflags hbd ⟨B.exec, B.bytes, B.returns, hml, hown, hts, hX, hbl, B.notSynchronized, hgv⟩
    obtain ⟨t, a1, o, b1, b2, b3⟩ := K s₁ rfl X₀
    exact ⟨t, o, a1, b1, b2, b3⟩
theorem lw_pre_spec {args : Array Value} {s : State} (h : (Jvm.Cond.and given_1 narrow_1).before args s = true) (hr : rest_1_c.before args s = true) : ∃ (b : Addr) (xs : List Int32), lw_P b xs args s := by
  have hs := flat_of_before _ h
  have hq := flat_of_before _ hr
  have hc : (Cond.count 1).before args s = true := hs _ (by decide +kernel)
  have harr : (Cond.arrayOf (.arg 0) .int).before args s = true := hs _ (by decide +kernel)
  have hle : (Cond.le (.length (.arg 0)) (.int 3072)).before args s = true := hs _ (by decide +kernel)
  have hlen : (Cond.isInt (.length (.arg 0))).before args s = true := hq _ (by decide +kernel)
  have hall : (Cond.all (.arg 0) (.isInt (.elem (.arg 0) (.index 0)))).before args s = true := hq _ (by decide +kernel)
  obtain ⟨b, xs, hb, hx⟩ := State.ints_of_pre rfl harr hlen hall
  have hsm : xs.length < 2 ^ 31 := hx.choose_spec.2.2.2
  have hev : (Term.length (.arg 0)).eval args s none [] s = some (.int xs.length.toInt32) := hx.length_eval hb
  have hv := Cond.le_ints hev (show (Term.int 3072).eval args s none [] s = some (.int 3072) from rfl)
  have hd : xs.length.toInt32 ≤ 3072 := by
    simpa [Cond.before, Cond.holds, hv] using hle
  have hN : xs.length ≤ 3072 := (Int32.ofNat_le_ofNat hsm (by decide)).mp (show Int32.ofNat xs.length ≤ Int32.ofNat 3072 from hd)
  exact ⟨b, xs, Cond.one_arg hc (show args[0]? = some (.ref b) from hb), hx, hN, h⟩
theorem lw_comes (l : Launch) (hflags : l.flags = flags0) : Comes l x (Jvm.Cond.code x code maxLocals ret :: tables_1) room_1 (fun tb e args s => Calls_1 tb e args s ∧ rest_1 tb e args s ∧ Pre_1 tb e args s)
    (fun _ _ args s o t => lw_Q args s o t) := by
  intro p e ha hc hk s m args below hf hfit hheap happ hpre
  obtain ⟨b, xs, hP⟩ := lw_pre_spec hpre.2.2 hpre.2.1
  obtain ⟨k, o, h1, h2, h3, hQ⟩ := lw_walk l hflags b xs p e ha hc hk s m args below hf ((Spec.applies_iff_loose hf).mp happ).1 hP trivial
  exact ⟨k, o, h1, h2, h3, hQ⟩
theorem lw_frame {s t : State} {o : Outcome} {args : Array Value} (h : Framed s o t [] 1197 11348) :
    Framed s o t (fieldLocs frame_1_writes args s ++ arrayLocs frame_1_arrays args s ++ staticLocs frame_1_statics s) 1197 11348 := h
theorem lw_limb (L : Cond) (hL : ∀ (args : Array Value) (s t : State), L.after args s (.returned (some (.int 1))) t = true) :
    ArmFor flags0 classFile x code maxLocals ret World_1 tables_1 room_1 Calls_1 rest_1 Pre_1
      (fun tb e a s o t => postC L tb e a s o t ∧ Framed s o t (fieldLocs frame_1_writes a s ++ arrayLocs frame_1_arrays a s ++ staticLocs frame_1_statics s) 1197 11348) := by
  intro l hflags _ _ p e ha hc hk s m args below hf hfit hheap happ hpre
  obtain ⟨k, o, h1, h2, h3, rfl, hF⟩ := lw_comes l hflags p e ha hc hk s m args below hf hfit hheap happ hpre
  exact ⟨k, _, h1, h2, h3, hL args s _, lw_frame hF⟩
theorem i_vc : Claimed_1_1 ∧ Claimed_1_2 := ⟨lw_limb limb_1_1 (fun args s t => by simp [limb_1_1, Cond.after, Cond.holds, Cond.value]), lw_limb limb_1_2 (fun args s t => Cond.after_iff.mpr (by
  first | (rw [show limb_1_2 = Cond.eq .result (.int 1) from rfl, Cond.eq_ints (x := 1) (y := 1) rfl rfl]; simp; done) | (simp [limb_1_2, Cond.value, Term.eval]; done)))⟩
