section
/-- a private method of a class that the tables say can be made, by its rows of tables_1 -/
def lw_okq (q : MethodName × Nat) : Prop := (q.1.cls ≠ "java/lang/invoke/MethodHandle" ∧ q.1.cls ≠ "java/lang/invoke/VarHandle") ∧ Cond.instantiable q.1.cls q.2 ∈ tables_1 ∧ Cond.privateMethod q.1 ∈ tables_1 ∧ Cond.instanceMethod q.1 ∈ tables_1
theorem lw_p0 : lw_okq (⟨"java/lang/Throwable", "fillInStackTrace", "(I)Ljava/lang/Throwable;"⟩, 6) := ⟨⟨by decide +kernel, by decide +kernel⟩, List.mem_of_getElem? (i := 327) (by decide +kernel), List.mem_of_getElem? (i := 325) (by decide +kernel), List.mem_of_getElem? (i := 326) (by decide +kernel)⟩
theorem lw_p1 : lw_okq (⟨"Songlinebench$Kin", "withNext", "(II)I"⟩, 8) := ⟨⟨by decide +kernel, by decide +kernel⟩, List.mem_of_getElem? (i := 24) (by decide +kernel), List.mem_of_getElem? (i := 429) (by decide +kernel), List.mem_of_getElem? (i := 430) (by decide +kernel)⟩
theorem lw_p2 : lw_okq (⟨"Songlinebench$Kin", "isNext", "(III)Z"⟩, 8) := ⟨⟨by decide +kernel, by decide +kernel⟩, List.mem_of_getElem? (i := 24) (by decide +kernel), List.mem_of_getElem? (i := 433) (by decide +kernel), List.mem_of_getElem? (i := 434) (by decide +kernel)⟩
theorem lw_p3 : lw_okq (⟨"Songlinebench", "levelHeard", "(II)I"⟩, 9) := ⟨⟨by decide +kernel, by decide +kernel⟩, List.mem_of_getElem? (i := 16) (by decide +kernel), List.mem_of_getElem? (i := 523) (by decide +kernel), List.mem_of_getElem? (i := 524) (by decide +kernel)⟩
theorem lw_p4 : lw_okq (⟨"Songlinebench$Marks", "isGap", "(III)Z"⟩, 8) := ⟨⟨by decide +kernel, by decide +kernel⟩, List.mem_of_getElem? (i := 86) (by decide +kernel), List.mem_of_getElem? (i := 561) (by decide +kernel), List.mem_of_getElem? (i := 562) (by decide +kernel)⟩
theorem lw_p5 : lw_okq (⟨"Songlinebench$Marks", "isExplained", "(III)Z"⟩, 8) := ⟨⟨by decide +kernel, by decide +kernel⟩, List.mem_of_getElem? (i := 86) (by decide +kernel), List.mem_of_getElem? (i := 565) (by decide +kernel), List.mem_of_getElem? (i := 566) (by decide +kernel)⟩
theorem lw_p6 : lw_okq (⟨"Songlinebench$Acts", "takes", "(III)Z"⟩, 9) := ⟨⟨by decide +kernel, by decide +kernel⟩, List.mem_of_getElem? (i := 119) (by decide +kernel), List.mem_of_getElem? (i := 596) (by decide +kernel), List.mem_of_getElem? (i := 597) (by decide +kernel)⟩
theorem lw_p7 : lw_okq (⟨"Songlinebench$Acts", "counts", "(II)Z"⟩, 9) := ⟨⟨by decide +kernel, by decide +kernel⟩, List.mem_of_getElem? (i := 119) (by decide +kernel), List.mem_of_getElem? (i := 601) (by decide +kernel), List.mem_of_getElem? (i := 602) (by decide +kernel)⟩
theorem lw_p8 : lw_okq (⟨"Songlinebench", "firstFailed", "(I)I"⟩, 9) := ⟨⟨by decide +kernel, by decide +kernel⟩, List.mem_of_getElem? (i := 16) (by decide +kernel), List.mem_of_getElem? (i := 649) (by decide +kernel), List.mem_of_getElem? (i := 650) (by decide +kernel)⟩
theorem lw_p9 : lw_okq (⟨"Songlinebench", "isVotedFor", "(I)Z"⟩, 9) := ⟨⟨by decide +kernel, by decide +kernel⟩, List.mem_of_getElem? (i := 16) (by decide +kernel), List.mem_of_getElem? (i := 653) (by decide +kernel), List.mem_of_getElem? (i := 654) (by decide +kernel)⟩
theorem lw_p10 : lw_okq (⟨"Songlinebench", "provedOf", "(I)I"⟩, 9) := ⟨⟨by decide +kernel, by decide +kernel⟩, List.mem_of_getElem? (i := 16) (by decide +kernel), List.mem_of_getElem? (i := 657) (by decide +kernel), List.mem_of_getElem? (i := 658) (by decide +kernel)⟩
theorem lw_p11 : lw_okq (⟨"Songlinebench$Claims", "stands", "(I)Z"⟩, 9) := ⟨⟨by decide +kernel, by decide +kernel⟩, List.mem_of_getElem? (i := 160) (by decide +kernel), List.mem_of_getElem? (i := 688) (by decide +kernel), List.mem_of_getElem? (i := 689) (by decide +kernel)⟩
theorem lw_p12 : lw_okq (⟨"Songlinebench$Claims", "isHeld", "(II)Z"⟩, 9) := ⟨⟨by decide +kernel, by decide +kernel⟩, List.mem_of_getElem? (i := 160) (by decide +kernel), List.mem_of_getElem? (i := 701) (by decide +kernel), List.mem_of_getElem? (i := 702) (by decide +kernel)⟩
theorem lw_p13 : lw_okq (⟨"Songlinebench", "rightsOf", "(II)I"⟩, 9) := ⟨⟨by decide +kernel, by decide +kernel⟩, List.mem_of_getElem? (i := 16) (by decide +kernel), List.mem_of_getElem? (i := 711) (by decide +kernel), List.mem_of_getElem? (i := 712) (by decide +kernel)⟩
theorem lw_p14 : lw_okq (⟨"Songlinebench", "partiesOf", "(I)I"⟩, 9) := ⟨⟨by decide +kernel, by decide +kernel⟩, List.mem_of_getElem? (i := 16) (by decide +kernel), List.mem_of_getElem? (i := 733) (by decide +kernel), List.mem_of_getElem? (i := 734) (by decide +kernel)⟩
theorem lw_p15 : lw_okq (⟨"Songlinebench", "owedFor", "(I)J"⟩, 9) := ⟨⟨by decide +kernel, by decide +kernel⟩, List.mem_of_getElem? (i := 16) (by decide +kernel), List.mem_of_getElem? (i := 853) (by decide +kernel), List.mem_of_getElem? (i := 854) (by decide +kernel)⟩
def lw_privs_1 : List (MethodName × Nat) := [(⟨"java/lang/Throwable", "fillInStackTrace", "(I)Ljava/lang/Throwable;"⟩, 6), (⟨"Songlinebench$Kin", "withNext", "(II)I"⟩, 8), (⟨"Songlinebench$Kin", "isNext", "(III)Z"⟩, 8), (⟨"Songlinebench", "levelHeard", "(II)I"⟩, 9), (⟨"Songlinebench$Marks", "isGap", "(III)Z"⟩, 8), (⟨"Songlinebench$Marks", "isExplained", "(III)Z"⟩, 8), (⟨"Songlinebench$Acts", "takes", "(III)Z"⟩, 9), (⟨"Songlinebench$Acts", "counts", "(II)Z"⟩, 9), (⟨"Songlinebench", "firstFailed", "(I)I"⟩, 9), (⟨"Songlinebench", "isVotedFor", "(I)Z"⟩, 9), (⟨"Songlinebench", "provedOf", "(I)I"⟩, 9), (⟨"Songlinebench$Claims", "stands", "(I)Z"⟩, 9), (⟨"Songlinebench$Claims", "isHeld", "(II)Z"⟩, 9), (⟨"Songlinebench", "rightsOf", "(II)I"⟩, 9), (⟨"Songlinebench", "partiesOf", "(I)I"⟩, 9), (⟨"Songlinebench", "owedFor", "(I)J"⟩, 9)]
theorem lw_r1 : ∀ q ∈ lw_privs_1, lw_okq q := List.forall_mem_cons.mpr ⟨lw_p0, List.forall_mem_cons.mpr ⟨lw_p1, List.forall_mem_cons.mpr ⟨lw_p2, List.forall_mem_cons.mpr ⟨lw_p3, List.forall_mem_cons.mpr ⟨lw_p4, List.forall_mem_cons.mpr ⟨lw_p5, List.forall_mem_cons.mpr ⟨lw_p6, List.forall_mem_cons.mpr ⟨lw_p7, List.forall_mem_cons.mpr ⟨lw_p8, List.forall_mem_cons.mpr ⟨lw_p9, List.forall_mem_cons.mpr ⟨lw_p10, List.forall_mem_cons.mpr ⟨lw_p11, List.forall_mem_cons.mpr ⟨lw_p12, List.forall_mem_cons.mpr ⟨lw_p13, List.forall_mem_cons.mpr ⟨lw_p14, List.forall_mem_cons.mpr ⟨lw_p15, fun _ h => absurd h List.not_mem_nil⟩⟩⟩⟩⟩⟩⟩⟩⟩⟩⟩⟩⟩⟩⟩⟩
theorem lw_p16 : lw_okq (⟨"Songlinebench$Acts", "stillExtinguishes", "(I)Z"⟩, 9) := ⟨⟨by decide +kernel, by decide +kernel⟩, List.mem_of_getElem? (i := 119) (by decide +kernel), List.mem_of_getElem? (i := 861) (by decide +kernel), List.mem_of_getElem? (i := 862) (by decide +kernel)⟩
theorem lw_p17 : lw_okq (⟨"Songlinebench", "owedAt", "(II)J"⟩, 9) := ⟨⟨by decide +kernel, by decide +kernel⟩, List.mem_of_getElem? (i := 16) (by decide +kernel), List.mem_of_getElem? (i := 865) (by decide +kernel), List.mem_of_getElem? (i := 866) (by decide +kernel)⟩
theorem lw_p18 : lw_okq (⟨"Songlinebench$Acts", "isAhead", "(II)Z"⟩, 9) := ⟨⟨by decide +kernel, by decide +kernel⟩, List.mem_of_getElem? (i := 119) (by decide +kernel), List.mem_of_getElem? (i := 873) (by decide +kernel), List.mem_of_getElem? (i := 874) (by decide +kernel)⟩
theorem lw_p19 : lw_okq (⟨"Songlinebench", "share", "(JI)V"⟩, 9) := ⟨⟨by decide +kernel, by decide +kernel⟩, List.mem_of_getElem? (i := 16) (by decide +kernel), List.mem_of_getElem? (i := 890) (by decide +kernel), List.mem_of_getElem? (i := 891) (by decide +kernel)⟩
def lw_privs_2 : List (MethodName × Nat) := [(⟨"Songlinebench$Acts", "stillExtinguishes", "(I)Z"⟩, 9), (⟨"Songlinebench", "owedAt", "(II)J"⟩, 9), (⟨"Songlinebench$Acts", "isAhead", "(II)Z"⟩, 9), (⟨"Songlinebench", "share", "(JI)V"⟩, 9)]
theorem lw_r2 : ∀ q ∈ lw_privs_2, lw_okq q := List.forall_mem_cons.mpr ⟨lw_p16, List.forall_mem_cons.mpr ⟨lw_p17, List.forall_mem_cons.mpr ⟨lw_p18, List.forall_mem_cons.mpr ⟨lw_p19, fun _ h => absurd h List.not_mem_nil⟩⟩⟩⟩
def lw_privs : List (MethodName × Nat) := lw_privs_1 ++ (lw_privs_2)
def lw_tbl : List Cond := k2_sels lw_privs ++ tables_1
theorem lw_privs_ok : ∀ q ∈ lw_privs, lw_okq q := by
  show ∀ q ∈ lw_privs_1 ++ (lw_privs_2), lw_okq q
  exact List.forall_mem_append.mpr ⟨lw_r1, lw_r2⟩
end
section
/-! ===== BEGIN words of one list among another's, by their places ===== -/
theorem goodIn_r {big : List Cond} (ws : List Cond) (ps : List Nat) (hp : ws = ps.filterMap (fun i => big[i]?)) (h : ws.all goodWord = true) : GoodIn big ws := by
  intro w hw
  have h1 := List.all_eq_true.mp h w hw
  rw [hp] at hw
  obtain ⟨i, -, hi⟩ := List.mem_filterMap.mp hw
  have hm : w ∈ big := by first | exact List.mem_of_getElem? hi | exact List.getElem?_mem hi
  exact ⟨hm, good_of_word h1⟩
theorem goodIn_app {big a b : List Cond} (ha : GoodIn big a) (hb : GoodIn big b) : GoodIn big (a ++ b) := fun w h => (List.mem_append.mp h).elim (ha w) (hb w)
theorem goodIn_ca {big a b : List Cond} {c : Cond} (ha : GoodIn big (c :: a)) (hb : GoodIn big b) : GoodIn big (c :: (a ++ b)) := fun w h => (List.mem_cons.mp h).elim (fun e => ha w (List.mem_cons.mpr (Or.inl e))) (fun h => (List.mem_append.mp h).elim (fun h => ha w (List.mem_cons.mpr (Or.inr h))) (hb w))
theorem goodIn_sub {big ws : List Cond} (hm : ∀ w ∈ ws, w ∈ big) (h : ws.all goodWord = true) : GoodIn big ws := fun w hw => ⟨hm w hw, good_of_word (List.all_eq_true.mp h w hw)⟩
/-! ===== END ===== -/

/-! ===== BEGIN exceptions that leave a method, and their catching by the caller (launches without stack traces) ===== -/
section VXA
/-! The laws vx_back, vx_callV, vx_callS, vx_callSW, vx_throw0, vx_throwS follow proofs of the library, with one case more: JvmDerived/Free/Laws.lean (Back.of_free), Shelf42/LK1.lean (callV, callS), Shelf/KitTraced.lean (throwNew0V, throwNewS). -/
/-- where a method has thrown q: the class by its name, the cell, what was written, the world -/
def vx_T (XC : String → State → State → Prop) (st : State) (q : Addr) (t : State) (mc ms : Nat) (free : Addr → Prop) : Prop :=
  ∃ (E : String) (ce : Cell) (L : List Loc), XC E st t ∧ t.heap[q]? = some ce ∧ ce.vm = .none ∧ st.vm.findClass E = some ce.cls ∧ st.WarmedH t.vm ∧ st.sameButNew ({ t with vm := st.vm } : State) L mc ms ∧ ∀ z ∈ L, free z.base
def vx_Q (Qc : Array Value → State → Outcome → State → Prop) (XC : String → State → State → Prop) (mc ms : Nat) (free : Addr → Prop) : Array Value → State → Outcome → State → Prop := fun a st o t =>
  (Qc a st o t ∧ ∃ L, FrameEnd st o t L mc ms ∧ ∀ q ∈ L, free q.base) ∨ ∃ q, o = .threw q ∧ vx_T XC st q t mc ms free
/-- a callee that returns or throws -/
def vx_Met (l : Launch) (y : MethodName) (ws : List Cond) (rm : Room) (Pc : Array Value → State → Prop) (Qc : Array Value → State → Outcome → State → Prop) (XC : String → State → State → Prop) (mc ms : Nat) (free : Addr → Prop) : Prop :=
  MetFree l y (headSpec ws rm) Pc (fun _ _ _ _ _ => True) (vx_Q Qc XC mc ms free)
def vx_Post (XC : String → State → State → Prop) (mc ms : Nat) (free : Addr → Prop) : Pt → Array Value → Addr → Pt → Prop := fun A a q B =>
  ∃ (g : JFrame) (mk : MethodId) (t : State) (L : List Loc) (E : String) (ce : Cell), B.U.heap = t.heap ∧ B.U.vm = t.vm ∧ XC E (A.U.calling g mk a) t ∧ t.heap[q]? = some ce ∧ ce.vm = .none ∧ A.U.vm.findClass E = some ce.cls ∧ B.locs = A.locs ++ L ∧ (∀ z ∈ L, free z.base) ∧ B.cells = A.cells + mc ∧ B.slots = A.slots + ms
def vx_Back (l : Launch) (R : Room) (p : Program) (e : Env) (below : List Frame) (s : State) (sargs : Array Value) (y : MethodName) (len W9 : Nat)
    (Pre : Pt → Array Value → Prop) (Post : Pt → Array Value → Option Value → Pt → Prop) (PostX : Pt → Array Value → Addr → Pt → Prop) : Prop :=
  ∀ (m : MethodId) (meth : Method) (c : Code) (A : Pt) (g : JFrame) (ig : Instr) (mk : MethodId) (a : Array Value),
    Stand p l e R s m sargs below meth c A.U A.locs A.cells A.slots → g.method = m → g.locals.size = c.maxLocals → decode c.code g.pc = .ok (ig, len) →
    2 * g.monitorRoom + (g.stack.map fun v => v.category).sum ≤ W9 → A.U.methodNamed? y = some mk → Pre A a →
    (∃ (v : Option Value) (B : Pt), Stand p l e R s m sargs below meth c B.U B.locs B.cells B.slots ∧ Post A a v B ∧
      Steps p.tables e below (doInvoke e (A.U.setTop g) [] mk a).1 (B.U.setTop { g with pc := g.pc + len, stack := v.toList ++ g.stack })) ∨
    (∃ (q : Addr) (B : Pt), Stand p l e R s m sargs below meth c B.U B.locs B.cells B.slots ∧ PostX A a q B ∧
      Steps p.tables e below (doInvoke e (A.U.setTop g) [] mk a).1 ((B.U.setTop g).pushFrame (.throwing q)))
section Payer
variable {l : Launch} {R : Room} {p : Program} {e : Env} {below : List Frame} {s : State} {sargs : Array Value} {y : MethodName} {len W9 : Nat}
theorem vx_back {ws : List Cond} {rm : Room} {Pc : Array Value → State → Prop} {Qc : Array Value → State → Outcome → State → Prop} {XC : String → State → State → Prop} {mc ms : Nat} {free : Addr → Prop} {bytes : ByteArray} {maxL : Nat} {ret : Option FieldType}
    (hM : vx_Met l y ws rm Pc Qc XC mc ms free) (hblind : FrameBlind Pc) (hrc : rm.cells = mc) (hrs : rm.slots = ms)
    (hframes : rm.frames + 1 ≤ R.frames) (hlocals : W9 + (maxL + 11) + rm.locals ≤ R.locals)
    (hws : ∀ w ∈ ws, ∀ a' U, s.WarmedH U.vm → w.before a' U = true) (hcode : Cond.code y bytes maxL ret ∈ ws) (hinit : ∀ a' U, s.WarmedH U.vm → (Cond.initialized y.cls).before a' U = true) :
    vx_Back l R p e below s sargs y len W9 (PreOf R mc ms Pc) (PostOf Qc mc ms free) (vx_Post XC mc ms free) := by
  intro m meth c A g ig mk a X hg hsize hdg hW hn hp
  have h1 : (headSpec ws rm).pre.before a A.U = true := atoms_intro fun w hw => hws w hw _ _ X.warmed
  have h2 : (Cond.code y bytes maxL ret).before a A.U = true := hws _ hcode _ _ X.warmed
  have h3 : (Cond.initialized y.cls).before a A.U = true := hinit _ _ X.warmed
  have h4 : A.cells + (headSpec ws rm).room.cells ≤ R.cells := by rw [show (headSpec ws rm).room.cells = mc from hrc]; exact hp.1
  have h5 : A.slots + (headSpec ws rm).room.slots ≤ R.slots := by rw [show (headSpec ws rm).room.slots = ms from hrs]; exact hp.2.1
  have hPc : Pc a (A.U.calling g mk a) := hblind _ _ _ _ hp.2.2
  obtain ⟨U, Ls, c0, s0⟩ := A
  dsimp only [Pt.U, Pt.locs, Pt.cells, Pt.slots] at h1 h2 h3 h4 h5 X hn hPc ⊢
  obtain ⟨methY, cY, hmY, hcY, -, hlY, -, -, -, -⟩ := Cond.code_spec hn h2
  obtain ⟨kY, hkY, -⟩ := className_of_methodNamed hn
  have hinitY : kY.init = .initialized := Cond.initialized_spec (findClass_of_methodNamed hn) hkY h3
  have h : At U g.method c below := by rw [hg]; exact X.here
  have hlocals9 : W9 + (maxL + 11) + (headSpec ws rm).room.locals ≤ R.locals := hlocals
  have happ : (headSpec ws rm).appliesLoose y e.platform (U.calling g mk a) = true :=
    Spec.appliesLoose_calling (g := g) h hdg hn hkY hinitY
      (X.room_calling (g := g) (R' := (headSpec ws rm).room) hsize hmY hcY hframes (by rw [hlY]; omega) h4 h5) h1
  obtain ⟨mid, hmid⟩ := h.above
  have hfr : (U.setTop g).frames = (.java g :: mid) ++ below := by rw [State.frames_setTop' g h.top, hmid]; rfl
  obtain ⟨o, s₂, hsteps, -, hend, hq⟩ := Steps.callFree hM p X.admits X.cas X.clock (acts := []) hfr happ hPc trivial
  have hq' : vx_Q Qc XC mc ms free a (U.calling g mk a) o s₂ := hq
  rw [State.frames_setTop' g h.top] at hend
  obtain ⟨g₀, hg0⟩ := Option.isSome_iff_exists.mp h.top
  obtain ⟨r, hr⟩ := State.topJava?_eq_some.mp hg0
  have hr' : (({ U with heap := s₂.heap, slotsUsed := s₂.slotsUsed } : State).setVm s₂.vm).frames = .java g₀ :: r := hr
  rcases hq' with ⟨hqc, L, hfe, hL⟩ | ⟨q, rfl, E, ce, L, hx, hce, hcv, hcl, hW₂, hsm, hL⟩
  · obtain ⟨⟨v, rfl⟩, hW₂, e2, q2, q3, q4, q5, q6⟩ := id hfe
    have e3 : s₂ = ({ (U.calling g mk a).setFrames s₂.frames with heap := s₂.heap, slotsUsed := s₂.slotsUsed } : State).setVm s₂.vm := by
      have : s₂ = ({ s₂ with vm := (U.calling g mk a).vm } : State).setVm s₂.vm := rfl
      rw [e2] at this
      exact this
    obtain ⟨c₂, i₂, len₂, hc₂, hd₂, hf₂⟩ := hend
    have hW' : U.WarmedH s₂.vm := hW₂
    have hcc : c₂ = c := by
      have h1 : s₂.code? g.method = U.code? g.method := by
        rw [State.code?_eq, State.code?_eq, hW'.alike.method?]
      exact Option.some.inj (hc₂.symm.trans (h1.trans h.code))
    subst hcc
    have hlen : len₂ = len := by rw [hdg] at hd₂; cases hd₂; rfl
    subst hlen
    have hs₂ : s₂ = (({ U with heap := s₂.heap, slotsUsed := s₂.slotsUsed } : State).setVm s₂.vm).setTop { g with pc := g.pc + len₂, stack := v.toList ++ g.stack } := by
      refine e3.trans ?_
      rw [hf₂, State.calling_eq h.top, State.setFrames_setFrames, State.setTop_of_frames _ hr', hr]
      rfl
    have hsame : U.sameButNew ({ U with heap := s₂.heap, slotsUsed := s₂.slotsUsed } : State) L mc ms := by
      refine ⟨?_, q2, q3, q4, q5, q6⟩
      obtain ⟨t, ht, -⟩ := State.frames_cons hr
      show ({ U with heap := s₂.heap, slotsUsed := s₂.slotsUsed } : State) = { U.setFrames U.frames with heap := s₂.heap, slotsUsed := s₂.slotsUsed }
      rw [State.setFrames_self ht]
    subst hg
    refine Or.inl ⟨v, ⟨(({ U with heap := s₂.heap, slotsUsed := s₂.slotsUsed } : State).setVm s₂.vm), Ls ++ L, c0 + mc, s0 + ms⟩,
      ⟨X.admits, X.cas, X.clock, X.frames, X.room, X.hears, X.method, X.code, (X.here.setHeapUsed s₂.heap s₂.slotsUsed).setVm hW'.alike, X.tail, State.WarmedH.trans X.warmed hW', X.limits, X.bytes, X.same.trans (hsame.setVm s.vm)⟩,
      ⟨g, mk, s₂, L, rfl, rfl, hqc, rfl, hL, rfl, rfl⟩, ?_⟩
    show Steps p.tables e below _ ((({ U with heap := s₂.heap, slotsUsed := s₂.slotsUsed } : State).setVm s₂.vm).setTop { g with pc := g.pc + len₂, stack := v.toList ++ g.stack })
    rw [← hs₂]
    exact hsteps
  · obtain ⟨e2, q2, q3, q4, q5, q6⟩ := id hsm
    have e3 : s₂ = ({ (U.calling g mk a).setFrames s₂.frames with heap := s₂.heap, slotsUsed := s₂.slotsUsed } : State).setVm s₂.vm := by
      have : s₂ = ({ s₂ with vm := (U.calling g mk a).vm } : State).setVm s₂.vm := rfl
      rw [e2] at this
      exact this
    have hf₂ : s₂.frames = .throwing q :: .java g :: U.frames.tail := hend
    have hW' : U.WarmedH s₂.vm := hW₂
    have hs₂ : s₂ = ((({ U with heap := s₂.heap, slotsUsed := s₂.slotsUsed } : State).setVm s₂.vm).setTop g).pushFrame (.throwing q) := by
      refine e3.trans ?_
      rw [hf₂, State.calling_eq h.top, State.setFrames_setFrames, State.pushFrame, State.frames_setTop _ hr', State.setTop_of_frames _ hr', State.setFrames_setFrames, hr]
      rfl
    have hsame : U.sameButNew ({ U with heap := s₂.heap, slotsUsed := s₂.slotsUsed } : State) L mc ms := by
      refine ⟨?_, q2, q3, q4, q5, q6⟩
      obtain ⟨t, ht, -⟩ := State.frames_cons hr
      show ({ U with heap := s₂.heap, slotsUsed := s₂.slotsUsed } : State) = { U.setFrames U.frames with heap := s₂.heap, slotsUsed := s₂.slotsUsed }
      rw [State.setFrames_self ht]
    subst hg
    refine Or.inr ⟨q, ⟨(({ U with heap := s₂.heap, slotsUsed := s₂.slotsUsed } : State).setVm s₂.vm), Ls ++ L, c0 + mc, s0 + ms⟩,
      ⟨X.admits, X.cas, X.clock, X.frames, X.room, X.hears, X.method, X.code, (X.here.setHeapUsed s₂.heap s₂.slotsUsed).setVm hW'.alike, X.tail, State.WarmedH.trans X.warmed hW', X.limits, X.bytes, X.same.trans (hsame.setVm s.vm)⟩,
      ⟨g, mk, s₂, L, E, ce, rfl, rfl, hx, hce, hcv, hcl, rfl, hL, rfl, rfl⟩, ?_⟩
    show Steps p.tables e below _ (((({ U with heap := s₂.heap, slotsUsed := s₂.slotsUsed } : State).setVm s₂.vm).setTop g).pushFrame (.throwing q))
    rw [← hs₂]
    exact hsteps
end Payer
section Calls
variable {p : Program} {l : Launch} {e : Env} {R : Room} {s : State} {m : MethodId} {args : Array Value} {below : List Frame} {meth : Method} {c : Code} {T : State} {locs : List Loc} {cells slots : Nat}
theorem vx_callV (X : Stand p l e R s m args below meth c T locs cells slots) (hexec : p.tables.exec = Jvm.exec) {own C : String} {index : Nat} {y : MethodName} {bytes : ByteArray} {maxL : Nat} {ret : Option FieldType}
    (hown : s.vm.findClass own = some m.cls) (hlink : (Cond.methodLink own index y).before args s = true) (hinst : (Cond.instanceMethod y).before args s = true) (hsel : (Cond.selects C y y).before args s = true)
    (hcode : (Cond.code y bytes maxL ret).before args s = true) (hy : y.cls ≠ "java/lang/invoke/MethodHandle" ∧ y.cls ≠ "java/lang/invoke/VarHandle")
    {W9 : Nat} {Pre : Pt → Array Value → Prop} {Post : Pt → Array Value → Option Value → Pt → Prop} {PostX : Pt → Array Value → Addr → Pt → Prop} (hK : vx_Back l R p e below s args y 3 W9 Pre Post PostX)
    {b : Addr} {cellB : Cell} (hcell : T.heap[b]? = some cellB) (hobj : cellB.vm.isStatics = false) (hcls : s.vm.findClass C = some cellB.cls)
    {g : JFrame} (hg : g.method = m) (hsize : g.locals.size = c.maxLocals) {argsL rest : List Value} (hlen : ∀ sig, parseMethodDescriptor y.desc = some sig → argsL.length = sig.parameters.length)
    (hstack : g.stack = argsL.reverse ++ .ref b :: rest) (hW : 2 * g.monitorRoom + (rest.map fun v => v.category).sum ≤ W9) (hdg : decode c.code g.pc = .ok (.invokevirtual index, 3))
    (hpre : ∀ vm₁, s.WarmedH vm₁ → Pre ⟨T.setVm vm₁, locs, cells, slots⟩ (Value.ref b :: argsL).toArray) :
    (∃ (v : Option Value) (vm₁ : Vm) (B : Pt), s.WarmedH vm₁ ∧ Stand p l e R s m args below meth c B.U B.locs B.cells B.slots ∧ Post ⟨T.setVm vm₁, locs, cells, slots⟩ (Value.ref b :: argsL).toArray v B ∧
      ∀ target, Steps p.tables e below (B.U.setTop { g with pc := g.pc + 3, stack := v.toList ++ rest }) target → Steps p.tables e below (T.setTop g) target) ∨
    (∃ (q : Addr) (vm₁ : Vm) (B : Pt), s.WarmedH vm₁ ∧ Stand p l e R s m args below meth c B.U B.locs B.cells B.slots ∧ PostX ⟨T.setVm vm₁, locs, cells, slots⟩ (Value.ref b :: argsL).toArray q B ∧
      Steps p.tables e below (T.setTop g) ((B.U.setTop { g with stack := rest }).pushFrame (.throwing q))) := by
  obtain ⟨mk, methM, hnamed, hmethM, hstM, habM⟩ := Cond.instanceMethod_spec hinst
  obtain ⟨methM', cM, hmethM', -, -, -, -, -, -, hsigM⟩ := Cond.code_spec hnamed hcode
  cases hmethM.symm.trans hmethM'
  obtain ⟨c2, r2, m2, q1, q2, q3, q4, kP, hkP, hkPi⟩ := Cond.selects_spec hsel
  cases hcls.symm.trans q1
  cases (State.methodFound?_of_named hnamed hy).symm.trans q2
  cases hnamed.symm.trans q3
  have hselP : selectMethod e.platform s.vm cellB.cls mk = .method mk := by rw [Launch.admits_selectMethod X.admits]; exact q4
  obtain ⟨vm₁, X₁, hstep₁⟩ := X.invokevirtual hexec hown hlink hnamed hmethM hstM hkP hkPi hy (a := b) (cell := cellB) hcell
    (fun z h => by rw [h] at hobj; cases hobj) hselP hmethM habM hkP hkPi (g := g) hg (argsL := argsL) (rest := rest) (hlen _ hsigM) hstack hdg
  rcases hK m meth c ⟨T.setVm vm₁, locs, cells, slots⟩ { g with stack := rest } (.invokevirtual index) mk (Value.ref b :: argsL).toArray X₁ hg hsize hdg hW (X₁.named hnamed) (hpre vm₁ X₁.warmed) with ⟨v, B, X', hpost, hsteps⟩ | ⟨q, B, X', hpost, hsteps⟩
  · exact Or.inl ⟨v, vm₁, B, X₁.warmed, X', hpost, fun target h => hstep₁ _ fun acts => by rw [doInvoke_state]; exact hsteps.trans h⟩
  · exact Or.inr ⟨q, vm₁, B, X₁.warmed, X', hpost, hstep₁ _ fun acts => by rw [doInvoke_state]; exact hsteps⟩
theorem vx_callS (X : Stand p l e R s m args below meth c T locs cells slots) (hexec : p.tables.exec = Jvm.exec) {own : String} {index : Nat} {y : MethodName} {bytes : ByteArray} {maxL : Nat} {ret : Option FieldType}
    (hown : s.vm.findClass own = some m.cls) (hlink : (Cond.methodLink own index y).before args s = true) (hstat : (Cond.static y).before args s = true) (hinit : (Cond.initialized y.cls).before args s = true)
    (hcode : (Cond.code y bytes maxL ret).before args s = true) (hy : y.cls ≠ "java/lang/invoke/MethodHandle" ∧ y.cls ≠ "java/lang/invoke/VarHandle")
    {W9 : Nat} {Pre : Pt → Array Value → Prop} {Post : Pt → Array Value → Option Value → Pt → Prop} {PostX : Pt → Array Value → Addr → Pt → Prop} (hK : vx_Back l R p e below s args y 3 W9 Pre Post PostX)
    {g : JFrame} (hg : g.method = m) (hsize : g.locals.size = c.maxLocals) {argsL rest : List Value} (hlen : ∀ sig, parseMethodDescriptor y.desc = some sig → argsL.length = sig.parameters.length)
    (hstack : g.stack = argsL.reverse ++ rest) (hW : 2 * g.monitorRoom + (rest.map fun v => v.category).sum ≤ W9) (hdg : decode c.code g.pc = .ok (.invokestatic index, 3))
    (hpre : ∀ vm₁, s.WarmedH vm₁ → Pre ⟨T.setVm vm₁, locs, cells, slots⟩ argsL.toArray) :
    (∃ (v : Option Value) (vm₁ : Vm) (B : Pt), s.WarmedH vm₁ ∧ Stand p l e R s m args below meth c B.U B.locs B.cells B.slots ∧ Post ⟨T.setVm vm₁, locs, cells, slots⟩ argsL.toArray v B ∧
      ∀ target, Steps p.tables e below (B.U.setTop { g with pc := g.pc + 3, stack := v.toList ++ rest }) target → Steps p.tables e below (T.setTop g) target) ∨
    (∃ (q : Addr) (vm₁ : Vm) (B : Pt), s.WarmedH vm₁ ∧ Stand p l e R s m args below meth c B.U B.locs B.cells B.slots ∧ PostX ⟨T.setVm vm₁, locs, cells, slots⟩ argsL.toArray q B ∧
      Steps p.tables e below (T.setTop g) ((B.U.setTop { g with stack := rest }).pushFrame (.throwing q))) := by
  obtain ⟨mk, hnamed⟩ := Cond.code_named hcode
  obtain ⟨methM, cM, hmethM, -, -, -, -, -, -, hsigM⟩ := Cond.code_spec hnamed hcode
  have hstatic : methM.isStatic = true := Cond.static_spec hnamed hmethM hstat
  obtain ⟨kP, hkP, -⟩ := className_of_methodNamed hnamed
  have hinitP : kP.init = .initialized := Cond.initialized_spec (findClass_of_methodNamed hnamed) hkP hinit
  obtain ⟨vm₁, X₁, hstep₁⟩ := X.invokestatic hexec hown hlink hnamed hmethM hstatic hkP hinitP hy (g := g) hg (argsL := argsL) (rest := rest) (hlen _ hsigM) hstack hdg
  rcases hK m meth c ⟨T.setVm vm₁, locs, cells, slots⟩ { g with stack := rest } (.invokestatic index) mk argsL.toArray X₁ hg hsize hdg hW (X₁.named hnamed) (hpre vm₁ X₁.warmed) with ⟨v, B, X', hpost, hsteps⟩ | ⟨q, B, X', hpost, hsteps⟩
  · exact Or.inl ⟨v, vm₁, B, X₁.warmed, X', hpost, fun target h => hstep₁ _ fun acts => by rw [doInvoke_state]; exact hsteps.trans h⟩
  · exact Or.inr ⟨q, vm₁, B, X₁.warmed, X', hpost, hstep₁ _ fun acts => by rw [doInvoke_state]; exact hsteps⟩
end Calls
theorem vx_cls {s : State} {T : State} {vm₁ : Vm} {E : String} {k : ClassId} (hW : s.WarmedH vm₁) (h : (T.setVm vm₁).vm.findClass E = some k) : s.vm.findClass E = some k := by
  have h1 : vm₁.findClass E = some k := h
  rw [hW.alike.findClass] at h1
  exact h1
/-- the method's frame g, with q thrown over it -/
def vx_W (p : Program) (l : Launch) (e : Env) (R : Room) (s : State) (m : MethodId) (args : Array Value) (below : List Frame) (meth : Method) (c : Code) (H : Heap) (locs : List Loc) (cells slots : Nat) (Q : State → Prop) (g : JFrame) (q : Addr) : Prop :=
  ∀ T : State, T.heap = H → Stand p l e R s m args below meth c T locs cells slots → ∃ t, Steps p.tables e below ((T.setTop g).pushFrame (.throwing q)) t ∧ Q t
def vx_Run (p : Program) (l : Launch) (e : Env) (R : Room) (s : State) (m : MethodId) (args : Array Value) (below : List Frame) (meth : Method) (c : Code) (H : Heap) (locs : List Loc) (cells slots mc ms : Nat) (g : JFrame) (rest : List Value) (Qa : State → Outcome → State → Prop) (XC : String → State → State → Prop) (free : Addr → Prop) : Prop :=
  ∀ T : State, T.heap = H → Stand p l e R s m args below meth c T locs cells slots →
    (∃ (v : Option Value) (st₀ t T' : State) (L : List Loc), st₀.heap = H ∧ Stand p l e R s m args below meth c T' (locs ++ L) (cells + mc) (slots + ms) ∧ (∀ q ∈ L, free q.base) ∧ T'.heap = t.heap ∧ T'.vm = t.vm ∧ Qa st₀ (.returned v) t ∧
      Goes p e below T g T' { g with pc := g.pc + 3, stack := v.toList ++ rest }) ∨
    (∃ (q : Addr) (st₀ t T' : State) (L : List Loc) (E : String) (ce : Cell), st₀.heap = H ∧ Stand p l e R s m args below meth c T' (locs ++ L) (cells + mc) (slots + ms) ∧ (∀ z ∈ L, free z.base) ∧ T'.heap = t.heap ∧ T'.vm = t.vm ∧ XC E st₀ t ∧ t.heap[q]? = some ce ∧ ce.vm = .none ∧ s.vm.findClass E = some ce.cls ∧
      Steps p.tables e below (T.setTop g) ((T'.setTop { g with stack := rest }).pushFrame (.throwing q)))
def vx_X {S : Type} (px : S → Prop) (B : String → S → State → Prop) (A : Nat → Prop) : String → State → State → Prop := fun E st t => ∃ u : S, px u ∧ B E u t ∧ va_F A st t
section Runs
variable {p : Program} {l : Launch} {e : Env} {R : Room} {s : State} {m : MethodId} {args : Array Value} {below : List Frame} {meth : Method} {c : Code} {H : Heap} {locs : List Loc} {cells slots : Nat}
variable {y : MethodName} {bytes cc : ByteArray} {maxL nL mc ms n index : Nat} {ret : Option FieldType} {ws : List Cond} {rm : Room} {Pc : Array Value → State → Prop} {Qc : Array Value → State → Outcome → State → Prop} {XC : String → State → State → Prop} {free : Addr → Prop} {Ts : List Cond} {own C : String} {b : Addr} {As rest : List Value} {g : JFrame}
theorem vx_callBack (cb : CallB R s args own index y bytes maxL ret ws rm mc ms n) (hM : vx_Met l y ws rm Pc Qc XC mc ms free) (hbl : FrameBlind Pc) : vx_Back l R p e below s args y 3 8 (PreOf R mc ms Pc) (PostOf Qc mc ms free) (vx_Post XC mc ms free) := by
  obtain ⟨hrc, hrs, hfr, hlo, hws, hcw, -, hini, -⟩ := cb
  exact vx_back (bytes := bytes) (maxL := maxL) (ret := ret) hM hbl hrc hrs hfr hlo hws hcw (fun a' U hW => word_at hW (Or.inl (by first | rfl | simp [Cond.onTables, Cond.keeps, Cond.steady])) hini)
theorem vx_runV (S : CallFix p m c cc nL s args Ts own) (hM : vx_Met l y ws rm Pc Qc XC mc ms free) (cw : CallW R s args own C index y bytes maxL ret ws rm mc ms n) (hp : PreV s H C b Pc As)
    (hg : g.method = m) (hn : As.length = n) (hsize : g.locals.size = nL) (hstack : g.stack = As.reverse ++ .ref b :: rest) (hW : 2 * g.monitorRoom + (rest.map fun v => v.category).sum ≤ 8) (hdg : decode cc g.pc = .ok (.invokevirtual index, 3)) (hf : cells + mc ≤ R.cells ∧ slots + ms ≤ R.slots) :
    vx_Run p l e R s m args below meth c H locs cells slots mc ms g rest (Qc (Value.ref b :: As).toArray) XC free := by
  have hK : vx_Back l R p e below s args y 3 8 (PreOf R mc ms Pc) (PostOf Qc mc ms free) (vx_Post XC mc ms free) := vx_callBack cw.1 hM hp.1
  obtain ⟨⟨-, -, -, -, -, -, hcode, -, hy, hlen, hl⟩, hin, hse⟩ := cw
  obtain ⟨hx, hb, hml, ho, -⟩ := S
  obtain ⟨-, ⟨cellB, hcB, hoB, hclB⟩, hPc⟩ := hp
  intro T hT X
  rcases vx_callV X hx (C := C) (bytes := bytes) (maxL := maxL) (ret := ret) ho hl hin hse hcode hy hK (by rw [hT]; exact hcB) hoB hclB hg (hsize.trans hml.symm) (argsL := As) (rest := rest) (fun sig h => hn.trans (hlen sig h)) hstack hW (by rw [hb]; exact hdg)
    (fun vm₁ hW₁ => ⟨hf.1, hf.2, hPc (T.setVm vm₁) hT hW₁⟩) with ⟨v, vm₁, ⟨U', l2, c2, s2⟩, hW₁, X', ⟨g', mk, t, L, e1, e2, hq, h1, hL, h2, h3⟩, st⟩ | ⟨q, vm₁, ⟨U', l2, c2, s2⟩, hW₁, X', ⟨g', mk, t, L, E, ce, e1, e2, hq, hce, hcv, hcl, h1, hL, h2, h3⟩, st⟩
  · dsimp only [Pt.U, Pt.locs, Pt.cells, Pt.slots] at X' e1 e2 h1 h2 h3 st
    subst h1; subst h2; subst h3
    exact Or.inl ⟨v, (T.setVm vm₁).calling g' mk (Value.ref b :: As).toArray, t, U', L, hT, X', hL, e1, e2, hq, st⟩
  · dsimp only [Pt.U, Pt.locs, Pt.cells, Pt.slots] at X' e1 e2 h1 h2 h3 st hcl
    subst h1; subst h2; subst h3
    exact Or.inr ⟨q, (T.setVm vm₁).calling g' mk (Value.ref b :: As).toArray, t, U', L, E, ce, hT, X', hL, e1, e2, hq, hce, hcv, vx_cls hW₁ hcl, st⟩
theorem vx_runS (S : CallFix p m c cc nL s args Ts own) (hM : vx_Met l y ws rm Pc Qc XC mc ms free) (cw : CallB R s args own index y bytes maxL ret ws rm mc ms n ∧ (Cond.static y).before args s = true) (hp : PreS s H Pc As)
    (hg : g.method = m) (hn : As.length = n) (hsize : g.locals.size = nL) (hstack : g.stack = As.reverse ++ rest) (hW : 2 * g.monitorRoom + (rest.map fun v => v.category).sum ≤ 8) (hdg : decode cc g.pc = .ok (.invokestatic index, 3)) (hf : cells + mc ≤ R.cells ∧ slots + ms ≤ R.slots) :
    vx_Run p l e R s m args below meth c H locs cells slots mc ms g rest (Qc As.toArray) XC free := by
  have hK : vx_Back l R p e below s args y 3 8 (PreOf R mc ms Pc) (PostOf Qc mc ms free) (vx_Post XC mc ms free) := vx_callBack cw.1 hM hp.1
  obtain ⟨⟨-, -, -, -, -, -, hcode, hini, hy, hlen, hl⟩, hstt⟩ := cw
  obtain ⟨hx, hb, hml, ho, -⟩ := S
  intro T hT X
  rcases vx_callS X hx (bytes := bytes) (maxL := maxL) (ret := ret) ho hl hstt hini hcode hy hK hg (hsize.trans hml.symm) (argsL := As) (rest := rest) (fun sig h => hn.trans (hlen sig h)) hstack hW (by rw [hb]; exact hdg)
    (fun vm₁ hW₁ => ⟨hf.1, hf.2, hp.2 (T.setVm vm₁) hT hW₁⟩) with ⟨v, vm₁, ⟨U', l2, c2, s2⟩, hW₁, X', ⟨g', mk, t, L, e1, e2, hq, h1, hL, h2, h3⟩, st⟩ | ⟨q, vm₁, ⟨U', l2, c2, s2⟩, hW₁, X', ⟨g', mk, t, L, E, ce, e1, e2, hq, hce, hcv, hcl, h1, hL, h2, h3⟩, st⟩
  · dsimp only [Pt.U, Pt.locs, Pt.cells, Pt.slots] at X' e1 e2 h1 h2 h3 st
    subst h1; subst h2; subst h3
    exact Or.inl ⟨v, (T.setVm vm₁).calling g' mk As.toArray, t, U', L, hT, X', hL, e1, e2, hq, st⟩
  · dsimp only [Pt.U, Pt.locs, Pt.cells, Pt.slots] at X' e1 e2 h1 h2 h3 st hcl
    subst h1; subst h2; subst h3
    exact Or.inr ⟨q, (T.setVm vm₁).calling g' mk As.toArray, t, U', L, E, ce, hT, X', hL, e1, e2, hq, hce, hcv, vx_cls hW₁ hcl, st⟩
end Runs
section Rows
variable {p : Program} {l : Launch} {e : Env} {R : Room} {s : State} {m : MethodId} {args : Array Value} {below : List Frame} {meth : Method} {c : Code} {H : Heap} {locs : List Loc} {cells slots : Nat} {Q : State → Prop}
variable {mc ms : Nat} {free : Addr → Prop} {A0 A1 : Nat → Prop} {H0 : Heap} {a : Array Value} {pc : Nat} {ls : Array Slot} {st0 rest : List Value}
theorem vx_keep {st₀ t T' : State} {L : List Loc} (h0 : st₀.heap = H) (e1 : T'.heap = t.heap) (hS : va_S A0 H0 H locs) (hA : ∀ q, q < H.size → A1 q → A0 q) (hf : ∀ q, free q → A0 q) (hL : ∀ q ∈ L, free q.base) (hF : va_F A1 st₀ t) :
    H.size ≤ T'.heap.size ∧ (∀ q : Nat, q < H.size → ¬ A1 q → T'.heap[q]? = H[q]?) ∧ va_S A0 H0 T'.heap (locs ++ L) := by
  obtain ⟨hz, hk⟩ := hF
  rw [h0] at hz hk
  exact ⟨by rw [e1]; exact hz, fun q h1 h2 => by rw [e1]; exact hk q h1 h2,
    ⟨Nat.le_trans hS.1 (by rw [e1]; exact hz), fun q h1 h2 => by rw [e1, hk q (Nat.lt_of_lt_of_le h1 hS.1) (fun z => h2 (hA q (Nat.lt_of_lt_of_le h1 hS.1) z))]; exact hS.2.1 q h1 h2, fun q hq => by
      rcases List.mem_append.mp hq with h | h
      · exact hS.2.2 q h
      · exact hf _ (hL q h)⟩⟩
theorem vx_calli {S SX : Type} {post : Int32 → S → Prop} {px : SX → Prop} {B : S → State → Prop} {BX : String → SX → State → Prop} {AX : Nat → Prop} (hr : vx_Run p l e R s m args below meth c H locs cells slots mc ms (F0 m pc ls st0) rest (va_Qi post B A1 a) (vx_X px BX AX) free) (hS : va_S A0 H0 H locs) (hA : ∀ q, q < H.size → A1 q → A0 q) (hf : ∀ q, free q → A0 q) (hAX : ∀ q, q < H.size → AX q → A0 q)
    (kx : ∀ (E : String) (ce : Cell) (q9 : Addr) (u : SX) (t : State) (H1 : Heap) (locs1 : List Loc), t.heap = H1 → s.vm.Alike t.vm → px u → BX E u t → H.size ≤ H1.size → (∀ q : Nat, q < H.size → ¬ AX q → H1[q]? = H[q]?) → va_S A0 H0 H1 locs1 → H1[q9]? = some ce → ce.vm = .none → s.vm.findClass E = some ce.cls → vx_W p l e R s m args below meth c H1 locs1 (cells + mc) (slots + ms) Q (F0 m pc ls rest) q9)
    (kk : ∀ (r : Int32) (u : S) (t : State) (H1 : Heap) (locs1 : List Loc), t.heap = H1 → s.vm.Alike t.vm → post r u → B u t → H.size ≤ H1.size → (∀ q : Nat, q < H.size → ¬ A1 q → H1[q]? = H[q]?) → va_S A0 H0 H1 locs1 → W p l e R s m args below meth c H1 locs1 (cells + mc) (slots + ms) Q (F0 m (pc + 3) ls (.int r :: rest))) : W p l e R s m args below meth c H locs cells slots Q (F0 m pc ls st0) := by
  intro T hT X
  rcases hr T hT X with ⟨v, st₀, t, T', L, h0, X', hL, e1, e2, ⟨⟨r, u, hv, hp, hb⟩, hF⟩, st⟩ | ⟨q, st₀, t, T', L, E, ce, h0, X', hL, e1, e2, ⟨u, hp, hb, hF⟩, hce, hcv, hcl, st⟩
  · cases hv
    obtain ⟨k1, k2, k3⟩ := vx_keep h0 e1 hS hA hf hL hF
    obtain ⟨t2, a1, b1⟩ := kk r u t T'.heap (locs ++ L) e1.symm (by rw [← e2]; exact X'.warmed.alike) hp hb k1 k2 k3 T' rfl X'
    exact ⟨t2, st t2 a1, b1⟩
  · obtain ⟨k1, k2, k3⟩ := vx_keep h0 e1 hS hAX hf hL hF
    obtain ⟨t2, a1, b1⟩ := kx E ce q u t T'.heap (locs ++ L) e1.symm (by rw [← e2]; exact X'.warmed.alike) hp hb k1 k2 k3 (by rw [e1]; exact hce) hcv hcl T' rfl X'
    exact ⟨t2, st.trans a1, b1⟩
theorem vx_calll {S SX : Type} {post : Int64 → S → Prop} {px : SX → Prop} {B : S → State → Prop} {BX : String → SX → State → Prop} {AX : Nat → Prop} (hr : vx_Run p l e R s m args below meth c H locs cells slots mc ms (F0 m pc ls st0) rest (va_Ql post B A1 a) (vx_X px BX AX) free) (hS : va_S A0 H0 H locs) (hA : ∀ q, q < H.size → A1 q → A0 q) (hf : ∀ q, free q → A0 q) (hAX : ∀ q, q < H.size → AX q → A0 q)
    (kx : ∀ (E : String) (ce : Cell) (q9 : Addr) (u : SX) (t : State) (H1 : Heap) (locs1 : List Loc), t.heap = H1 → s.vm.Alike t.vm → px u → BX E u t → H.size ≤ H1.size → (∀ q : Nat, q < H.size → ¬ AX q → H1[q]? = H[q]?) → va_S A0 H0 H1 locs1 → H1[q9]? = some ce → ce.vm = .none → s.vm.findClass E = some ce.cls → vx_W p l e R s m args below meth c H1 locs1 (cells + mc) (slots + ms) Q (F0 m pc ls rest) q9)
    (kk : ∀ (r : Int64) (u : S) (t : State) (H1 : Heap) (locs1 : List Loc), t.heap = H1 → s.vm.Alike t.vm → post r u → B u t → H.size ≤ H1.size → (∀ q : Nat, q < H.size → ¬ A1 q → H1[q]? = H[q]?) → va_S A0 H0 H1 locs1 → W p l e R s m args below meth c H1 locs1 (cells + mc) (slots + ms) Q (F0 m (pc + 3) ls (.long r :: rest))) : W p l e R s m args below meth c H locs cells slots Q (F0 m pc ls st0) := by
  intro T hT X
  rcases hr T hT X with ⟨v, st₀, t, T', L, h0, X', hL, e1, e2, ⟨⟨r, u, hv, hp, hb⟩, hF⟩, st⟩ | ⟨q, st₀, t, T', L, E, ce, h0, X', hL, e1, e2, ⟨u, hp, hb, hF⟩, hce, hcv, hcl, st⟩
  · cases hv
    obtain ⟨k1, k2, k3⟩ := vx_keep h0 e1 hS hA hf hL hF
    obtain ⟨t2, a1, b1⟩ := kk r u t T'.heap (locs ++ L) e1.symm (by rw [← e2]; exact X'.warmed.alike) hp hb k1 k2 k3 T' rfl X'
    exact ⟨t2, st t2 a1, b1⟩
  · obtain ⟨k1, k2, k3⟩ := vx_keep h0 e1 hS hAX hf hL hF
    obtain ⟨t2, a1, b1⟩ := kx E ce q u t T'.heap (locs ++ L) e1.symm (by rw [← e2]; exact X'.warmed.alike) hp hb k1 k2 k3 (by rw [e1]; exact hce) hcv hcl T' rfl X'
    exact ⟨t2, st.trans a1, b1⟩
theorem vx_callf {S SX : Type} {post : UInt32 → S → Prop} {px : SX → Prop} {B : S → State → Prop} {BX : String → SX → State → Prop} {AX : Nat → Prop} (hr : vx_Run p l e R s m args below meth c H locs cells slots mc ms (F0 m pc ls st0) rest (va_Qf post B A1 a) (vx_X px BX AX) free) (hS : va_S A0 H0 H locs) (hA : ∀ q, q < H.size → A1 q → A0 q) (hf : ∀ q, free q → A0 q) (hAX : ∀ q, q < H.size → AX q → A0 q)
    (kx : ∀ (E : String) (ce : Cell) (q9 : Addr) (u : SX) (t : State) (H1 : Heap) (locs1 : List Loc), t.heap = H1 → s.vm.Alike t.vm → px u → BX E u t → H.size ≤ H1.size → (∀ q : Nat, q < H.size → ¬ AX q → H1[q]? = H[q]?) → va_S A0 H0 H1 locs1 → H1[q9]? = some ce → ce.vm = .none → s.vm.findClass E = some ce.cls → vx_W p l e R s m args below meth c H1 locs1 (cells + mc) (slots + ms) Q (F0 m pc ls rest) q9)
    (kk : ∀ (r : UInt32) (u : S) (t : State) (H1 : Heap) (locs1 : List Loc), t.heap = H1 → s.vm.Alike t.vm → post r u → B u t → H.size ≤ H1.size → (∀ q : Nat, q < H.size → ¬ A1 q → H1[q]? = H[q]?) → va_S A0 H0 H1 locs1 → W p l e R s m args below meth c H1 locs1 (cells + mc) (slots + ms) Q (F0 m (pc + 3) ls (.float r :: rest))) : W p l e R s m args below meth c H locs cells slots Q (F0 m pc ls st0) := by
  intro T hT X
  rcases hr T hT X with ⟨v, st₀, t, T', L, h0, X', hL, e1, e2, ⟨⟨r, u, hv, hp, hb⟩, hF⟩, st⟩ | ⟨q, st₀, t, T', L, E, ce, h0, X', hL, e1, e2, ⟨u, hp, hb, hF⟩, hce, hcv, hcl, st⟩
  · cases hv
    obtain ⟨k1, k2, k3⟩ := vx_keep h0 e1 hS hA hf hL hF
    obtain ⟨t2, a1, b1⟩ := kk r u t T'.heap (locs ++ L) e1.symm (by rw [← e2]; exact X'.warmed.alike) hp hb k1 k2 k3 T' rfl X'
    exact ⟨t2, st t2 a1, b1⟩
  · obtain ⟨k1, k2, k3⟩ := vx_keep h0 e1 hS hAX hf hL hF
    obtain ⟨t2, a1, b1⟩ := kx E ce q u t T'.heap (locs ++ L) e1.symm (by rw [← e2]; exact X'.warmed.alike) hp hb k1 k2 k3 (by rw [e1]; exact hce) hcv hcl T' rfl X'
    exact ⟨t2, st.trans a1, b1⟩
theorem vx_calld {S SX : Type} {post : UInt64 → S → Prop} {px : SX → Prop} {B : S → State → Prop} {BX : String → SX → State → Prop} {AX : Nat → Prop} (hr : vx_Run p l e R s m args below meth c H locs cells slots mc ms (F0 m pc ls st0) rest (va_Qd post B A1 a) (vx_X px BX AX) free) (hS : va_S A0 H0 H locs) (hA : ∀ q, q < H.size → A1 q → A0 q) (hf : ∀ q, free q → A0 q) (hAX : ∀ q, q < H.size → AX q → A0 q)
    (kx : ∀ (E : String) (ce : Cell) (q9 : Addr) (u : SX) (t : State) (H1 : Heap) (locs1 : List Loc), t.heap = H1 → s.vm.Alike t.vm → px u → BX E u t → H.size ≤ H1.size → (∀ q : Nat, q < H.size → ¬ AX q → H1[q]? = H[q]?) → va_S A0 H0 H1 locs1 → H1[q9]? = some ce → ce.vm = .none → s.vm.findClass E = some ce.cls → vx_W p l e R s m args below meth c H1 locs1 (cells + mc) (slots + ms) Q (F0 m pc ls rest) q9)
    (kk : ∀ (r : UInt64) (u : S) (t : State) (H1 : Heap) (locs1 : List Loc), t.heap = H1 → s.vm.Alike t.vm → post r u → B u t → H.size ≤ H1.size → (∀ q : Nat, q < H.size → ¬ A1 q → H1[q]? = H[q]?) → va_S A0 H0 H1 locs1 → W p l e R s m args below meth c H1 locs1 (cells + mc) (slots + ms) Q (F0 m (pc + 3) ls (.double r :: rest))) : W p l e R s m args below meth c H locs cells slots Q (F0 m pc ls st0) := by
  intro T hT X
  rcases hr T hT X with ⟨v, st₀, t, T', L, h0, X', hL, e1, e2, ⟨⟨r, u, hv, hp, hb⟩, hF⟩, st⟩ | ⟨q, st₀, t, T', L, E, ce, h0, X', hL, e1, e2, ⟨u, hp, hb, hF⟩, hce, hcv, hcl, st⟩
  · cases hv
    obtain ⟨k1, k2, k3⟩ := vx_keep h0 e1 hS hA hf hL hF
    obtain ⟨t2, a1, b1⟩ := kk r u t T'.heap (locs ++ L) e1.symm (by rw [← e2]; exact X'.warmed.alike) hp hb k1 k2 k3 T' rfl X'
    exact ⟨t2, st t2 a1, b1⟩
  · obtain ⟨k1, k2, k3⟩ := vx_keep h0 e1 hS hAX hf hL hF
    obtain ⟨t2, a1, b1⟩ := kx E ce q u t T'.heap (locs ++ L) e1.symm (by rw [← e2]; exact X'.warmed.alike) hp hb k1 k2 k3 (by rw [e1]; exact hce) hcv hcl T' rfl X'
    exact ⟨t2, st.trans a1, b1⟩
theorem vx_callv {S SX : Type} {post : S → Prop} {px : SX → Prop} {B : S → State → Prop} {BX : String → SX → State → Prop} {AX : Nat → Prop} (hr : vx_Run p l e R s m args below meth c H locs cells slots mc ms (F0 m pc ls st0) rest (va_Qv post B A1 a) (vx_X px BX AX) free) (hS : va_S A0 H0 H locs) (hA : ∀ q, q < H.size → A1 q → A0 q) (hf : ∀ q, free q → A0 q) (hAX : ∀ q, q < H.size → AX q → A0 q)
    (kx : ∀ (E : String) (ce : Cell) (q9 : Addr) (u : SX) (t : State) (H1 : Heap) (locs1 : List Loc), t.heap = H1 → s.vm.Alike t.vm → px u → BX E u t → H.size ≤ H1.size → (∀ q : Nat, q < H.size → ¬ AX q → H1[q]? = H[q]?) → va_S A0 H0 H1 locs1 → H1[q9]? = some ce → ce.vm = .none → s.vm.findClass E = some ce.cls → vx_W p l e R s m args below meth c H1 locs1 (cells + mc) (slots + ms) Q (F0 m pc ls rest) q9)
    (kk : ∀ (u : S) (t : State) (H1 : Heap) (locs1 : List Loc), t.heap = H1 → s.vm.Alike t.vm → post u → B u t → H.size ≤ H1.size → (∀ q : Nat, q < H.size → ¬ A1 q → H1[q]? = H[q]?) → va_S A0 H0 H1 locs1 → W p l e R s m args below meth c H1 locs1 (cells + mc) (slots + ms) Q (F0 m (pc + 3) ls (rest))) : W p l e R s m args below meth c H locs cells slots Q (F0 m pc ls st0) := by
  intro T hT X
  rcases hr T hT X with ⟨v, st₀, t, T', L, h0, X', hL, e1, e2, ⟨⟨u, hv, hp, hb⟩, hF⟩, st⟩ | ⟨q, st₀, t, T', L, E, ce, h0, X', hL, e1, e2, ⟨u, hp, hb, hF⟩, hce, hcv, hcl, st⟩
  · cases hv
    obtain ⟨k1, k2, k3⟩ := vx_keep h0 e1 hS hA hf hL hF
    obtain ⟨t2, a1, b1⟩ := kk u t T'.heap (locs ++ L) e1.symm (by rw [← e2]; exact X'.warmed.alike) hp hb k1 k2 k3 T' rfl X'
    exact ⟨t2, st t2 a1, b1⟩
  · obtain ⟨k1, k2, k3⟩ := vx_keep h0 e1 hS hAX hf hL hF
    obtain ⟨t2, a1, b1⟩ := kx E ce q u t T'.heap (locs ++ L) e1.symm (by rw [← e2]; exact X'.warmed.alike) hp hb k1 k2 k3 (by rw [e1]; exact hce) hcv hcl T' rfl X'
    exact ⟨t2, st.trans a1, b1⟩
/-- caught by the row x of this method's table; the rows ahead don't take it -/
theorem vx_catch {own name : String} {E : String} {ce : Cell} {q : Addr} (hown : s.vm.findClass own = some m.cls) (pre : List ExceptionTableEntry) (x : ExceptionTableEntry) (suf : List ExceptionTableEntry) (hsplit : c.exceptionTable.toList = pre ++ x :: suf)
    (hpass : ∀ z ∈ pre, covers z pc = false ∨ (z.catchType ≠ 0 ∧ ∃ nm : String, (Cond.classLink own z.catchType nm).before args s = true ∧ va_Nc E nm s)) (hx : covers x pc = true) (h0 : x.catchType ≠ 0)
    (hlink : (Cond.classLink own x.catchType name).before args s = true) (hcast : (Cond.castable E name).before args s = true) (hcell : H[q]? = some ce) (hv : ce.vm = .none) (hcl : s.vm.findClass E = some ce.cls)
    (kk : W p l e R s m args below meth c H locs cells slots Q (F0 m x.handlerPc ls [.ref q])) : vx_W p l e R s m args below meth c H locs cells slots Q (F0 m pc ls rest) q := by
  intro T hT X
  have hpl : e.platform.magicAccessors = ({} : Platform).magicAccessors := by rw [X.admits.platform]
  obtain ⟨c3, c4, hc3, hc4, hasg⟩ := Cond.castable_spec hcast
  cases Option.some.inj (hc3.symm.trans hcl)
  obtain ⟨c5, hc5, hcl5⟩ := Cond.classLink_spec hown hlink e.platform hpl
  cases Option.some.inj (hc4.symm.trans hc5)
  obtain ⟨vm', X', st⟩ := X.thenCaughtThrough q (g := F0 m pc ls rest) rfl (Steps.refl _) (by rw [hT]; exact hcell) (by rw [hv]; rfl) (by obtain ⟨k9, h9, -⟩ := Vm.findClass_spec hcl; exact ⟨k9, h9⟩) pre x suf hsplit
    (fun z hz => by
      rcases hpass z hz with h | ⟨hz0, nm, hl1, hn1⟩
      · exact Or.inl h
      · obtain ⟨c6, hc6, hcl6⟩ := Cond.classLink_spec hown hl1 e.platform hpl
        obtain ⟨a8, b8, h1, h2, h3⟩ := hn1
        cases Option.some.inj (h1.symm.trans hcl)
        cases Option.some.inj (h2.symm.trans hc6)
        exact Or.inr ⟨hz0, _, hcl6, h3⟩) hx (Or.inr ⟨h0, c4, hcl5, hasg⟩)
  obtain ⟨t, a1, b1⟩ := kk (T.setVm vm') hT X'
  exact ⟨t, st.trans a1, b1⟩
end Rows
section Ends
variable {p : Program} {l : Launch} {e : Env} {R : Room} {s : State} {m : MethodId} {args : Array Value} {below : List Frame} {meth : Method} {c : Code} {H : Heap} {locs : List Loc} {cells slots : Nat} {Q : State → Prop}
variable {mc ms : Nat} {free : Addr → Prop} {A0 A1 : Nat → Prop} {H0 : Heap} {a : Array Value} {ls : Array Slot} {st0 rest : List Value}
variable {Qc : Array Value → State → Outcome → State → Prop} {XC : String → State → State → Prop}
/-- what a body that may throw owes at its end -/
def vx_MQ (below : List Frame) (Qc : Array Value → State → Outcome → State → Prop) (XC : String → State → State → Prop) (a : Array Value) (s : State) (mc ms : Nat) (free : Addr → Prop) : State → Prop := fun t =>
  ∃ o, t.status = .running ∧ Ended t below o ∧ vx_Q Qc XC mc ms free a s o t
theorem vx_ret {g : JFrame} {mc ms : Nat} (k : W p l e R s m args below meth c H locs cells slots (MQ below Qc args s mc ms free) g) : W p l e R s m args below meth c H locs cells slots (vx_MQ below Qc XC args s mc ms free) g := by
  intro T hT X
  obtain ⟨t, a1, o, b1, b2, b3, b4⟩ := k T hT X
  exact ⟨t, a1, o, b1, b2, Or.inl ⟨b3, b4⟩⟩
/-- not caught here: it goes on to the caller -/
theorem vx_widen {g : JFrame} {q : Addr} {k n : Nat} (h1 : cells ≤ k) (h2 : slots ≤ n) (kk : vx_W p l e R s m args below meth c H locs k n Q g q) : vx_W p l e R s m args below meth c H locs cells slots Q g q := fun T hT X => kk T hT (stand_widen X h1 h2)
theorem vx_out {pc : Nat} {E : String} {ce : Cell} {q : Addr} {mc ms : Nat} (hout : ∀ x ∈ c.exceptionTable.toList, covers x pc = false) (hlocks : meth.locks = false) (hcell : H[q]? = some ce) (hv : ce.vm = .none) (hcl : s.vm.findClass E = some ce.cls)
    (hx : ∀ t : State, t.heap = H → s.vm.Alike t.vm → XC E s t) (hf : ∀ z ∈ locs, free z.base) (hc : cells ≤ mc) (hs : slots ≤ ms) :
    vx_W p l e R s m args below meth c H locs cells slots (vx_MQ below Qc XC args s mc ms free) (F0 m pc ls rest) q := by
  intro T hT X
  obtain ⟨st1, hrun, hend, hW, hsm⟩ := X.leaveThrown q (g := F0 m pc ls rest) rfl rfl rfl hout hlocks
  have hcell9 : (T.setFrames (.throwing q :: below)).heap[q]? = some ce := by
    show T.heap[q]? = some ce
    rw [hT]; exact hcell
  exact ⟨_, st1, .threw q, hrun, hend, Or.inr ⟨q, rfl, E, ce, locs, hx _ hT hW.alike, hcell9, hv, hcl, hW, hsm.mono hc hs, hf⟩⟩
theorem vx_frame {U : State} {k n : Nat} (h : s.sameButNew ({ U with vm := s.vm } : State) locs k n) : s.heap.size ≤ U.heap.size ∧ ∀ q : Nat, q < s.heap.size → (∀ z ∈ locs, z.base ≠ q) → U.heap[q]? = s.heap[q]? := by
  obtain ⟨-, h2, -, -, -, h6⟩ := h
  refine ⟨h2, fun q hq hz => ?_⟩
  obtain ⟨c9, e1, e2, e3, e4⟩ := h6 q _ (Array.getElem?_eq_getElem hq)
  have hs : c9.slots = (s.heap[q]).slots := Array.ext_getElem? fun i => e4 i fun hm => hz _ hm rfl
  have h9 : c9 = s.heap[q] := by
    rw [hs] at e2
    exact e2
  have e5 : U.heap[q]? = some c9 := e1
  rw [e5, h9, Array.getElem?_eq_getElem hq]
/-- the words of a throw but the four that speak of the heap -/
def vx_no (w : Cond) : Bool := decide (w ≠ .isRef (.static Bundle.tN "UNASSIGNED_STACK" Bundle.steD)) && decide (w ≠ .isRef (.static Bundle.tN "SUPPRESSED_SENTINEL" Bundle.listD)) && decide (w ≠ .laysStatic Bundle.tN "UNASSIGNED_STACK" Bundle.steD) && decide (w ≠ .laysStatic Bundle.tN "SUPPRESSED_SENTINEL" Bundle.listD)
def vx_at0 (own : String) (ic : Nat) (X : String) (names : List String) : List Cond := (Bundle.ownAtoms0 own ic X names).filter vx_no
def vx_atS (own : String) (ic : Nat) (X : String) (names : List String) : List Cond := (Bundle.ownAtoms own ic X names).filter vx_no
/-- a word that the tables alone decide, or a good one -/
def vx_ot (w : Cond) : Bool := w.onTables || goodWord w
theorem vx_ot_at {args a' : Array Value} {s U : State} {w : Cond} (hW : s.WarmedH U.vm) (hvm : s.vm = U.vm) (hg : vx_ot w = true) (h : w.before args s = true) : w.before a' U = true := by
  simp only [vx_ot, Bool.or_eq_true] at hg
  rcases hg with hg | hg
  · exact va_tabs hg hvm h
  · exact word_at hW (good_of_word hg) h
/-- a list's words: the good ones out of the method's own list, the others by premises of their own -/
theorem vx_hat {args : Array Value} {s : State} {L B : List Cond} (h1 : ∀ w ∈ L.filter goodWord, w.before args s = true) (h2 : ∀ w ∈ L.filter (fun w => !goodWord w), w ∈ B) (h3 : ∀ w ∈ B, w.before args s = true) : ∀ w ∈ L, w.before args s = true := by
  intro w hw
  by_cases g : goodWord w = true
  · exact h1 w (List.mem_filter.mpr ⟨hw, g⟩)
  · refine h3 w (h2 w (List.mem_filter.mpr ⟨hw, ?_⟩))
    show (!goodWord w) = true
    cases hgw : goodWord w
    · rfl
    · exact absurd hgw g
theorem vx_c {args : Array Value} {s : State} {w : Cond} {B : List Cond} (h : w.before args s = true) (t : ∀ w ∈ B, w.before args s = true) : ∀ w' ∈ w :: B, w'.before args s = true := fun w' h' => (List.mem_cons.mp h').elim (fun e => by rw [e]; exact h) (t w')
theorem vx_n {args : Array Value} {s : State} : ∀ w ∈ ([] : List Cond), w.before args s = true := fun _ h => nomatch h
theorem vx_own {args : Array Value} {s : State} {L : List Cond} (h1 : ∀ w ∈ L.filter vx_no, w.before args s = true)
    (hU : (Cond.isRef (.static Bundle.tN "UNASSIGNED_STACK" Bundle.steD)).before args s = true) (hN : (Cond.isRef (.static Bundle.tN "SUPPRESSED_SENTINEL" Bundle.listD)).before args s = true)
    (lU : (Cond.laysStatic Bundle.tN "UNASSIGNED_STACK" Bundle.steD).before args s = true) (lN : (Cond.laysStatic Bundle.tN "SUPPRESSED_SENTINEL" Bundle.listD).before args s = true) : ∀ w ∈ L, w.before args s = true := by
  intro w hw
  by_cases e1 : w = .isRef (.static Bundle.tN "UNASSIGNED_STACK" Bundle.steD)
  · rw [e1]; exact hU
  · by_cases e2 : w = .isRef (.static Bundle.tN "SUPPRESSED_SENTINEL" Bundle.listD)
    · rw [e2]; exact hN
    · by_cases e3 : w = .laysStatic Bundle.tN "UNASSIGNED_STACK" Bundle.steD
      · rw [e3]; exact lU
      · by_cases e4 : w = .laysStatic Bundle.tN "SUPPRESSED_SENTINEL" Bundle.listD
        · rw [e4]; exact lN
        · exact h1 w (List.mem_filter.mpr ⟨hw, by unfold vx_no; rw [decide_eq_true e1, decide_eq_true e2, decide_eq_true e3, decide_eq_true e4]; rfl⟩)
/-- where a static field lies, its class's statics cell in H -/
def vx_L (C n d : String) (A : Nat → Prop) (U : State) (H : Heap) : Prop := ∃ (c : ClassId) (k : Class) (i : Nat) (f : Field) (a : Nat) (cell : Cell), U.vm.findClass C = some c ∧ U.fieldFound? C n d = some (c, k, i, f) ∧ f.isStatic = true ∧ k.statics = some a ∧ H[a]? = some cell ∧ cell.vm.isStatics = true ∧ cell.cls = c ∧ f.slot < cell.slots.size ∧ k.staticTypes[f.slot]? = some f.type ∧ ¬ A a
theorem vx_L.moved {C n d : String} {A : Nat → Prop} {u U : State} {H : Heap} (hvm : u.vm.Alike U.vm) (h : vx_L C n d A u H) : vx_L C n d A U H := by
  obtain ⟨c, k, i, f, a, cell, h1, h2, h3, h4, h5, h6, h7, h8, h9, h10⟩ := h
  obtain ⟨k', hi', he⟩ := State.fieldFound?_setVm hvm h2
  exact ⟨c, k', i, f, a, cell, by rw [hvm.findClass]; exact h1, hi', h3, by rw [he]; exact h4, h5, h6, h7, h8, by rw [he]; exact h9, h10⟩
theorem vx_L.kept {C n d : String} {A : Nat → Prop} {U : State} {H H1 : Heap} (h : vx_L C n d A U H) (hq : ∀ a : Nat, a < H.size → ¬ A a → H1[a]? = H[a]?) : vx_L C n d A U H1 := by
  obtain ⟨c, k, i, f, a, cell, h1, h2, h3, h4, h5, h6, h7, h8, h9, h10⟩ := h
  exact ⟨c, k, i, f, a, cell, h1, h2, h3, h4, by rw [hq a (Array.getElem?_eq_some_iff.mp h5).1 h10]; exact h5, h6, h7, h8, h9, h10⟩
theorem vx_L.narrow {C n d : String} {A B : Nat → Prop} {U : State} {H : Heap} (h : vx_L C n d A U H) (hAB : ∀ q, B q → A q) : vx_L C n d B U H := by
  obtain ⟨c, k, i, f, a, cell, h1, h2, h3, h4, h5, h6, h7, h8, h9, h10⟩ := h
  exact ⟨c, k, i, f, a, cell, h1, h2, h3, h4, h5, h6, h7, h8, h9, fun z => h10 (hAB _ z)⟩
theorem vx_L.word {C n d : String} {A : Nat → Prop} {s : State} {args : Array Value} (h : vx_L C n d A s s.heap) : (Cond.laysStatic C n d).before args s = true := by
  obtain ⟨c, k, i, f, a, cell, h1, h2, h3, h4, h5, h6, h7, h8, h9, -⟩ := h
  show (Cond.laysStatic C n d).holds args s none s [] = true
  exact Cond.laysStatic_of h1 h2 h3 h4 h5 h6 h7 h8 h9
/-- .. and what it holds: null or some reference -/
def vx_Zq (C n d : String) (A : Nat → Prop) (U : State) (H : Heap) : Prop := va_Zq C n d A U H ∧ vx_L C n d A U H
theorem vx_Zq.moved {C n d : String} {A : Nat → Prop} {u U : State} {H : Heap} (hvm : u.vm.Alike U.vm) (h : vx_Zq C n d A u H) : vx_Zq C n d A U H := ⟨va_Zq.moved hvm h.1, vx_L.moved hvm h.2⟩
theorem vx_Zq.kept {C n d : String} {A : Nat → Prop} {U : State} {H H1 : Heap} (h : vx_Zq C n d A U H) (hq : ∀ a : Nat, a < H.size → ¬ A a → H1[a]? = H[a]?) : vx_Zq C n d A U H1 := ⟨va_Zq.kept h.1 hq, vx_L.kept h.2 hq⟩
theorem vx_Zq.narrow {C n d : String} {A B : Nat → Prop} {U : State} {H : Heap} (h : vx_Zq C n d A U H) (hAB : ∀ q, B q → A q) : vx_Zq C n d B U H := ⟨va_Zq.narrow h.1 hAB, vx_L.narrow h.2 hAB⟩
theorem vx_Zqof {args : Array Value} {s : State} {C n d : String} {A : Nat → Prop} (hl : (Cond.laysStatic C n d).before args s = true) (hini : (Cond.initialized C).before args s = true) (h : (Cond.isRef (.static C n d)).before args s = true) (hA : ∀ a : Nat, a < s.heap.size → ¬ A a) : vx_Zq C n d A s s.heap := by
  refine ⟨va_Zqof hl hini h hA, ?_⟩
  obtain ⟨c, k, i, f, a, cell, h1, h2, h3, h4, h5, h6, h7, h8, h9⟩ := Cond.laysStatic_spec hl
  exact ⟨c, k, i, f, a, cell, h1, h2, h3, h4, h5, h6, h7, h8, h9, hA a (Array.getElem?_eq_some_iff.mp h5).1⟩
theorem vx_isRef {C n d : String} {v : Value} {A : Nat → Prop} {s : State} {args : Array Value} (h : va_Z C n d v A s s.heap) (hv : v.isRef = true) : (Cond.isRef (.static C n d)).before args s = true := by
  obtain ⟨cf, kf, fi, f, a, cell, h1, h2, h3, h4, h5, h6, h7, -⟩ := h
  have he : (Term.static C n d).eval args s none [] s = some v := by
    simp [Term.eval, State.fieldNamed?, h1, h2, h4, h5, h6, h7]
  simp only [Cond.before, Cond.holds, Cond.value, he]
  cases v <;> simp_all [Value.isRef]
theorem vx_isRefq {C n d : String} {A : Nat → Prop} {s : State} {args : Array Value} (h : va_Zq C n d A s s.heap) : (Cond.isRef (.static C n d)).before args s = true := by
  rcases h with h | ⟨t, h⟩
  · exact vx_isRef h rfl
  · exact vx_isRef h rfl
/-- the same frame, seen from here: as if the method were called anew in this heap -/
theorem vx_rebase {T : State} (X : Stand p l e R s m args below meth c T locs cells slots) {R' : Room} (hf : R'.frames ≤ R.frames) (hl : R'.locals ≤ R.locals) (hc : cells + R'.cells ≤ R.cells) (hs : slots + R'.slots ≤ R.slots) :
    Stand p l e R' ((T.setVm s.vm).setFrames (.invoking m args :: below)) m args below meth c T [] 0 0 := by
  have htop : (T.setVm s.vm).topJava?.isSome := X.here.top
  have hF : ((T.setVm s.vm).setFrames (.invoking m args :: below)).frames = .invoking m args :: below := State.frames_setFrames _ (State.cur_lt_of_top htop)
  obtain ⟨g₀, hg0⟩ := Option.isSome_iff_exists.mp htop
  obtain ⟨r, hr⟩ := State.topJava?_eq_some.mp hg0
  have hl9 : e.platform.stackLimits (T.setVm s.vm).me = e.platform.stackLimits s.me := X.limits
  have hb9 : (T.setVm s.vm).me.stackBytes = s.me.stackBytes := X.bytes
  refine ⟨X.admits, X.cas, X.clock, hF, ?_, X.hears, X.method, X.code, X.here, X.tail, X.warmed, ?_, ?_, ?_⟩
  · have h := X.room
    have hU : ((T.setVm s.vm).setFrames (.invoking m args :: below)).localsInUse = s.localsInUse := by
      rw [State.localsInUse_invoking hF (meth := meth) (c := c) X.method X.code, State.localsInUse_invoking X.frames X.method X.code]
    simp only [State.hasRoom, Bool.and_eq_true, decide_eq_true_eq] at h ⊢
    obtain ⟨⟨⟨⟨h1, h2, h3, h4, h5, h6⟩, h7⟩, h8⟩, h9⟩ := h
    rw [X.frames, List.length_cons] at h2 h3
    have q1 := X.heapSize
    have q2 := X.used
    simp only [hF, hU, List.length_cons, State.stackLimits_setFrames, State.stackBytes_setFrames, hl9, hb9]
    refine ⟨⟨⟨⟨by omega, by omega, by omega, by omega, by omega, h6⟩, ?_⟩, ?_⟩, X.book⟩
    · show T.heap.size + R'.cells ≤ e.platform.maxCells
      omega
    · show T.slotsUsed + R'.slots ≤ e.platform.maxSlots
      omega
  · rw [State.stackLimits_setFrames]; rfl
  · rw [State.stackBytes_setFrames]; rfl
  · refine ⟨?_, Nat.le_refl _, Nat.le_refl _, ?_, ?_, fun a c9 h9 => ⟨c9, h9, rfl, rfl, fun _ _ => rfl⟩⟩
    · obtain ⟨t, ht, -⟩ := State.frames_cons hr
      show T.setVm s.vm = { ((T.setVm s.vm).setFrames (.invoking m args :: below)).setFrames (T.setVm s.vm).frames with heap := T.heap, slotsUsed := T.slotsUsed }
      rw [State.setFrames_setFrames, State.setFrames_self ht]
      rfl
    · show T.slotsUsed = T.slotsUsed + ((T.heap.toList.drop T.heap.size).map (·.slots.size)).sum
      rw [List.drop_eq_nil_of_le (Nat.le_of_eq Array.length_toList)]
      rfl
    · show ((T.heap.toList.drop T.heap.size).map (·.slots.size)).sum ≤ 0
      rw [List.drop_eq_nil_of_le (Nat.le_of_eq Array.length_toList)]
      exact Nat.le_refl _
/-- 'throw new E()': new; dup; invokespecial; athrow -/
theorem vx_throw0 {cc : ByteArray} {pc : Nat} (hexec : p.tables.exec = Jvm.exec) (hb : c.code = cc) (hl : l.stackTraces = false) {own cls : String} {names : List String} {ik ic mc ms : Nat} {A : Nat → Prop}
    (hown : s.vm.findClass own = some m.cls) (hcls : Bundle.fit cls = true) (hnames : ∀ n ∈ names, Bundle.fit n = true)
    (hk : (Cond.classLink own ik cls).before args s = true) (hini : (Cond.initialized cls).before args s = true) (hat : ∀ w ∈ vx_at0 own ic cls names, w.before args s = true)
    (hgood : ∀ w ∈ Cond.classLink own ik cls :: Cond.initialized cls :: vx_at0 own ic cls names, vx_ot w = true)
    (hU : vx_Zq Bundle.tN "UNASSIGNED_STACK" Bundle.steD A s s.heap) (hN : vx_Zq Bundle.tN "SUPPRESSED_SENTINEL" Bundle.listD A s s.heap) (hS : va_S A s.heap H locs) (hsize : ls.size = c.maxLocals)
    (d0 : decode cc pc = .ok (.new ik, 3)) (d3 : decode cc (pc + 3) = .ok (.dup, 1)) (d4 : decode cc (pc + 4) = .ok (.invokespecial ic, 3)) (d7 : decode cc (pc + 7) = .ok (.athrow, 1))
    (hout : ∀ x ∈ c.exceptionTable.toList, covers x (pc + 7) = false)
    (hRframes : names.length + 3 < R.frames) (hRlocals : (rest.map fun v => v.category).sum + (13 * (names.length + 1) + 42) ≤ R.locals) (hRcells : cells + 1 ≤ R.cells) (hRslots : slots + 6 ≤ R.slots) (hlocks : meth.locks = false)
    (hx : ∀ t : State, s.vm.Alike t.vm → H.size < t.heap.size → (∀ q : Nat, q < H.size → t.heap[q]? = H[q]?) → XC cls s t)
    (hf : ∀ z ∈ locs, free z.base) (hc : cells + 1 ≤ mc) (hs : slots + 6 ≤ ms) :
    W p l e R s m args below meth c H locs cells slots (vx_MQ below Qc XC args s mc ms free) (F0 m pc ls rest) := by
  intro T hT X
  have htr : e.platform.stackTraces = false := (show e.platform.stackTraces = l.stackTraces by rw [X.admits.platform]).trans hl
  have Y := vx_rebase X (R' := { frames := R.frames, locals := R.locals, cells := 1, slots := 6 }) (Nat.le_refl _) (Nat.le_refl _) hRcells hRslots
  obtain ⟨s', hA⟩ : ∃ z, z = (T.setVm s.vm).setFrames (.invoking m args :: below) := ⟨_, rfl⟩
  rw [← hA] at Y
  have hvm : s'.vm = s.vm := by rw [hA]; rfl
  have hhp : s'.heap = H := by rw [hA]; exact hT
  have hW0 : s.WarmedH s'.vm := by rw [hvm]; exact State.WarmedH.refl s
  have hat' : ∀ w ∈ vx_at0 own ic cls names, w.before args s' = true := fun w hw => vx_ot_at hW0 hvm.symm (hgood w (List.mem_cons_of_mem _ (List.mem_cons_of_mem _ hw))) (hat w hw)
  have hk' : (Cond.classLink own ik cls).before args s' = true := vx_ot_at hW0 hvm.symm (hgood _ List.mem_cons_self) hk
  have hini' : (Cond.initialized cls).before args s' = true := vx_ot_at hW0 hvm.symm (hgood _ (List.mem_cons_of_mem _ List.mem_cons_self)) hini
  have hU' : vx_Zq Bundle.tN "UNASSIGNED_STACK" Bundle.steD A s' s'.heap := by rw [hhp]; exact vx_Zq.moved hW0.alike (hU.kept hS.2.1)
  have hN' : vx_Zq Bundle.tN "SUPPRESSED_SENTINEL" Bundle.listD A s' s'.heap := by rw [hhp]; exact vx_Zq.moved hW0.alike (hN.kept hS.2.1)
  have h : ∀ w ∈ Bundle.ownAtoms0 own ic cls names, w.before args s' = true := vx_own hat' (vx_isRefq hU'.1) (vx_isRefq hN'.1) hU'.2.word hN'.2.word
  have hown' : s'.vm.findClass own = some m.cls := by rw [hvm]; exact hown
  have hins : (Cond.instantiable cls 6).before args s' = true := h _ (by simp [Bundle.ownAtoms0])
  obtain ⟨vm₁, cX, kX, hfX, hkX, -, -, X₁, st1⟩ := Y.newCold hexec (own := own) (C := cls) (index := ik) (n := 6) hown' hk' hins hini'
    (g := F0 m pc ls rest) rfl (by rw [hb]; exact d0) (Nat.le_refl _) (Nat.le_refl _)
  generalize hT1 : (T.setVm vm₁).pushCell { cls := cX, slots := kX.instanceTypes.map defaultValue, vm := .none } = T1 at X₁ st1
  have hcat : (Value.ref T.heap.size).category = 1 := rfl
  have hcellA : T1.heap[T.heap.size]? = some (freshCell cX kX) := by rw [← hT1]; exact State.heap_pushCell_size _ _
  have d3' : decode c.code (pc + 3) = .ok (.dup, 1) := by rw [hb]; exact d3
  obtain ⟨U, hsteps, hrun, hend, hW, hsame, ce, hce, hO⟩ := X₁.ctorThrow0 hexec htr (own := own) (cls := cls) (names := names) (ic := ic) hown' hcls hnames h (fun x hx => nomatch hx) hfX hkX hcellA (by rw [hhp, hT]; exact Nat.le_refl _)
    (g := { method := m, pc := pc + 4, locals := ls, stack := .ref T.heap.size :: .ref T.heap.size :: rest, locked := none }) rfl hsize rfl rfl (rest := rest) rfl
    (by rw [hb]; exact d4) (by rw [hb]; exact d7) hout hRframes (by simp only [List.map_cons, List.sum_cons, hcat]; omega) hlocks
  obtain ⟨f1, f2⟩ := vx_frame hsame
  rw [hhp] at f1 f2
  have hWs : s.WarmedH U.vm := State.WarmedH.trans hW0 hW
  have hcl : s.vm.findClass cls = some ce.cls := by
    have h9 := hO.cls
    rw [hvm] at h9
    exact h9
  have hall : s.sameButNew ({ U with vm := s.vm } : State) locs mc ms := by
    subst hA
    obtain ⟨e1, e2⟩ := hsame
    rw [State.setFrames_setFrames] at e1
    have h2 : (T.setVm s.vm).sameButNew ({ U with vm := s.vm } : State) [] (0 + 1) (0 + 6) := ⟨e1, e2⟩
    have h3 := X.same.trans h2
    rw [List.append_nil] at h3
    exact h3.mono hc hs
  refine ⟨U, ?_, .threw T.heap.size, hrun, hend, Or.inr ⟨T.heap.size, rfl, cls, ce, locs, hx U hWs.alike (by rw [← hT]; exact (Array.getElem?_eq_some_iff.mp hce).1) (fun q hq => f2 q hq (fun z hz => nomatch hz)), hce, hO.vm, hcl, hWs, hall, hf⟩⟩
  refine st1 _ ?_
  show Steps p.tables e below (T1.setTop { method := m, pc := pc + 3, locals := ls, stack := .ref T.heap.size :: rest, locked := none }) _
  jvm_step X₁.here [X₁.here.top, hexec, d3', Value.category]
  exact hsteps
/-- 'throw new E("text")': new; dup; ldc; invokespecial; athrow -/
theorem vx_throwS {cc : ByteArray} {pc : Nat} (hexec : p.tables.exec = Jvm.exec) (hb : c.code = cc) (hl : l.stackTraces = false) {own cls text : String} {names : List String} {ik is ic mc ms sa : Nat} {A : Nat → Prop}
    (hown : s.vm.findClass own = some m.cls) (hcls : Bundle.fit cls = true) (hnames : ∀ n ∈ names, Bundle.fit n = true)
    (hk : (Cond.classLink own ik cls).before args s = true) (hini : (Cond.initialized cls).before args s = true) (hstr : vk_R own is text sa s) (hat : ∀ w ∈ vx_atS own ic cls names, w.before args s = true)
    (hgood : ∀ w ∈ Cond.classLink own ik cls :: Cond.initialized cls :: vx_atS own ic cls names, vx_ot w = true)
    (hU : vx_Zq Bundle.tN "UNASSIGNED_STACK" Bundle.steD A s s.heap) (hN : vx_Zq Bundle.tN "SUPPRESSED_SENTINEL" Bundle.listD A s s.heap) (hS : va_S A s.heap H locs) (hsize : ls.size = c.maxLocals)
    (d0 : decode cc pc = .ok (.new ik, 3)) (d3 : decode cc (pc + 3) = .ok (.dup, 1)) (d4 : decode cc (pc + 4) = .ok (.ldc is, 2)) (d6 : decode cc (pc + 6) = .ok (.invokespecial ic, 3)) (d9 : decode cc (pc + 9) = .ok (.athrow, 1))
    (hout : ∀ x ∈ c.exceptionTable.toList, covers x (pc + 9) = false)
    (hRframes : names.length + 3 < R.frames) (hRlocals : (rest.map fun v => v.category).sum + (13 * (names.length + 1) + 43) ≤ R.locals) (hRcells : cells + 1 ≤ R.cells) (hRslots : slots + 6 ≤ R.slots) (hlocks : meth.locks = false)
    (hx : ∀ t : State, s.vm.Alike t.vm → H.size < t.heap.size → (∀ q : Nat, q < H.size → t.heap[q]? = H[q]?) → XC cls s t)
    (hf : ∀ z ∈ locs, free z.base) (hc : cells + 1 ≤ mc) (hs : slots + 6 ≤ ms) :
    W p l e R s m args below meth c H locs cells slots (vx_MQ below Qc XC args s mc ms free) (F0 m pc ls rest) := by
  intro T hT X
  have htr : e.platform.stackTraces = false := (show e.platform.stackTraces = l.stackTraces by rw [X.admits.platform]).trans hl
  have Y := vx_rebase X (R' := { frames := R.frames, locals := R.locals, cells := 1, slots := 6 }) (Nat.le_refl _) (Nat.le_refl _) hRcells hRslots
  obtain ⟨s', hA⟩ : ∃ z, z = (T.setVm s.vm).setFrames (.invoking m args :: below) := ⟨_, rfl⟩
  rw [← hA] at Y
  have hvm : s'.vm = s.vm := by rw [hA]; rfl
  have hhp : s'.heap = H := by rw [hA]; exact hT
  have hW0 : s.WarmedH s'.vm := by rw [hvm]; exact State.WarmedH.refl s
  have hat' : ∀ w ∈ vx_atS own ic cls names, w.before args s' = true := fun w hw => vx_ot_at hW0 hvm.symm (hgood w (List.mem_cons_of_mem _ (List.mem_cons_of_mem _ hw))) (hat w hw)
  have hk' : (Cond.classLink own ik cls).before args s' = true := vx_ot_at hW0 hvm.symm (hgood _ List.mem_cons_self) hk
  have hini' : (Cond.initialized cls).before args s' = true := vx_ot_at hW0 hvm.symm (hgood _ (List.mem_cons_of_mem _ List.mem_cons_self)) hini
  have hU' : vx_Zq Bundle.tN "UNASSIGNED_STACK" Bundle.steD A s' s'.heap := by rw [hhp]; exact vx_Zq.moved hW0.alike (hU.kept hS.2.1)
  have hN' : vx_Zq Bundle.tN "SUPPRESSED_SENTINEL" Bundle.listD A s' s'.heap := by rw [hhp]; exact vx_Zq.moved hW0.alike (hN.kept hS.2.1)
  have h : ∀ w ∈ Bundle.ownAtoms own ic cls names, w.before args s' = true := vx_own hat' (vx_isRefq hU'.1) (vx_isRefq hN'.1) hU'.2.word hN'.2.word
  have hown' : s'.vm.findClass own = some m.cls := by rw [hvm]; exact hown
  have hins : (Cond.instantiable cls 6).before args s' = true := h _ (by simp [Bundle.ownAtoms])
  obtain ⟨vm₁, cX, kX, hfX, hkX, -, -, X₁, st1⟩ := Y.newCold hexec (own := own) (C := cls) (index := ik) (n := 6) hown' hk' hins hini'
    (g := F0 m pc ls rest) rfl (by rw [hb]; exact d0) (Nat.le_refl _) (Nat.le_refl _)
  generalize hT1 : (T.setVm vm₁).pushCell { cls := cX, slots := kX.instanceTypes.map defaultValue, vm := .none } = T1 at X₁ st1
  have hcat : (Value.ref T.heap.size).category = 1 := rfl
  have hcellA : T1.heap[T.heap.size]? = some (freshCell cX kX) := by rw [← hT1]; exact State.heap_pushCell_size _ _
  have d3' : decode c.code (pc + 3) = .ok (.dup, 1) := by rw [hb]; exact d3
  have d4' : decode c.code (pc + 4) = .ok (.ldc is, 2) := by rw [hb]; exact d4
  have hstr' : vk_R own is text sa s' := vk_R.warm hW0 hstr
  obtain ⟨U, hsteps, hrun, hend, hW, hsame, ce, hce, hO⟩ := X₁.ctorThrowS hexec htr (own := own) (cls := cls) (names := names) (ic := ic) hown' hcls hnames h (fun x hx => nomatch hx) hfX hkX hcellA (by rw [hhp, hT]; exact Nat.le_refl _) (msg := .ref sa) rfl
    (g := { method := m, pc := pc + 6, locals := ls, stack := .ref sa :: .ref T.heap.size :: .ref T.heap.size :: rest, locked := none }) rfl hsize rfl rfl (rest := rest) rfl
    (by rw [hb]; exact d6) (by rw [hb]; exact d9) hout hRframes (by simp only [List.map_cons, List.sum_cons, hcat]; omega) hlocks
  obtain ⟨f1, f2⟩ := vx_frame hsame
  rw [hhp] at f1 f2
  have hWs : s.WarmedH U.vm := State.WarmedH.trans hW0 hW
  have hcl : s.vm.findClass cls = some ce.cls := by
    have h9 := hO.cls
    rw [hvm] at h9
    exact h9
  have hall : s.sameButNew ({ U with vm := s.vm } : State) locs mc ms := by
    subst hA
    obtain ⟨e1, e2⟩ := hsame
    rw [State.setFrames_setFrames] at e1
    have h2 : (T.setVm s.vm).sameButNew ({ U with vm := s.vm } : State) [] (0 + 1) (0 + 6) := ⟨e1, e2⟩
    have h3 := X.same.trans h2
    rw [List.append_nil] at h3
    exact h3.mono hc hs
  refine ⟨U, ?_, .threw T.heap.size, hrun, hend, Or.inr ⟨T.heap.size, rfl, cls, ce, locs, hx U hWs.alike (by rw [← hT]; exact (Array.getElem?_eq_some_iff.mp hce).1) (fun q hq => f2 q hq (fun z hz => nomatch hz)), hce, hO.vm, hcl, hWs, hall, hf⟩⟩
  refine st1 _ ?_
  show Steps p.tables e below (T1.setTop { method := m, pc := pc + 3, locals := ls, stack := .ref T.heap.size :: rest, locked := none }) _
  jvm_step X₁.here [X₁.here.top, hexec, d3', Value.category]
  exact X₁.ldcString hexec (own := own) (text := text) (index := is) (a := sa) hown' hstr'.1 hstr'.2
    (g := { method := m, pc := pc + 4, locals := ls, stack := .ref T.heap.size :: .ref T.heap.size :: rest, locked := none }) rfl d4' _ hsteps
/-- 'throw new E("text")', the text by a wide index -/
theorem vx_throwSW {cc : ByteArray} {pc : Nat} (hexec : p.tables.exec = Jvm.exec) (hb : c.code = cc) (hl : l.stackTraces = false) {own cls text : String} {names : List String} {ik is ic mc ms sa : Nat} {A : Nat → Prop}
    (hown : s.vm.findClass own = some m.cls) (hcls : Bundle.fit cls = true) (hnames : ∀ n ∈ names, Bundle.fit n = true)
    (hk : (Cond.classLink own ik cls).before args s = true) (hini : (Cond.initialized cls).before args s = true) (hstr : vk_R own is text sa s) (hat : ∀ w ∈ vx_atS own ic cls names, w.before args s = true)
    (hgood : ∀ w ∈ Cond.classLink own ik cls :: Cond.initialized cls :: vx_atS own ic cls names, vx_ot w = true)
    (hU : vx_Zq Bundle.tN "UNASSIGNED_STACK" Bundle.steD A s s.heap) (hN : vx_Zq Bundle.tN "SUPPRESSED_SENTINEL" Bundle.listD A s s.heap) (hS : va_S A s.heap H locs) (hsize : ls.size = c.maxLocals)
    (d0 : decode cc pc = .ok (.new ik, 3)) (d3 : decode cc (pc + 3) = .ok (.dup, 1)) (d4 : decode cc (pc + 4) = .ok (.ldc_w is, 3)) (d7 : decode cc (pc + 7) = .ok (.invokespecial ic, 3)) (d10 : decode cc (pc + 10) = .ok (.athrow, 1))
    (hout : ∀ x ∈ c.exceptionTable.toList, covers x (pc + 10) = false)
    (hRframes : names.length + 3 < R.frames) (hRlocals : (rest.map fun v => v.category).sum + (13 * (names.length + 1) + 43) ≤ R.locals) (hRcells : cells + 1 ≤ R.cells) (hRslots : slots + 6 ≤ R.slots) (hlocks : meth.locks = false)
    (hx : ∀ t : State, s.vm.Alike t.vm → H.size < t.heap.size → (∀ q : Nat, q < H.size → t.heap[q]? = H[q]?) → XC cls s t)
    (hf : ∀ z ∈ locs, free z.base) (hc : cells + 1 ≤ mc) (hs : slots + 6 ≤ ms) :
    W p l e R s m args below meth c H locs cells slots (vx_MQ below Qc XC args s mc ms free) (F0 m pc ls rest) := by
  intro T hT X
  have htr : e.platform.stackTraces = false := (show e.platform.stackTraces = l.stackTraces by rw [X.admits.platform]).trans hl
  have Y := vx_rebase X (R' := { frames := R.frames, locals := R.locals, cells := 1, slots := 6 }) (Nat.le_refl _) (Nat.le_refl _) hRcells hRslots
  obtain ⟨s', hA⟩ : ∃ z, z = (T.setVm s.vm).setFrames (.invoking m args :: below) := ⟨_, rfl⟩
  rw [← hA] at Y
  have hvm : s'.vm = s.vm := by rw [hA]; rfl
  have hhp : s'.heap = H := by rw [hA]; exact hT
  have hW0 : s.WarmedH s'.vm := by rw [hvm]; exact State.WarmedH.refl s
  have hat' : ∀ w ∈ vx_atS own ic cls names, w.before args s' = true := fun w hw => vx_ot_at hW0 hvm.symm (hgood w (List.mem_cons_of_mem _ (List.mem_cons_of_mem _ hw))) (hat w hw)
  have hk' : (Cond.classLink own ik cls).before args s' = true := vx_ot_at hW0 hvm.symm (hgood _ List.mem_cons_self) hk
  have hini' : (Cond.initialized cls).before args s' = true := vx_ot_at hW0 hvm.symm (hgood _ (List.mem_cons_of_mem _ List.mem_cons_self)) hini
  have hU' : vx_Zq Bundle.tN "UNASSIGNED_STACK" Bundle.steD A s' s'.heap := by rw [hhp]; exact vx_Zq.moved hW0.alike (hU.kept hS.2.1)
  have hN' : vx_Zq Bundle.tN "SUPPRESSED_SENTINEL" Bundle.listD A s' s'.heap := by rw [hhp]; exact vx_Zq.moved hW0.alike (hN.kept hS.2.1)
  have h : ∀ w ∈ Bundle.ownAtoms own ic cls names, w.before args s' = true := vx_own hat' (vx_isRefq hU'.1) (vx_isRefq hN'.1) hU'.2.word hN'.2.word
  have hown' : s'.vm.findClass own = some m.cls := by rw [hvm]; exact hown
  have hins : (Cond.instantiable cls 6).before args s' = true := h _ (by simp [Bundle.ownAtoms])
  obtain ⟨vm₁, cX, kX, hfX, hkX, -, -, X₁, st1⟩ := Y.newCold hexec (own := own) (C := cls) (index := ik) (n := 6) hown' hk' hins hini'
    (g := F0 m pc ls rest) rfl (by rw [hb]; exact d0) (Nat.le_refl _) (Nat.le_refl _)
  generalize hT1 : (T.setVm vm₁).pushCell { cls := cX, slots := kX.instanceTypes.map defaultValue, vm := .none } = T1 at X₁ st1
  have hcat : (Value.ref T.heap.size).category = 1 := rfl
  have hcellA : T1.heap[T.heap.size]? = some (freshCell cX kX) := by rw [← hT1]; exact State.heap_pushCell_size _ _
  have d3' : decode c.code (pc + 3) = .ok (.dup, 1) := by rw [hb]; exact d3
  have d4' : decode c.code (pc + 4) = .ok (.ldc_w is, 3) := by rw [hb]; exact d4
  have hstr' : vk_R own is text sa s' := vk_R.warm hW0 hstr
  obtain ⟨U, hsteps, hrun, hend, hW, hsame, ce, hce, hO⟩ := X₁.ctorThrowS hexec htr (own := own) (cls := cls) (names := names) (ic := ic) hown' hcls hnames h (fun x hx => nomatch hx) hfX hkX hcellA (by rw [hhp, hT]; exact Nat.le_refl _) (msg := .ref sa) rfl
    (g := { method := m, pc := pc + 7, locals := ls, stack := .ref sa :: .ref T.heap.size :: .ref T.heap.size :: rest, locked := none }) rfl hsize rfl rfl (rest := rest) rfl
    (by rw [hb]; exact d7) (by rw [hb]; exact d10) hout hRframes (by simp only [List.map_cons, List.sum_cons, hcat]; omega) hlocks
  obtain ⟨f1, f2⟩ := vx_frame hsame
  rw [hhp] at f1 f2
  have hWs : s.WarmedH U.vm := State.WarmedH.trans hW0 hW
  have hcl : s.vm.findClass cls = some ce.cls := by
    have h9 := hO.cls
    rw [hvm] at h9
    exact h9
  have hall : s.sameButNew ({ U with vm := s.vm } : State) locs mc ms := by
    subst hA
    obtain ⟨e1, e2⟩ := hsame
    rw [State.setFrames_setFrames] at e1
    have h2 : (T.setVm s.vm).sameButNew ({ U with vm := s.vm } : State) [] (0 + 1) (0 + 6) := ⟨e1, e2⟩
    have h3 := X.same.trans h2
    rw [List.append_nil] at h3
    exact h3.mono hc hs
  refine ⟨U, ?_, .threw T.heap.size, hrun, hend, Or.inr ⟨T.heap.size, rfl, cls, ce, locs, hx U hWs.alike (by rw [← hT]; exact (Array.getElem?_eq_some_iff.mp hce).1) (fun q hq => f2 q hq (fun z hz => nomatch hz)), hce, hO.vm, hcl, hWs, hall, hf⟩⟩
  refine st1 _ ?_
  show Steps p.tables e below (T1.setTop { method := m, pc := pc + 3, locals := ls, stack := .ref T.heap.size :: rest, locked := none }) _
  jvm_step X₁.here [X₁.here.top, hexec, d3', Value.category]
  exact X₁.ldcStringW hexec (own := own) (text := text) (index := is) (a := sa) hown' hstr'.1 hstr'.2
    (g := { method := m, pc := pc + 4, locals := ls, stack := .ref T.heap.size :: .ref T.heap.size :: rest, locked := none }) rfl d4' _ hsteps
end Ends
section Bodies
variable {l : Launch}
theorem vx_ofW {y : MethodName} {ws ws' : List Cond} {rm : Room} {Pc : Array Value → State → Prop} {Qc : Array Value → State → Outcome → State → Prop} {XC : String → State → State → Prop} {mc ms : Nat} {free : Addr → Prop} {cc : ByteArray} {maxL : Nat} {ret : Option FieldType}
    (hy : plainName y.cls = true) (hw : ws = Cond.code y cc maxL ret :: ws')
    (body : ∀ p e s m args below meth c s₁, BodyLoose p l y (headSpec ws rm) cc maxL ret e s m args below meth c s₁ → c.maxLocals = maxL → (∀ x ∈ c.exceptionTable.toList, False) → Pc args s →
      W p l e (headSpec ws rm).room s m args below meth c s.heap [] 0 0 (vx_MQ below Qc XC args s mc ms free) (entryFrame m args maxL)) : vx_Met l y ws rm Pc Qc XC mc ms free := by
  refine MetFree.of_bodyS (code := cc) (maxLocals := maxL) (ret := ret) hy ?_ ?_
  · intro args s m h hn
    obtain ⟨meth, c, h1, h2, h3, h4, h5, h6, -, -⟩ := Cond.code_spec hn (atoms_spec (ws := ws) h _ (by rw [hw]; exact List.mem_cons_self))
    exact ⟨meth, c, h1, h2, h3, h4, h5, h6⟩
  · intro p e s m args below meth c s₁ B hml hP _
    have hh0 : s₁.heap = s.heap := by rw [B.state]; rfl
    have ht : ∀ x ∈ c.exceptionTable.toList, False := by
      obtain ⟨meth9, c9, h1, h2, -, -, -, -, h7, -⟩ := Cond.code_spec B.named (atoms_spec (ws := ws) B.pre _ (by rw [hw]; exact List.mem_cons_self))
      cases Option.some.inj (h1.symm.trans B.method)
      cases Option.some.inj (h2.symm.trans (Stand.of_body B).code)
      intro x hx
      rw [Array.isEmpty_iff.mp h7] at hx
      cases hx
    obtain ⟨t, a1, o, b1, b2, b3⟩ := body p e s m args below meth c s₁ B hml ht hP s₁ hh0 (Stand.of_body B)
    exact ⟨t, o, a1, b1, b2, b3⟩
/-- the table of a body with handlers -/
theorem vx_table {p : Program} {x y : MethodName} {S : Spec} {cc bytes : ByteArray} {maxL maxL' : Nat} {ret ret' : Option FieldType} {e : Env} {s s₁ : State} {m : MethodId} {args : Array Value} {below : List Frame} {meth : Method} {c : Code} {hh : List (Nat × Nat × Nat × Nat)}
    (B : BodyLoose p l y S cc maxL ret e s m args below meth c s₁) (h : (Cond.codeWith y bytes maxL' ret' hh).before args s = true) : c.exceptionTable.toList = tableOf hh := by
  obtain ⟨m9, meth9, c9, hn9, h1, h2, -, -, h6, -⟩ := Cond.codeWith_spec h
  cases Option.some.inj (hn9.symm.trans B.named)
  cases Option.some.inj (h1.symm.trans B.method)
  cases Option.some.inj (h2.symm.trans (Stand.of_body B).code)
  rw [← h6, table_eq]
end Bodies
end VXA
/-! ===== END ===== -/
/-! ===== BEGIN a static call of a method with an exception table ===== -/
section VXS
variable {p : Program} {l : Launch} {e : Env} {R : Room} {s : State} {m : MethodId} {args : Array Value} {below : List Frame} {meth : Method} {c : Code} {T : State} {H : Heap} {locs : List Loc} {cells slots : Nat}
abbrev vx_CSW (R : Room) (s : State) (args : Array Value) (own : String) (index : Nat) (y : MethodName) (bytes : ByteArray) (maxL : Nat) (ret : Option FieldType) (hh : List (Nat × Nat × Nat × Nat)) (ws : List Cond) (rm : Room) (mc ms n : Nat) : Prop :=
  (rm.cells = mc ∧ rm.slots = ms ∧ rm.frames + 1 ≤ R.frames ∧ 8 + (maxL + 11) + rm.locals ≤ R.locals ∧ (∀ w ∈ ws, ∀ (a' : Array Value) (U : State), s.WarmedH U.vm → w.before a' U = true) ∧ Cond.codeWith y bytes maxL ret hh ∈ ws) ∧
  (Cond.codeWith y bytes maxL ret hh).before args s = true ∧ (Cond.initialized y.cls).before args s = true ∧ (y.cls ≠ "java/lang/invoke/MethodHandle" ∧ y.cls ≠ "java/lang/invoke/VarHandle") ∧
  (∀ sig, parseMethodDescriptor y.desc = some sig → n = sig.parameters.length) ∧ (Cond.methodLink own index y).before args s = true ∧ (Cond.static y).before args s = true
theorem vx_cwSW {own : String} {index maxL mc ms : Nat} {y : MethodName} {bytes : ByteArray} {ret : Option FieldType} {hh : List (Nat × Nat × Nat × Nat)} {Ts ws ws' : List Cond} {rm : Room} (n : Nat) (ht : ∀ w ∈ Ts, w.before args s = true) (hT : GoodIn Ts (va_wsS own index y ws)) (hw : ws = Cond.codeWith y bytes maxL ret hh :: ws') (hrc : rm.cells = mc) (hrs : rm.slots = ms)
    (hd : y.cls ≠ "java/lang/invoke/MethodHandle" ∧ y.cls ≠ "java/lang/invoke/VarHandle" ∧ (parseMethodDescriptor y.desc).map (fun d => d.parameters.length) = some n) (hR : rm.frames + 1 ≤ R.frames ∧ 8 + (maxL + 11) + rm.locals ≤ R.locals) :
    vx_CSW R s args own index y bytes maxL ret hh ws rm mc ms n := by
  have ok : ∀ w ∈ va_wsS own index y ws, w.before args s = true := fun w h => ht w (hT w h).1
  have hG : GoodIn Ts ws := fun w h => hT w (by unfold va_wsS; exact List.mem_append_right _ h)
  have hc : Cond.codeWith y bytes maxL ret hh ∈ ws := by rw [hw]; exact List.mem_cons_self
  refine ⟨⟨hrc, hrs, hR.1, hR.2, pay_in ht hG, hc⟩, ht _ (hG _ hc).1, ok _ (by simp [va_wsS]), ⟨hd.1, hd.2.1⟩, fun sig h => ?_, ok _ (by simp [va_wsS]), ok _ (by simp [va_wsS])⟩
  have h2 := hd.2.2
  rw [h] at h2
  exact (Option.some.inj h2).symm
theorem vx_callSW (X : Stand p l e R s m args below meth c T locs cells slots) (hexec : p.tables.exec = Jvm.exec) {own : String} {index : Nat} {y : MethodName} {bytes : ByteArray} {maxL : Nat} {ret : Option FieldType} {hh : List (Nat × Nat × Nat × Nat)}
    (hown : s.vm.findClass own = some m.cls) (hlink : (Cond.methodLink own index y).before args s = true) (hstat : (Cond.static y).before args s = true) (hinit : (Cond.initialized y.cls).before args s = true)
    (hcode : (Cond.codeWith y bytes maxL ret hh).before args s = true) (hy : y.cls ≠ "java/lang/invoke/MethodHandle" ∧ y.cls ≠ "java/lang/invoke/VarHandle")
    {W9 : Nat} {Pre : Pt → Array Value → Prop} {Post : Pt → Array Value → Option Value → Pt → Prop} (hK : Back l R p e below s args y 3 W9 Pre Post)
    {g : JFrame} (hg : g.method = m) (hsize : g.locals.size = c.maxLocals) {argsL rest : List Value} (hlen : ∀ sig, parseMethodDescriptor y.desc = some sig → argsL.length = sig.parameters.length)
    (hstack : g.stack = argsL.reverse ++ rest) (hW : 2 * g.monitorRoom + (rest.map fun v => v.category).sum ≤ W9) (hdg : decode c.code g.pc = .ok (.invokestatic index, 3))
    (hpre : ∀ vm₁, s.WarmedH vm₁ → Pre ⟨T.setVm vm₁, locs, cells, slots⟩ argsL.toArray) :
    ∃ (v : Option Value) (vm₁ : Vm) (B : Pt), s.WarmedH vm₁ ∧ Stand p l e R s m args below meth c B.U B.locs B.cells B.slots ∧ Post ⟨T.setVm vm₁, locs, cells, slots⟩ argsL.toArray v B ∧
      ∀ target, Steps p.tables e below (B.U.setTop { g with pc := g.pc + 3, stack := v.toList ++ rest }) target → Steps p.tables e below (T.setTop g) target := by
  obtain ⟨mk, methM, cM, hnamed, hmethM, -, -, -, -, -, -, hsigM⟩ := Cond.codeWith_spec hcode
  have hstatic : methM.isStatic = true := Cond.static_spec hnamed hmethM hstat
  obtain ⟨kP, hkP, -⟩ := className_of_methodNamed hnamed
  have hinitP : kP.init = .initialized := Cond.initialized_spec (findClass_of_methodNamed hnamed) hkP hinit
  obtain ⟨vm₁, X₁, hstep₁⟩ := X.invokestatic hexec hown hlink hnamed hmethM hstatic hkP hinitP hy (g := g) hg (argsL := argsL) (rest := rest) (hlen _ hsigM) hstack hdg
  obtain ⟨v, B, X', hpost, hsteps⟩ := hK m meth c ⟨T.setVm vm₁, locs, cells, slots⟩ { g with stack := rest } (.invokestatic index) mk argsL.toArray X₁ hg hsize hdg hW (X₁.named hnamed) (hpre vm₁ X₁.warmed)
  exact ⟨v, vm₁, B, X₁.warmed, X', hpost, fun target h => hstep₁ _ fun acts => by rw [doInvoke_state]; exact hsteps.trans h⟩
theorem vx_runSW {y : MethodName} {bytes cc : ByteArray} {maxL nL mc ms n index : Nat} {ret : Option FieldType} {hh : List (Nat × Nat × Nat × Nat)} {ws : List Cond} {rm : Room} {Pc : Array Value → State → Prop} {Qc : Array Value → State → Outcome → State → Prop} {free : Addr → Prop} {Ts : List Cond} {own : String} {As rest : List Value} {g : JFrame}
    (S : CallFix p m c cc nL s args Ts own) (hM : Met l y ws rm Pc Qc mc ms free) (cw : vx_CSW R s args own index y bytes maxL ret hh ws rm mc ms n) (hp : PreS s H Pc As)
    (hg : g.method = m) (hn : As.length = n) (hsize : g.locals.size = nL) (hstack : g.stack = As.reverse ++ rest) (hW : 2 * g.monitorRoom + (rest.map fun v => v.category).sum ≤ 8) (hdg : decode cc g.pc = .ok (.invokestatic index, 3)) (hf : cells + mc ≤ R.cells ∧ slots + ms ≤ R.slots) :
    va_Run p l e R s m args below meth c H locs cells slots mc ms g rest (Qc As.toArray) (free) := by
  obtain ⟨⟨hrc, hrs, hfr, hlo, hws, hcw⟩, hcode, hini, hy, hlen, hl, hstt⟩ := cw
  have hK : Back l R p e below s args y 3 8 (PreOf R mc ms Pc) (PostOf Qc mc ms free) := va_backW (hh := hh) (bytes := bytes) (maxL := maxL) (ret := ret) hM hp.1 hrc hrs hfr hlo hws hcw (fun a' U hW => word_at hW (Or.inl (by first | rfl | simp [Cond.onTables, Cond.keeps, Cond.steady])) hini)
  obtain ⟨hx, hb, hml, ho, -⟩ := S
  intro T hT X
  obtain ⟨v, vm₁, ⟨U', l2, c2, s2⟩, hW₁, X', ⟨g', mk, t, L, e1, e2, hq, h1, hL, h2, h3⟩, st⟩ := vx_callSW X hx (hh := hh) (bytes := bytes) (maxL := maxL) (ret := ret) ho hl hstt hini hcode hy hK hg (hsize.trans hml.symm) (argsL := As) (rest := rest) (fun sig h => hn.trans (hlen sig h)) hstack hW (by rw [hb]; exact hdg)
    (fun vm₁ hW₁ => ⟨hf.1, hf.2, hp.2 (T.setVm vm₁) hT hW₁⟩)
  dsimp only [Pt.U, Pt.locs, Pt.cells, Pt.slots] at X' e1 e2 h1 h2 h3 st
  subst h1; subst h2; subst h3
  exact ⟨v, (T.setVm vm₁).calling g' mk As.toArray, t, U', L, hT, X', hL, e1, e2, hq, st⟩
/-- not caught here, past rows that name other classes: it goes on to the caller -/
theorem vx_outP {p : Program} {l : Launch} {e : Env} {R : Room} {s : State} {m : MethodId} {args : Array Value} {below : List Frame} {meth : Method} {c : Code} {H : Heap} {locs : List Loc} {cells slots : Nat} {free : Addr → Prop} {ls : Array Slot} {rest : List Value} {Qc : Array Value → State → Outcome → State → Prop} {XC : String → State → State → Prop}
    {pc : Nat} {own E : String} {ce : Cell} {q : Addr} {mc ms : Nat} (hown : s.vm.findClass own = some m.cls) (hlocks : meth.locks = false)
    (hpass : ∀ z ∈ c.exceptionTable.toList, covers z pc = false ∨ (z.catchType ≠ 0 ∧ ∃ nm : String, (Cond.classLink own z.catchType nm).before args s = true ∧ va_Nc E nm s)) (hcell : H[q]? = some ce) (hv : ce.vm = .none) (hcl : s.vm.findClass E = some ce.cls)
    (hx : ∀ t : State, t.heap = H → s.vm.Alike t.vm → XC E s t) (hf : ∀ z ∈ locs, free z.base) (hc : cells ≤ mc) (hs : slots ≤ ms) :
    vx_W p l e R s m args below meth c H locs cells slots (vx_MQ below Qc XC args s mc ms free) (F0 m pc ls rest) q := by
  intro T hT X
  have hpl : e.platform.magicAccessors = ({} : Platform).magicAccessors := by rw [X.admits.platform]
  obtain ⟨vm', hW', X', st⟩ := X.outThrough hlocks q (g := F0 m pc ls rest) rfl rfl rfl (cell := ce) (by rw [hT]; exact hcell) (by rw [hv]; rfl)
    (by obtain ⟨k9, h9, -⟩ := Vm.findClass_spec hcl; exact ⟨k9, h9⟩) (fun z hz => by
      rcases hpass z hz with h | ⟨hz0, nm, hl1, hn1⟩
      · exact Or.inl h
      · obtain ⟨c6, hc6, hcl6⟩ := Cond.classLink_spec hown hl1 e.platform hpl
        obtain ⟨a8, b8, h1, h2, h3⟩ := hn1
        cases Option.some.inj (h1.symm.trans hcl)
        cases Option.some.inj (h2.symm.trans hc6)
        exact Or.inr ⟨hz0, _, hcl6, h3⟩)
  obtain ⟨g₀, hfr⟩ := X'.frames_eq
  have hcell9 : ((T.setVm vm').setFrames (.throwing q :: below)).heap[q]? = some ce := by
    show T.heap[q]? = some ce
    rw [hT]; exact hcell
  have hend : Ended ((T.setVm vm').setFrames (.throwing q :: below)) below (.threw q) := State.frames_setFrames _ (State.cur_lt_of_frames hfr)
  refine ⟨(T.setVm vm').setFrames (.throwing q :: below), ?_, .threw q, X'.here.running, hend, Or.inr ⟨q, rfl, E, ce, locs, hx _ hT (X'.ends _).1.alike, hcell9, hv, hcl, (X'.ends _).1, (X'.ends _).2.mono hc hs, hf⟩⟩
  rw [X.pushThrowing_eq]
  exact st
/-- a thing of a world lies in the heap -/
theorem vx_lt {D : va_G} {cl : List vw_C} {ws : va_W} {H1 : Heap} (h : va_P D cl ws H1) {k : Nat} {q : Nat × va_E} (hk : ws[k]? = some q) : q.1 < H1.size := (h k q hk).lt
end VXS
/-! ===== END ===== -/
/-! ===== BEGIN methods with a table of their own: called by a name, returning or throwing ===== -/
section VXH
/-! vx_backW, vx_callVX, vx_callSX, vx_callVW, vx_runVW, vx_runVX, vx_runSX, vx_ofWH follow the same proofs as their sisters above (Free/Laws.lean, Shelf42/LK1.lean); vx_outP calls Shelf42/NT130.lean (outThrough). -/
section
variable {l : Launch} {R : Room} {p : Program} {e : Env} {below : List Frame} {s : State} {sargs : Array Value} {y : MethodName} {len W9 : Nat}
theorem vx_backW {ws : List Cond} {rm : Room} {Pc : Array Value → State → Prop} {Qc : Array Value → State → Outcome → State → Prop} {XC : String → State → State → Prop} {mc ms : Nat} {free : Addr → Prop} {bytes : ByteArray} {maxL : Nat} {ret : Option FieldType} {hh : List (Nat × Nat × Nat × Nat)}
    (hM : vx_Met l y ws rm Pc Qc XC mc ms free) (hblind : FrameBlind Pc) (hrc : rm.cells = mc) (hrs : rm.slots = ms)
    (hframes : rm.frames + 1 ≤ R.frames) (hlocals : W9 + (maxL + 11) + rm.locals ≤ R.locals)
    (hws : ∀ w ∈ ws, ∀ a' U, s.WarmedH U.vm → w.before a' U = true) (hcode : Cond.codeWith y bytes maxL ret hh ∈ ws) (hinit : ∀ a' U, s.WarmedH U.vm → (Cond.initialized y.cls).before a' U = true) :
    vx_Back l R p e below s sargs y len W9 (PreOf R mc ms Pc) (PostOf Qc mc ms free) (vx_Post XC mc ms free) := by
  intro m meth c A g ig mk a X hg hsize hdg hW hn hp
  have h1 : (headSpec ws rm).pre.before a A.U = true := atoms_intro fun w hw => hws w hw _ _ X.warmed
  have h2 : (Cond.codeWith y bytes maxL ret hh).before a A.U = true := hws _ hcode _ _ X.warmed
  have h3 : (Cond.initialized y.cls).before a A.U = true := hinit _ _ X.warmed
  have h4 : A.cells + (headSpec ws rm).room.cells ≤ R.cells := by rw [show (headSpec ws rm).room.cells = mc from hrc]; exact hp.1
  have h5 : A.slots + (headSpec ws rm).room.slots ≤ R.slots := by rw [show (headSpec ws rm).room.slots = ms from hrs]; exact hp.2.1
  have hPc : Pc a (A.U.calling g mk a) := hblind _ _ _ _ hp.2.2
  obtain ⟨U, Ls, c0, s0⟩ := A
  dsimp only [Pt.U, Pt.locs, Pt.cells, Pt.slots] at h1 h2 h3 h4 h5 X hn hPc ⊢
  obtain ⟨m9, methY, cY, hn9, hmY, hcY, -, hlY, -⟩ := Cond.codeWith_spec h2
  cases Option.some.inj (hn9.symm.trans hn)
  obtain ⟨kY, hkY, -⟩ := className_of_methodNamed hn
  have hinitY : kY.init = .initialized := Cond.initialized_spec (findClass_of_methodNamed hn) hkY h3
  have h : At U g.method c below := by rw [hg]; exact X.here
  have hlocals9 : W9 + (maxL + 11) + (headSpec ws rm).room.locals ≤ R.locals := hlocals
  have happ : (headSpec ws rm).appliesLoose y e.platform (U.calling g mk a) = true :=
    Spec.appliesLoose_calling (g := g) h hdg hn hkY hinitY
      (X.room_calling (g := g) (R' := (headSpec ws rm).room) hsize hmY hcY hframes (by rw [hlY]; omega) h4 h5) h1
  obtain ⟨mid, hmid⟩ := h.above
  have hfr : (U.setTop g).frames = (.java g :: mid) ++ below := by rw [State.frames_setTop' g h.top, hmid]; rfl
  obtain ⟨o, s₂, hsteps, -, hend, hq⟩ := Steps.callFree hM p X.admits X.cas X.clock (acts := []) hfr happ hPc trivial
  have hq' : vx_Q Qc XC mc ms free a (U.calling g mk a) o s₂ := hq
  rw [State.frames_setTop' g h.top] at hend
  obtain ⟨g₀, hg0⟩ := Option.isSome_iff_exists.mp h.top
  obtain ⟨r, hr⟩ := State.topJava?_eq_some.mp hg0
  have hr' : (({ U with heap := s₂.heap, slotsUsed := s₂.slotsUsed } : State).setVm s₂.vm).frames = .java g₀ :: r := hr
  rcases hq' with ⟨hqc, L, hfe, hL⟩ | ⟨q, rfl, E, ce, L, hx, hce, hcv, hcl, hW₂, hsm, hL⟩
  · obtain ⟨⟨v, rfl⟩, hW₂, e2, q2, q3, q4, q5, q6⟩ := id hfe
    have e3 : s₂ = ({ (U.calling g mk a).setFrames s₂.frames with heap := s₂.heap, slotsUsed := s₂.slotsUsed } : State).setVm s₂.vm := by
      have : s₂ = ({ s₂ with vm := (U.calling g mk a).vm } : State).setVm s₂.vm := rfl
      rw [e2] at this
      exact this
    obtain ⟨c₂, i₂, len₂, hc₂, hd₂, hf₂⟩ := hend
    have hW' : U.WarmedH s₂.vm := hW₂
    have hcc : c₂ = c := by
      have h1 : s₂.code? g.method = U.code? g.method := by
        rw [State.code?_eq, State.code?_eq, hW'.alike.method?]
      exact Option.some.inj (hc₂.symm.trans (h1.trans h.code))
    subst hcc
    have hlen : len₂ = len := by rw [hdg] at hd₂; cases hd₂; rfl
    subst hlen
    have hs₂ : s₂ = (({ U with heap := s₂.heap, slotsUsed := s₂.slotsUsed } : State).setVm s₂.vm).setTop { g with pc := g.pc + len₂, stack := v.toList ++ g.stack } := by
      refine e3.trans ?_
      rw [hf₂, State.calling_eq h.top, State.setFrames_setFrames, State.setTop_of_frames _ hr', hr]
      rfl
    have hsame : U.sameButNew ({ U with heap := s₂.heap, slotsUsed := s₂.slotsUsed } : State) L mc ms := by
      refine ⟨?_, q2, q3, q4, q5, q6⟩
      obtain ⟨t, ht, -⟩ := State.frames_cons hr
      show ({ U with heap := s₂.heap, slotsUsed := s₂.slotsUsed } : State) = { U.setFrames U.frames with heap := s₂.heap, slotsUsed := s₂.slotsUsed }
      rw [State.setFrames_self ht]
    subst hg
    refine Or.inl ⟨v, ⟨(({ U with heap := s₂.heap, slotsUsed := s₂.slotsUsed } : State).setVm s₂.vm), Ls ++ L, c0 + mc, s0 + ms⟩,
      ⟨X.admits, X.cas, X.clock, X.frames, X.room, X.hears, X.method, X.code, (X.here.setHeapUsed s₂.heap s₂.slotsUsed).setVm hW'.alike, X.tail, State.WarmedH.trans X.warmed hW', X.limits, X.bytes, X.same.trans (hsame.setVm s.vm)⟩,
      ⟨g, mk, s₂, L, rfl, rfl, hqc, rfl, hL, rfl, rfl⟩, ?_⟩
    show Steps p.tables e below _ ((({ U with heap := s₂.heap, slotsUsed := s₂.slotsUsed } : State).setVm s₂.vm).setTop { g with pc := g.pc + len₂, stack := v.toList ++ g.stack })
    rw [← hs₂]
    exact hsteps
  · obtain ⟨e2, q2, q3, q4, q5, q6⟩ := id hsm
    have e3 : s₂ = ({ (U.calling g mk a).setFrames s₂.frames with heap := s₂.heap, slotsUsed := s₂.slotsUsed } : State).setVm s₂.vm := by
      have : s₂ = ({ s₂ with vm := (U.calling g mk a).vm } : State).setVm s₂.vm := rfl
      rw [e2] at this
      exact this
    have hf₂ : s₂.frames = .throwing q :: .java g :: U.frames.tail := hend
    have hW' : U.WarmedH s₂.vm := hW₂
    have hs₂ : s₂ = ((({ U with heap := s₂.heap, slotsUsed := s₂.slotsUsed } : State).setVm s₂.vm).setTop g).pushFrame (.throwing q) := by
      refine e3.trans ?_
      rw [hf₂, State.calling_eq h.top, State.setFrames_setFrames, State.pushFrame, State.frames_setTop _ hr', State.setTop_of_frames _ hr', State.setFrames_setFrames, hr]
      rfl
    have hsame : U.sameButNew ({ U with heap := s₂.heap, slotsUsed := s₂.slotsUsed } : State) L mc ms := by
      refine ⟨?_, q2, q3, q4, q5, q6⟩
      obtain ⟨t, ht, -⟩ := State.frames_cons hr
      show ({ U with heap := s₂.heap, slotsUsed := s₂.slotsUsed } : State) = { U.setFrames U.frames with heap := s₂.heap, slotsUsed := s₂.slotsUsed }
      rw [State.setFrames_self ht]
    subst hg
    refine Or.inr ⟨q, ⟨(({ U with heap := s₂.heap, slotsUsed := s₂.slotsUsed } : State).setVm s₂.vm), Ls ++ L, c0 + mc, s0 + ms⟩,
      ⟨X.admits, X.cas, X.clock, X.frames, X.room, X.hears, X.method, X.code, (X.here.setHeapUsed s₂.heap s₂.slotsUsed).setVm hW'.alike, X.tail, State.WarmedH.trans X.warmed hW', X.limits, X.bytes, X.same.trans (hsame.setVm s.vm)⟩,
      ⟨g, mk, s₂, L, E, ce, rfl, rfl, hx, hce, hcv, hcl, rfl, hL, rfl, rfl⟩, ?_⟩
    show Steps p.tables e below _ (((({ U with heap := s₂.heap, slotsUsed := s₂.slotsUsed } : State).setVm s₂.vm).setTop g).pushFrame (.throwing q))
    rw [← hs₂]
    exact hsteps
end
variable {p : Program} {l : Launch} {e : Env} {R : Room} {s : State} {m : MethodId} {args : Array Value} {below : List Frame} {meth : Method} {c : Code} {T : State} {H : Heap} {locs : List Loc} {cells slots : Nat}
theorem vx_callVX (X : Stand p l e R s m args below meth c T locs cells slots) (hexec : p.tables.exec = Jvm.exec) {own C : String} {index : Nat} {y : MethodName} {bytes : ByteArray} {maxL : Nat} {ret : Option FieldType} {hh : List (Nat × Nat × Nat × Nat)}
    (hown : s.vm.findClass own = some m.cls) (hlink : (Cond.methodLink own index y).before args s = true) (hinst : (Cond.instanceMethod y).before args s = true) (hsel : (Cond.selects C y y).before args s = true)
    (hcode : (Cond.codeWith y bytes maxL ret hh).before args s = true) (hy : y.cls ≠ "java/lang/invoke/MethodHandle" ∧ y.cls ≠ "java/lang/invoke/VarHandle")
    {W9 : Nat} {Pre : Pt → Array Value → Prop} {Post : Pt → Array Value → Option Value → Pt → Prop} {PostX : Pt → Array Value → Addr → Pt → Prop} (hK : vx_Back l R p e below s args y 3 W9 Pre Post PostX)
    {b : Addr} {cellB : Cell} (hcell : T.heap[b]? = some cellB) (hobj : cellB.vm.isStatics = false) (hcls : s.vm.findClass C = some cellB.cls)
    {g : JFrame} (hg : g.method = m) (hsize : g.locals.size = c.maxLocals) {argsL rest : List Value} (hlen : ∀ sig, parseMethodDescriptor y.desc = some sig → argsL.length = sig.parameters.length)
    (hstack : g.stack = argsL.reverse ++ .ref b :: rest) (hW : 2 * g.monitorRoom + (rest.map fun v => v.category).sum ≤ W9) (hdg : decode c.code g.pc = .ok (.invokevirtual index, 3))
    (hpre : ∀ vm₁, s.WarmedH vm₁ → Pre ⟨T.setVm vm₁, locs, cells, slots⟩ (Value.ref b :: argsL).toArray) :
    (∃ (v : Option Value) (vm₁ : Vm) (B : Pt), s.WarmedH vm₁ ∧ Stand p l e R s m args below meth c B.U B.locs B.cells B.slots ∧ Post ⟨T.setVm vm₁, locs, cells, slots⟩ (Value.ref b :: argsL).toArray v B ∧
      ∀ target, Steps p.tables e below (B.U.setTop { g with pc := g.pc + 3, stack := v.toList ++ rest }) target → Steps p.tables e below (T.setTop g) target) ∨
    (∃ (q : Addr) (vm₁ : Vm) (B : Pt), s.WarmedH vm₁ ∧ Stand p l e R s m args below meth c B.U B.locs B.cells B.slots ∧ PostX ⟨T.setVm vm₁, locs, cells, slots⟩ (Value.ref b :: argsL).toArray q B ∧
      Steps p.tables e below (T.setTop g) ((B.U.setTop { g with stack := rest }).pushFrame (.throwing q))) := by
  obtain ⟨mk, methM, hnamed, hmethM, hstM, habM⟩ := Cond.instanceMethod_spec hinst
  obtain ⟨m8, methM', cM, hn8, hmethM', -, -, -, -, -, -, hsigM⟩ := Cond.codeWith_spec hcode
  cases Option.some.inj (hn8.symm.trans hnamed)
  cases hmethM.symm.trans hmethM'
  obtain ⟨c2, r2, m2, q1, q2, q3, q4, kP, hkP, hkPi⟩ := Cond.selects_spec hsel
  cases hcls.symm.trans q1
  cases (State.methodFound?_of_named hnamed hy).symm.trans q2
  cases hnamed.symm.trans q3
  have hselP : selectMethod e.platform s.vm cellB.cls mk = .method mk := by rw [Launch.admits_selectMethod X.admits]; exact q4
  obtain ⟨vm₁, X₁, hstep₁⟩ := X.invokevirtual hexec hown hlink hnamed hmethM hstM hkP hkPi hy (a := b) (cell := cellB) hcell
    (fun z h => by rw [h] at hobj; cases hobj) hselP hmethM habM hkP hkPi (g := g) hg (argsL := argsL) (rest := rest) (hlen _ hsigM) hstack hdg
  rcases hK m meth c ⟨T.setVm vm₁, locs, cells, slots⟩ { g with stack := rest } (.invokevirtual index) mk (Value.ref b :: argsL).toArray X₁ hg hsize hdg hW (X₁.named hnamed) (hpre vm₁ X₁.warmed) with ⟨v, B, X', hpost, hsteps⟩ | ⟨q, B, X', hpost, hsteps⟩
  · exact Or.inl ⟨v, vm₁, B, X₁.warmed, X', hpost, fun target h => hstep₁ _ fun acts => by rw [doInvoke_state]; exact hsteps.trans h⟩
  · exact Or.inr ⟨q, vm₁, B, X₁.warmed, X', hpost, hstep₁ _ fun acts => by rw [doInvoke_state]; exact hsteps⟩
theorem vx_callSX (X : Stand p l e R s m args below meth c T locs cells slots) (hexec : p.tables.exec = Jvm.exec) {own : String} {index : Nat} {y : MethodName} {bytes : ByteArray} {maxL : Nat} {ret : Option FieldType} {hh : List (Nat × Nat × Nat × Nat)}
    (hown : s.vm.findClass own = some m.cls) (hlink : (Cond.methodLink own index y).before args s = true) (hstat : (Cond.static y).before args s = true) (hinit : (Cond.initialized y.cls).before args s = true)
    (hcode : (Cond.codeWith y bytes maxL ret hh).before args s = true) (hy : y.cls ≠ "java/lang/invoke/MethodHandle" ∧ y.cls ≠ "java/lang/invoke/VarHandle")
    {W9 : Nat} {Pre : Pt → Array Value → Prop} {Post : Pt → Array Value → Option Value → Pt → Prop} {PostX : Pt → Array Value → Addr → Pt → Prop} (hK : vx_Back l R p e below s args y 3 W9 Pre Post PostX)
    {g : JFrame} (hg : g.method = m) (hsize : g.locals.size = c.maxLocals) {argsL rest : List Value} (hlen : ∀ sig, parseMethodDescriptor y.desc = some sig → argsL.length = sig.parameters.length)
    (hstack : g.stack = argsL.reverse ++ rest) (hW : 2 * g.monitorRoom + (rest.map fun v => v.category).sum ≤ W9) (hdg : decode c.code g.pc = .ok (.invokestatic index, 3))
    (hpre : ∀ vm₁, s.WarmedH vm₁ → Pre ⟨T.setVm vm₁, locs, cells, slots⟩ argsL.toArray) :
    (∃ (v : Option Value) (vm₁ : Vm) (B : Pt), s.WarmedH vm₁ ∧ Stand p l e R s m args below meth c B.U B.locs B.cells B.slots ∧ Post ⟨T.setVm vm₁, locs, cells, slots⟩ argsL.toArray v B ∧
      ∀ target, Steps p.tables e below (B.U.setTop { g with pc := g.pc + 3, stack := v.toList ++ rest }) target → Steps p.tables e below (T.setTop g) target) ∨
    (∃ (q : Addr) (vm₁ : Vm) (B : Pt), s.WarmedH vm₁ ∧ Stand p l e R s m args below meth c B.U B.locs B.cells B.slots ∧ PostX ⟨T.setVm vm₁, locs, cells, slots⟩ argsL.toArray q B ∧
      Steps p.tables e below (T.setTop g) ((B.U.setTop { g with stack := rest }).pushFrame (.throwing q))) := by
  obtain ⟨mk, methM, cM, hnamed, hmethM, -, -, -, -, -, -, hsigM⟩ := Cond.codeWith_spec hcode
  have hstatic : methM.isStatic = true := Cond.static_spec hnamed hmethM hstat
  obtain ⟨kP, hkP, -⟩ := className_of_methodNamed hnamed
  have hinitP : kP.init = .initialized := Cond.initialized_spec (findClass_of_methodNamed hnamed) hkP hinit
  obtain ⟨vm₁, X₁, hstep₁⟩ := X.invokestatic hexec hown hlink hnamed hmethM hstatic hkP hinitP hy (g := g) hg (argsL := argsL) (rest := rest) (hlen _ hsigM) hstack hdg
  rcases hK m meth c ⟨T.setVm vm₁, locs, cells, slots⟩ { g with stack := rest } (.invokestatic index) mk argsL.toArray X₁ hg hsize hdg hW (X₁.named hnamed) (hpre vm₁ X₁.warmed) with ⟨v, B, X', hpost, hsteps⟩ | ⟨q, B, X', hpost, hsteps⟩
  · exact Or.inl ⟨v, vm₁, B, X₁.warmed, X', hpost, fun target h => hstep₁ _ fun acts => by rw [doInvoke_state]; exact hsteps.trans h⟩
  · exact Or.inr ⟨q, vm₁, B, X₁.warmed, X', hpost, hstep₁ _ fun acts => by rw [doInvoke_state]; exact hsteps⟩
theorem vx_callVW (X : Stand p l e R s m args below meth c T locs cells slots) (hexec : p.tables.exec = Jvm.exec) {own C : String} {index : Nat} {y : MethodName} {bytes : ByteArray} {maxL : Nat} {ret : Option FieldType} {hh : List (Nat × Nat × Nat × Nat)}
    (hown : s.vm.findClass own = some m.cls) (hlink : (Cond.methodLink own index y).before args s = true) (hinst : (Cond.instanceMethod y).before args s = true) (hsel : (Cond.selects C y y).before args s = true)
    (hcode : (Cond.codeWith y bytes maxL ret hh).before args s = true) (hy : y.cls ≠ "java/lang/invoke/MethodHandle" ∧ y.cls ≠ "java/lang/invoke/VarHandle")
    {W9 : Nat} {Pre : Pt → Array Value → Prop} {Post : Pt → Array Value → Option Value → Pt → Prop} (hK : Back l R p e below s args y 3 W9 Pre Post)
    {b : Addr} {cellB : Cell} (hcell : T.heap[b]? = some cellB) (hobj : cellB.vm.isStatics = false) (hcls : s.vm.findClass C = some cellB.cls)
    {g : JFrame} (hg : g.method = m) (hsize : g.locals.size = c.maxLocals) {argsL rest : List Value} (hlen : ∀ sig, parseMethodDescriptor y.desc = some sig → argsL.length = sig.parameters.length)
    (hstack : g.stack = argsL.reverse ++ .ref b :: rest) (hW : 2 * g.monitorRoom + (rest.map fun v => v.category).sum ≤ W9) (hdg : decode c.code g.pc = .ok (.invokevirtual index, 3))
    (hpre : ∀ vm₁, s.WarmedH vm₁ → Pre ⟨T.setVm vm₁, locs, cells, slots⟩ (Value.ref b :: argsL).toArray) :
    ∃ (v : Option Value) (vm₁ : Vm) (B : Pt), s.WarmedH vm₁ ∧ Stand p l e R s m args below meth c B.U B.locs B.cells B.slots ∧ Post ⟨T.setVm vm₁, locs, cells, slots⟩ (Value.ref b :: argsL).toArray v B ∧
      ∀ target, Steps p.tables e below (B.U.setTop { g with pc := g.pc + 3, stack := v.toList ++ rest }) target → Steps p.tables e below (T.setTop g) target := by
  obtain ⟨mk, methM, hnamed, hmethM, hstM, habM⟩ := Cond.instanceMethod_spec hinst
  obtain ⟨m8, methM', cM, hn8, hmethM', -, -, -, -, -, -, hsigM⟩ := Cond.codeWith_spec hcode
  cases Option.some.inj (hn8.symm.trans hnamed)
  cases hmethM.symm.trans hmethM'
  obtain ⟨c2, r2, m2, q1, q2, q3, q4, kP, hkP, hkPi⟩ := Cond.selects_spec hsel
  cases hcls.symm.trans q1
  cases (State.methodFound?_of_named hnamed hy).symm.trans q2
  cases hnamed.symm.trans q3
  have hselP : selectMethod e.platform s.vm cellB.cls mk = .method mk := by rw [Launch.admits_selectMethod X.admits]; exact q4
  obtain ⟨vm₁, X₁, hstep₁⟩ := X.invokevirtual hexec hown hlink hnamed hmethM hstM hkP hkPi hy (a := b) (cell := cellB) hcell
    (fun z h => by rw [h] at hobj; cases hobj) hselP hmethM habM hkP hkPi (g := g) hg (argsL := argsL) (rest := rest) (hlen _ hsigM) hstack hdg
  obtain ⟨v, B, X', hpost, hsteps⟩ := hK m meth c ⟨T.setVm vm₁, locs, cells, slots⟩ { g with stack := rest } (.invokevirtual index) mk (Value.ref b :: argsL).toArray X₁ hg hsize hdg hW (X₁.named hnamed) (hpre vm₁ X₁.warmed)
  exact ⟨v, vm₁, B, X₁.warmed, X', hpost, fun target h => hstep₁ _ fun acts => by rw [doInvoke_state]; exact hsteps.trans h⟩
abbrev vx_CVW (R : Room) (s : State) (args : Array Value) (own C : String) (index : Nat) (y : MethodName) (bytes : ByteArray) (maxL : Nat) (ret : Option FieldType) (hh : List (Nat × Nat × Nat × Nat)) (ws : List Cond) (rm : Room) (mc ms n : Nat) : Prop :=
  (rm.cells = mc ∧ rm.slots = ms ∧ rm.frames + 1 ≤ R.frames ∧ 8 + (maxL + 11) + rm.locals ≤ R.locals ∧ (∀ w ∈ ws, ∀ (a' : Array Value) (U : State), s.WarmedH U.vm → w.before a' U = true) ∧ Cond.codeWith y bytes maxL ret hh ∈ ws) ∧
  (Cond.codeWith y bytes maxL ret hh).before args s = true ∧ (Cond.initialized y.cls).before args s = true ∧ (y.cls ≠ "java/lang/invoke/MethodHandle" ∧ y.cls ≠ "java/lang/invoke/VarHandle") ∧
  (∀ sig, parseMethodDescriptor y.desc = some sig → n = sig.parameters.length) ∧ (Cond.methodLink own index y).before args s = true ∧ (Cond.instanceMethod y).before args s = true ∧ (Cond.selects C y y).before args s = true
theorem vx_cwVW {own C : String} {index maxL mc ms : Nat} {y : MethodName} {bytes : ByteArray} {ret : Option FieldType} {hh : List (Nat × Nat × Nat × Nat)} {Ts ws ws' : List Cond} {rm : Room} (n : Nat) (ht : ∀ w ∈ Ts, w.before args s = true) (hT : GoodIn Ts (wsV own index C y ws)) (hw : ws = Cond.codeWith y bytes maxL ret hh :: ws') (hrc : rm.cells = mc) (hrs : rm.slots = ms)
    (hd : y.cls = C ∧ y.cls ≠ "java/lang/invoke/MethodHandle" ∧ y.cls ≠ "java/lang/invoke/VarHandle" ∧ (parseMethodDescriptor y.desc).map (fun d => d.parameters.length) = some n) (hR : rm.frames + 1 ≤ R.frames ∧ 8 + (maxL + 11) + rm.locals ≤ R.locals) :
    vx_CVW R s args own C index y bytes maxL ret hh ws rm mc ms n := by
  obtain ⟨hC, hd⟩ := hd
  subst hC
  have ok : ∀ w ∈ wsV own index y.cls y ws, w.before args s = true := fun w h => ht w (hT w h).1
  have hG : GoodIn Ts ws := fun w h => hT w (by unfold wsV; exact List.mem_append_right _ h)
  have hc : Cond.codeWith y bytes maxL ret hh ∈ ws := by rw [hw]; exact List.mem_cons_self
  refine ⟨⟨hrc, hrs, hR.1, hR.2, pay_in ht hG, hc⟩, ht _ (hG _ hc).1, ok _ (by simp [wsV]), ⟨hd.1, hd.2.1⟩, fun sig h => ?_, ok _ (by simp [wsV]), ok _ (by simp [wsV]), ok _ (by simp [wsV])⟩
  have h2 := hd.2.2
  rw [h] at h2
  exact (Option.some.inj h2).symm
theorem vx_runVW {y : MethodName} {bytes cc : ByteArray} {maxL nL mc ms n index : Nat} {ret : Option FieldType} {hh : List (Nat × Nat × Nat × Nat)} {ws : List Cond} {rm : Room} {Pc : Array Value → State → Prop} {Qc : Array Value → State → Outcome → State → Prop} {free : Addr → Prop} {Ts : List Cond} {own C : String} {b : Addr} {As rest : List Value} {g : JFrame}
    (S : CallFix p m c cc nL s args Ts own) (hM : Met l y ws rm Pc Qc mc ms free) (cw : vx_CVW R s args own C index y bytes maxL ret hh ws rm mc ms n) (hp : PreV s H C b Pc As)
    (hg : g.method = m) (hn : As.length = n) (hsize : g.locals.size = nL) (hstack : g.stack = As.reverse ++ .ref b :: rest) (hW : 2 * g.monitorRoom + (rest.map fun v => v.category).sum ≤ 8) (hdg : decode cc g.pc = .ok (.invokevirtual index, 3)) (hf : cells + mc ≤ R.cells ∧ slots + ms ≤ R.slots) :
    va_Run p l e R s m args below meth c H locs cells slots mc ms g rest (Qc (Value.ref b :: As).toArray) free := by
  obtain ⟨⟨hrc, hrs, hfr, hlo, hws, hcw⟩, hcode, hini, hy, hlen, hl, hin, hse⟩ := cw
  have hK : Back l R p e below s args y 3 8 (PreOf R mc ms Pc) (PostOf Qc mc ms free) := va_backW (hh := hh) (bytes := bytes) (maxL := maxL) (ret := ret) hM hp.1 hrc hrs hfr hlo hws hcw (fun a' U hW => word_at hW (Or.inl (by first | rfl | simp [Cond.onTables, Cond.keeps, Cond.steady])) hini)
  obtain ⟨hx, hb, hml, ho, -⟩ := S
  obtain ⟨-, ⟨cellB, hcB, hoB, hclB⟩, hPc⟩ := hp
  intro T hT X
  obtain ⟨v, vm₁, ⟨U', l2, c2, s2⟩, hW₁, X', ⟨g', mk, t, L, e1, e2, hq, h1, hL, h2, h3⟩, st⟩ := vx_callVW X hx (C := C) (hh := hh) (bytes := bytes) (maxL := maxL) (ret := ret) ho hl hin hse hcode hy hK (by rw [hT]; exact hcB) hoB hclB hg (hsize.trans hml.symm) (argsL := As) (rest := rest) (fun sig h => hn.trans (hlen sig h)) hstack hW (by rw [hb]; exact hdg)
    (fun vm₁ hW₁ => ⟨hf.1, hf.2, hPc (T.setVm vm₁) hT hW₁⟩)
  dsimp only [Pt.U, Pt.locs, Pt.cells, Pt.slots] at X' e1 e2 h1 h2 h3 st
  subst h1; subst h2; subst h3
  exact ⟨v, (T.setVm vm₁).calling g' mk (Value.ref b :: As).toArray, t, U', L, hT, X', hL, e1, e2, hq, st⟩
section
variable {y : MethodName} {bytes cc : ByteArray} {maxL nL mc ms n index : Nat} {ret : Option FieldType} {ws : List Cond} {rm : Room} {Pc : Array Value → State → Prop} {Qc : Array Value → State → Outcome → State → Prop} {XC : String → State → State → Prop} {free : Addr → Prop} {Ts : List Cond} {own C : String} {b : Addr} {As rest : List Value} {g : JFrame}
theorem vx_runVX {hh : List (Nat × Nat × Nat × Nat)} (S : CallFix p m c cc nL s args Ts own) (hM : vx_Met l y ws rm Pc Qc XC mc ms free) (cw : vx_CVW R s args own C index y bytes maxL ret hh ws rm mc ms n) (hp : PreV s H C b Pc As)
    (hg : g.method = m) (hn : As.length = n) (hsize : g.locals.size = nL) (hstack : g.stack = As.reverse ++ .ref b :: rest) (hW : 2 * g.monitorRoom + (rest.map fun v => v.category).sum ≤ 8) (hdg : decode cc g.pc = .ok (.invokevirtual index, 3)) (hf : cells + mc ≤ R.cells ∧ slots + ms ≤ R.slots) :
    vx_Run p l e R s m args below meth c H locs cells slots mc ms g rest (Qc (Value.ref b :: As).toArray) XC free := by
  obtain ⟨⟨hrc, hrs, hfr, hlo, hws, hcw⟩, hcode, hini, hy, hlen, hl, hin, hse⟩ := cw
  have hK : vx_Back l R p e below s args y 3 8 (PreOf R mc ms Pc) (PostOf Qc mc ms free) (vx_Post XC mc ms free) := vx_backW (hh := hh) (bytes := bytes) (maxL := maxL) (ret := ret) hM hp.1 hrc hrs hfr hlo hws hcw (fun a' U hW => word_at hW (Or.inl (by first | rfl | simp [Cond.onTables, Cond.keeps, Cond.steady])) hini)
  obtain ⟨hx, hb, hml, ho, -⟩ := S
  obtain ⟨-, ⟨cellB, hcB, hoB, hclB⟩, hPc⟩ := hp
  intro T hT X
  rcases vx_callVX X hx (C := C) (hh := hh) (bytes := bytes) (maxL := maxL) (ret := ret) ho hl hin hse hcode hy hK (by rw [hT]; exact hcB) hoB hclB hg (hsize.trans hml.symm) (argsL := As) (rest := rest) (fun sig h => hn.trans (hlen sig h)) hstack hW (by rw [hb]; exact hdg)
    (fun vm₁ hW₁ => ⟨hf.1, hf.2, hPc (T.setVm vm₁) hT hW₁⟩) with ⟨v, vm₁, ⟨U', l2, c2, s2⟩, hW₁, X', ⟨g', mk, t, L, e1, e2, hq, h1, hL, h2, h3⟩, st⟩ | ⟨q, vm₁, ⟨U', l2, c2, s2⟩, hW₁, X', ⟨g', mk, t, L, E, ce, e1, e2, hq, hce, hcv, hcl, h1, hL, h2, h3⟩, st⟩
  · dsimp only [Pt.U, Pt.locs, Pt.cells, Pt.slots] at X' e1 e2 h1 h2 h3 st
    subst h1; subst h2; subst h3
    exact Or.inl ⟨v, (T.setVm vm₁).calling g' mk (Value.ref b :: As).toArray, t, U', L, hT, X', hL, e1, e2, hq, st⟩
  · dsimp only [Pt.U, Pt.locs, Pt.cells, Pt.slots] at X' e1 e2 h1 h2 h3 st hcl
    subst h1; subst h2; subst h3
    exact Or.inr ⟨q, (T.setVm vm₁).calling g' mk (Value.ref b :: As).toArray, t, U', L, E, ce, hT, X', hL, e1, e2, hq, hce, hcv, vx_cls hW₁ hcl, st⟩
theorem vx_runSX {hh : List (Nat × Nat × Nat × Nat)} (S : CallFix p m c cc nL s args Ts own) (hM : vx_Met l y ws rm Pc Qc XC mc ms free) (cw : vx_CSW R s args own index y bytes maxL ret hh ws rm mc ms n) (hp : PreS s H Pc As)
    (hg : g.method = m) (hn : As.length = n) (hsize : g.locals.size = nL) (hstack : g.stack = As.reverse ++ rest) (hW : 2 * g.monitorRoom + (rest.map fun v => v.category).sum ≤ 8) (hdg : decode cc g.pc = .ok (.invokestatic index, 3)) (hf : cells + mc ≤ R.cells ∧ slots + ms ≤ R.slots) :
    vx_Run p l e R s m args below meth c H locs cells slots mc ms g rest (Qc As.toArray) XC free := by
  obtain ⟨⟨hrc, hrs, hfr, hlo, hws, hcw⟩, hcode, hini, hy, hlen, hl, hstt⟩ := cw
  have hK : vx_Back l R p e below s args y 3 8 (PreOf R mc ms Pc) (PostOf Qc mc ms free) (vx_Post XC mc ms free) := vx_backW (hh := hh) (bytes := bytes) (maxL := maxL) (ret := ret) hM hp.1 hrc hrs hfr hlo hws hcw (fun a' U hW => word_at hW (Or.inl (by first | rfl | simp [Cond.onTables, Cond.keeps, Cond.steady])) hini)
  obtain ⟨hx, hb, hml, ho, -⟩ := S
  intro T hT X
  rcases vx_callSX X hx (hh := hh) (bytes := bytes) (maxL := maxL) (ret := ret) ho hl hstt hini hcode hy hK hg (hsize.trans hml.symm) (argsL := As) (rest := rest) (fun sig h => hn.trans (hlen sig h)) hstack hW (by rw [hb]; exact hdg)
    (fun vm₁ hW₁ => ⟨hf.1, hf.2, hp.2 (T.setVm vm₁) hT hW₁⟩) with ⟨v, vm₁, ⟨U', l2, c2, s2⟩, hW₁, X', ⟨g', mk, t, L, e1, e2, hq, h1, hL, h2, h3⟩, st⟩ | ⟨q, vm₁, ⟨U', l2, c2, s2⟩, hW₁, X', ⟨g', mk, t, L, E, ce, e1, e2, hq, hce, hcv, hcl, h1, hL, h2, h3⟩, st⟩
  · dsimp only [Pt.U, Pt.locs, Pt.cells, Pt.slots] at X' e1 e2 h1 h2 h3 st
    subst h1; subst h2; subst h3
    exact Or.inl ⟨v, (T.setVm vm₁).calling g' mk As.toArray, t, U', L, hT, X', hL, e1, e2, hq, st⟩
  · dsimp only [Pt.U, Pt.locs, Pt.cells, Pt.slots] at X' e1 e2 h1 h2 h3 st hcl
    subst h1; subst h2; subst h3
    exact Or.inr ⟨q, (T.setVm vm₁).calling g' mk As.toArray, t, U', L, E, ce, hT, X', hL, e1, e2, hq, hce, hcv, vx_cls hW₁ hcl, st⟩
end
end VXH
theorem vx_ofWH {l : Launch} {y : MethodName} {ws ws' : List Cond} {rm : Room} {Pc : Array Value → State → Prop} {Qc : Array Value → State → Outcome → State → Prop} {XC : String → State → State → Prop} {mc ms : Nat} {free : Addr → Prop} {cc : ByteArray} {maxL : Nat} {ret : Option FieldType} {hh : List (Nat × Nat × Nat × Nat)}
    (hy : plainName y.cls = true) (hw : ws = Cond.codeWith y cc maxL ret hh :: ws')
    (body : ∀ p e s m args below meth c s₁, BodyLoose p l y (headSpec ws rm) cc maxL ret e s m args below meth c s₁ → c.maxLocals = maxL → Pc args s →
      W p l e (headSpec ws rm).room s m args below meth c s.heap [] 0 0 (vx_MQ below Qc XC args s mc ms free) (entryFrame m args maxL)) : vx_Met l y ws rm Pc Qc XC mc ms free := by
  refine MetFree.of_bodyS (code := cc) (maxLocals := maxL) (ret := ret) hy ?_ ?_
  · intro args s m h hn
    obtain ⟨m9, meth, c, hn9, h1, h2, h3, h4, -, h5, h6, -⟩ := Cond.codeWith_spec (atoms_spec (ws := ws) h _ (by rw [hw]; exact List.mem_cons_self))
    cases hn.symm.trans hn9
    exact ⟨meth, c, h1, h2, h3, h4, h5, h6⟩
  · intro p e s m args below meth c s₁ B hml hP _
    have hh0 : s₁.heap = s.heap := by rw [B.state]; rfl
    obtain ⟨t, a1, o, b1, b2, b3⟩ := body p e s m args below meth c s₁ B hml hP s₁ hh0 (Stand.of_body B)
    exact ⟨t, o, a1, b1, b2, b3⟩
/-! ===== END ===== -/
end
section
def RX0 : String := "Songlinebench$Acts"
def TX0 : u_T := fun k => match k with
  | 0 => ("Songlinebench$Acts", "month", "[I", true)
  | 1 => ("Songlinebench$Acts", "places", "[I", true)
  | 2 => ("Songlinebench$Acts", "rights", "[I", true)
  | 3 => ("Songlinebench$Acts", "does", "[I", true)
  | 4 => ("Songlinebench$Acts", "last", "[I", true)
  | 5 => ("Songlinebench$Acts", "givenUp", "[I", true)
  | 6 => ("Songlinebench$Acts", "isVoid", "[Z", true)
  | 7 => ("Songlinebench$Acts", "isPaid", "[Z", true)
  | _ => ("Songlinebench$Acts", "count", "I", false)
def tyX0 : Nat → FieldType := fun k => match k with
  | 0 => .array .int
  | 1 => .array .int
  | 2 => .array .int
  | 3 => .array .int
  | 4 => .array .int
  | 5 => .array .int
  | 6 => .array .boolean
  | 7 => .array .boolean
  | _ => .int
abbrev wsX00 : List Cond := u_ws RX0 TX0 9
theorem nmX0 : ∀ a, a < 9 → ∀ b, b < 9 → a ≠ b → (TX0 a).2.1 ≠ (TX0 b).2.1 := by decide +kernel
theorem tyX0_ok : ∀ k, k < 9 → parseFieldDescriptor (TX0 k).2.2.1 = some (tyX0 k) := by decide +kernel
abbrev cX0_init : ByteArray := prog_2_method_1_code
def yX0_init : MethodName := ⟨RX0, "<init>", "()V"⟩
abbrev cX0_isAct : ByteArray := prog_2_method_2_code
def yX0_isAct : MethodName := ⟨RX0, "isAct", "(I)Z"⟩
abbrev cX0_add : ByteArray := prog_2_method_3_code
def yX0_add : MethodName := ⟨RX0, "add", "(IIIII)I"⟩
abbrev cX0_counts : ByteArray := prog_2_method_4_code
def yX0_counts : MethodName := ⟨RX0, "counts", "(II)Z"⟩
abbrev cX0_takes : ByteArray := prog_2_method_5_code
def yX0_takes : MethodName := ⟨RX0, "takes", "(III)Z"⟩
abbrev cX0_leftAt : ByteArray := prog_2_method_6_code
def yX0_leftAt : MethodName := ⟨RX0, "leftAt", "(II)I"⟩
abbrev cX0_isTaken : ByteArray := prog_2_method_7_code
def yX0_isTaken : MethodName := ⟨RX0, "isTaken", "(III)Z"⟩
abbrev cX0_yieldingAt : ByteArray := prog_2_method_8_code
def yX0_yieldingAt : MethodName := ⟨RX0, "yieldingAt", "(II)I"⟩
abbrev cX0_stillExtinguishes : ByteArray := prog_2_method_9_code
def yX0_stillExtinguishes : MethodName := ⟨RX0, "stillExtinguishes", "(I)Z"⟩
abbrev cX0_isPayable : ByteArray := prog_2_method_10_code
def yX0_isPayable : MethodName := ⟨RX0, "isPayable", "(I)Z"⟩
abbrev cX0_takenBy : ByteArray := prog_2_method_11_code
def yX0_takenBy : MethodName := ⟨RX0, "takenBy", "(II)I"⟩
abbrev cX0_isAhead : ByteArray := prog_2_method_12_code
def yX0_isAhead : MethodName := ⟨RX0, "isAhead", "(II)Z"⟩
def RX1 : String := "Songlinebench$Claims"
def TX1 : u_T := fun k => match k with
  | 0 => ("Songlinebench$Claims", "people", "[I", true)
  | 1 => ("Songlinebench$Claims", "places", "[I", true)
  | 2 => ("Songlinebench$Claims", "rights", "[I", true)
  | 3 => ("Songlinebench$Claims", "state", "[I", true)
  | 4 => ("Songlinebench$Claims", "granted", "[I", true)
  | 5 => ("Songlinebench$Claims", "month", "[I", true)
  | 6 => ("Songlinebench$Claims", "voters", "[I", true)
  | 7 => ("Songlinebench$Claims", "yes", "[I", true)
  | _ => ("Songlinebench$Claims", "count", "I", false)
def tyX1 : Nat → FieldType := fun k => match k with
  | 0 => .array .int
  | 1 => .array .int
  | 2 => .array .int
  | 3 => .array .int
  | 4 => .array .int
  | 5 => .array .int
  | 6 => .array .int
  | 7 => .array .int
  | _ => .int
abbrev wsX10 : List Cond := u_ws RX1 TX1 9
theorem nmX1 : ∀ a, a < 9 → ∀ b, b < 9 → a ≠ b → (TX1 a).2.1 ≠ (TX1 b).2.1 := by decide +kernel
theorem tyX1_ok : ∀ k, k < 9 → parseFieldDescriptor (TX1 k).2.2.1 = some (tyX1 k) := by decide +kernel
abbrev cX1_init : ByteArray := prog_3_method_1_code
def yX1_init : MethodName := ⟨RX1, "<init>", "()V"⟩
abbrev cX1_isClaim : ByteArray := prog_3_method_2_code
def yX1_isClaim : MethodName := ⟨RX1, "isClaim", "(I)Z"⟩
abbrev cX1_add : ByteArray := prog_3_method_3_code
def yX1_add : MethodName := ⟨RX1, "add", "(III)I"⟩
abbrev cX1_grant : ByteArray := prog_3_method_4_code
def yX1_grant : MethodName := ⟨RX1, "grant", "(II)V"⟩
abbrev cX1_isBarred : ByteArray := prog_3_method_5_code
def yX1_isBarred : MethodName := ⟨RX1, "isBarred", "(I)Z"⟩
abbrev cX1_stands : ByteArray := prog_3_method_6_code
def yX1_stands : MethodName := ⟨RX1, "stands", "(I)Z"⟩
abbrev cX1_rivalsOf : ByteArray := prog_3_method_7_code
def yX1_rivalsOf : MethodName := ⟨RX1, "rivalsOf", "(I)I"⟩
abbrev cX1_isHeld : ByteArray := prog_3_method_8_code
def yX1_isHeld : MethodName := ⟨RX1, "isHeld", "(II)Z"⟩
abbrev cX1_holdersOf : ByteArray := prog_3_method_9_code
def yX1_holdersOf : MethodName := ⟨RX1, "holdersOf", "(I)I"⟩
abbrev cX1_grantedTo : ByteArray := prog_3_method_10_code
def yX1_grantedTo : MethodName := ⟨RX1, "grantedTo", "(II)I"⟩
abbrev cX1_partiesAt : ByteArray := prog_3_method_11_code
def yX1_partiesAt : MethodName := ⟨RX1, "partiesAt", "(II)I"⟩
def RX2 : String := "Songlinebench$Kin"
def TX2 : u_T := fun k => match k with
  | 0 => ("Songlinebench$Kin", "rule", "[I", true)
  | 1 => ("Songlinebench$Kin", "roots", "[I", true)
  | 2 => ("Songlinebench$Kin", "mother", "[I", true)
  | 3 => ("Songlinebench$Kin", "father", "[I", true)
  | 4 => ("Songlinebench$Kin", "adopter", "[I", true)
  | 5 => ("Songlinebench$Kin", "rank", "[I", true)
  | 6 => ("Songlinebench$Kin", "peoples", "I", false)
  | _ => ("Songlinebench$Kin", "persons", "I", false)
def tyX2 : Nat → FieldType := fun k => match k with
  | 0 => .array .int
  | 1 => .array .int
  | 2 => .array .int
  | 3 => .array .int
  | 4 => .array .int
  | 5 => .array .int
  | 6 => .int
  | _ => .int
abbrev wsX20 : List Cond := u_ws RX2 TX2 8
theorem nmX2 : ∀ a, a < 8 → ∀ b, b < 8 → a ≠ b → (TX2 a).2.1 ≠ (TX2 b).2.1 := by decide +kernel
theorem tyX2_ok : ∀ k, k < 8 → parseFieldDescriptor (TX2 k).2.2.1 = some (tyX2 k) := by decide +kernel
abbrev cX2_init : ByteArray := prog_4_method_1_code
def yX2_init : MethodName := ⟨RX2, "<init>", "()V"⟩
abbrev cX2_isPeople : ByteArray := prog_4_method_2_code
def yX2_isPeople : MethodName := ⟨RX2, "isPeople", "(I)Z"⟩
abbrev cX2_isPerson : ByteArray := prog_4_method_3_code
def yX2_isPerson : MethodName := ⟨RX2, "isPerson", "(I)Z"⟩
abbrev cX2_isPersonOrNone : ByteArray := prog_4_method_4_code
def yX2_isPersonOrNone : MethodName := ⟨RX2, "isPersonOrNone", "(I)Z"⟩
abbrev cX2_addPeople : ByteArray := prog_4_method_5_code
def yX2_addPeople : MethodName := ⟨RX2, "addPeople", "(I)I"⟩
abbrev cX2_addPerson : ByteArray := prog_4_method_6_code
def yX2_addPerson : MethodName := ⟨RX2, "addPerson", "(II)I"⟩
abbrev cX2_membersOf : ByteArray := prog_4_method_7_code
def yX2_membersOf : MethodName := ⟨RX2, "membersOf", "(I)I"⟩
abbrev cX2_withNext : ByteArray := prog_4_method_8_code
def yX2_withNext : MethodName := ⟨RX2, "withNext", "(II)I"⟩
abbrev cX2_isNext : ByteArray := prog_4_method_9_code
def yX2_isNext : MethodName := ⟨RX2, "isNext", "(III)Z"⟩
def RX3 : String := "Songlinebench$Marks"
def TX3 : u_T := fun k => match k with
  | 0 => ("Songlinebench$Marks", "people", "[I", true)
  | 1 => ("Songlinebench$Marks", "place", "[I", true)
  | 2 => ("Songlinebench$Marks", "month", "[I", true)
  | 3 => ("Songlinebench$Marks", "weight", "[I", true)
  | 4 => ("Songlinebench$Marks", "explained", "[I", true)
  | 5 => ("Songlinebench$Marks", "from", "[I", true)
  | 6 => ("Songlinebench$Marks", "to", "[I", true)
  | _ => ("Songlinebench$Marks", "count", "I", false)
def tyX3 : Nat → FieldType := fun k => match k with
  | 0 => .array .int
  | 1 => .array .int
  | 2 => .array .int
  | 3 => .array .int
  | 4 => .array .int
  | 5 => .array .int
  | 6 => .array .int
  | _ => .int
abbrev wsX30 : List Cond := u_ws RX3 TX3 8
theorem nmX3 : ∀ a, a < 8 → ∀ b, b < 8 → a ≠ b → (TX3 a).2.1 ≠ (TX3 b).2.1 := by decide +kernel
theorem tyX3_ok : ∀ k, k < 8 → parseFieldDescriptor (TX3 k).2.2.1 = some (tyX3 k) := by decide +kernel
abbrev cX3_init : ByteArray := prog_5_method_1_code
def yX3_init : MethodName := ⟨RX3, "<init>", "()V"⟩
abbrev cX3_add : ByteArray := prog_5_method_2_code
def yX3_add : MethodName := ⟨RX3, "add", "(IIII)I"⟩
abbrev cX3_addExplained : ByteArray := prog_5_method_3_code
def yX3_addExplained : MethodName := ⟨RX3, "addExplained", "(III)I"⟩
abbrev cX3_prove : ByteArray := prog_5_method_4_code
def yX3_prove : MethodName := ⟨RX3, "prove", "(III)Z"⟩
abbrev cX3_isGap : ByteArray := prog_5_method_5_code
def yX3_isGap : MethodName := ⟨RX3, "isGap", "(III)Z"⟩
abbrev cX3_isExplained : ByteArray := prog_5_method_6_code
def yX3_isExplained : MethodName := ⟨RX3, "isExplained", "(III)Z"⟩
def RX4 : String := "Songlinebench$Notices"
def TX4 : u_T := fun k => match k with
  | 0 => ("Songlinebench$Notices", "month", "[I", true)
  | 1 => ("Songlinebench$Notices", "places", "[I", true)
  | 2 => ("Songlinebench$Notices", "rights", "[I", true)
  | 3 => ("Songlinebench$Notices", "does", "[I", true)
  | 4 => ("Songlinebench$Notices", "last", "[I", true)
  | 5 => ("Songlinebench$Notices", "state", "[I", true)
  | 6 => ("Songlinebench$Notices", "agreed", "[I", true)
  | 7 => ("Songlinebench$Notices", "objected", "[I", true)
  | 8 => ("Songlinebench$Notices", "act", "[I", true)
  | 9 => ("Songlinebench$Notices", "isQuick", "[Z", true)
  | 10 => ("Songlinebench$Notices", "isAllowed", "[Z", true)
  | _ => ("Songlinebench$Notices", "count", "I", false)
def tyX4 : Nat → FieldType := fun k => match k with
  | 0 => .array .int
  | 1 => .array .int
  | 2 => .array .int
  | 3 => .array .int
  | 4 => .array .int
  | 5 => .array .int
  | 6 => .array .int
  | 7 => .array .int
  | 8 => .array .int
  | 9 => .array .boolean
  | 10 => .array .boolean
  | _ => .int
abbrev wsX40 : List Cond := u_ws RX4 TX4 12
theorem nmX4 : ∀ a, a < 12 → ∀ b, b < 12 → a ≠ b → (TX4 a).2.1 ≠ (TX4 b).2.1 := by decide +kernel
theorem tyX4_ok : ∀ k, k < 12 → parseFieldDescriptor (TX4 k).2.2.1 = some (tyX4 k) := by decide +kernel
abbrev cX4_init : ByteArray := prog_6_method_1_code
def yX4_init : MethodName := ⟨RX4, "<init>", "()V"⟩
abbrev cX4_isNotice : ByteArray := prog_6_method_2_code
def yX4_isNotice : MethodName := ⟨RX4, "isNotice", "(I)Z"⟩
abbrev cX4_add : ByteArray := prog_6_method_3_code
def yX4_add : MethodName := ⟨RX4, "add", "(IZ)I"⟩
abbrev cX4_tell : ByteArray := prog_6_method_4_code
def yX4_tell : MethodName := ⟨RX4, "tell", "(IIIII)V"⟩
abbrev cX4_isOpenToObject : ByteArray := prog_6_method_5_code
def yX4_isOpenToObject : MethodName := ⟨RX4, "isOpenToObject", "(II)Z"⟩
abbrev cX4_isOpenToDecide : ByteArray := prog_6_method_6_code
def yX4_isOpenToDecide : MethodName := ⟨RX4, "isOpenToDecide", "(II)Z"⟩
abbrev cX4_isRipe : ByteArray := prog_6_method_7_code
def yX4_isRipe : MethodName := ⟨RX4, "isRipe", "(III)Z"⟩
abbrev cX4_isPast : ByteArray := prog_6_method_8_code
def yX4_isPast : MethodName := ⟨RX4, "isPast", "(II)Z"⟩
def RX5 : String := "Songlinebench$Stories"
def TX5 : u_T := fun k => match k with
  | 0 => ("Songlinebench$Stories", "people", "[I", true)
  | 1 => ("Songlinebench$Stories", "parts", "[I", true)
  | 2 => ("Songlinebench$Stories", "place", "[I", true)
  | 3 => ("Songlinebench$Stories", "level", "[I", true)
  | _ => ("Songlinebench$Stories", "count", "I", false)
def tyX5 : Nat → FieldType := fun k => match k with
  | 0 => .array .int
  | 1 => .array .int
  | 2 => .array .int
  | 3 => .array .int
  | _ => .int
abbrev wsX50 : List Cond := u_ws RX5 TX5 5
theorem nmX5 : ∀ a, a < 5 → ∀ b, b < 5 → a ≠ b → (TX5 a).2.1 ≠ (TX5 b).2.1 := by decide +kernel
theorem tyX5_ok : ∀ k, k < 5 → parseFieldDescriptor (TX5 k).2.2.1 = some (tyX5 k) := by decide +kernel
abbrev cX5_init : ByteArray := prog_7_method_1_code
def yX5_init : MethodName := ⟨RX5, "<init>", "()V"⟩
abbrev cX5_isStory : ByteArray := prog_7_method_2_code
def yX5_isStory : MethodName := ⟨RX5, "isStory", "(I)Z"⟩
abbrev cX5_isPart : ByteArray := prog_7_method_3_code
def yX5_isPart : MethodName := ⟨RX5, "isPart", "(II)Z"⟩
abbrev cX5_add : ByteArray := prog_7_method_4_code
def yX5_add : MethodName := ⟨RX5, "add", "(I)I"⟩
abbrev cX5_addPart : ByteArray := prog_7_method_5_code
def yX5_addPart : MethodName := ⟨RX5, "addPart", "(III)I"⟩
abbrev cX5_placeUpTo : ByteArray := prog_7_method_6_code
def yX5_placeUpTo : MethodName := ⟨RX5, "placeUpTo", "(III)I"⟩
abbrev cX5_placesUpTo : ByteArray := prog_7_method_7_code
def yX5_placesUpTo : MethodName := ⟨RX5, "placesUpTo", "(II)I"⟩
def RX6 : String := "Songlinebench"
def TX6 : u_T := fun k => match k with
  | 0 => ("Songlinebench", "kin", "LSonglinebench$Kin;", true)
  | 1 => ("Songlinebench", "stories", "LSonglinebench$Stories;", true)
  | 2 => ("Songlinebench", "marks", "LSonglinebench$Marks;", true)
  | 3 => ("Songlinebench", "acts", "LSonglinebench$Acts;", true)
  | 4 => ("Songlinebench", "claims", "LSonglinebench$Claims;", true)
  | 5 => ("Songlinebench", "notices", "LSonglinebench$Notices;", true)
  | 6 => ("Songlinebench", "values", "[I", true)
  | 7 => ("Songlinebench", "sums", "[J", true)
  | _ => ("Songlinebench", "now", "I", false)
def tyX6 : Nat → FieldType := fun k => match k with
  | 0 => .object "Songlinebench$Kin"
  | 1 => .object "Songlinebench$Stories"
  | 2 => .object "Songlinebench$Marks"
  | 3 => .object "Songlinebench$Acts"
  | 4 => .object "Songlinebench$Claims"
  | 5 => .object "Songlinebench$Notices"
  | 6 => .array .int
  | 7 => .array .long
  | _ => .int
abbrev wsX60 : List Cond := u_ws RX6 TX6 9
theorem nmX6 : ∀ a, a < 9 → ∀ b, b < 9 → a ≠ b → (TX6 a).2.1 ≠ (TX6 b).2.1 := by decide +kernel
theorem tyX6_ok : ∀ k, k < 9 → parseFieldDescriptor (TX6 k).2.2.1 = some (tyX6 k) := by decide +kernel
abbrev cX6_init : ByteArray := prog_1_method_1_code
def yX6_init : MethodName := ⟨RX6, "<init>", "()V"⟩
abbrev cX6_people : ByteArray := prog_1_method_2_code
def yX6_people : MethodName := ⟨RX6, "people", "(I)I"⟩
abbrev cX6_person : ByteArray := prog_1_method_3_code
def yX6_person : MethodName := ⟨RX6, "person", "(II)I"⟩
abbrev cX6_root : ByteArray := prog_1_method_4_code
def yX6_root : MethodName := ⟨RX6, "root", "(IIZ)I"⟩
abbrev cX6_adopt : ByteArray := prog_1_method_5_code
def yX6_adopt : MethodName := ⟨RX6, "adopt", "(II)I"⟩
abbrev cX6_raise : ByteArray := prog_1_method_6_code
def yX6_raise : MethodName := ⟨RX6, "raise", "(I)I"⟩
abbrev cX6_members : ByteArray := prog_1_method_7_code
def yX6_members : MethodName := ⟨RX6, "members", "(I)I"⟩
abbrev cX6_story : ByteArray := prog_1_method_8_code
def yX6_story : MethodName := ⟨RX6, "story", "(I)I"⟩
abbrev cX6_part : ByteArray := prog_1_method_9_code
def yX6_part : MethodName := ⟨RX6, "part", "(III)I"⟩
abbrev cX6_hears : ByteArray := prog_1_method_10_code
def yX6_hears : MethodName := ⟨RX6, "hears", "(III)I"⟩
abbrev cX6_told : ByteArray := prog_1_method_11_code
def yX6_told : MethodName := ⟨RX6, "told", "(I)I"⟩
abbrev cX6_levelHeard : ByteArray := prog_1_method_12_code
def yX6_levelHeard : MethodName := ⟨RX6, "levelHeard", "(II)I"⟩
abbrev cX6_mark : ByteArray := prog_1_method_13_code
def yX6_mark : MethodName := ⟨RX6, "mark", "(IIII)I"⟩
abbrev cX6_explain : ByteArray := prog_1_method_14_code
def yX6_explain : MethodName := ⟨RX6, "explain", "(III)I"⟩
abbrev cX6_isProved : ByteArray := prog_1_method_15_code
def yX6_isProved : MethodName := ⟨RX6, "isProved", "(II)Z"⟩
abbrev cX6_act : ByteArray := prog_1_method_16_code
def yX6_act : MethodName := ⟨RX6, "act", "(IIIII)I"⟩
abbrev cX6_voids : ByteArray := prog_1_method_17_code
def yX6_voids : MethodName := ⟨RX6, "voids", "(IZ)Z"⟩
abbrev cX6_giveUp : ByteArray := prog_1_method_18_code
def yX6_giveUp : MethodName := ⟨RX6, "giveUp", "(I)I"⟩
abbrev cX6_left : ByteArray := prog_1_method_19_code
def yX6_left : MethodName := ⟨RX6, "left", "(II)I"⟩
abbrev cX6_leftAnew : ByteArray := prog_1_method_20_code
def yX6_leftAnew : MethodName := ⟨RX6, "leftAnew", "(II)I"⟩
abbrev cX6_claim : ByteArray := prog_1_method_21_code
def yX6_claim : MethodName := ⟨RX6, "claim", "(III)I"⟩
abbrev cX6_vote : ByteArray := prog_1_method_22_code
def yX6_vote : MethodName := ⟨RX6, "vote", "(IIZ)V"⟩
abbrev cX6_register : ByteArray := prog_1_method_23_code
def yX6_register : MethodName := ⟨RX6, "register", "(I)I"⟩
abbrev cX6_determine : ByteArray := prog_1_method_24_code
def yX6_determine : MethodName := ⟨RX6, "determine", "(I)I"⟩
abbrev cX6_revise : ByteArray := prog_1_method_25_code
def yX6_revise : MethodName := ⟨RX6, "revise", "(I)I"⟩
abbrev cX6_ofClaim : ByteArray := prog_1_method_26_code
def yX6_ofClaim : MethodName := ⟨RX6, "ofClaim", "(II)I"⟩
abbrev cX6_holders : ByteArray := prog_1_method_27_code
def yX6_holders : MethodName := ⟨RX6, "holders", "(I)I"⟩
abbrev cX6_may : ByteArray := prog_1_method_28_code
def yX6_may : MethodName := ⟨RX6, "may", "(III)I"⟩
abbrev cX6_firstFailed : ByteArray := prog_1_method_29_code
def yX6_firstFailed : MethodName := ⟨RX6, "firstFailed", "(I)I"⟩
abbrev cX6_isVotedFor : ByteArray := prog_1_method_30_code
def yX6_isVotedFor : MethodName := ⟨RX6, "isVotedFor", "(I)Z"⟩
abbrev cX6_provedOf : ByteArray := prog_1_method_31_code
def yX6_provedOf : MethodName := ⟨RX6, "provedOf", "(I)I"⟩
abbrev cX6_rightsOf : ByteArray := prog_1_method_32_code
def yX6_rightsOf : MethodName := ⟨RX6, "rightsOf", "(II)I"⟩
abbrev cX6_notice : ByteArray := prog_1_method_33_code
def yX6_notice : MethodName := ⟨RX6, "notice", "(IIIIZ)I"⟩
abbrev cX6_agree : ByteArray := prog_1_method_34_code
def yX6_agree : MethodName := ⟨RX6, "agree", "(II)I"⟩
abbrev cX6_object : ByteArray := prog_1_method_35_code
def yX6_object : MethodName := ⟨RX6, "object", "(II)V"⟩
abbrev cX6_decide : ByteArray := prog_1_method_36_code
def yX6_decide : MethodName := ⟨RX6, "decide", "(IZ)I"⟩
abbrev cX6_proceed : ByteArray := prog_1_method_37_code
def yX6_proceed : MethodName := ⟨RX6, "proceed", "(I)I"⟩
abbrev cX6_ofNotice : ByteArray := prog_1_method_38_code
def yX6_ofNotice : MethodName := ⟨RX6, "ofNotice", "(II)I"⟩
abbrev cX6_partiesOf : ByteArray := prog_1_method_39_code
def yX6_partiesOf : MethodName := ⟨RX6, "partiesOf", "(I)I"⟩
abbrev cX6_value : ByteArray := prog_1_method_40_code
def yX6_value : MethodName := ⟨RX6, "value", "(II)I"⟩
abbrev cX6_owed : ByteArray := prog_1_method_41_code
def yX6_owed : MethodName := ⟨RX6, "owed", "(I)J"⟩
abbrev cX6_pay : ByteArray := prog_1_method_42_code
def yX6_pay : MethodName := ⟨RX6, "pay", "(I)J"⟩
abbrev cX6_paid : ByteArray := prog_1_method_43_code
def yX6_paid : MethodName := ⟨RX6, "paid", "(I)J"⟩
abbrev cX6_pass : ByteArray := prog_1_method_44_code
def yX6_pass : MethodName := ⟨RX6, "pass", "(I)I"⟩
abbrev cX6_owedFor : ByteArray := prog_1_method_45_code
def yX6_owedFor : MethodName := ⟨RX6, "owedFor", "(I)J"⟩
abbrev cX6_owedAt : ByteArray := prog_1_method_46_code
def yX6_owedAt : MethodName := ⟨RX6, "owedAt", "(II)J"⟩
abbrev cX6_weightOf : ByteArray := prog_1_method_47_code
def yX6_weightOf : MethodName := ⟨RX6, "weightOf", "(I)I"⟩
abbrev cX6_share : ByteArray := prog_1_method_48_code
def yX6_share : MethodName := ⟨RX6, "share", "(JI)V"⟩
abbrev cX6_isIn : ByteArray := prog_1_method_49_code
def yX6_isIn : MethodName := ⟨RX6, "isIn", "(II)Z"⟩
abbrev cX6_with : ByteArray := prog_1_method_50_code
def yX6_with : MethodName := ⟨RX6, "with", "(IIZ)I"⟩
abbrev cX6_isPlace : ByteArray := prog_1_method_51_code
def yX6_isPlace : MethodName := ⟨RX6, "isPlace", "(I)Z"⟩
abbrev cX6_isMonth : ByteArray := prog_1_method_52_code
def yX6_isMonth : MethodName := ⟨RX6, "isMonth", "(I)Z"⟩
abbrev cX6_isSomePlaces : ByteArray := prog_1_method_53_code
def yX6_isSomePlaces : MethodName := ⟨RX6, "isSomePlaces", "(I)Z"⟩
abbrev cX6_isSomeRights : ByteArray := prog_1_method_54_code
def yX6_isSomeRights : MethodName := ⟨RX6, "isSomeRights", "(I)Z"⟩
abbrev cX6_isDeed : ByteArray := prog_1_method_55_code
def yX6_isDeed : MethodName := ⟨RX6, "isDeed", "(III)Z"⟩
abbrev cX6_isLast : ByteArray := prog_1_method_56_code
def yX6_isLast : MethodName := ⟨RX6, "isLast", "(III)Z"⟩
def RX7 : String := "SonglinebenchModel"
def TX7 : u_T := fun k => match k with
  | _ => ("", "", "", false)
def tyX7 : Nat → FieldType := fun k => match k with
  | _ => .int
abbrev wsX70 : List Cond := u_ws RX7 TX7 0
theorem nmX7 : ∀ a, a < 0 → ∀ b, b < 0 → a ≠ b → (TX7 a).2.1 ≠ (TX7 b).2.1 := by decide +kernel
theorem tyX7_ok : ∀ k, k < 0 → parseFieldDescriptor (TX7 k).2.2.1 = some (tyX7 k) := by decide +kernel
def RJ6 : String := "java/lang/Integer"
def TJ6 : u_T := fun k => match k with
  | _ => ("", "", "", false)
def tyJ6 : Nat → FieldType := fun k => match k with
  | _ => .int
abbrev wsJ60 : List Cond := u_ws RJ6 TJ6 0
theorem nmJ6 : ∀ a, a < 0 → ∀ b, b < 0 → a ≠ b → (TJ6 a).2.1 ≠ (TJ6 b).2.1 := by decide +kernel
theorem tyJ6_ok : ∀ k, k < 0 → parseFieldDescriptor (TJ6 k).2.2.1 = some (tyJ6 k) := by decide +kernel
abbrev cJ6_bitCount_0f7a4 : ByteArray := prog_14_method_49_code
def yJ6_bitCount_0f7a4 : MethodName := ⟨RJ6, "bitCount", "(I)I"⟩
def RJ0 : String := "java/lang/String"
def TJ0 : u_T := fun k => match k with
  | _ => ("", "", "", false)
def tyJ0 : Nat → FieldType := fun k => match k with
  | _ => .int
abbrev wsJ00 : List Cond := u_ws RJ0 TJ0 0
theorem nmJ0 : ∀ a, a < 0 → ∀ b, b < 0 → a ≠ b → (TJ0 a).2.1 ≠ (TJ0 b).2.1 := by decide +kernel
theorem tyJ0_ok : ∀ k, k < 0 → parseFieldDescriptor (TJ0 k).2.2.1 = some (tyJ0 k) := by decide +kernel
def RL : String := "SonglinebenchLaw"
abbrev cL_cell : ByteArray := method_2_code
def yL_cell : MethodName := ⟨RL, "cell", "([II)I"⟩
abbrev cL_low : ByteArray := method_3_code
def yL_low : MethodName := ⟨RL, "low", "(II)I"⟩
abbrev cL_does : ByteArray := method_4_code
def yL_does : MethodName := ⟨RL, "does", "(LSonglinebench;IIII)I"⟩
abbrev cL_early : ByteArray := method_5_code
def yL_early : MethodName := ⟨RL, "early", "(LSonglinebench;IIII)I"⟩
abbrev cL_votes : ByteArray := method_6_code
def yL_votes : MethodName := ⟨RL, "votes", "(LSonglinebench;IIZ)I"⟩
abbrev cL_objects : ByteArray := method_7_code
def yL_objects : MethodName := ⟨RL, "objects", "(LSonglinebench;II)I"⟩
abbrev cL_acted : ByteArray := method_8_code
def yL_acted : MethodName := ⟨RL, "acted", "(LSonglinebench;IIIII)I"⟩
abbrev cL_marked : ByteArray := method_9_code
def yL_marked : MethodName := ⟨RL, "marked", "(LSonglinebench;IIII)I"⟩
abbrev cL_money : ByteArray := method_10_code
def yL_money : MethodName := ⟨RL, "money", "(LSonglinebench;II)J"⟩
abbrev cL_few : ByteArray := method_11_code
def yL_few : MethodName := ⟨RL, "few", "(I)I"⟩
abbrev cL_act : ByteArray := method_12_code
def yL_act : MethodName := ⟨RL, "act", "(LSonglinebench;II)I"⟩
abbrev cL_greater : ByteArray := method_13_code
def yL_greater : MethodName := ⟨RL, "greater", "(II)I"⟩
abbrev cL_areAlike : ByteArray := method_14_code
def yL_areAlike : MethodName := ⟨RL, "areAlike", "(LSonglinebench;LSonglinebench;I)Z"⟩
abbrev cL_count : ByteArray := method_15_code
def yL_count : MethodName := ⟨RL, "count", "(I)I"⟩
abbrev cL_areRights : ByteArray := method_16_code
def yL_areRights : MethodName := ⟨RL, "areRights", "(LSonglinebench;I)Z"⟩
abbrev cL_areClaims : ByteArray := method_17_code
def yL_areClaims : MethodName := ⟨RL, "areClaims", "(LSonglinebench;I)Z"⟩
abbrev cL_isPaid : ByteArray := method_18_code
def yL_isPaid : MethodName := ⟨RL, "isPaid", "(LSonglinebench;LSonglinebench;I)Z"⟩
abbrev cL_isQuiet : ByteArray := method_19_code
def yL_isQuiet : MethodName := ⟨RL, "isQuiet", "(LSonglinebench;II)Z"⟩
abbrev cL_law : ByteArray := code
def yL_law : MethodName := ⟨RL, "law", "([I)Z"⟩
end
section
/-! THE PURE MACHINE. Cells by id: n*2048 + len*8 + kind; kind 0 an object (len: its class), 1 int[], 2 boolean[], 3 long[], 4 the script, 5 a static table. -/
abbrev z_LV : Type := List (Nat × Value)
abbrev z_MI : Type := Nat → Nat → Int32
abbrev z_ML : Type := Nat → Nat → Int64
abbrev z_KT : Type := Nat → z_LV → List Value → z_MI → z_ML → Prop
abbrev z_PO : Type := Option Value → z_MI → z_ML → Prop
abbrev z_PX : Type := String → z_MI → z_ML → Prop
abbrev z_SP : Type := List Value → z_MI → z_ML → z_PO → Prop
def z_n (a : Nat) : Nat := a / 8 % 256
def z_cl : List vw_C := [(RX0, TX0, 9), (RX1, TX1, 9), (RX2, TX2, 8), (RX3, TX3, 8), (RX4, TX4, 12), (RX5, TX5, 5), (RX6, TX6, 9)]
def z_ids : List Nat := [2096, 4112, 6184, 8216, 10240, 12296, 14368, 16513, 18483, 20529, 22577, 24817, 26865, 28913, 30961, 32849, 34897, 37825, 39873, 41441, 43489, 45537, 47585, 49201, 51585, 53633, 55617, 57665, 59713, 61761, 63809, 65857, 67906, 69954, 71777, 73825, 75873, 77921, 79969, 82017, 84065, 86113, 88161, 90209, 92257, 94305, 96353, 98401, 100449, 102497, 104545, 106594, 108642]
/-- an object's fields: none a number, some t a reference to the cell t -/
def z_fl : List (List (Option Nat)) := [[some 55617, some 57665, some 59713, some 61761, some 63809, some 65857, some 67906, some 69954, none],
  [some 71777, some 73825, some 75873, some 77921, some 79969, some 82017, some 84065, some 86113, none],
  [some 20529, some 22577, some 24817, some 26865, some 28913, some 30961, none, none],
  [some 41441, some 43489, some 45537, some 47585, some 49201, some 51585, some 53633, none],
  [some 88161, some 90209, some 92257, some 94305, some 96353, some 98401, some 100449, some 102497, some 104545, some 106594, some 108642, none],
  [some 32849, some 34897, some 37825, some 39873, none],
  [some 4112, some 6184, some 8216, some 10240, some 12296, some 14368, some 16513, some 18483, none]]
def z_SC : Nat := 2048004
def z_WT : Nat := 2050093

def z_get : z_LV → Nat → Option Value
  | [], _ => none
  | (j, v) :: l, i => match Nat.beq j i with
    | true => some v
    | false => z_get l i
def z_is2 : Value → Bool
  | .long _ => true
  | .double _ => true
  | _ => false
/-- storing v at i: in its place, what it clobbers goes; b: it stands already -/
def z_put (i : Nat) (v : Value) : z_LV → Bool → (z_LV → Prop) → Prop
  | [], true, k => k []
  | [], false, k => k [(i, v)]
  | (j, w) :: l, b, k => match Nat.beq j i with
    | true => match b with
      | true => z_put i v l true k
      | false => z_put i v l true (fun l' => k ((i, v) :: l'))
    | false => match (z_is2 v && Nat.beq j (i + 1)) || (z_is2 w && Nat.beq (j + 1) i) with
      | true => z_put i v l b k
      | false => z_put i v l b (fun l' => k ((j, w) :: l'))
def z_fnd {α : Type} : List (Nat × α) → Nat → Option α
  | [], _ => none
  | (j, v) :: l, i => match Nat.beq j i with
    | true => some v
    | false => z_fnd l i
def z_mem : List Nat → Nat → Bool
  | [], _ => false
  | j :: l, i => match Nat.beq j i with
    | true => true
    | false => z_mem l i
def z_pop : Nat → List Value → List Value → (List Value → List Value → Prop) → Prop
  | 0, st, acc, k => k acc st
  | _ + 1, [], _, _ => False
  | n + 1, v :: st, acc, k => z_pop n st (v :: acc) k
def z_sw (x : Int32) (K : Nat → Prop) (d : Nat) : Nat → List Nat → Prop
  | lo, [] => (∀ j, j < lo → x ≠ nI j) → K d
  | lo, t :: l => (x = nI lo → K t) ∧ z_sw x K d (lo + 1) l
/-- what a walk knows of its method: code (pc, instruction, next pc, target), fields, calls, int constants, long constants, throws, switch targets, answer's type -/
abbrev z_G : Type := List (Nat × Instr × Nat × Nat) × List (Nat × Nat × Nat × Option Nat) × List (Nat × Nat × z_SP) × List (Nat × Nat) × List (Nat × Nat) × List (Nat × String) × List Nat × Option FieldType
def z_code (G : z_G) : List (Nat × Instr × Nat × Nat) := G.1
def z_fm (G : z_G) : List (Nat × Nat × Nat × Option Nat) := G.2.1
def z_cm (G : z_G) : List (Nat × Nat × z_SP) := G.2.2.1
def z_ci (G : z_G) : List (Nat × Nat) := G.2.2.2.1
def z_cL (G : z_G) : List (Nat × Nat) := G.2.2.2.2.1
def z_th (G : z_G) : List (Nat × String) := G.2.2.2.2.2.1
def z_tg (G : z_G) : List Nat := G.2.2.2.2.2.2.1
def z_rt (G : z_G) : Option FieldType := G.2.2.2.2.2.2.2
def z_wt : Nat → Int32
  | 0 => 10
  | 1 => 15
  | 2 => 15
  | 3 => 20
  | _ => 40
def z_cs : List Value → Nat
  | [] => 0
  | v :: l => match z_is2 v with
    | true => z_cs l + 2
    | false => z_cs l + 1
/-- one instruction -/
def z_stp (G : z_G) (Po : z_PO) (Px : z_PX) (sc : Option (Nat × (Nat → Int32))) (ins : Instr) (pc nx tg : Nat) (lv : z_LV) (st : List Value) (S : z_MI) (P : z_ML) (K : z_KT) : Prop := match ins with
  | .iconst n => match n with
    | .ofNat k => K nx lv (.int (nI k) :: st) S P
    | .negSucc 0 => K nx lv (.int (-1) :: st) S P
    | .negSucc _ => False
  | .bipush n => match n with
    | .ofNat k => match Nat.ble k 127 with
      | true => K nx lv (.int (nI k) :: st) S P
      | false => False
    | .negSucc _ => False
  | .sipush n => match n with
    | .ofNat k => match Nat.ble k 32767 with
      | true => K nx lv (.int (nI k) :: st) S P
      | false => False
    | .negSucc _ => False
  | .lconst n => K nx lv (.long (lN n.val) :: st) S P
  | .ldc i => match z_fnd (z_ci G) i with
    | some v => K nx lv (.int (nI v) :: st) S P
    | none => False
  | .ldc_w i => match z_fnd (z_ci G) i with
    | some v => K nx lv (.int (nI v) :: st) S P
    | none => False
  | .ldc2_w i => match z_fnd (z_cL G) i with
    | some v => K nx lv (.long (lN v) :: st) S P
    | none => False
  | .iload_n k => match z_get lv k.val with
    | some (.int x) => K nx lv (.int x :: st) S P
    | _ => False
  | .iload k => match z_get lv k with
    | some (.int x) => K nx lv (.int x :: st) S P
    | _ => False
  | .lload_n k => match z_get lv k.val with
    | some (.long x) => K nx lv (.long x :: st) S P
    | _ => False
  | .lload k => match z_get lv k with
    | some (.long x) => K nx lv (.long x :: st) S P
    | _ => False
  | .aload_n k => match z_get lv k.val with
    | some (.ref x) => K nx lv (.ref x :: st) S P
    | _ => False
  | .aload k => match z_get lv k with
    | some (.ref x) => K nx lv (.ref x :: st) S P
    | _ => False
  | .istore_n k => match st with
    | .int x :: r => z_put k.val (.int x) lv false (fun lv' => K nx lv' r S P)
    | _ => False
  | .istore k => match st with
    | .int x :: r => z_put k (.int x) lv false (fun lv' => K nx lv' r S P)
    | _ => False
  | .lstore_n k => match st with
    | .long x :: r => z_put k.val (.long x) lv false (fun lv' => K nx lv' r S P)
    | _ => False
  | .lstore k => match st with
    | .long x :: r => z_put k (.long x) lv false (fun lv' => K nx lv' r S P)
    | _ => False
  | .iinc k n => match z_get lv k with
    | some (.int x) => match n with
      | .ofNat j => z_put k (.int (x + nI j)) lv false (fun lv' => K nx lv' st S P)
      | .negSucc 0 => z_put k (.int (x + (-1))) lv false (fun lv' => K nx lv' st S P)
      | .negSucc _ => False
    | _ => False
  | .iadd => match st with
    | .int y :: .int x :: r => K nx lv (.int (x + y) :: r) S P
    | _ => False
  | .isub => match st with
    | .int y :: .int x :: r => K nx lv (.int (x - y) :: r) S P
    | _ => False
  | .imul => match st with
    | .int y :: .int x :: r => K nx lv (.int (x * y) :: r) S P
    | _ => False
  | .iand => match st with
    | .int y :: .int x :: r => K nx lv (.int (x &&& y) :: r) S P
    | _ => False
  | .ior => match st with
    | .int y :: .int x :: r => K nx lv (.int (x ||| y) :: r) S P
    | _ => False
  | .ixor => match st with
    | .int y :: .int x :: r => K nx lv (.int (x ^^^ y) :: r) S P
    | _ => False
  | .idiv => match st with
    | .int y :: .int x :: r => ¬ y = 0 ∧ K nx lv (.int (x / y) :: r) S P
    | _ => False
  | .irem => match st with
    | .int y :: .int x :: r => ¬ y = 0 ∧ K nx lv (.int (x - x / y * y) :: r) S P
    | _ => False
  | .ishl => match st with
    | .int y :: .int x :: r => K nx lv (.int (x <<< (y &&& 31)) :: r) S P
    | _ => False
  | .ishr => match st with
    | .int y :: .int x :: r => K nx lv (.int (x >>> (y &&& 31)) :: r) S P
    | _ => False
  | .iushr => match st with
    | .int y :: .int x :: r => K nx lv (.int ((x.toUInt32 >>> (y.toUInt32 &&& Int32.toUInt32 31)).toInt32) :: r) S P
    | _ => False
  | .ladd => match st with
    | .long y :: .long x :: r => K nx lv (.long (x + y) :: r) S P
    | _ => False
  | .lsub => match st with
    | .long y :: .long x :: r => K nx lv (.long (x - y) :: r) S P
    | _ => False
  | .lmul => match st with
    | .long y :: .long x :: r => K nx lv (.long (x * y) :: r) S P
    | _ => False
  | .ldiv => match st with
    | .long y :: .long x :: r => ¬ y = 0 ∧ K nx lv (.long (x / y) :: r) S P
    | _ => False
  | .lrem => match st with
    | .long y :: .long x :: r => ¬ y = 0 ∧ K nx lv (.long (x - x / y * y) :: r) S P
    | _ => False
  | .lcmp => match st with
    | .long y :: .long x :: r => K nx lv (.int (lg_cmp x y) :: r) S P
    | _ => False
  | .i2l => match st with
    | .int x :: r => K nx lv (.long x.toInt64 :: r) S P
    | _ => False
  | .dup => match st with
    | v :: r => match z_is2 v with
      | false => K nx lv (v :: v :: r) S P
      | true => False
    | _ => False
  | .dup2 => match st with
    | v :: u :: r => match z_is2 v || z_is2 u with
      | false => K nx lv (v :: u :: v :: u :: r) S P
      | true => False
    | _ => False
  | .ifCond op _ => match st with
    | .int x :: r => match op with
      | .eq => (x = 0 → K tg lv r S P) ∧ (¬ x = 0 → K nx lv r S P)
      | .ne => (¬ x = 0 → K tg lv r S P) ∧ (x = 0 → K nx lv r S P)
      | .lt => (x < 0 → K tg lv r S P) ∧ (¬ x < 0 → K nx lv r S P)
      | .ge => (0 ≤ x → K tg lv r S P) ∧ (¬ 0 ≤ x → K nx lv r S P)
      | .gt => (0 < x → K tg lv r S P) ∧ (¬ 0 < x → K nx lv r S P)
      | .le => (x ≤ 0 → K tg lv r S P) ∧ (¬ x ≤ 0 → K nx lv r S P)
    | _ => False
  | .if_icmp op _ => match st with
    | .int y :: .int x :: r => match op with
      | .eq => (x = y → K tg lv r S P) ∧ (¬ x = y → K nx lv r S P)
      | .ne => (¬ x = y → K tg lv r S P) ∧ (x = y → K nx lv r S P)
      | .lt => (x < y → K tg lv r S P) ∧ (¬ x < y → K nx lv r S P)
      | .ge => (y ≤ x → K tg lv r S P) ∧ (¬ y ≤ x → K nx lv r S P)
      | .gt => (y < x → K tg lv r S P) ∧ (¬ y < x → K nx lv r S P)
      | .le => (x ≤ y → K tg lv r S P) ∧ (¬ x ≤ y → K nx lv r S P)
    | _ => False
  | .goto _ => K tg lv st S P
  | .tableswitch _ _ _ _ => match st with
    | .int x :: r => z_sw x (fun t => K t lv r S P) tg 0 (z_tg G)
    | _ => False
  | .iaload => match st with
    | .int i :: .ref a :: r => match a % 8 with
      | 1 => vp_in i (z_n a) ∧ K nx lv (.int (S a i.toNatClampNeg) :: r) S P
      | 4 => match sc with
        | some (L, f) => vp_in i L ∧ K nx lv (.int (f i.toNatClampNeg) :: r) S P
        | none => False
      | 5 => vp_in i 5 ∧ K nx lv (.int (z_wt i.toNatClampNeg) :: r) S P
      | _ => False
    | _ => False
  | .baload => match st with
    | .int i :: .ref a :: r => match a % 8 with
      | 2 => vp_in i (z_n a) ∧ K nx lv (.int (S a i.toNatClampNeg) :: r) S P
      | _ => False
    | _ => False
  | .laload => match st with
    | .int i :: .ref a :: r => match a % 8 with
      | 3 => vp_in i (z_n a) ∧ K nx lv (.long (P a i.toNatClampNeg) :: r) S P
      | _ => False
    | _ => False
  | .iastore => match st with
    | .int x :: .int i :: .ref a :: r => match a % 8 with
      | 1 => vp_in i (z_n a) ∧ K nx lv r (va_up S a (upd (S a) i.toNatClampNeg x)) P
      | _ => False
    | _ => False
  | .bastore => match st with
    | .int x :: .int i :: .ref a :: r => match a % 8 with
      | 2 => vp_in i (z_n a) ∧ K nx lv r (va_up S a (upd (S a) i.toNatClampNeg (vp_nar .boolean x))) P
      | _ => False
    | _ => False
  | .lastore => match st with
    | .long x :: .int i :: .ref a :: r => match a % 8 with
      | 3 => vp_in i (z_n a) ∧ K nx lv r S (va_up P a (vp_updL (P a) i.toNatClampNeg x))
      | _ => False
    | _ => False
  | .arraylength => match st with
    | .ref a :: r => match a % 8 with
      | 1 => K nx lv (.int (nI (z_n a)) :: r) S P
      | 2 => K nx lv (.int (nI (z_n a)) :: r) S P
      | 3 => K nx lv (.int (nI (z_n a)) :: r) S P
      | 4 => match sc with
        | some (L, _) => K nx lv (.int (nI L) :: r) S P
        | none => False
      | 5 => K nx lv (.int (nI 5) :: r) S P
      | _ => False
    | _ => False
  | .getfield i => match st with
    | .ref a :: r => match z_fnd (z_fm G) i with
      | some (o, k, t) => match Nat.beq a o && Nat.blt o 1000000 with
        | true => match t with
          | none => K nx lv (.int (S o k) :: r) S P
          | some q => K nx lv (.ref q :: r) S P
        | false => False
      | none => False
    | _ => False
  | .putfield i => match st with
    | .int x :: .ref a :: r => match z_fnd (z_fm G) i with
      | some (o, k, t) => match Nat.beq a o && Nat.blt o 1000000 with
        | true => match t with
          | none => K nx lv r (va_up S o (upd (S o) k x)) P
          | some _ => False
        | false => False
      | none => False
    | _ => False
  | .getstatic i => match z_fnd (z_fm G) i with
    | some (o, _, _) => match Nat.beq o z_WT with
      | true => K nx lv (.ref z_WT :: st) S P
      | false => False
    | none => False
  | .invokevirtual i => match z_fnd (z_cm G) i with
    | some (n, sp) => z_pop n st [] (fun as r => match Nat.ble (z_cs r) 8 with
      | true => sp as S P (fun v S' P' => K nx lv (v.toList ++ r) S' P')
      | false => False)
    | none => False
  | .invokestatic i => match z_fnd (z_cm G) (i + 100000) with
    | some (n, sp) => z_pop n st [] (fun as r => match Nat.ble (z_cs r) 8 with
      | true => sp as S P (fun v S' P' => K nx lv (v.toList ++ r) S' P')
      | false => False)
    | none => False
  | .ireturn => match st with
    | [.int v] => match z_rt G with
      | some .int => Po (some (.int v)) S P
      | some .boolean => narrow .boolean (.int v) = .int v ∧ Po (some (.int v)) S P
      | _ => False
    | _ => False
  | .lreturn => match st with
    | [.long v] => match z_rt G with
      | some .long => Po (some (.long v)) S P
      | _ => False
    | _ => False
  | .return_ => match st with
    | [] => match z_rt G with
      | none => Po none S P
      | _ => False
    | _ => False
  | .new _ => match st with
    | [] => match z_fnd (z_th G) pc with
      | some E => Px E S P
      | none => False
    | _ => False
  | _ => False
/-- a walk of at most n instructions, up to the places 'cuts', where J is owed -/
def z_wp (G : z_G) (Po : z_PO) (Px : z_PX) (sc : Option (Nat × (Nat → Int32))) (cuts : List Nat) (J : z_KT) : Nat → z_KT
  | 0 => fun _ _ _ _ _ => False
  | n + 1 => fun pc lv st S P => match z_fnd (z_code G) pc with
    | some (ins, nx, tg) => z_stp G Po Px sc ins pc nx tg lv st S P (fun pc' lv' st' S' P' => match z_mem cuts pc' with
      | true => J pc' lv' st' S' P'
      | false => z_wp G Po Px sc cuts J n pc' lv' st' S' P')
    | none => False
end
section
def z_T : List Jvm.Cond := lw_tbl.filter goodWord
theorem z_T_good {c : Jvm.Cond} (h : c ∈ z_T) : (c.onTables && c.keeps) = true ∨ ∃ ty, c = .arrayClass ty := good_of_word (List.mem_filter.mp h).2
def z_nest : List (String × Nat × MethodName × String) := [("Songlinebench", 9, ⟨"Songlinebench$Kin", "<init>", "()V"⟩, "Songlinebench"), ("Songlinebench", 18, ⟨"Songlinebench$Stories", "<init>", "()V"⟩, "Songlinebench"), ("Songlinebench", 25, ⟨"Songlinebench$Marks", "<init>", "()V"⟩, "Songlinebench"), ("Songlinebench", 32, ⟨"Songlinebench$Acts", "<init>", "()V"⟩, "Songlinebench"), ("Songlinebench", 39, ⟨"Songlinebench$Claims", "<init>", "()V"⟩, "Songlinebench"), ("Songlinebench", 46, ⟨"Songlinebench$Notices", "<init>", "()V"⟩, "Songlinebench"), ("Songlinebench$Acts", 41, ⟨"Songlinebench", "isIn", "(II)Z"⟩, "Songlinebench"), ("Songlinebench$Claims", 44, ⟨"Songlinebench", "with", "(IIZ)I"⟩, "Songlinebench"), ("Songlinebench$Claims", 48, ⟨"Songlinebench", "isIn", "(II)Z"⟩, "Songlinebench"), ("Songlinebench$Kin", 52, ⟨"Songlinebench", "with", "(IIZ)I"⟩, "Songlinebench"), ("Songlinebench$Kin", 56, ⟨"Songlinebench", "isIn", "(II)Z"⟩, "Songlinebench"), ("Songlinebench$Stories", 36, ⟨"Songlinebench", "with", "(IIZ)I"⟩, "Songlinebench")]
def z_strs : List (String × Nat × String) := [("Songlinebench", 65, "rule is out of range"), ("Songlinebench", 75, "there are 6 peoples"), ("Songlinebench", 88, "no such mother or father"), ("Songlinebench", 91, "mother and father are the same person"), ("Songlinebench", 96, "there are 30 persons"), ("Songlinebench", 108, "no such people or person"), ("Songlinebench", 125, "no such person"), ("Songlinebench", 127, "nobody adopts oneself"), ("Songlinebench", 135, "the rank is 3"), ("Songlinebench", 137, "no such people"), ("Songlinebench", 142, "there are 10 stories"), ("Songlinebench", 153, "no such story or place"), ("Songlinebench", 155, "level is out of range"), ("Songlinebench", 160, "the story has 12 parts"), ("Songlinebench", 170, "no such person, story or part"), ("Songlinebench", 187, "no such people or place"), ("Songlinebench", 189, "month or weight is out of range"), ("Songlinebench", 192, "there are 60 marks"), ("Songlinebench", 197, "from or to is out of range"), ("Songlinebench", 202, "the people has explained months 8 times"), ("Songlinebench", 217, "an argument is out of range"), ("Songlinebench", 220, "there are 40 acts"), ("Songlinebench", 228, "no such act"), ("Songlinebench", 237, "the act was given up"), ("Songlinebench", 242, "no such place"), ("Songlinebench", 247, "month is out of range"), ("Songlinebench", 261, "places or rights is out of range"), ("Songlinebench", 264, "there are 12 claims"), ("Songlinebench", 271, "no such person or claim"), ("Songlinebench", 277, "the claim is not FILED, or the person does not belong"), ("Songlinebench", 285, "no such claim"), ("Songlinebench", 287, "the claim is not FILED"), ("Songlinebench", 293, "the claim is not REGISTERED"), ("Songlinebench", 305, "the claim is not DETERMINED"), ("Songlinebench", 307, "what is out of range"), ("Songlinebench", 315, "no such people, place or right"), ("Songlinebench", 336, "there are 12 notices"), ("Songlinebench", 348, "no such people or notice"), ("Songlinebench", 357, "the notice does not WAIT, or the people is no party, or agreed"), ("Songlinebench", 362, "the notice does not WAIT, is not quick, or is too old"), ("Songlinebench", 367, "the people is no party, or objected"), ("Songlinebench", 369, "no such notice"), ("Songlinebench", 374, "the notice does not WAIT, is not old enough, or was allowed"), ("Songlinebench", 382, "the notice cannot be done now"), ("Songlinebench", 387, "the last month is gone"), ("Songlinebench", 407, "value is out of range"), ("Songlinebench", 413, "the act cannot be paid for, or nothing is owed"), ("Songlinebench", 426, "months is out of range"), ("Songlinebench", 428, "the month would be above 5000")]
def z_ncs : List (String × String) := [("java/lang/IllegalArgumentException", "java/lang/IndexOutOfBoundsException"), ("java/lang/IllegalStateException", "java/lang/IndexOutOfBoundsException"), ("java/lang/IllegalStateException", "java/lang/IllegalArgumentException")]
def z_cas : List String := ["java/lang/IllegalArgumentException", "java/lang/IllegalStateException", "java/lang/IndexOutOfBoundsException"]
def z_dec : List MethodName := [⟨"java/lang/RuntimeException", "<init>", "(Ljava/lang/String;)V"⟩, ⟨"java/lang/Exception", "<init>", "(Ljava/lang/String;)V"⟩, ⟨"java/lang/Throwable", "<init>", "(Ljava/lang/String;)V"⟩]

def z_tv (ad : Nat → Nat) : Value → Value
  | .ref a => .ref (ad a)
  | v => v
def z_ts (ad : Nat → Nat) (st : List Value) : List Value := st.map (z_tv ad)
def z_tl (ad : Nat → Nat) (lv : z_LV) : z_LV := lv.map (fun q => (q.1, z_tv ad q.2))
def z_rv : Value → Bool
  | .ref a => z_ids.contains a || (a == z_SC || a == z_WT)
  | _ => true
def z_rs (st : List Value) : Bool := st.all z_rv
def z_rl (lv : z_LV) : Bool := lv.all (fun q => z_rv q.2)
def z_fs (ad : Nat → Nat) (S : z_MI) (a : Nat) : List Value := (z_fl.getD (z_n a) []).mapIdx (fun k o => match o with
  | none => .int (S a k)
  | some t => .ref (ad t))
def z_e (cI cZ cJ : ClassId) (ad : Nat → Nat) (S : z_MI) (P : z_ML) (a : Nat) : va_E := match a % 8 with
  | 0 => .inr (z_n a, z_fs ad S a)
  | 1 => .inl (cI, z_n a, .inl (S a))
  | 2 => .inl (cZ, z_n a, .inl (S a))
  | _ => .inl (cJ, z_n a, .inr (.inl (P a)))
def z_w (cI cZ cJ : ClassId) (ad : Nat → Nat) (S : z_MI) (P : z_ML) : va_W := z_ids.map (fun a => (ad a, z_e cI cZ cJ ad S P a))
def z_inj (ad : Nat → Nat) : Prop := ∀ a ∈ z_ids, ∀ b ∈ z_ids, ad a = ad b → a = b
theorem z_nodup : z_ids.Nodup := by decide +kernel
theorem z_w_at {cI cZ cJ : ClassId} {ad : Nat → Nat} {S : z_MI} {P : z_ML} {a : Nat} (h : a ∈ z_ids) : ∃ k : Nat, (z_w cI cZ cJ ad S P)[k]? = some (ad a, z_e cI cZ cJ ad S P a) ∧ z_ids[k]? = some a := by
  obtain ⟨k, hk⟩ := List.getElem?_of_mem h
  exact ⟨k, by simp [z_w, hk], hk⟩
theorem z_w_set {cI cZ cJ : ClassId} {ad : Nat → Nat} {S S' : z_MI} {P P' : z_ML} {a k : Nat} (hk : z_ids[k]? = some a) (he : ∀ b, b ≠ a → z_e cI cZ cJ ad S' P' b = z_e cI cZ cJ ad S P b) : (z_w cI cZ cJ ad S P).set k (ad a, z_e cI cZ cJ ad S' P' a) = z_w cI cZ cJ ad S' P' := by
  apply List.ext_getElem?
  intro j
  have hkl : k < z_ids.length := (List.getElem?_eq_some_iff.mp hk).1
  by_cases hj : j = k
  · subst hj
    rw [List.getElem?_set_self (by simpa [z_w] using hkl)]
    simp [z_w, hk]
  · rw [List.getElem?_set_ne (Ne.symm hj)]
    simp only [z_w, List.getElem?_map]
    cases hb : z_ids[j]? with
    | none => rfl
    | some b =>
      have hne : b ≠ a := by
        intro e
        subst e
        have hjl : j < z_ids.length := (List.getElem?_eq_some_iff.mp hb).1
        exact hj ((List.getElem?_inj hjl z_nodup).mp (hb.trans hk.symm))
      simp [he b hne]
theorem z_D_of {cI cZ cJ : ClassId} {ad : Nat → Nat} {S : z_MI} {P : z_ML} {A : Nat → Prop} (hi : z_inj ad) (hA : ∀ a ∈ z_ids, A (ad a)) : va_D A (z_w cI cZ cJ ad S P) := by
  have key : ∀ (k : Nat) (q : Nat × va_E), (z_w cI cZ cJ ad S P)[k]? = some q → ∃ a, z_ids[k]? = some a ∧ q.1 = ad a := by
    intro k q h
    simp only [z_w, List.getElem?_map, Option.map_eq_some_iff] at h
    obtain ⟨a, h1, h2⟩ := h
    exact ⟨a, h1, by rw [← h2]⟩
  refine ⟨fun i j p q hp hq hpq => ?_, fun k q hk => ?_⟩
  · obtain ⟨a, h1, h2⟩ := key i p hp
    obtain ⟨b, h3, h4⟩ := key j q hq
    have hab : a = b := hi a (List.mem_of_getElem? h1) b (List.mem_of_getElem? h3) (by rw [← h2, ← h4]; exact hpq)
    subst hab
    exact (List.getElem?_inj (List.getElem?_eq_some_iff.mp h1).1 z_nodup).mp (h1.trans h3.symm)
  · obtain ⟨a, h1, h2⟩ := key k q hk
    rw [h2]
    exact hA a (List.mem_of_getElem? h1)
def z_E (D : va_G) (cI cZ cJ : ClassId) (ad : Nat → Nat) (A : Nat → Prop) (U : State) : Prop :=
  va_K D z_cl [(cI, .int), (cZ, .boolean), (cJ, .long)] U ∧ (∀ q ∈ z_nest, va_Nw (.methodLinkNest q.1 q.2.1 q.2.2.1 q.2.2.2) U) ∧ (∀ q ∈ z_strs, ∃ a, vk_R q.1 q.2.1 q.2.2 a U) ∧
  vx_Zq Bundle.tN "UNASSIGNED_STACK" Bundle.steD A U U.heap ∧ vx_Zq Bundle.tN "SUPPRESSED_SENTINEL" Bundle.listD A U U.heap ∧ va_Z "Songlinebench" "WEIGHTS" "[I" (.ref (ad z_WT)) A U U.heap ∧ va_T .int (ad z_WT) 5 (fun j => .int (z_wt j)) A U U.heap ∧ (∀ q ∈ z_ncs, va_Nc q.1 q.2 U) ∧ (∀ q ∈ z_cas, va_Nw (.castable q q) U) ∧ ∀ q ∈ z_dec, va_Nw (.declares q) U
theorem z_E.warm {D : va_G} {cI cZ cJ : ClassId} {ad : Nat → Nat} {A B : Nat → Prop} {s U : State} (hW : s.WarmedH U.vm) (hS : ∀ q : Nat, q < s.heap.size → ¬ A q → U.heap[q]? = s.heap[q]?) (hBA : ∀ q, B q → A q) (h : z_E D cI cZ cJ ad A s) : z_E D cI cZ cJ ad B U := by
  obtain ⟨h1, h2, h3, h4, h5, h6, h7, h8, h9, h10⟩ := h
  refine ⟨va_K.moved hW.alike h1, fun q hq => va_Nw.warmM hW (h2 q hq), fun q hq => ?_, ?_, ?_, ?_, ?_, fun q hq => va_Nc.moved hW.alike (h8 q hq), fun q hq => va_Nw.warmC hW (h9 q hq), fun q hq => va_Nw.warmD hW (h10 q hq)⟩
  · obtain ⟨a, ha⟩ := h3 q hq
    exact ⟨a, vk_R.warm hW ha⟩
  · exact (vx_Zq.moved hW.alike (h4.kept hS)).narrow hBA
  · exact (vx_Zq.moved hW.alike (h5.kept hS)).narrow hBA
  · exact (va_Z.moved hW.alike (h6.kept hS)).narrow hBA
  · exact (va_T.moved hW.alike (h7.kept hS)).narrow hBA
theorem z_E.same {D : va_G} {cI cZ cJ : ClassId} {ad : Nat → Nat} {A : Nat → Prop} {u U : State} (hv : U.vm = u.vm) (hh : U.heap = u.heap) (h : z_E D cI cZ cJ ad A u) : z_E D cI cZ cJ ad A U := by
  obtain ⟨h1, h2, h3, h4, h5, h6, h7, h8, h9, h10⟩ := h
  have al : u.vm.Alike U.vm := by rw [hv]; exact Vm.Alike.refl _
  refine ⟨va_K.moved al h1, fun q hq => va_Nw.same rfl hv.symm (h2 q hq), fun q hq => ?_, ?_, ?_, ?_, ?_, fun q hq => va_Nc.moved al (h8 q hq), fun q hq => va_Nw.same rfl hv.symm (h9 q hq), fun q hq => va_Nw.same rfl hv.symm (h10 q hq)⟩
  · obtain ⟨a, ha⟩ := h3 q hq
    exact ⟨a, vk_R.same hv ha⟩
  · rw [hh]; exact vx_Zq.moved al h4
  · rw [hh]; exact vx_Zq.moved al h5
  · rw [hh]; exact va_Z.moved al h6
  · rw [hh]; exact va_T.moved al h7
end
section

def z_C (p : Program) (s : State) (m : MethodId) (args : Array Value) (meth : Method) (c : Code) (cc : ByteArray) (nL : Nat) (own : String) (D : va_G) (cI cZ cJ : ClassId) (ad : Nat → Nat) (A : Nat → Prop) (sc : Option (Nat × (Nat → Int32))) : Prop :=
  CallFix p m c cc nL s args z_T own ∧ z_inj ad ∧ (∀ a ∈ z_ids, A (ad a)) ∧ (∀ q, s.heap.size ≤ q → A q) ∧ z_E D cI cZ cJ ad A s ∧ meth.locks = false ∧ ∀ (L : Nat) (f : Nat → Int32), sc = some (L, f) → va_X (ad z_SC) L f s s.heap ∧ ad z_SC < s.heap.size ∧ ¬ A (ad z_SC)
def z_V (p : Program) (l : Launch) (e : Env) (R : Room) (s : State) (m : MethodId) (args : Array Value) (below : List Frame) (meth : Method) (c : Code) (cells slots : Nat) (Q : State → Prop) (nL : Nat) (D : va_G) (cI cZ cJ : ClassId) (ad : Nat → Nat) (A : Nat → Prop) : z_KT := fun pc lv st S P =>
  ∀ (H : Heap) (locs : List Loc) (ls : Array Slot), va_P D z_cl (z_w cI cZ cJ ad S P) H → va_S A s.heap H locs → lv_has ls nL (z_tl ad lv) → z_rl lv = true → z_rs st = true → W p l e R s m args below meth c H locs cells slots Q (F0 m pc ls (z_ts ad st))
theorem z_put_eq (i : Nat) (v : Value) : ∀ (l : z_LV) (b : Bool) (k : z_LV → Prop), z_put i v l b k → ∃ l' : z_LV, k l' ∧ ∀ q ∈ l', q = (i, v) ∨ (q ∈ l ∧ q.1 ≠ i ∧ ¬ (z_is2 v = true ∧ q.1 = i + 1) ∧ ¬ (z_is2 q.2 = true ∧ q.1 + 1 = i))
  | [], true, k, h => ⟨[], h, fun q hq => by cases hq⟩
  | [], false, k, h => ⟨[(i, v)], h, fun q hq => Or.inl (List.mem_singleton.mp hq)⟩
  | (j, w) :: l, b, k, h => by
    unfold z_put at h
    split at h
    · rename_i hj
      split at h
      · obtain ⟨l', h1, h2⟩ := z_put_eq i v l true k h
        refine ⟨l', h1, fun q hq => ?_⟩
        rcases h2 q hq with h3 | ⟨h3, h4⟩
        · exact Or.inl h3
        · exact Or.inr ⟨List.mem_cons_of_mem _ h3, h4⟩
      · obtain ⟨l', h1, h2⟩ := z_put_eq i v l true (fun l' => k ((i, v) :: l')) h
        refine ⟨_, h1, fun q hq => ?_⟩
        rcases List.mem_cons.mp hq with rfl | hq
        · exact Or.inl rfl
        · rcases h2 q hq with h3 | ⟨h3, h4⟩
          · exact Or.inl h3
          · exact Or.inr ⟨List.mem_cons_of_mem _ h3, h4⟩
    · rename_i hj
      have hj' : j ≠ i := fun e => by rw [e, Nat.beq_refl] at hj; cases hj
      split at h
      · obtain ⟨l', h1, h2⟩ := z_put_eq i v l b k h
        refine ⟨l', h1, fun q hq => ?_⟩
        rcases h2 q hq with h3 | ⟨h3, h4⟩
        · exact Or.inl h3
        · exact Or.inr ⟨List.mem_cons_of_mem _ h3, h4⟩
      · rename_i hc
        obtain ⟨l', h1, h2⟩ := z_put_eq i v l b (fun l' => k ((j, w) :: l')) h
        refine ⟨_, h1, fun q hq => ?_⟩
        rcases List.mem_cons.mp hq with rfl | hq
        · refine Or.inr ⟨List.mem_cons_self, hj', ?_, ?_⟩
          · rintro ⟨g1, g2⟩
            have g3 : j = i + 1 := g2
            rw [g1, g3, Nat.beq_refl] at hc
            simp at hc
          · rintro ⟨g1, g2⟩
            have g3 : j + 1 = i := g2
            have g4 : z_is2 w = true := g1
            rw [g4, g3, Nat.beq_refl] at hc
            simp at hc
        · rcases h2 q hq with h3 | ⟨h3, h4⟩
          · exact Or.inl h3
          · exact Or.inr ⟨List.mem_cons_of_mem _ h3, h4⟩
theorem z_is2_iff (v : Value) : z_is2 v = true ↔ v.category = 2 := by cases v <;> simp [z_is2, Value.category]
theorem z_is2_tv (ad : Nat → Nat) (v : Value) : z_is2 (z_tv ad v) = z_is2 v := by cases v <;> rfl
theorem z_cat_tv (ad : Nat → Nat) (v : Value) : (z_tv ad v).category = v.category := by cases v <;> rfl
theorem z_get_mem : ∀ (l : z_LV) (i : Nat) (v : Value), z_get l i = some v → (i, v) ∈ l
  | [], i, v, h => by cases h
  | (j, w) :: l, i, v, h => by
    unfold z_get at h
    split at h
    · rename_i hj
      cases h
      rw [Nat.eq_of_beq_eq_true hj]
      exact List.mem_cons_self
    · exact List.mem_cons_of_mem _ (z_get_mem l i v h)
theorem z_fnd_mem {α : Type} : ∀ (l : List (Nat × α)) (i : Nat) (v : α), z_fnd l i = some v → (i, v) ∈ l
  | [], i, v, h => by cases h
  | (j, w) :: l, i, v, h => by
    unfold z_fnd at h
    split at h
    · rename_i hj
      cases h
      rw [Nat.eq_of_beq_eq_true hj]
      exact List.mem_cons_self
    · exact List.mem_cons_of_mem _ (z_fnd_mem l i v h)
theorem z_lv_get {ad : Nat → Nat} {ls : Array Slot} {nL : Nat} {lv : z_LV} (h : lv_has ls nL (z_tl ad lv)) {i : Nat} {v : Value} (hg : z_get lv i = some v) : ls[i]? = some (.val (z_tv ad v)) :=
  h.2.2 (i, z_tv ad v) (List.mem_map.mpr ⟨(i, v), z_get_mem lv i v hg, rfl⟩)
theorem z_rl_get {lv : z_LV} (h : z_rl lv = true) {i : Nat} {v : Value} (hg : z_get lv i = some v) : z_rv v = true := List.all_eq_true.mp h (i, v) (z_get_mem lv i v hg)
/-- the new list of locals behind a store of one slot -/
theorem z_lv_put1 {ad : Nat → Nat} {ls' : Array Slot} {nL i : Nat} {v : Value} {lv lv' : z_LV} (h2 : z_is2 v = false) (h : lv_has ls' nL ((i, z_tv ad v) :: (z_tl ad lv).filter (fun q => !(q.1 == i) && !(q.1 + 1 == i && q.2.category == 2))))
    (hl : ∀ q ∈ lv', q = (i, v) ∨ (q ∈ lv ∧ q.1 ≠ i ∧ ¬ (z_is2 v = true ∧ q.1 = i + 1) ∧ ¬ (z_is2 q.2 = true ∧ q.1 + 1 = i))) : lv_has ls' nL (z_tl ad lv') := by
  refine ⟨h.1, h.2.1, fun q hq => h.2.2 q ?_⟩
  obtain ⟨q0, hq0, rfl⟩ := List.mem_map.mp hq
  rcases hl q0 hq0 with rfl | ⟨h3, h4, -, h6⟩
  · exact List.mem_cons_self
  · refine List.mem_cons_of_mem _ (List.mem_filter.mpr ⟨List.mem_map.mpr ⟨q0, h3, rfl⟩, ?_⟩)
    have e : (z_tv ad q0.2).category = q0.2.category := z_cat_tv ad q0.2
    by_cases hc : q0.2.category = 2
    · have h7 : ¬ q0.1 + 1 = i := fun e => h6 ⟨(z_is2_iff _).mpr hc, e⟩
      simp [e, h4, h7]
    · simp [e, h4, hc]
theorem z_lv_put2 {ad : Nat → Nat} {ls' : Array Slot} {nL i : Nat} {v : Value} {lv lv' : z_LV} (h2 : z_is2 v = true) (h : lv_has ls' nL ((i, z_tv ad v) :: (z_tl ad lv).filter (fun q => !(q.1 == i) && (!(q.1 == i + 1) && !(q.1 + 1 == i && q.2.category == 2)))))
    (hl : ∀ q ∈ lv', q = (i, v) ∨ (q ∈ lv ∧ q.1 ≠ i ∧ ¬ (z_is2 v = true ∧ q.1 = i + 1) ∧ ¬ (z_is2 q.2 = true ∧ q.1 + 1 = i))) : lv_has ls' nL (z_tl ad lv') := by
  refine ⟨h.1, h.2.1, fun q hq => h.2.2 q ?_⟩
  obtain ⟨q0, hq0, rfl⟩ := List.mem_map.mp hq
  rcases hl q0 hq0 with rfl | ⟨h3, h4, h5, h6⟩
  · exact List.mem_cons_self
  · refine List.mem_cons_of_mem _ (List.mem_filter.mpr ⟨List.mem_map.mpr ⟨q0, h3, rfl⟩, ?_⟩)
    have e : (z_tv ad q0.2).category = q0.2.category := z_cat_tv ad q0.2
    have h8 : ¬ q0.1 = i + 1 := fun e => h5 ⟨h2, e⟩
    by_cases hc : q0.2.category = 2
    · have h7 : ¬ q0.1 + 1 = i := fun e => h6 ⟨(z_is2_iff _).mpr hc, e⟩
      simp [e, h4, h7, h8]
    · simp [e, h4, hc, h8]
theorem z_rl_put {i : Nat} {v : Value} {lv lv' : z_LV} (hv : z_rv v = true) (h : z_rl lv = true) (hl : ∀ q ∈ lv', q = (i, v) ∨ (q ∈ lv ∧ q.1 ≠ i ∧ ¬ (z_is2 v = true ∧ q.1 = i + 1) ∧ ¬ (z_is2 q.2 = true ∧ q.1 + 1 = i))) : z_rl lv' = true := by
  refine List.all_eq_true.mpr fun q hq => ?_
  rcases hl q hq with rfl | ⟨h3, -⟩
  · exact hv
  · exact List.all_eq_true.mp h q h3
theorem z_rs_cons {v : Value} {st : List Value} : z_rs (v :: st) = true ↔ z_rv v = true ∧ z_rs st = true := by simp [z_rs]
theorem z_in {a : Nat} (h : z_rv (.ref a) = true) (h4 : a % 8 ≠ 4) (h5 : a % 8 ≠ 5) : a ∈ z_ids := by
  simp only [z_rv, Bool.or_eq_true, List.contains_iff_mem, beq_iff_eq] at h
  rcases h with h | h | h
  · exact h
  · rw [h] at h4; exact absurd rfl h4
  · rw [h] at h5; exact absurd rfl h5
theorem z_kinds : ∀ a ∈ z_ids, a % 8 < 4 := by decide +kernel
theorem z_sc_of {a : Nat} (h : z_rv (.ref a) = true) (h4 : a % 8 = 4) : a = z_SC := by
  simp only [z_rv, Bool.or_eq_true, List.contains_iff_mem, beq_iff_eq] at h
  rcases h with h | h | h
  · have := z_kinds a h; omega
  · exact h
  · rw [h] at h4; exact absurd h4 (by decide)
theorem z_wt_of {a : Nat} (h : z_rv (.ref a) = true) (h4 : a % 8 = 5) : a = z_WT := by
  simp only [z_rv, Bool.or_eq_true, List.contains_iff_mem, beq_iff_eq] at h
  rcases h with h | h | h
  · have := z_kinds a h; omega
  · rw [h] at h4; exact absurd h4 (by decide)
  · exact h
theorem z_e1 {cI cZ cJ : ClassId} {ad : Nat → Nat} {S : z_MI} {P : z_ML} {a : Nat} (h : a % 8 = 1) : z_e cI cZ cJ ad S P a = .inl (cI, z_n a, .inl (S a)) := by unfold z_e; rw [h]; rfl
theorem z_e2 {cI cZ cJ : ClassId} {ad : Nat → Nat} {S : z_MI} {P : z_ML} {a : Nat} (h : a % 8 = 2) : z_e cI cZ cJ ad S P a = .inl (cZ, z_n a, .inl (S a)) := by unfold z_e; rw [h]; rfl
theorem z_e3 {cI cZ cJ : ClassId} {ad : Nat → Nat} {S : z_MI} {P : z_ML} {a : Nat} (h : a % 8 = 3) : z_e cI cZ cJ ad S P a = .inl (cJ, z_n a, .inr (.inl (P a))) := by unfold z_e; rw [h]; rfl
theorem z_e0 {cI cZ cJ : ClassId} {ad : Nat → Nat} {S : z_MI} {P : z_ML} {a : Nat} (h : a % 8 = 0) : z_e cI cZ cJ ad S P a = .inr (z_n a, z_fs ad S a) := by unfold z_e; rw [h]; rfl
theorem z_e_neS {cI cZ cJ : ClassId} {ad : Nat → Nat} {S : z_MI} {P : z_ML} {a b : Nat} {f : Nat → Int32} (h : b ≠ a) : z_e cI cZ cJ ad (va_up S a f) P b = z_e cI cZ cJ ad S P b := by
  unfold z_e z_fs
  rw [va_up_ne _ _ h]
theorem z_e_neP {cI cZ cJ : ClassId} {ad : Nat → Nat} {S : z_MI} {P : z_ML} {a b : Nat} {f : Nat → Int64} (h : b ≠ a) : z_e cI cZ cJ ad S (va_up P a f) b = z_e cI cZ cJ ad S P b := by
  unfold z_e
  rw [va_up_ne _ _ h]
end
section

def z_len : Instr → Nat
  | .bipush _ => 2
  | .sipush _ => 3
  | .ldc _ => 2
  | .ldc_w _ => 3
  | .ldc2_w _ => 3
  | .iload _ => 2
  | .lload _ => 2
  | .aload _ => 2
  | .istore _ => 2
  | .lstore _ => 2
  | .astore _ => 2
  | .iinc _ _ => 3
  | .ifCond _ _ => 3
  | .if_icmp _ _ => 3
  | .goto _ => 3
  | .getfield _ => 3
  | .putfield _ => 3
  | .getstatic _ => 3
  | .invokevirtual _ => 3
  | .invokestatic _ => 3
  | .invokespecial _ => 3
  | .new _ => 3
  | _ => 1
def z_isw : Instr → Bool
  | .tableswitch _ _ _ _ => true
  | _ => false
/-- a row of a code table is what the bytes say -/
def z_tok (cc : ByteArray) (sw : List Nat) (q : Nat × Instr × Nat × Nat) : Bool := match decode cc q.1 with
  | .ok (i, n) => decide (i = q.2.1) && (z_isw i || (n == z_len i)) && (q.2.2.1 == q.1 + n) && (match i with
    | .goto off => decide ((q.1 : Int) + off = (q.2.2.2 : Int))
    | .ifCond _ off => decide ((q.1 : Int) + off = (q.2.2.2 : Int))
    | .if_icmp _ off => decide ((q.1 : Int) + off = (q.2.2.2 : Int))
    | .tableswitch d lo hi offs => decide ((q.1 : Int) + d = (q.2.2.2 : Int)) && decide (lo = 0) && decide (hi + 1 = (sw.length : Int)) && decide (offs.toList.map (fun o => (q.1 : Int) + o) = sw.map (fun (t : Nat) => (t : Int)))
    | _ => true)
  | .error _ => false
/-- a row of a field table is what the pool says -/
def z_fok (own : String) (q : Nat × Nat × Nat × Option Nat) : Bool := match z_cl[z_n q.2.1]? with
  | some (C, T, N) => (q.2.1 % 8 == 0) && z_ids.contains q.2.1 && decide (q.2.2.1 < N) && decide (Jvm.Cond.fieldLink own q.1 (T q.2.2.1).1 (T q.2.2.1).2.1 (T q.2.2.1).2.2.1 ∈ z_T) && decide ((z_fl.getD (z_n q.2.1) [])[q.2.2.1]? = some q.2.2.2) && (match q.2.2.2 with
    | some t => z_ids.contains t
    | none => decide ((T q.2.2.1).2.2.2 = false) && decide ((T q.2.2.1).2.2.1 = "I")) && decide ((z_fl.getD (z_n q.2.1) []).length = N)
  | none => false
def z_sok (own : String) (q : Nat × Nat × Nat × Option Nat) : Bool := (q.2.1 == z_WT) && decide (Jvm.Cond.fieldLink own q.1 "Songlinebench" "WEIGHTS" "[I" ∈ z_T)
theorem z_cl_ok : ∀ (k : Nat) (q : vw_C), z_cl[k]? = some q → (∀ w ∈ u_ws q.1 q.2.1 q.2.2, w ∈ z_T) ∧ (∃ ty : Nat → FieldType, ∀ j, j < q.2.2 → parseFieldDescriptor (q.2.1 j).2.2.1 = some (ty j)) ∧ ∀ a, a < q.2.2 → ∀ b, b < q.2.2 → a ≠ b → (q.2.1 a).2.1 ≠ (q.2.1 b).2.1 := by
  intro k q hq
  match k, hq with
  | 0, hq => cases hq; exact ⟨by decide +kernel, ⟨tyX0, tyX0_ok⟩, nmX0⟩
  | 1, hq => cases hq; exact ⟨by decide +kernel, ⟨tyX1, tyX1_ok⟩, nmX1⟩
  | 2, hq => cases hq; exact ⟨by decide +kernel, ⟨tyX2, tyX2_ok⟩, nmX2⟩
  | 3, hq => cases hq; exact ⟨by decide +kernel, ⟨tyX3, tyX3_ok⟩, nmX3⟩
  | 4, hq => cases hq; exact ⟨by decide +kernel, ⟨tyX4, tyX4_ok⟩, nmX4⟩
  | 5, hq => cases hq; exact ⟨by decide +kernel, ⟨tyX5, tyX5_ok⟩, nmX5⟩
  | 6, hq => cases hq; exact ⟨by decide +kernel, ⟨tyX6, tyX6_ok⟩, nmX6⟩
  | k + 7, hq => simp [z_cl] at hq
/-- what a method owes at its ends, and its calls -/
def z_H (p : Program) (l : Launch) (e : Env) (R : Room) (s : State) (m : MethodId) (args : Array Value) (below : List Frame) (meth : Method) (c : Code) (cells slots : Nat) (Q : State → Prop) (nL : Nat) (D : va_G) (cI cZ cJ : ClassId) (ad : Nat → Nat) (A : Nat → Prop) (cc : ByteArray) (G : z_G) (Po : z_PO) (Px : z_PX) : Prop :=
  (∀ (pc : Nat) (H : Heap) (locs : List Loc) (ls : Array Slot) (v : Int32) (S : z_MI) (P : z_ML), decode cc pc = .ok (.ireturn, 1) → (z_rt G = some .int ∨ z_rt G = some .boolean ∧ narrow .boolean (.int v) = .int v) → Po (some (.int v)) S P → va_P D z_cl (z_w cI cZ cJ ad S P) H → va_S A s.heap H locs → W p l e R s m args below meth c H locs cells slots Q (F0 m pc ls [.int v])) ∧
  (∀ (pc : Nat) (H : Heap) (locs : List Loc) (ls : Array Slot) (v : Int64) (S : z_MI) (P : z_ML), decode cc pc = .ok (.lreturn, 1) → z_rt G = some .long → Po (some (.long v)) S P → va_P D z_cl (z_w cI cZ cJ ad S P) H → va_S A s.heap H locs → W p l e R s m args below meth c H locs cells slots Q (F0 m pc ls [.long v])) ∧
  (∀ (pc : Nat) (H : Heap) (locs : List Loc) (ls : Array Slot) (S : z_MI) (P : z_ML), decode cc pc = .ok (.return_, 1) → z_rt G = none → Po none S P → va_P D z_cl (z_w cI cZ cJ ad S P) H → va_S A s.heap H locs → W p l e R s m args below meth c H locs cells slots Q (F0 m pc ls [])) ∧
  (∀ (pc : Nat) (E : String) (lv : z_LV) (S : z_MI) (P : z_ML), z_fnd (z_th G) pc = some E → Px E S P → z_V p l e R s m args below meth c cells slots Q nL D cI cZ cJ ad A pc lv [] S P) ∧
  (∀ (pc i j n : Nat) (sp : z_SP) (as r : List Value) (lv : z_LV) (S : z_MI) (P : z_ML) (k : z_PO), (decode cc pc = .ok (.invokevirtual j, 3) ∧ i = j ∧ j < 100000 ∨ decode cc pc = .ok (.invokestatic j, 3) ∧ i = j + 100000) → z_fnd (z_cm G) i = some (n, sp) → as.length = n → z_cs r ≤ 8 → sp as S P k → (∀ v S' P', (∀ a, v ≠ some (.ref a)) → k v S' P' → z_V p l e R s m args below meth c cells slots Q nL D cI cZ cJ ad A (pc + 3) lv (v.toList ++ r) S' P') → z_V p l e R s m args below meth c cells slots Q nL D cI cZ cJ ad A pc lv (as.reverse ++ r) S P)
end
section
section ZST
variable {p : Program} {l : Launch} {e : Env} {R : Room} {s : State} {m : MethodId} {args : Array Value} {below : List Frame} {meth : Method} {c : Code} {cells slots : Nat} {Q : State → Prop} {cc : ByteArray} {nL : Nat} {own : String} {D : va_G} {cI cZ cJ : ClassId} {ad : Nat → Nat} {A : Nat → Prop} {sc : Option (Nat × (Nat → Int32))}
variable {G : z_G} {Po : z_PO} {Px : z_PX} {K : z_KT} {pc nx tg : Nat} {lv : z_LV} {st : List Value} {S : z_MI} {P : z_ML}
set_option maxHeartbeats 1000000 in
theorem z_x_iconst {n : Int} (C : z_C p s m args meth c cc nL own D cI cZ cJ ad A sc) (hd : decode cc pc = .ok (.iconst n, 1)) (hK : ∀ pc lv st S P, K pc lv st S P → z_V p l e R s m args below meth c cells slots Q nL D cI cZ cJ ad A pc lv st S P) (h : z_stp G Po Px sc (.iconst n) pc nx tg lv st S P K) (hn : nx = pc + 1) : z_V p l e R s m args below meth c cells slots Q nL D cI cZ cJ ad A pc lv st S P := by
  subst hn
  obtain ⟨⟨hx, hb, hml, hown, hts⟩, hinj, hAd, hA, hE, hlk, hsc⟩ := C
  simp only [z_stp] at h
  split at h
  · intro H locs ls hP hS hl hrl hrs
    exact lv_iconst hx hb hd (by first | rfl | exact Int32.ofInt_ofNat _ | simp [nI]) (hK _ _ _ _ _ h H locs ls hP hS hl hrl (by simpa [z_rs, z_rv] using hrs))
  · intro H locs ls hP hS hl hrl hrs
    exact lv_iconst hx hb hd (by decide) (hK _ _ _ _ _ h H locs ls hP hS hl hrl (by simpa [z_rs, z_rv] using hrs))
  · exact h.elim
theorem z_b8 : ∀ k, k ≤ 127 → (Int8.ofInt (Int.ofNat k)).toInt32 = nI k := by decide +kernel
theorem z_s16 (k : Nat) (h : k ≤ 32767) : (Int16.ofInt (Int.ofNat k)).toInt32 = nI k := by
  apply Int32.toInt_inj.mp
  rw [nI_toInt (by omega), Int16.toInt_toInt32]
  exact Int16.toInt_ofInt_of_le (by simp only [Int.ofNat_eq_natCast]; exact Int.le_trans (show (-32768 : Int) ≤ 0 by decide) (Int.natCast_nonneg k)) (by simp only [Int.ofNat_eq_natCast]; omega)
set_option maxHeartbeats 1000000 in
theorem z_x_bipush {n : Int} (C : z_C p s m args meth c cc nL own D cI cZ cJ ad A sc) (hd : decode cc pc = .ok (.bipush n, 2)) (hK : ∀ pc lv st S P, K pc lv st S P → z_V p l e R s m args below meth c cells slots Q nL D cI cZ cJ ad A pc lv st S P) (h : z_stp G Po Px sc (.bipush n) pc nx tg lv st S P K) (hn : nx = pc + 2) : z_V p l e R s m args below meth c cells slots Q nL D cI cZ cJ ad A pc lv st S P := by
  subst hn
  obtain ⟨⟨hx, hb, hml, hown, hts⟩, hinj, hAd, hA, hE, hlk, hsc⟩ := C
  simp only [z_stp] at h
  split at h
  · split at h
    · rename_i hk
      intro H locs ls hP hS hl hrl hrs
      exact lv_bipush hx hb hd (z_b8 _ (Nat.le_of_ble_eq_true hk)) (hK _ _ _ _ _ h H locs ls hP hS hl hrl (by simpa [z_rs, z_rv] using hrs))
    · exact h.elim
  · exact h.elim
set_option maxHeartbeats 1000000 in
theorem z_x_sipush {n : Int} (C : z_C p s m args meth c cc nL own D cI cZ cJ ad A sc) (hd : decode cc pc = .ok (.sipush n, 3)) (hK : ∀ pc lv st S P, K pc lv st S P → z_V p l e R s m args below meth c cells slots Q nL D cI cZ cJ ad A pc lv st S P) (h : z_stp G Po Px sc (.sipush n) pc nx tg lv st S P K) (hn : nx = pc + 3) : z_V p l e R s m args below meth c cells slots Q nL D cI cZ cJ ad A pc lv st S P := by
  subst hn
  obtain ⟨⟨hx, hb, hml, hown, hts⟩, hinj, hAd, hA, hE, hlk, hsc⟩ := C
  simp only [z_stp] at h
  split at h
  · split at h
    · rename_i hk
      intro H locs ls hP hS hl hrl hrs
      exact lv_sipush hx hb hd (z_s16 _ (Nat.le_of_ble_eq_true hk)) (hK _ _ _ _ _ h H locs ls hP hS hl hrl (by simpa [z_rs, z_rv] using hrs))
    · exact h.elim
  · exact h.elim
set_option maxHeartbeats 1000000 in
theorem z_x_lconst {n : Fin 2} (C : z_C p s m args meth c cc nL own D cI cZ cJ ad A sc) (hd : decode cc pc = .ok (.lconst n, 1)) (hK : ∀ pc lv st S P, K pc lv st S P → z_V p l e R s m args below meth c cells slots Q nL D cI cZ cJ ad A pc lv st S P) (h : z_stp G Po Px sc (.lconst n) pc nx tg lv st S P K) (hn : nx = pc + 1) : z_V p l e R s m args below meth c cells slots Q nL D cI cZ cJ ad A pc lv st S P := by
  subst hn
  obtain ⟨⟨hx, hb, hml, hown, hts⟩, hinj, hAd, hA, hE, hlk, hsc⟩ := C
  simp only [z_stp] at h
  intro H locs ls hP hS hl hrl hrs
  exact lv_lconst hx hb hd rfl (hK _ _ _ _ _ h H locs ls hP hS hl hrl (by simpa [z_rs, z_rv] using hrs))
set_option maxHeartbeats 1000000 in
theorem z_x_ldc {i : Nat} (hci : ∀ q ∈ z_ci G, Jvm.Cond.constant own q.1 (nI q.2) ∈ z_T) (C : z_C p s m args meth c cc nL own D cI cZ cJ ad A sc) (hd : decode cc pc = .ok (.ldc i, 2)) (hK : ∀ pc lv st S P, K pc lv st S P → z_V p l e R s m args below meth c cells slots Q nL D cI cZ cJ ad A pc lv st S P) (h : z_stp G Po Px sc (.ldc i) pc nx tg lv st S P K) (hn : nx = pc + 2) : z_V p l e R s m args below meth c cells slots Q nL D cI cZ cJ ad A pc lv st S P := by
  subst hn
  obtain ⟨⟨hx, hb, hml, hown, hts⟩, hinj, hAd, hA, hE, hlk, hsc⟩ := C
  simp only [z_stp] at h
  split at h
  · rename_i v hv
    intro H locs ls hP hS hl hrl hrs
    exact lv_ldc hx hb hown (hts _ (hci _ (z_fnd_mem _ _ _ hv))) hd (hK _ _ _ _ _ h H locs ls hP hS hl hrl (by simpa [z_rs, z_rv] using hrs))
  · exact h.elim
set_option maxHeartbeats 1000000 in
theorem z_x_ldc_w {i : Nat} (hci : ∀ q ∈ z_ci G, Jvm.Cond.constant own q.1 (nI q.2) ∈ z_T) (C : z_C p s m args meth c cc nL own D cI cZ cJ ad A sc) (hd : decode cc pc = .ok (.ldc_w i, 3)) (hK : ∀ pc lv st S P, K pc lv st S P → z_V p l e R s m args below meth c cells slots Q nL D cI cZ cJ ad A pc lv st S P) (h : z_stp G Po Px sc (.ldc_w i) pc nx tg lv st S P K) (hn : nx = pc + 3) : z_V p l e R s m args below meth c cells slots Q nL D cI cZ cJ ad A pc lv st S P := by
  subst hn
  obtain ⟨⟨hx, hb, hml, hown, hts⟩, hinj, hAd, hA, hE, hlk, hsc⟩ := C
  simp only [z_stp] at h
  split at h
  · rename_i v hv
    intro H locs ls hP hS hl hrl hrs
    exact lv_ldcw hx hb hown (hts _ (hci _ (z_fnd_mem _ _ _ hv))) hd (hK _ _ _ _ _ h H locs ls hP hS hl hrl (by simpa [z_rs, z_rv] using hrs))
  · exact h.elim
set_option maxHeartbeats 1000000 in
theorem z_x_ldc2_w {i : Nat} (hci : ∀ q ∈ z_cL G, Jvm.Cond.constantLong own q.1 (lN q.2) ∈ z_T) (C : z_C p s m args meth c cc nL own D cI cZ cJ ad A sc) (hd : decode cc pc = .ok (.ldc2_w i, 3)) (hK : ∀ pc lv st S P, K pc lv st S P → z_V p l e R s m args below meth c cells slots Q nL D cI cZ cJ ad A pc lv st S P) (h : z_stp G Po Px sc (.ldc2_w i) pc nx tg lv st S P K) (hn : nx = pc + 3) : z_V p l e R s m args below meth c cells slots Q nL D cI cZ cJ ad A pc lv st S P := by
  subst hn
  obtain ⟨⟨hx, hb, hml, hown, hts⟩, hinj, hAd, hA, hE, hlk, hsc⟩ := C
  simp only [z_stp] at h
  split at h
  · rename_i v hv
    intro H locs ls hP hS hl hrl hrs
    exact lv_ldc2 hx hb hown (hts _ (hci _ (z_fnd_mem _ _ _ hv))) hd (hK _ _ _ _ _ h H locs ls hP hS hl hrl (by simpa [z_rs, z_rv] using hrs))
  · exact h.elim
set_option maxHeartbeats 1000000 in
theorem z_x_iload_n {k : Fin 4} (C : z_C p s m args meth c cc nL own D cI cZ cJ ad A sc) (hd : decode cc pc = .ok (.iload_n k, 1)) (hK : ∀ pc lv st S P, K pc lv st S P → z_V p l e R s m args below meth c cells slots Q nL D cI cZ cJ ad A pc lv st S P) (h : z_stp G Po Px sc (.iload_n k) pc nx tg lv st S P K) (hn : nx = pc + 1) : z_V p l e R s m args below meth c cells slots Q nL D cI cZ cJ ad A pc lv st S P := by
  subst hn
  obtain ⟨⟨hx, hb, hml, hown, hts⟩, hinj, hAd, hA, hE, hlk, hsc⟩ := C
  simp only [z_stp] at h
  split at h
  · rename_i v hv
    intro H locs ls hP hS hl hrl hrs
    exact lv_iload_n hx hb hd rfl (z_lv_get hl hv) (hK _ _ _ _ _ h H locs ls hP hS hl hrl (z_rs_cons.mpr ⟨rfl, hrs⟩))
  · exact h.elim
set_option maxHeartbeats 1000000 in
theorem z_x_iload {k : Nat} (C : z_C p s m args meth c cc nL own D cI cZ cJ ad A sc) (hd : decode cc pc = .ok (.iload k, 2)) (hK : ∀ pc lv st S P, K pc lv st S P → z_V p l e R s m args below meth c cells slots Q nL D cI cZ cJ ad A pc lv st S P) (h : z_stp G Po Px sc (.iload k) pc nx tg lv st S P K) (hn : nx = pc + 2) : z_V p l e R s m args below meth c cells slots Q nL D cI cZ cJ ad A pc lv st S P := by
  subst hn
  obtain ⟨⟨hx, hb, hml, hown, hts⟩, hinj, hAd, hA, hE, hlk, hsc⟩ := C
  simp only [z_stp] at h
  split at h
  · rename_i v hv
    intro H locs ls hP hS hl hrl hrs
    exact lv_iload hx hb hd (z_lv_get hl hv) (hK _ _ _ _ _ h H locs ls hP hS hl hrl (z_rs_cons.mpr ⟨rfl, hrs⟩))
  · exact h.elim
set_option maxHeartbeats 1000000 in
theorem z_x_lload_n {k : Fin 4} (C : z_C p s m args meth c cc nL own D cI cZ cJ ad A sc) (hd : decode cc pc = .ok (.lload_n k, 1)) (hK : ∀ pc lv st S P, K pc lv st S P → z_V p l e R s m args below meth c cells slots Q nL D cI cZ cJ ad A pc lv st S P) (h : z_stp G Po Px sc (.lload_n k) pc nx tg lv st S P K) (hn : nx = pc + 1) : z_V p l e R s m args below meth c cells slots Q nL D cI cZ cJ ad A pc lv st S P := by
  subst hn
  obtain ⟨⟨hx, hb, hml, hown, hts⟩, hinj, hAd, hA, hE, hlk, hsc⟩ := C
  simp only [z_stp] at h
  split at h
  · rename_i v hv
    intro H locs ls hP hS hl hrl hrs
    exact lv_lload_n hx hb hd rfl (z_lv_get hl hv) (hK _ _ _ _ _ h H locs ls hP hS hl hrl (z_rs_cons.mpr ⟨rfl, hrs⟩))
  · exact h.elim
set_option maxHeartbeats 1000000 in
theorem z_x_lload {k : Nat} (C : z_C p s m args meth c cc nL own D cI cZ cJ ad A sc) (hd : decode cc pc = .ok (.lload k, 2)) (hK : ∀ pc lv st S P, K pc lv st S P → z_V p l e R s m args below meth c cells slots Q nL D cI cZ cJ ad A pc lv st S P) (h : z_stp G Po Px sc (.lload k) pc nx tg lv st S P K) (hn : nx = pc + 2) : z_V p l e R s m args below meth c cells slots Q nL D cI cZ cJ ad A pc lv st S P := by
  subst hn
  obtain ⟨⟨hx, hb, hml, hown, hts⟩, hinj, hAd, hA, hE, hlk, hsc⟩ := C
  simp only [z_stp] at h
  split at h
  · rename_i v hv
    intro H locs ls hP hS hl hrl hrs
    exact lv_lload hx hb hd (z_lv_get hl hv) (hK _ _ _ _ _ h H locs ls hP hS hl hrl (z_rs_cons.mpr ⟨rfl, hrs⟩))
  · exact h.elim
set_option maxHeartbeats 1000000 in
theorem z_x_aload_n {k : Fin 4} (C : z_C p s m args meth c cc nL own D cI cZ cJ ad A sc) (hd : decode cc pc = .ok (.aload_n k, 1)) (hK : ∀ pc lv st S P, K pc lv st S P → z_V p l e R s m args below meth c cells slots Q nL D cI cZ cJ ad A pc lv st S P) (h : z_stp G Po Px sc (.aload_n k) pc nx tg lv st S P K) (hn : nx = pc + 1) : z_V p l e R s m args below meth c cells slots Q nL D cI cZ cJ ad A pc lv st S P := by
  subst hn
  obtain ⟨⟨hx, hb, hml, hown, hts⟩, hinj, hAd, hA, hE, hlk, hsc⟩ := C
  simp only [z_stp] at h
  split at h
  · rename_i v hv
    intro H locs ls hP hS hl hrl hrs
    exact lv_aload_n hx hb hd rfl (z_lv_get hl hv) (hK _ _ _ _ _ h H locs ls hP hS hl hrl (z_rs_cons.mpr ⟨z_rl_get hrl hv, hrs⟩))
  · exact h.elim
set_option maxHeartbeats 1000000 in
theorem z_x_aload {k : Nat} (C : z_C p s m args meth c cc nL own D cI cZ cJ ad A sc) (hd : decode cc pc = .ok (.aload k, 2)) (hK : ∀ pc lv st S P, K pc lv st S P → z_V p l e R s m args below meth c cells slots Q nL D cI cZ cJ ad A pc lv st S P) (h : z_stp G Po Px sc (.aload k) pc nx tg lv st S P K) (hn : nx = pc + 2) : z_V p l e R s m args below meth c cells slots Q nL D cI cZ cJ ad A pc lv st S P := by
  subst hn
  obtain ⟨⟨hx, hb, hml, hown, hts⟩, hinj, hAd, hA, hE, hlk, hsc⟩ := C
  simp only [z_stp] at h
  split at h
  · rename_i v hv
    intro H locs ls hP hS hl hrl hrs
    exact lv_aload hx hb hd (z_lv_get hl hv) (hK _ _ _ _ _ h H locs ls hP hS hl hrl (z_rs_cons.mpr ⟨z_rl_get hrl hv, hrs⟩))
  · exact h.elim
set_option maxHeartbeats 1000000 in
theorem z_x_istore_n {k : Fin 4} (hkn : k.val < nL) (C : z_C p s m args meth c cc nL own D cI cZ cJ ad A sc) (hd : decode cc pc = .ok (.istore_n k, 1)) (hK : ∀ pc lv st S P, K pc lv st S P → z_V p l e R s m args below meth c cells slots Q nL D cI cZ cJ ad A pc lv st S P) (h : z_stp G Po Px sc (.istore_n k) pc nx tg lv st S P K) (hn : nx = pc + 1) : z_V p l e R s m args below meth c cells slots Q nL D cI cZ cJ ad A pc lv st S P := by
  subst hn
  obtain ⟨⟨hx, hb, hml, hown, hts⟩, hinj, hAd, hA, hE, hlk, hsc⟩ := C
  simp only [z_stp] at h
  split at h
  · rename_i v r
    obtain ⟨lv1, hk1, hm⟩ := z_put_eq _ _ _ _ _ h
    intro H locs ls hP hS hl hrl hrs
    exact lv_istore_n hx hb hd rfl hl hkn rfl (fun ls1 hl1 => hK _ _ _ _ _ hk1 H locs ls1 hP hS (z_lv_put1 rfl hl1 hm) (z_rl_put rfl hrl hm) (z_rs_cons.mp hrs).2)
  · exact h.elim
set_option maxHeartbeats 1000000 in
theorem z_x_istore {k : Nat} (hkn : k < nL) (C : z_C p s m args meth c cc nL own D cI cZ cJ ad A sc) (hd : decode cc pc = .ok (.istore k, 2)) (hK : ∀ pc lv st S P, K pc lv st S P → z_V p l e R s m args below meth c cells slots Q nL D cI cZ cJ ad A pc lv st S P) (h : z_stp G Po Px sc (.istore k) pc nx tg lv st S P K) (hn : nx = pc + 2) : z_V p l e R s m args below meth c cells slots Q nL D cI cZ cJ ad A pc lv st S P := by
  subst hn
  obtain ⟨⟨hx, hb, hml, hown, hts⟩, hinj, hAd, hA, hE, hlk, hsc⟩ := C
  simp only [z_stp] at h
  split at h
  · rename_i v r
    obtain ⟨lv1, hk1, hm⟩ := z_put_eq _ _ _ _ _ h
    intro H locs ls hP hS hl hrl hrs
    exact lv_istore hx hb hd hl hkn rfl (fun ls1 hl1 => hK _ _ _ _ _ hk1 H locs ls1 hP hS (z_lv_put1 rfl hl1 hm) (z_rl_put rfl hrl hm) (z_rs_cons.mp hrs).2)
  · exact h.elim
set_option maxHeartbeats 1000000 in
theorem z_x_lstore_n {k : Fin 4} (hkn : k.val + 1 < nL) (C : z_C p s m args meth c cc nL own D cI cZ cJ ad A sc) (hd : decode cc pc = .ok (.lstore_n k, 1)) (hK : ∀ pc lv st S P, K pc lv st S P → z_V p l e R s m args below meth c cells slots Q nL D cI cZ cJ ad A pc lv st S P) (h : z_stp G Po Px sc (.lstore_n k) pc nx tg lv st S P K) (hn : nx = pc + 1) : z_V p l e R s m args below meth c cells slots Q nL D cI cZ cJ ad A pc lv st S P := by
  subst hn
  obtain ⟨⟨hx, hb, hml, hown, hts⟩, hinj, hAd, hA, hE, hlk, hsc⟩ := C
  simp only [z_stp] at h
  split at h
  · rename_i v r
    obtain ⟨lv1, hk1, hm⟩ := z_put_eq _ _ _ _ _ h
    intro H locs ls hP hS hl hrl hrs
    exact lv_lstore_n hx hb hd rfl hl hkn rfl (fun ls1 hl1 => hK _ _ _ _ _ hk1 H locs ls1 hP hS (z_lv_put2 rfl hl1 hm) (z_rl_put rfl hrl hm) (z_rs_cons.mp hrs).2)
  · exact h.elim
set_option maxHeartbeats 1000000 in
theorem z_x_lstore {k : Nat} (hkn : k + 1 < nL) (C : z_C p s m args meth c cc nL own D cI cZ cJ ad A sc) (hd : decode cc pc = .ok (.lstore k, 2)) (hK : ∀ pc lv st S P, K pc lv st S P → z_V p l e R s m args below meth c cells slots Q nL D cI cZ cJ ad A pc lv st S P) (h : z_stp G Po Px sc (.lstore k) pc nx tg lv st S P K) (hn : nx = pc + 2) : z_V p l e R s m args below meth c cells slots Q nL D cI cZ cJ ad A pc lv st S P := by
  subst hn
  obtain ⟨⟨hx, hb, hml, hown, hts⟩, hinj, hAd, hA, hE, hlk, hsc⟩ := C
  simp only [z_stp] at h
  split at h
  · rename_i v r
    obtain ⟨lv1, hk1, hm⟩ := z_put_eq _ _ _ _ _ h
    intro H locs ls hP hS hl hrl hrs
    exact lv_lstore hx hb hd hl hkn rfl (fun ls1 hl1 => hK _ _ _ _ _ hk1 H locs ls1 hP hS (z_lv_put2 rfl hl1 hm) (z_rl_put rfl hrl hm) (z_rs_cons.mp hrs).2)
  · exact h.elim
set_option maxHeartbeats 1000000 in
theorem z_x_iinc {k : Nat} {n : Int} (hkn : k < nL) (C : z_C p s m args meth c cc nL own D cI cZ cJ ad A sc) (hd : decode cc pc = .ok (.iinc k n, 3)) (hK : ∀ pc lv st S P, K pc lv st S P → z_V p l e R s m args below meth c cells slots Q nL D cI cZ cJ ad A pc lv st S P) (h : z_stp G Po Px sc (.iinc k n) pc nx tg lv st S P K) (hn : nx = pc + 3) : z_V p l e R s m args below meth c cells slots Q nL D cI cZ cJ ad A pc lv st S P := by
  subst hn
  obtain ⟨⟨hx, hb, hml, hown, hts⟩, hinj, hAd, hA, hE, hlk, hsc⟩ := C
  simp only [z_stp] at h
  split at h
  · rename_i v hv
    obtain ⟨k0, hk0⟩ := List.getElem?_of_mem (List.mem_map.mpr ⟨(k, Value.int v), z_get_mem lv k _ hv, rfl⟩ : (k, z_tv ad (.int v)) ∈ z_tl ad lv)
    split at h
    · rename_i j
      obtain ⟨lv1, hk1, hm⟩ := z_put_eq _ _ _ _ _ h
      intro H locs ls hP hS hl hrl hrs
      exact lv_iinc (v := v + nI j) hx hb hd hl hk0 (by first | rfl | (congr 1; exact Int32.ofInt_ofNat _) | simp [nI]) hkn rfl (fun ls1 hl1 => hK _ _ _ _ _ hk1 H locs ls1 hP hS (z_lv_put1 rfl hl1 hm) (z_rl_put rfl hrl hm) hrs)
    · obtain ⟨lv1, hk1, hm⟩ := z_put_eq _ _ _ _ _ h
      intro H locs ls hP hS hl hrl hrs
      exact lv_iinc (v := v + (-1)) hx hb hd hl hk0 (by first | rfl | (congr 1)) hkn rfl (fun ls1 hl1 => hK _ _ _ _ _ hk1 H locs ls1 hP hS (z_lv_put1 rfl hl1 hm) (z_rl_put rfl hrl hm) hrs)
    · exact h.elim
  · exact h.elim
set_option maxHeartbeats 1000000 in
theorem z_x_iadd  (C : z_C p s m args meth c cc nL own D cI cZ cJ ad A sc) (hd : decode cc pc = .ok (.iadd, 1)) (hK : ∀ pc lv st S P, K pc lv st S P → z_V p l e R s m args below meth c cells slots Q nL D cI cZ cJ ad A pc lv st S P) (h : z_stp G Po Px sc (.iadd) pc nx tg lv st S P K) (hn : nx = pc + 1) : z_V p l e R s m args below meth c cells slots Q nL D cI cZ cJ ad A pc lv st S P := by
  subst hn
  obtain ⟨⟨hx, hb, hml, hown, hts⟩, hinj, hAd, hA, hE, hlk, hsc⟩ := C
  simp only [z_stp] at h
  split at h
  · intro H locs ls hP hS hl hrl hrs
    exact lv_iadd hx hb hd (hK _ _ _ _ _ h H locs ls hP hS hl hrl (by simpa [z_rs, z_rv] using hrs))
  · exact h.elim
set_option maxHeartbeats 1000000 in
theorem z_x_isub  (C : z_C p s m args meth c cc nL own D cI cZ cJ ad A sc) (hd : decode cc pc = .ok (.isub, 1)) (hK : ∀ pc lv st S P, K pc lv st S P → z_V p l e R s m args below meth c cells slots Q nL D cI cZ cJ ad A pc lv st S P) (h : z_stp G Po Px sc (.isub) pc nx tg lv st S P K) (hn : nx = pc + 1) : z_V p l e R s m args below meth c cells slots Q nL D cI cZ cJ ad A pc lv st S P := by
  subst hn
  obtain ⟨⟨hx, hb, hml, hown, hts⟩, hinj, hAd, hA, hE, hlk, hsc⟩ := C
  simp only [z_stp] at h
  split at h
  · intro H locs ls hP hS hl hrl hrs
    exact lv_isub hx hb hd (hK _ _ _ _ _ h H locs ls hP hS hl hrl (by simpa [z_rs, z_rv] using hrs))
  · exact h.elim
set_option maxHeartbeats 1000000 in
theorem z_x_imul  (C : z_C p s m args meth c cc nL own D cI cZ cJ ad A sc) (hd : decode cc pc = .ok (.imul, 1)) (hK : ∀ pc lv st S P, K pc lv st S P → z_V p l e R s m args below meth c cells slots Q nL D cI cZ cJ ad A pc lv st S P) (h : z_stp G Po Px sc (.imul) pc nx tg lv st S P K) (hn : nx = pc + 1) : z_V p l e R s m args below meth c cells slots Q nL D cI cZ cJ ad A pc lv st S P := by
  subst hn
  obtain ⟨⟨hx, hb, hml, hown, hts⟩, hinj, hAd, hA, hE, hlk, hsc⟩ := C
  simp only [z_stp] at h
  split at h
  · intro H locs ls hP hS hl hrl hrs
    exact lv_imul hx hb hd (hK _ _ _ _ _ h H locs ls hP hS hl hrl (by simpa [z_rs, z_rv] using hrs))
  · exact h.elim
set_option maxHeartbeats 1000000 in
theorem z_x_iand  (C : z_C p s m args meth c cc nL own D cI cZ cJ ad A sc) (hd : decode cc pc = .ok (.iand, 1)) (hK : ∀ pc lv st S P, K pc lv st S P → z_V p l e R s m args below meth c cells slots Q nL D cI cZ cJ ad A pc lv st S P) (h : z_stp G Po Px sc (.iand) pc nx tg lv st S P K) (hn : nx = pc + 1) : z_V p l e R s m args below meth c cells slots Q nL D cI cZ cJ ad A pc lv st S P := by
  subst hn
  obtain ⟨⟨hx, hb, hml, hown, hts⟩, hinj, hAd, hA, hE, hlk, hsc⟩ := C
  simp only [z_stp] at h
  split at h
  · intro H locs ls hP hS hl hrl hrs
    exact lv_iand hx hb hd (hK _ _ _ _ _ h H locs ls hP hS hl hrl (by simpa [z_rs, z_rv] using hrs))
  · exact h.elim
set_option maxHeartbeats 1000000 in
theorem z_x_ior  (C : z_C p s m args meth c cc nL own D cI cZ cJ ad A sc) (hd : decode cc pc = .ok (.ior, 1)) (hK : ∀ pc lv st S P, K pc lv st S P → z_V p l e R s m args below meth c cells slots Q nL D cI cZ cJ ad A pc lv st S P) (h : z_stp G Po Px sc (.ior) pc nx tg lv st S P K) (hn : nx = pc + 1) : z_V p l e R s m args below meth c cells slots Q nL D cI cZ cJ ad A pc lv st S P := by
  subst hn
  obtain ⟨⟨hx, hb, hml, hown, hts⟩, hinj, hAd, hA, hE, hlk, hsc⟩ := C
  simp only [z_stp] at h
  split at h
  · intro H locs ls hP hS hl hrl hrs
    exact lv_ior hx hb hd (hK _ _ _ _ _ h H locs ls hP hS hl hrl (by simpa [z_rs, z_rv] using hrs))
  · exact h.elim
set_option maxHeartbeats 1000000 in
theorem z_x_ixor  (C : z_C p s m args meth c cc nL own D cI cZ cJ ad A sc) (hd : decode cc pc = .ok (.ixor, 1)) (hK : ∀ pc lv st S P, K pc lv st S P → z_V p l e R s m args below meth c cells slots Q nL D cI cZ cJ ad A pc lv st S P) (h : z_stp G Po Px sc (.ixor) pc nx tg lv st S P K) (hn : nx = pc + 1) : z_V p l e R s m args below meth c cells slots Q nL D cI cZ cJ ad A pc lv st S P := by
  subst hn
  obtain ⟨⟨hx, hb, hml, hown, hts⟩, hinj, hAd, hA, hE, hlk, hsc⟩ := C
  simp only [z_stp] at h
  split at h
  · intro H locs ls hP hS hl hrl hrs
    exact lv_ixor hx hb hd (hK _ _ _ _ _ h H locs ls hP hS hl hrl (by simpa [z_rs, z_rv] using hrs))
  · exact h.elim
set_option maxHeartbeats 1000000 in
theorem z_x_ishl  (C : z_C p s m args meth c cc nL own D cI cZ cJ ad A sc) (hd : decode cc pc = .ok (.ishl, 1)) (hK : ∀ pc lv st S P, K pc lv st S P → z_V p l e R s m args below meth c cells slots Q nL D cI cZ cJ ad A pc lv st S P) (h : z_stp G Po Px sc (.ishl) pc nx tg lv st S P K) (hn : nx = pc + 1) : z_V p l e R s m args below meth c cells slots Q nL D cI cZ cJ ad A pc lv st S P := by
  subst hn
  obtain ⟨⟨hx, hb, hml, hown, hts⟩, hinj, hAd, hA, hE, hlk, hsc⟩ := C
  simp only [z_stp] at h
  split at h
  · intro H locs ls hP hS hl hrl hrs
    exact lv_ishl hx hb hd (hK _ _ _ _ _ h H locs ls hP hS hl hrl (by simpa [z_rs, z_rv] using hrs))
  · exact h.elim
set_option maxHeartbeats 1000000 in
theorem z_x_ishr  (C : z_C p s m args meth c cc nL own D cI cZ cJ ad A sc) (hd : decode cc pc = .ok (.ishr, 1)) (hK : ∀ pc lv st S P, K pc lv st S P → z_V p l e R s m args below meth c cells slots Q nL D cI cZ cJ ad A pc lv st S P) (h : z_stp G Po Px sc (.ishr) pc nx tg lv st S P K) (hn : nx = pc + 1) : z_V p l e R s m args below meth c cells slots Q nL D cI cZ cJ ad A pc lv st S P := by
  subst hn
  obtain ⟨⟨hx, hb, hml, hown, hts⟩, hinj, hAd, hA, hE, hlk, hsc⟩ := C
  simp only [z_stp] at h
  split at h
  · intro H locs ls hP hS hl hrl hrs
    exact lv_ishr hx hb hd (hK _ _ _ _ _ h H locs ls hP hS hl hrl (by simpa [z_rs, z_rv] using hrs))
  · exact h.elim
set_option maxHeartbeats 1000000 in
theorem z_x_ladd  (C : z_C p s m args meth c cc nL own D cI cZ cJ ad A sc) (hd : decode cc pc = .ok (.ladd, 1)) (hK : ∀ pc lv st S P, K pc lv st S P → z_V p l e R s m args below meth c cells slots Q nL D cI cZ cJ ad A pc lv st S P) (h : z_stp G Po Px sc (.ladd) pc nx tg lv st S P K) (hn : nx = pc + 1) : z_V p l e R s m args below meth c cells slots Q nL D cI cZ cJ ad A pc lv st S P := by
  subst hn
  obtain ⟨⟨hx, hb, hml, hown, hts⟩, hinj, hAd, hA, hE, hlk, hsc⟩ := C
  simp only [z_stp] at h
  split at h
  · intro H locs ls hP hS hl hrl hrs
    exact lv_ladd hx hb hd (hK _ _ _ _ _ h H locs ls hP hS hl hrl (by simpa [z_rs, z_rv] using hrs))
  · exact h.elim
set_option maxHeartbeats 1000000 in
theorem z_x_lsub  (C : z_C p s m args meth c cc nL own D cI cZ cJ ad A sc) (hd : decode cc pc = .ok (.lsub, 1)) (hK : ∀ pc lv st S P, K pc lv st S P → z_V p l e R s m args below meth c cells slots Q nL D cI cZ cJ ad A pc lv st S P) (h : z_stp G Po Px sc (.lsub) pc nx tg lv st S P K) (hn : nx = pc + 1) : z_V p l e R s m args below meth c cells slots Q nL D cI cZ cJ ad A pc lv st S P := by
  subst hn
  obtain ⟨⟨hx, hb, hml, hown, hts⟩, hinj, hAd, hA, hE, hlk, hsc⟩ := C
  simp only [z_stp] at h
  split at h
  · intro H locs ls hP hS hl hrl hrs
    exact lv_lsub hx hb hd (hK _ _ _ _ _ h H locs ls hP hS hl hrl (by simpa [z_rs, z_rv] using hrs))
  · exact h.elim
set_option maxHeartbeats 1000000 in
theorem z_x_lmul  (C : z_C p s m args meth c cc nL own D cI cZ cJ ad A sc) (hd : decode cc pc = .ok (.lmul, 1)) (hK : ∀ pc lv st S P, K pc lv st S P → z_V p l e R s m args below meth c cells slots Q nL D cI cZ cJ ad A pc lv st S P) (h : z_stp G Po Px sc (.lmul) pc nx tg lv st S P K) (hn : nx = pc + 1) : z_V p l e R s m args below meth c cells slots Q nL D cI cZ cJ ad A pc lv st S P := by
  subst hn
  obtain ⟨⟨hx, hb, hml, hown, hts⟩, hinj, hAd, hA, hE, hlk, hsc⟩ := C
  simp only [z_stp] at h
  split at h
  · intro H locs ls hP hS hl hrl hrs
    exact lv_lmul hx hb hd (hK _ _ _ _ _ h H locs ls hP hS hl hrl (by simpa [z_rs, z_rv] using hrs))
  · exact h.elim
set_option maxHeartbeats 1000000 in
theorem z_x_iushr  (C : z_C p s m args meth c cc nL own D cI cZ cJ ad A sc) (hd : decode cc pc = .ok (.iushr, 1)) (hK : ∀ pc lv st S P, K pc lv st S P → z_V p l e R s m args below meth c cells slots Q nL D cI cZ cJ ad A pc lv st S P) (h : z_stp G Po Px sc (.iushr) pc nx tg lv st S P K) (hn : nx = pc + 1) : z_V p l e R s m args below meth c cells slots Q nL D cI cZ cJ ad A pc lv st S P := by
  subst hn
  obtain ⟨⟨hx, hb, hml, hown, hts⟩, hinj, hAd, hA, hE, hlk, hsc⟩ := C
  simp only [z_stp] at h
  split at h
  · intro H locs ls hP hS hl hrl hrs
    exact lv_iushr hx hb hd rfl (hK _ _ _ _ _ h H locs ls hP hS hl hrl (by simpa [z_rs, z_rv] using hrs))
  · exact h.elim
set_option maxHeartbeats 1000000 in
theorem z_x_i2l  (C : z_C p s m args meth c cc nL own D cI cZ cJ ad A sc) (hd : decode cc pc = .ok (.i2l, 1)) (hK : ∀ pc lv st S P, K pc lv st S P → z_V p l e R s m args below meth c cells slots Q nL D cI cZ cJ ad A pc lv st S P) (h : z_stp G Po Px sc (.i2l) pc nx tg lv st S P K) (hn : nx = pc + 1) : z_V p l e R s m args below meth c cells slots Q nL D cI cZ cJ ad A pc lv st S P := by
  subst hn
  obtain ⟨⟨hx, hb, hml, hown, hts⟩, hinj, hAd, hA, hE, hlk, hsc⟩ := C
  simp only [z_stp] at h
  split at h
  · intro H locs ls hP hS hl hrl hrs
    exact lv_i2l hx hb hd rfl (hK _ _ _ _ _ h H locs ls hP hS hl hrl (by simpa [z_rs, z_rv] using hrs))
  · exact h.elim
set_option maxHeartbeats 1000000 in
theorem z_x_idiv  (C : z_C p s m args meth c cc nL own D cI cZ cJ ad A sc) (hd : decode cc pc = .ok (.idiv, 1)) (hK : ∀ pc lv st S P, K pc lv st S P → z_V p l e R s m args below meth c cells slots Q nL D cI cZ cJ ad A pc lv st S P) (h : z_stp G Po Px sc (.idiv) pc nx tg lv st S P K) (hn : nx = pc + 1) : z_V p l e R s m args below meth c cells slots Q nL D cI cZ cJ ad A pc lv st S P := by
  subst hn
  obtain ⟨⟨hx, hb, hml, hown, hts⟩, hinj, hAd, hA, hE, hlk, hsc⟩ := C
  simp only [z_stp] at h
  split at h
  · intro H locs ls hP hS hl hrl hrs
    exact lv_idiv hx hb hd h.1 (hK _ _ _ _ _ h.2 H locs ls hP hS hl hrl (by simpa [z_rs, z_rv] using hrs))
  · exact h.elim
set_option maxHeartbeats 1000000 in
theorem z_x_irem  (C : z_C p s m args meth c cc nL own D cI cZ cJ ad A sc) (hd : decode cc pc = .ok (.irem, 1)) (hK : ∀ pc lv st S P, K pc lv st S P → z_V p l e R s m args below meth c cells slots Q nL D cI cZ cJ ad A pc lv st S P) (h : z_stp G Po Px sc (.irem) pc nx tg lv st S P K) (hn : nx = pc + 1) : z_V p l e R s m args below meth c cells slots Q nL D cI cZ cJ ad A pc lv st S P := by
  subst hn
  obtain ⟨⟨hx, hb, hml, hown, hts⟩, hinj, hAd, hA, hE, hlk, hsc⟩ := C
  simp only [z_stp] at h
  split at h
  · intro H locs ls hP hS hl hrl hrs
    exact lv_irem hx hb hd h.1 (hK _ _ _ _ _ h.2 H locs ls hP hS hl hrl (by simpa [z_rs, z_rv] using hrs))
  · exact h.elim
set_option maxHeartbeats 1000000 in
theorem z_x_ldiv  (C : z_C p s m args meth c cc nL own D cI cZ cJ ad A sc) (hd : decode cc pc = .ok (.ldiv, 1)) (hK : ∀ pc lv st S P, K pc lv st S P → z_V p l e R s m args below meth c cells slots Q nL D cI cZ cJ ad A pc lv st S P) (h : z_stp G Po Px sc (.ldiv) pc nx tg lv st S P K) (hn : nx = pc + 1) : z_V p l e R s m args below meth c cells slots Q nL D cI cZ cJ ad A pc lv st S P := by
  subst hn
  obtain ⟨⟨hx, hb, hml, hown, hts⟩, hinj, hAd, hA, hE, hlk, hsc⟩ := C
  simp only [z_stp] at h
  split at h
  · intro H locs ls hP hS hl hrl hrs
    exact lv_ldiv hx hb hd h.1 (hK _ _ _ _ _ h.2 H locs ls hP hS hl hrl (by simpa [z_rs, z_rv] using hrs))
  · exact h.elim
set_option maxHeartbeats 1000000 in
theorem z_x_lrem  (C : z_C p s m args meth c cc nL own D cI cZ cJ ad A sc) (hd : decode cc pc = .ok (.lrem, 1)) (hK : ∀ pc lv st S P, K pc lv st S P → z_V p l e R s m args below meth c cells slots Q nL D cI cZ cJ ad A pc lv st S P) (h : z_stp G Po Px sc (.lrem) pc nx tg lv st S P K) (hn : nx = pc + 1) : z_V p l e R s m args below meth c cells slots Q nL D cI cZ cJ ad A pc lv st S P := by
  subst hn
  obtain ⟨⟨hx, hb, hml, hown, hts⟩, hinj, hAd, hA, hE, hlk, hsc⟩ := C
  simp only [z_stp] at h
  split at h
  · intro H locs ls hP hS hl hrl hrs
    exact lv_lrem hx hb hd h.1 (hK _ _ _ _ _ h.2 H locs ls hP hS hl hrl (by simpa [z_rs, z_rv] using hrs))
  · exact h.elim
set_option maxHeartbeats 1000000 in
theorem z_x_lcmp  (C : z_C p s m args meth c cc nL own D cI cZ cJ ad A sc) (hd : decode cc pc = .ok (.lcmp, 1)) (hK : ∀ pc lv st S P, K pc lv st S P → z_V p l e R s m args below meth c cells slots Q nL D cI cZ cJ ad A pc lv st S P) (h : z_stp G Po Px sc (.lcmp) pc nx tg lv st S P K) (hn : nx = pc + 1) : z_V p l e R s m args below meth c cells slots Q nL D cI cZ cJ ad A pc lv st S P := by
  subst hn
  obtain ⟨⟨hx, hb, hml, hown, hts⟩, hinj, hAd, hA, hE, hlk, hsc⟩ := C
  simp only [z_stp] at h
  split at h
  · intro H locs ls hP hS hl hrl hrs
    exact W.lcmp hx hb hd (hK _ _ _ _ _ h H locs ls hP hS hl hrl (by simpa [z_rs, z_rv] using hrs))
  · exact h.elim
theorem z_k4 {a j i : Nat} (h : a % 8 = j) (hj : j ≠ i) : a % 8 ≠ i := h ▸ hj
theorem z_c1 {v : Value} (h : z_is2 v = false) : (z_tv ad v).category = 1 := by cases v <;> first | rfl | cases h
set_option maxHeartbeats 1000000 in
theorem z_x_dup  (C : z_C p s m args meth c cc nL own D cI cZ cJ ad A sc) (hd : decode cc pc = .ok (.dup, 1)) (hK : ∀ pc lv st S P, K pc lv st S P → z_V p l e R s m args below meth c cells slots Q nL D cI cZ cJ ad A pc lv st S P) (h : z_stp G Po Px sc (.dup) pc nx tg lv st S P K) (hn : nx = pc + 1) : z_V p l e R s m args below meth c cells slots Q nL D cI cZ cJ ad A pc lv st S P := by
  subst hn
  obtain ⟨⟨hx, hb, hml, hown, hts⟩, hinj, hAd, hA, hE, hlk, hsc⟩ := C
  simp only [z_stp] at h
  split at h
  · split at h
    · rename_i h2
      intro H locs ls hP hS hl hrl hrs
      exact lv_dup hx hb hd (z_c1 h2) (hK _ _ _ _ _ h H locs ls hP hS hl hrl (by simpa [z_rs] using hrs))
    · exact h.elim
  · exact h.elim
set_option maxHeartbeats 1000000 in
theorem z_x_dup2  (C : z_C p s m args meth c cc nL own D cI cZ cJ ad A sc) (hd : decode cc pc = .ok (.dup2, 1)) (hK : ∀ pc lv st S P, K pc lv st S P → z_V p l e R s m args below meth c cells slots Q nL D cI cZ cJ ad A pc lv st S P) (h : z_stp G Po Px sc (.dup2) pc nx tg lv st S P K) (hn : nx = pc + 1) : z_V p l e R s m args below meth c cells slots Q nL D cI cZ cJ ad A pc lv st S P := by
  subst hn
  obtain ⟨⟨hx, hb, hml, hown, hts⟩, hinj, hAd, hA, hE, hlk, hsc⟩ := C
  simp only [z_stp] at h
  split at h
  · split at h
    · rename_i h2
      intro H locs ls hP hS hl hrl hrs
      rw [Bool.or_eq_false_iff] at h2
      exact lv_dup2_11 hx hb hd (z_c1 h2.1) (z_c1 h2.2) (hK _ _ _ _ _ h H locs ls hP hS hl hrl (by simp only [z_rs, List.all_cons, Bool.and_eq_true] at hrs ⊢; exact ⟨hrs.1, hrs.2.1, hrs⟩))
    · exact h.elim
  · exact h.elim
set_option maxHeartbeats 1000000 in
theorem z_x_ifCond {op : Jvm.ClassFile.Cond} {off : Int} (ht : (pc : Int) + off = (tg : Int)) (C : z_C p s m args meth c cc nL own D cI cZ cJ ad A sc) (hd : decode cc pc = .ok (.ifCond op off, 3)) (hK : ∀ pc lv st S P, K pc lv st S P → z_V p l e R s m args below meth c cells slots Q nL D cI cZ cJ ad A pc lv st S P) (h : z_stp G Po Px sc (.ifCond op off) pc nx tg lv st S P K) (hn : nx = pc + 3) : z_V p l e R s m args below meth c cells slots Q nL D cI cZ cJ ad A pc lv st S P := by
  subst hn
  obtain ⟨⟨hx, hb, hml, hown, hts⟩, hinj, hAd, hA, hE, hlk, hsc⟩ := C
  simp only [z_stp] at h
  split at h
  · cases op <;> simp only at h
    · intro H locs ls hP hS hl hrl hrs
      exact lv_if_eq hx hb hd ht (fun q => hK _ _ _ _ _ (h.1 q) H locs ls hP hS hl hrl (by simpa [z_rs, z_rv] using hrs)) (fun q => hK _ _ _ _ _ (h.2 q) H locs ls hP hS hl hrl (by simpa [z_rs, z_rv] using hrs))
    · intro H locs ls hP hS hl hrl hrs
      exact lv_if_ne hx hb hd ht (fun q => hK _ _ _ _ _ (h.1 q) H locs ls hP hS hl hrl (by simpa [z_rs, z_rv] using hrs)) (fun q => hK _ _ _ _ _ (h.2 q) H locs ls hP hS hl hrl (by simpa [z_rs, z_rv] using hrs))
    · intro H locs ls hP hS hl hrl hrs
      exact lv_if_lt hx hb hd ht (fun q => hK _ _ _ _ _ (h.1 q) H locs ls hP hS hl hrl (by simpa [z_rs, z_rv] using hrs)) (fun q => hK _ _ _ _ _ (h.2 q) H locs ls hP hS hl hrl (by simpa [z_rs, z_rv] using hrs))
    · intro H locs ls hP hS hl hrl hrs
      exact lv_if_ge hx hb hd ht (fun q => hK _ _ _ _ _ (h.1 q) H locs ls hP hS hl hrl (by simpa [z_rs, z_rv] using hrs)) (fun q => hK _ _ _ _ _ (h.2 q) H locs ls hP hS hl hrl (by simpa [z_rs, z_rv] using hrs))
    · intro H locs ls hP hS hl hrl hrs
      exact lv_if_gt hx hb hd ht (fun q => hK _ _ _ _ _ (h.1 q) H locs ls hP hS hl hrl (by simpa [z_rs, z_rv] using hrs)) (fun q => hK _ _ _ _ _ (h.2 q) H locs ls hP hS hl hrl (by simpa [z_rs, z_rv] using hrs))
    · intro H locs ls hP hS hl hrl hrs
      exact lv_if_le hx hb hd ht (fun q => hK _ _ _ _ _ (h.1 q) H locs ls hP hS hl hrl (by simpa [z_rs, z_rv] using hrs)) (fun q => hK _ _ _ _ _ (h.2 q) H locs ls hP hS hl hrl (by simpa [z_rs, z_rv] using hrs))
  · exact h.elim
set_option maxHeartbeats 1000000 in
theorem z_x_if_icmp {op : Jvm.ClassFile.Cond} {off : Int} (ht : (pc : Int) + off = (tg : Int)) (C : z_C p s m args meth c cc nL own D cI cZ cJ ad A sc) (hd : decode cc pc = .ok (.if_icmp op off, 3)) (hK : ∀ pc lv st S P, K pc lv st S P → z_V p l e R s m args below meth c cells slots Q nL D cI cZ cJ ad A pc lv st S P) (h : z_stp G Po Px sc (.if_icmp op off) pc nx tg lv st S P K) (hn : nx = pc + 3) : z_V p l e R s m args below meth c cells slots Q nL D cI cZ cJ ad A pc lv st S P := by
  subst hn
  obtain ⟨⟨hx, hb, hml, hown, hts⟩, hinj, hAd, hA, hE, hlk, hsc⟩ := C
  simp only [z_stp] at h
  split at h
  · cases op <;> simp only at h
    · intro H locs ls hP hS hl hrl hrs
      exact lv_icmp_eq hx hb hd ht (fun q => hK _ _ _ _ _ (h.1 q) H locs ls hP hS hl hrl (by simpa [z_rs, z_rv] using hrs)) (fun q => hK _ _ _ _ _ (h.2 q) H locs ls hP hS hl hrl (by simpa [z_rs, z_rv] using hrs))
    · intro H locs ls hP hS hl hrl hrs
      exact lv_icmp_ne hx hb hd ht (fun q => hK _ _ _ _ _ (h.1 q) H locs ls hP hS hl hrl (by simpa [z_rs, z_rv] using hrs)) (fun q => hK _ _ _ _ _ (h.2 q) H locs ls hP hS hl hrl (by simpa [z_rs, z_rv] using hrs))
    · intro H locs ls hP hS hl hrl hrs
      exact lv_icmp_lt hx hb hd ht (fun q => hK _ _ _ _ _ (h.1 q) H locs ls hP hS hl hrl (by simpa [z_rs, z_rv] using hrs)) (fun q => hK _ _ _ _ _ (h.2 q) H locs ls hP hS hl hrl (by simpa [z_rs, z_rv] using hrs))
    · intro H locs ls hP hS hl hrl hrs
      exact lv_icmp_ge hx hb hd ht (fun q => hK _ _ _ _ _ (h.1 q) H locs ls hP hS hl hrl (by simpa [z_rs, z_rv] using hrs)) (fun q => hK _ _ _ _ _ (h.2 q) H locs ls hP hS hl hrl (by simpa [z_rs, z_rv] using hrs))
    · intro H locs ls hP hS hl hrl hrs
      exact lv_icmp_gt hx hb hd ht (fun q => hK _ _ _ _ _ (h.1 q) H locs ls hP hS hl hrl (by simpa [z_rs, z_rv] using hrs)) (fun q => hK _ _ _ _ _ (h.2 q) H locs ls hP hS hl hrl (by simpa [z_rs, z_rv] using hrs))
    · intro H locs ls hP hS hl hrl hrs
      exact lv_icmp_le hx hb hd ht (fun q => hK _ _ _ _ _ (h.1 q) H locs ls hP hS hl hrl (by simpa [z_rs, z_rv] using hrs)) (fun q => hK _ _ _ _ _ (h.2 q) H locs ls hP hS hl hrl (by simpa [z_rs, z_rv] using hrs))
  · exact h.elim
set_option maxHeartbeats 1000000 in
theorem z_x_goto {off : Int} (ht : (pc : Int) + off = (tg : Int)) (C : z_C p s m args meth c cc nL own D cI cZ cJ ad A sc) (hd : decode cc pc = .ok (.goto off, 3)) (hK : ∀ pc lv st S P, K pc lv st S P → z_V p l e R s m args below meth c cells slots Q nL D cI cZ cJ ad A pc lv st S P) (h : z_stp G Po Px sc (.goto off) pc nx tg lv st S P K) (hn : nx = pc + 3) : z_V p l e R s m args below meth c cells slots Q nL D cI cZ cJ ad A pc lv st S P := by
  subst hn
  obtain ⟨⟨hx, hb, hml, hown, hts⟩, hinj, hAd, hA, hE, hlk, hsc⟩ := C
  simp only [z_stp] at h
  intro H locs ls hP hS hl hrl hrs
  exact lv_goto hx hb hd ht (hK _ _ _ _ _ h H locs ls hP hS hl hrl hrs)
set_option maxHeartbeats 1000000 in
theorem z_x_iaload  (C : z_C p s m args meth c cc nL own D cI cZ cJ ad A sc) (hd : decode cc pc = .ok (.iaload, 1)) (hK : ∀ pc lv st S P, K pc lv st S P → z_V p l e R s m args below meth c cells slots Q nL D cI cZ cJ ad A pc lv st S P) (h : z_stp G Po Px sc (.iaload) pc nx tg lv st S P K) (hn : nx = pc + 1) : z_V p l e R s m args below meth c cells slots Q nL D cI cZ cJ ad A pc lv st S P := by
  subst hn
  obtain ⟨⟨hx, hb, hml, hown, hts⟩, hinj, hAd, hA, hE, hlk, hsc⟩ := C
  simp only [z_stp] at h
  split at h
  · rename_i i a r
    split at h
    · rename_i hk
      intro H locs ls hP hS hl hrl hrs
      have hr2 := z_rs_cons.mp (z_rs_cons.mp hrs).2
      obtain ⟨k0, hk0, -⟩ := z_w_at (cI := cI) (cZ := cZ) (cJ := cJ) (ad := ad) (S := S) (P := P) (z_in hr2.1 (z_k4 hk (by decide)) (z_k4 hk (by decide)))
      rw [z_e1 hk] at hk0
      exact va_iald hx hb hE.1 hP k0 0 hk0 rfl h.1 hd (hK _ _ _ _ _ h.2 H locs ls hP hS hl hrl (z_rs_cons.mpr ⟨rfl, hr2.2⟩))
    · rename_i hk
      split at h
      · rename_i L f
        intro H locs ls hP hS hl hrl hrs
        have hr2 := z_rs_cons.mp (z_rs_cons.mp hrs).2
        have e := z_sc_of hr2.1 hk
        subst e
        obtain ⟨hX, hbl, hbA⟩ := hsc L f rfl
        exact va_sld hx hb hX hbl hbA hS h.1 hd (hK _ _ _ _ _ h.2 H locs ls hP hS hl hrl (z_rs_cons.mpr ⟨rfl, hr2.2⟩))
      · exact h.elim
    · rename_i hk
      intro H locs ls hP hS hl hrl hrs
      have hr2 := z_rs_cons.mp (z_rs_cons.mp hrs).2
      have e := z_wt_of hr2.1 hk
      subst e
      exact va_ti hx hb hE.2.2.2.2.2.2.1 hS h.1 rfl hd (hK _ _ _ _ _ h.2 H locs ls hP hS hl hrl (z_rs_cons.mpr ⟨rfl, hr2.2⟩))
    · exact h.elim
  · exact h.elim
set_option maxHeartbeats 1000000 in
theorem z_x_baload  (C : z_C p s m args meth c cc nL own D cI cZ cJ ad A sc) (hd : decode cc pc = .ok (.baload, 1)) (hK : ∀ pc lv st S P, K pc lv st S P → z_V p l e R s m args below meth c cells slots Q nL D cI cZ cJ ad A pc lv st S P) (h : z_stp G Po Px sc (.baload) pc nx tg lv st S P K) (hn : nx = pc + 1) : z_V p l e R s m args below meth c cells slots Q nL D cI cZ cJ ad A pc lv st S P := by
  subst hn
  obtain ⟨⟨hx, hb, hml, hown, hts⟩, hinj, hAd, hA, hE, hlk, hsc⟩ := C
  simp only [z_stp] at h
  split at h
  · rename_i i a r
    split at h
    · rename_i hk
      intro H locs ls hP hS hl hrl hrs
      have hr2 := z_rs_cons.mp (z_rs_cons.mp hrs).2
      obtain ⟨k0, hk0, -⟩ := z_w_at (cI := cI) (cZ := cZ) (cJ := cJ) (ad := ad) (S := S) (P := P) (z_in hr2.1 (z_k4 hk (by decide)) (z_k4 hk (by decide)))
      rw [z_e2 hk] at hk0
      exact va_zald hx hb hE.1 hP k0 1 hk0 rfl h.1 hd (hK _ _ _ _ _ h.2 H locs ls hP hS hl hrl (z_rs_cons.mpr ⟨rfl, hr2.2⟩))
    · exact h.elim
  · exact h.elim
set_option maxHeartbeats 1000000 in
theorem z_x_laload  (C : z_C p s m args meth c cc nL own D cI cZ cJ ad A sc) (hd : decode cc pc = .ok (.laload, 1)) (hK : ∀ pc lv st S P, K pc lv st S P → z_V p l e R s m args below meth c cells slots Q nL D cI cZ cJ ad A pc lv st S P) (h : z_stp G Po Px sc (.laload) pc nx tg lv st S P K) (hn : nx = pc + 1) : z_V p l e R s m args below meth c cells slots Q nL D cI cZ cJ ad A pc lv st S P := by
  subst hn
  obtain ⟨⟨hx, hb, hml, hown, hts⟩, hinj, hAd, hA, hE, hlk, hsc⟩ := C
  simp only [z_stp] at h
  split at h
  · rename_i i a r
    split at h
    · rename_i hk
      intro H locs ls hP hS hl hrl hrs
      have hr2 := z_rs_cons.mp (z_rs_cons.mp hrs).2
      obtain ⟨k0, hk0, -⟩ := z_w_at (cI := cI) (cZ := cZ) (cJ := cJ) (ad := ad) (S := S) (P := P) (z_in hr2.1 (z_k4 hk (by decide)) (z_k4 hk (by decide)))
      rw [z_e3 hk] at hk0
      exact va_lald hx hb hE.1 hP k0 2 hk0 rfl h.1 hd (hK _ _ _ _ _ h.2 H locs ls hP hS hl hrl (z_rs_cons.mpr ⟨rfl, hr2.2⟩))
    · exact h.elim
  · exact h.elim
set_option maxHeartbeats 1000000 in
theorem z_x_iastore  (C : z_C p s m args meth c cc nL own D cI cZ cJ ad A sc) (hd : decode cc pc = .ok (.iastore, 1)) (hK : ∀ pc lv st S P, K pc lv st S P → z_V p l e R s m args below meth c cells slots Q nL D cI cZ cJ ad A pc lv st S P) (h : z_stp G Po Px sc (.iastore) pc nx tg lv st S P K) (hn : nx = pc + 1) : z_V p l e R s m args below meth c cells slots Q nL D cI cZ cJ ad A pc lv st S P := by
  subst hn
  obtain ⟨⟨hx, hb, hml, hown, hts⟩, hinj, hAd, hA, hE, hlk, hsc⟩ := C
  simp only [z_stp] at h
  split at h
  · rename_i x i a r
    split at h
    · rename_i hk
      intro H locs ls hP hS hl hrl hrs
      have hr2 := z_rs_cons.mp (z_rs_cons.mp (z_rs_cons.mp hrs).2).2
      obtain ⟨k0, hk0, hi0⟩ := z_w_at (cI := cI) (cZ := cZ) (cJ := cJ) (ad := ad) (S := S) (P := P) (z_in hr2.1 (z_k4 hk (by decide)) (z_k4 hk (by decide)))
      rw [z_e1 hk] at hk0
      refine va_iast hx hb hE.1 hP (z_D_of hinj hAd) hS k0 0 hk0 rfl h.1 hd (fun H1 locs1 hP1 _ hS1 => hK _ _ _ _ _ h.2 H1 locs1 ls ?_ hS1 hl hrl hr2.2)
      rw [← z_w_set hi0 (fun b hb9 => z_e_neS hb9), z_e1 hk, va_up_self]
      exact hP1
    · exact h.elim
  · exact h.elim
set_option maxHeartbeats 1000000 in
theorem z_x_bastore  (C : z_C p s m args meth c cc nL own D cI cZ cJ ad A sc) (hd : decode cc pc = .ok (.bastore, 1)) (hK : ∀ pc lv st S P, K pc lv st S P → z_V p l e R s m args below meth c cells slots Q nL D cI cZ cJ ad A pc lv st S P) (h : z_stp G Po Px sc (.bastore) pc nx tg lv st S P K) (hn : nx = pc + 1) : z_V p l e R s m args below meth c cells slots Q nL D cI cZ cJ ad A pc lv st S P := by
  subst hn
  obtain ⟨⟨hx, hb, hml, hown, hts⟩, hinj, hAd, hA, hE, hlk, hsc⟩ := C
  simp only [z_stp] at h
  split at h
  · rename_i x i a r
    split at h
    · rename_i hk
      intro H locs ls hP hS hl hrl hrs
      have hr2 := z_rs_cons.mp (z_rs_cons.mp (z_rs_cons.mp hrs).2).2
      obtain ⟨k0, hk0, hi0⟩ := z_w_at (cI := cI) (cZ := cZ) (cJ := cJ) (ad := ad) (S := S) (P := P) (z_in hr2.1 (z_k4 hk (by decide)) (z_k4 hk (by decide)))
      rw [z_e2 hk] at hk0
      refine va_zast hx hb hE.1 hP (z_D_of hinj hAd) hS k0 1 hk0 rfl h.1 hd (fun H1 locs1 hP1 _ hS1 => hK _ _ _ _ _ h.2 H1 locs1 ls ?_ hS1 hl hrl hr2.2)
      rw [← z_w_set hi0 (fun b hb9 => z_e_neS hb9), z_e2 hk, va_up_self]
      exact hP1
    · exact h.elim
  · exact h.elim
set_option maxHeartbeats 1000000 in
theorem z_x_lastore  (C : z_C p s m args meth c cc nL own D cI cZ cJ ad A sc) (hd : decode cc pc = .ok (.lastore, 1)) (hK : ∀ pc lv st S P, K pc lv st S P → z_V p l e R s m args below meth c cells slots Q nL D cI cZ cJ ad A pc lv st S P) (h : z_stp G Po Px sc (.lastore) pc nx tg lv st S P K) (hn : nx = pc + 1) : z_V p l e R s m args below meth c cells slots Q nL D cI cZ cJ ad A pc lv st S P := by
  subst hn
  obtain ⟨⟨hx, hb, hml, hown, hts⟩, hinj, hAd, hA, hE, hlk, hsc⟩ := C
  simp only [z_stp] at h
  split at h
  · rename_i x i a r
    split at h
    · rename_i hk
      intro H locs ls hP hS hl hrl hrs
      have hr2 := z_rs_cons.mp (z_rs_cons.mp (z_rs_cons.mp hrs).2).2
      obtain ⟨k0, hk0, hi0⟩ := z_w_at (cI := cI) (cZ := cZ) (cJ := cJ) (ad := ad) (S := S) (P := P) (z_in hr2.1 (z_k4 hk (by decide)) (z_k4 hk (by decide)))
      rw [z_e3 hk] at hk0
      refine va_last hx hb hE.1 hP (z_D_of hinj hAd) hS k0 2 hk0 rfl h.1 hd (fun H1 locs1 hP1 _ hS1 => hK _ _ _ _ _ h.2 H1 locs1 ls ?_ hS1 hl hrl hr2.2)
      rw [← z_w_set hi0 (fun b hb9 => z_e_neP hb9), z_e3 hk, va_up_self]
      exact hP1
    · exact h.elim
  · exact h.elim
set_option maxHeartbeats 1000000 in
theorem z_x_arraylength  (C : z_C p s m args meth c cc nL own D cI cZ cJ ad A sc) (hd : decode cc pc = .ok (.arraylength, 1)) (hK : ∀ pc lv st S P, K pc lv st S P → z_V p l e R s m args below meth c cells slots Q nL D cI cZ cJ ad A pc lv st S P) (h : z_stp G Po Px sc (.arraylength) pc nx tg lv st S P K) (hn : nx = pc + 1) : z_V p l e R s m args below meth c cells slots Q nL D cI cZ cJ ad A pc lv st S P := by
  subst hn
  obtain ⟨⟨hx, hb, hml, hown, hts⟩, hinj, hAd, hA, hE, hlk, hsc⟩ := C
  simp only [z_stp] at h
  split at h
  · rename_i a r
    split at h
    · rename_i hk
      intro H locs ls hP hS hl hrl hrs
      have hr2 := z_rs_cons.mp hrs
      obtain ⟨k0, hk0, -⟩ := z_w_at (cI := cI) (cZ := cZ) (cJ := cJ) (ad := ad) (S := S) (P := P) (z_in hr2.1 (z_k4 hk (by decide)) (z_k4 hk (by decide)))
      rw [z_e1 hk] at hk0
      exact va_alen hx hb hE.1 hP k0 0 hk0 rfl rfl hd (hK _ _ _ _ _ h H locs ls hP hS hl hrl (z_rs_cons.mpr ⟨rfl, hr2.2⟩))
    · rename_i hk
      intro H locs ls hP hS hl hrl hrs
      have hr2 := z_rs_cons.mp hrs
      obtain ⟨k0, hk0, -⟩ := z_w_at (cI := cI) (cZ := cZ) (cJ := cJ) (ad := ad) (S := S) (P := P) (z_in hr2.1 (z_k4 hk (by decide)) (z_k4 hk (by decide)))
      rw [z_e2 hk] at hk0
      exact va_alen hx hb hE.1 hP k0 1 hk0 rfl rfl hd (hK _ _ _ _ _ h H locs ls hP hS hl hrl (z_rs_cons.mpr ⟨rfl, hr2.2⟩))
    · rename_i hk
      intro H locs ls hP hS hl hrl hrs
      have hr2 := z_rs_cons.mp hrs
      obtain ⟨k0, hk0, -⟩ := z_w_at (cI := cI) (cZ := cZ) (cJ := cJ) (ad := ad) (S := S) (P := P) (z_in hr2.1 (z_k4 hk (by decide)) (z_k4 hk (by decide)))
      rw [z_e3 hk] at hk0
      exact va_alen hx hb hE.1 hP k0 2 hk0 rfl rfl hd (hK _ _ _ _ _ h H locs ls hP hS hl hrl (z_rs_cons.mpr ⟨rfl, hr2.2⟩))
    · rename_i hk
      split at h
      · rename_i L f
        intro H locs ls hP hS hl hrl hrs
        have hr2 := z_rs_cons.mp hrs
        have e := z_sc_of hr2.1 hk
        subst e
        obtain ⟨hX, hbl, hbA⟩ := hsc L f rfl
        exact va_slen hx hb hX hbl hbA hS hd (hK _ _ _ _ _ h H locs ls hP hS hl hrl (z_rs_cons.mpr ⟨rfl, hr2.2⟩))
      · exact h.elim
    · rename_i hk
      intro H locs ls hP hS hl hrl hrs
      have hr2 := z_rs_cons.mp hrs
      have e := z_wt_of hr2.1 hk
      subst e
      exact va_tlen hx hb hE.2.2.2.2.2.2.1 hS rfl hd (hK _ _ _ _ _ h H locs ls hP hS hl hrl (z_rs_cons.mpr ⟨rfl, hr2.2⟩))
    · exact h.elim
  · exact h.elim
theorem z_fok_of {own : String} {i o k : Nat} {t : Option Nat} (h : z_fok own (i, o, k, t) = true) : ∃ (C : String) (T : u_T) (N : Nat), z_cl[z_n o]? = some (C, T, N) ∧ o % 8 = 0 ∧ o ∈ z_ids ∧ k < N ∧ Jvm.Cond.fieldLink own i (T k).1 (T k).2.1 (T k).2.2.1 ∈ z_T ∧ (z_fl.getD (z_n o) [])[k]? = some t ∧ (z_fl.getD (z_n o) []).length = N ∧ (∀ q, t = some q → q ∈ z_ids) ∧ (t = none → (T k).2.2.2 = false ∧ (T k).2.2.1 = "I") := by
  unfold z_fok at h
  simp only at h
  split at h
  · rename_i C T N hc
    simp only [Bool.and_eq_true, decide_eq_true_eq, beq_iff_eq, List.contains_iff_mem] at h
    obtain ⟨⟨⟨⟨⟨⟨h1, h2⟩, h3⟩, h4⟩, h5⟩, h6⟩, h7⟩ := h
    refine ⟨C, T, N, hc, h1, h2, h3, h4, h5, h7, fun q hq => ?_, fun hq => ?_⟩
    · subst hq
      simpa using h6
    · subst hq
      simpa using h6
  · cases h
theorem z_fs_n {S : z_MI} {a k : Nat} (h : (z_fl.getD (z_n a) [])[k]? = some none) : (z_fs ad S a)[k]? = some (Value.int (S a k)) := by
  unfold z_fs
  rw [List.getElem?_mapIdx, h]
  rfl
theorem z_fs_s {S : z_MI} {a k q : Nat} (h : (z_fl.getD (z_n a) [])[k]? = some (some q)) : (z_fs ad S a)[k]? = some (Value.ref (ad q)) := by
  unfold z_fs
  rw [List.getElem?_mapIdx, h]
  rfl
set_option maxHeartbeats 1000000 in
theorem z_x_getfield {i : Nat} (hfm : ∀ q ∈ z_fm G, z_fok own q = true ∨ z_sok own q = true) (C : z_C p s m args meth c cc nL own D cI cZ cJ ad A sc) (hd : decode cc pc = .ok (.getfield i, 3)) (hK : ∀ pc lv st S P, K pc lv st S P → z_V p l e R s m args below meth c cells slots Q nL D cI cZ cJ ad A pc lv st S P) (h : z_stp G Po Px sc (.getfield i) pc nx tg lv st S P K) (hn : nx = pc + 3) : z_V p l e R s m args below meth c cells slots Q nL D cI cZ cJ ad A pc lv st S P := by
  subst hn
  obtain ⟨⟨hx, hb, hml, hown, hts⟩, hinj, hAd, hA, hE, hlk, hsc⟩ := C
  simp only [z_stp] at h
  split at h
  · rename_i a r
    split at h
    · rename_i o k t hf
      split at h
      · rename_i ho
        rw [Bool.and_eq_true] at ho
        have hlo := Nat.le_of_ble_eq_true ho.2
        have ho := Nat.eq_of_beq_eq_true ho.1
        subst ho
        rcases hfm _ (z_fnd_mem _ _ _ hf) with hq | hq
        · obtain ⟨C, T, N, hc, h0, hid, hkN, hw, hfl, hln, ht, -⟩ := z_fok_of hq
          obtain ⟨k0, hk0, -⟩ := z_w_at (cI := cI) (cZ := cZ) (cJ := cJ) (ad := ad) (S := S) (P := P) hid
          rw [z_e0 h0] at hk0
          obtain ⟨hu, -⟩ := z_cl_ok _ _ hc
          cases t with
          | none =>
            simp only at h
            intro H locs ls hP hS hl hrl hrs
            exact va_get hx hb hts hu hown hE.1 hP k0 hk0 hc k hkN (hts _ hw) (fun _ h9 => h9) (z_fs_n hfl) hd (hK _ _ _ _ _ h H locs ls hP hS hl hrl (z_rs_cons.mpr ⟨rfl, (z_rs_cons.mp hrs).2⟩))
          | some q =>
            simp only at h
            intro H locs ls hP hS hl hrl hrs
            exact va_get hx hb hts hu hown hE.1 hP k0 hk0 hc k hkN (hts _ hw) (fun _ h9 => h9) (z_fs_s hfl) hd (hK _ _ _ _ _ h H locs ls hP hS hl hrl (z_rs_cons.mpr ⟨by simp [z_rv, ht q rfl], (z_rs_cons.mp hrs).2⟩))
        · exfalso
          simp only [z_sok, Bool.and_eq_true, beq_iff_eq] at hq
          rw [hq.1] at hlo
          exact absurd hlo (by decide)
      · exact h.elim
    · exact h.elim
  · exact h.elim
theorem z_fs_set {S : z_MI} {a k : Nat} {x : Int32} {v : Value} (hv : v = .int x) (h : (z_fl.getD (z_n a) [])[k]? = some none) : (z_fs ad S a).set k v = z_fs ad (va_up S a (upd (S a) k x)) a := by
  subst hv
  apply List.ext_getElem?
  intro j
  have hkl : k < (z_fl.getD (z_n a) []).length := (List.getElem?_eq_some_iff.mp h).1
  by_cases hj : j = k
  · subst hj
    rw [List.getElem?_set_self (by simpa [z_fs] using hkl), z_fs_n h, va_up_self]
    simp [upd]
  · rw [List.getElem?_set_ne (Ne.symm hj)]
    unfold z_fs
    rw [List.getElem?_mapIdx, List.getElem?_mapIdx, va_up_self]
    cases (z_fl.getD (z_n a) [])[j]? with
    | none => rfl
    | some t => cases t <;> simp [upd, hj]
set_option maxHeartbeats 1000000 in
theorem z_x_putfield {i : Nat} (hfm : ∀ q ∈ z_fm G, z_fok own q = true ∨ z_sok own q = true) (C : z_C p s m args meth c cc nL own D cI cZ cJ ad A sc) (hd : decode cc pc = .ok (.putfield i, 3)) (hK : ∀ pc lv st S P, K pc lv st S P → z_V p l e R s m args below meth c cells slots Q nL D cI cZ cJ ad A pc lv st S P) (h : z_stp G Po Px sc (.putfield i) pc nx tg lv st S P K) (hn : nx = pc + 3) : z_V p l e R s m args below meth c cells slots Q nL D cI cZ cJ ad A pc lv st S P := by
  subst hn
  obtain ⟨⟨hx, hb, hml, hown, hts⟩, hinj, hAd, hA, hE, hlk, hsc⟩ := C
  simp only [z_stp] at h
  split at h
  · rename_i x a r
    split at h
    · rename_i o k t hf
      split at h
      · rename_i ho
        rw [Bool.and_eq_true] at ho
        have hlo := Nat.le_of_ble_eq_true ho.2
        have ho := Nat.eq_of_beq_eq_true ho.1
        subst ho
        split at h
        · rcases hfm _ (z_fnd_mem _ _ _ hf) with hq | hq
          · obtain ⟨C, T, N, hc, h0, hid, hkN, hw, hfl, hln, -, ht⟩ := z_fok_of hq
            obtain ⟨k0, hk0, hi0⟩ := z_w_at (cI := cI) (cZ := cZ) (cJ := cJ) (ad := ad) (S := S) (P := P) hid
            rw [z_e0 h0] at hk0
            obtain ⟨hu, ⟨ty, hty⟩, hnm⟩ := z_cl_ok _ _ hc
            obtain ⟨hfin, hdesc⟩ := ht rfl
            intro H locs ls hP hS hl hrl hrs
            refine va_put hx hb hts hu ty hty hnm hown hE.1 hP (z_D_of hinj hAd) hS k0 hk0 hc k hkN (hts _ hw) (fun _ h9 => h9) hfin (ty := .int) (v := .int x) (by rw [hdesc]; decide +kernel) rfl rfl (by unfold z_fs; rw [List.length_mapIdx, hln]; exact hkN) hd (fun H1 locs1 hP1 _ hS1 => hK _ _ _ _ _ h H1 locs1 ls ?_ hS1 hl hrl (z_rs_cons.mp (z_rs_cons.mp hrs).2).2)
            rw [← z_w_set hi0 (fun b hb9 => z_e_neS hb9), z_e0 h0, ← z_fs_set rfl hfl]
            exact hP1
          · exfalso
            simp only [z_sok, Bool.and_eq_true, beq_iff_eq] at hq
            rw [hq.1] at hlo
            exact absurd hlo (by decide)
        · exact h.elim
      · exact h.elim
    · exact h.elim
  · exact h.elim
set_option maxHeartbeats 1000000 in
theorem z_x_getstatic {i : Nat} (hfm : ∀ q ∈ z_fm G, z_fok own q = true ∨ z_sok own q = true) (C : z_C p s m args meth c cc nL own D cI cZ cJ ad A sc) (hd : decode cc pc = .ok (.getstatic i, 3)) (hK : ∀ pc lv st S P, K pc lv st S P → z_V p l e R s m args below meth c cells slots Q nL D cI cZ cJ ad A pc lv st S P) (h : z_stp G Po Px sc (.getstatic i) pc nx tg lv st S P K) (hn : nx = pc + 3) : z_V p l e R s m args below meth c cells slots Q nL D cI cZ cJ ad A pc lv st S P := by
  subst hn
  obtain ⟨⟨hx, hb, hml, hown, hts⟩, hinj, hAd, hA, hE, hlk, hsc⟩ := C
  simp only [z_stp] at h
  split at h
  · rename_i o k t hf
    split at h
    · rename_i ho
      have ho := Nat.eq_of_beq_eq_true ho
      rcases hfm _ (z_fnd_mem _ _ _ hf) with hq | hq
      · obtain ⟨C, T, N, hc, h0, hid, -⟩ := z_fok_of hq
        rw [ho] at h0
        exact absurd h0 (by decide)
      · simp only [z_sok, Bool.and_eq_true, decide_eq_true_eq] at hq
        intro H locs ls hP hS hl hrl hrs
        exact va_gets hx hb hE.2.2.2.2.2.1 hS hown (hts _ hq.2) (fun _ h9 => h9) hd (hK _ _ _ _ _ h H locs ls hP hS hl hrl (z_rs_cons.mpr ⟨by simp [z_rv], hrs⟩))
    · exact h.elim
  · exact h.elim
theorem z_sw_at {x : Int32} {K0 : Nat → Prop} {d : Nat} : ∀ (l : List Nat) (lo j t : Nat), z_sw x K0 d lo l → l[j]? = some t → x = nI (lo + j) → K0 t
  | [], lo, j, t, h, hj, hx => by simp at hj
  | a :: l, lo, 0, t, h, hj, hx => by
    simp at hj
    subst hj
    exact h.1 hx
  | a :: l, lo, j + 1, t, h, hj, hx => z_sw_at l (lo + 1) j t h.2 (by simpa using hj) (by rw [hx]; congr 1; omega)
theorem z_sw_out {x : Int32} {K0 : Nat → Prop} {d : Nat} : ∀ (l : List Nat) (lo : Nat), z_sw x K0 d lo l → (∀ j, j < lo + l.length → x ≠ nI j) → K0 d
  | [], lo, h, hx => h (fun j hj => hx j (by simpa using hj))
  | a :: l, lo, h, hx => z_sw_out l (lo + 1) h.2 (fun j hj => hx j (by simp only [List.length_cons]; omega))
set_option maxHeartbeats 1000000 in
theorem z_x_tsw {dflt lo hi : Int} {offs : Array Int} {len : Nat} (C : z_C p s m args meth c cc nL own D cI cZ cJ ad A sc) (hd : decode cc pc = .ok (.tableswitch dflt lo hi offs, len)) (hK : ∀ pc lv st S P, K pc lv st S P → z_V p l e R s m args below meth c cells slots Q nL D cI cZ cJ ad A pc lv st S P) (h : z_stp G Po Px sc (.tableswitch dflt lo hi offs) pc nx tg lv st S P K) (h1 : (pc : Int) + dflt = (tg : Int)) (h2 : lo = 0) (h3 : hi + 1 = ((z_tg G).length : Int)) (h4 : offs.toList.map (fun o => (pc : Int) + o) = (z_tg G).map (fun (t : Nat) => (t : Int))) (h9 : (z_tg G).length ≤ 1000) : z_V p l e R s m args below meth c cells slots Q nL D cI cZ cJ ad A pc lv st S P := by
  obtain ⟨⟨hx, hb, hml, hown, hts⟩, hinj, hAd, hA, hE, hlk, hsc⟩ := C
  subst h2
  simp only [z_stp] at h
  split at h
  · rename_i x r
    intro H locs ls hP hS hl hrl hrs
    by_cases hin : 0 ≤ x.toInt ∧ x.toInt < (z_tg G).length
    · obtain ⟨g1, g2⟩ := hin
      obtain ⟨j, hj⟩ : ∃ j : Nat, x.toInt = (j : Int) := ⟨x.toInt.toNat, by omega⟩
      have hx31 := Int32.toInt_lt x
      have hxj : x = nI j := Int32.toInt_inj.mp (by rw [nI_toInt (by omega), hj])
      have hjl : j < (z_tg G).length := by omega
      have h5 : (offs.toList.map (fun o => (pc : Int) + o))[j]? = some (((z_tg G)[j] : Nat) : Int) := by
        rw [h4, List.getElem?_map, List.getElem?_eq_getElem hjl]
        rfl
      rw [List.getElem?_map] at h5
      cases ho : offs.toList[j]? with
      | none => rw [ho] at h5; cases h5
      | some off =>
        rw [ho] at h5
        have h6 : (pc : Int) + off = (((z_tg G)[j] : Nat) : Int) := Option.some.inj h5
        have h7 := z_sw_at (z_tg G) 0 j _ h (List.getElem?_eq_getElem hjl) (by rw [hxj]; congr 1; omega)
        exact lv_tableIn hx hb hd (by omega) (by omega) (by rw [← Array.getElem?_toList, show (x.toInt - 0).toNat = j by omega]; exact ho) h6 (hK _ _ _ _ _ h7 H locs ls hP hS hl hrl (z_rs_cons.mp hrs).2)
    · have h7 := z_sw_out (z_tg G) 0 h (fun j hj e => hin (by rw [e, nI_toInt (by omega)]; omega))
      exact lv_tableOut hx hb hd (by omega) h1 (hK _ _ _ _ _ h7 H locs ls hP hS hl hrl (z_rs_cons.mp hrs).2)
  · exact h.elim
end ZST
end
section

def z_lok (nL : Nat) : Instr → Bool
  | .istore_n k => decide (k.val < nL)
  | .istore k => decide (k < nL)
  | .lstore_n k => decide (k.val + 1 < nL)
  | .lstore k => decide (k + 1 < nL)
  | .iinc k _ => decide (k < nL)
  | .invokevirtual k => decide (k < 100000)
  | _ => true
def z_cok (cc : ByteArray) (nL : Nat) (G : z_G) : Bool := (z_code G).all (fun q => z_tok cc (z_tg G) q && z_lok nL q.2.1) && Nat.ble (z_tg G).length 1000
def z_pok (own : String) (G : z_G) : Bool := (z_fm G).all (fun q => z_fok own q || z_sok own q) && (z_ci G).all (fun q => decide (Jvm.Cond.constant own q.1 (nI q.2) ∈ z_T)) && (z_cL G).all (fun q => decide (Jvm.Cond.constantLong own q.1 (lN q.2) ∈ z_T))
theorem z_pop_eq : ∀ (n : Nat) (st acc : List Value) (k : List Value → List Value → Prop), z_pop n st acc k → ∃ vs r : List Value, vs.length = n ∧ st = vs ++ r ∧ k (vs.reverse ++ acc) r
  | 0, st, acc, k, h => ⟨[], st, rfl, rfl, h⟩
  | n + 1, [], acc, k, h => h.elim
  | n + 1, v :: st, acc, k, h => by
    obtain ⟨vs, r, h1, h2, h3⟩ := z_pop_eq n st (v :: acc) k h
    exact ⟨v :: vs, r, by simp [h1], by rw [h2]; rfl, by simpa using h3⟩
section ZSU
variable {p : Program} {l : Launch} {e : Env} {R : Room} {s : State} {m : MethodId} {args : Array Value} {below : List Frame} {meth : Method} {c : Code} {cells slots : Nat} {Q : State → Prop} {cc : ByteArray} {nL : Nat} {own : String} {D : va_G} {cI cZ cJ : ClassId} {ad : Nat → Nat} {A : Nat → Prop} {sc : Option (Nat × (Nat → Int32))}
variable {G : z_G} {Po : z_PO} {Px : z_PX} {K : z_KT} {pc nx tg : Nat} {lv : z_LV} {st : List Value} {S : z_MI} {P : z_ML}
theorem z_x_inv {i : Nat} (hi : i < 100000) (hd : decode cc pc = .ok (.invokevirtual i, 3)) (hH : z_H p l e R s m args below meth c cells slots Q nL D cI cZ cJ ad A cc G Po Px) (hK : ∀ pc lv st S P, K pc lv st S P → z_V p l e R s m args below meth c cells slots Q nL D cI cZ cJ ad A pc lv st S P) (h : z_stp G Po Px sc (.invokevirtual i) pc nx tg lv st S P K) (hn : nx = pc + 3) : z_V p l e R s m args below meth c cells slots Q nL D cI cZ cJ ad A pc lv st S P := by
  subst hn
  simp only [z_stp] at h
  split at h
  · rename_i n sp hf
    obtain ⟨vs, r, h1, h2, h3⟩ := z_pop_eq _ _ _ _ h
    split at h3
    · rename_i hr
      have hr := Nat.le_of_ble_eq_true hr
      rw [h2, ← List.reverse_reverse vs, ← List.append_nil vs.reverse]
      exact hH.2.2.2.2 pc i i n sp _ r lv S P _ (Or.inl ⟨hd, rfl, hi⟩) hf (by simp [h1]) hr h3 (fun v S' P' _ hk => hK _ _ _ _ _ hk)
    · exact h3.elim
  · exact h.elim
theorem z_x_ins {i : Nat} (hd : decode cc pc = .ok (.invokestatic i, 3)) (hH : z_H p l e R s m args below meth c cells slots Q nL D cI cZ cJ ad A cc G Po Px) (hK : ∀ pc lv st S P, K pc lv st S P → z_V p l e R s m args below meth c cells slots Q nL D cI cZ cJ ad A pc lv st S P) (h : z_stp G Po Px sc (.invokestatic i) pc nx tg lv st S P K) (hn : nx = pc + 3) : z_V p l e R s m args below meth c cells slots Q nL D cI cZ cJ ad A pc lv st S P := by
  subst hn
  simp only [z_stp] at h
  split at h
  · rename_i n sp hf
    obtain ⟨vs, r, h1, h2, h3⟩ := z_pop_eq _ _ _ _ h
    split at h3
    · rename_i hr
      have hr := Nat.le_of_ble_eq_true hr
      rw [h2, ← List.reverse_reverse vs, ← List.append_nil vs.reverse]
      exact hH.2.2.2.2 pc (i + 100000) i n sp _ r lv S P _ (Or.inr ⟨hd, rfl⟩) hf (by simp [h1]) hr h3 (fun v S' P' _ hk => hK _ _ _ _ _ hk)
    · exact h3.elim
  · exact h.elim
set_option maxHeartbeats 4000000 in
theorem z_step {ins : Instr} (C : z_C p s m args meth c cc nL own D cI cZ cJ ad A sc) (hH : z_H p l e R s m args below meth c cells slots Q nL D cI cZ cJ ad A cc G Po Px) (hco : z_cok cc nL G = true) (hpo : z_pok own G = true) (hm : (pc, ins, nx, tg) ∈ z_code G) (hK : ∀ pc lv st S P, K pc lv st S P → z_V p l e R s m args below meth c cells slots Q nL D cI cZ cJ ad A pc lv st S P) (h : z_stp G Po Px sc ins pc nx tg lv st S P K) : z_V p l e R s m args below meth c cells slots Q nL D cI cZ cJ ad A pc lv st S P := by
  simp only [z_cok, Bool.and_eq_true, List.all_eq_true] at hco
  obtain ⟨hco, hsl⟩ := hco
  obtain ⟨htk, hlo⟩ := hco _ hm
  simp only [z_pok, Bool.and_eq_true, List.all_eq_true, Bool.or_eq_true, decide_eq_true_eq] at hpo
  obtain ⟨⟨hfm, hci⟩, hcL⟩ := hpo
  unfold z_tok at htk
  simp only at htk
  split at htk
  · rename_i i0 n hd
    simp only [Bool.and_eq_true, Bool.or_eq_true, decide_eq_true_eq, beq_iff_eq] at htk
    obtain ⟨⟨⟨hi, hln⟩, hnx⟩, hx⟩ := htk
    subst hi
    cases i0 with

    | iadd => 
      have hln := hln.resolve_left (by simp [z_isw])
      rw [hln] at hd hnx
      exact z_x_iadd C hd hK h hnx
    | isub => 
      have hln := hln.resolve_left (by simp [z_isw])
      rw [hln] at hd hnx
      exact z_x_isub C hd hK h hnx
    | imul => 
      have hln := hln.resolve_left (by simp [z_isw])
      rw [hln] at hd hnx
      exact z_x_imul C hd hK h hnx
    | iand => 
      have hln := hln.resolve_left (by simp [z_isw])
      rw [hln] at hd hnx
      exact z_x_iand C hd hK h hnx
    | ior => 
      have hln := hln.resolve_left (by simp [z_isw])
      rw [hln] at hd hnx
      exact z_x_ior C hd hK h hnx
    | ixor => 
      have hln := hln.resolve_left (by simp [z_isw])
      rw [hln] at hd hnx
      exact z_x_ixor C hd hK h hnx
    | ishl => 
      have hln := hln.resolve_left (by simp [z_isw])
      rw [hln] at hd hnx
      exact z_x_ishl C hd hK h hnx
    | ishr => 
      have hln := hln.resolve_left (by simp [z_isw])
      rw [hln] at hd hnx
      exact z_x_ishr C hd hK h hnx
    | iushr => 
      have hln := hln.resolve_left (by simp [z_isw])
      rw [hln] at hd hnx
      exact z_x_iushr C hd hK h hnx
    | ladd => 
      have hln := hln.resolve_left (by simp [z_isw])
      rw [hln] at hd hnx
      exact z_x_ladd C hd hK h hnx
    | lsub => 
      have hln := hln.resolve_left (by simp [z_isw])
      rw [hln] at hd hnx
      exact z_x_lsub C hd hK h hnx
    | lmul => 
      have hln := hln.resolve_left (by simp [z_isw])
      rw [hln] at hd hnx
      exact z_x_lmul C hd hK h hnx
    | i2l => 
      have hln := hln.resolve_left (by simp [z_isw])
      rw [hln] at hd hnx
      exact z_x_i2l C hd hK h hnx
    | idiv => 
      have hln := hln.resolve_left (by simp [z_isw])
      rw [hln] at hd hnx
      exact z_x_idiv C hd hK h hnx
    | irem => 
      have hln := hln.resolve_left (by simp [z_isw])
      rw [hln] at hd hnx
      exact z_x_irem C hd hK h hnx
    | ldiv => 
      have hln := hln.resolve_left (by simp [z_isw])
      rw [hln] at hd hnx
      exact z_x_ldiv C hd hK h hnx
    | lrem => 
      have hln := hln.resolve_left (by simp [z_isw])
      rw [hln] at hd hnx
      exact z_x_lrem C hd hK h hnx
    | lcmp => 
      have hln := hln.resolve_left (by simp [z_isw])
      rw [hln] at hd hnx
      exact z_x_lcmp C hd hK h hnx
    | dup => 
      have hln := hln.resolve_left (by simp [z_isw])
      rw [hln] at hd hnx
      exact z_x_dup C hd hK h hnx
    | dup2 => 
      have hln := hln.resolve_left (by simp [z_isw])
      rw [hln] at hd hnx
      exact z_x_dup2 C hd hK h hnx
    | iaload => 
      have hln := hln.resolve_left (by simp [z_isw])
      rw [hln] at hd hnx
      exact z_x_iaload C hd hK h hnx
    | baload => 
      have hln := hln.resolve_left (by simp [z_isw])
      rw [hln] at hd hnx
      exact z_x_baload C hd hK h hnx
    | laload => 
      have hln := hln.resolve_left (by simp [z_isw])
      rw [hln] at hd hnx
      exact z_x_laload C hd hK h hnx
    | iastore => 
      have hln := hln.resolve_left (by simp [z_isw])
      rw [hln] at hd hnx
      exact z_x_iastore C hd hK h hnx
    | bastore => 
      have hln := hln.resolve_left (by simp [z_isw])
      rw [hln] at hd hnx
      exact z_x_bastore C hd hK h hnx
    | lastore => 
      have hln := hln.resolve_left (by simp [z_isw])
      rw [hln] at hd hnx
      exact z_x_lastore C hd hK h hnx
    | arraylength => 
      have hln := hln.resolve_left (by simp [z_isw])
      rw [hln] at hd hnx
      exact z_x_arraylength C hd hK h hnx
    | iconst n => 
      have hln := hln.resolve_left (by simp [z_isw])
      rw [hln] at hd hnx
      exact z_x_iconst C hd hK h hnx
    | bipush n => 
      have hln := hln.resolve_left (by simp [z_isw])
      rw [hln] at hd hnx
      exact z_x_bipush C hd hK h hnx
    | sipush n => 
      have hln := hln.resolve_left (by simp [z_isw])
      rw [hln] at hd hnx
      exact z_x_sipush C hd hK h hnx
    | lconst n => 
      have hln := hln.resolve_left (by simp [z_isw])
      rw [hln] at hd hnx
      exact z_x_lconst C hd hK h hnx
    | ldc i => 
      have hln := hln.resolve_left (by simp [z_isw])
      rw [hln] at hd hnx
      exact z_x_ldc hci C hd hK h hnx
    | ldc_w i => 
      have hln := hln.resolve_left (by simp [z_isw])
      rw [hln] at hd hnx
      exact z_x_ldc_w hci C hd hK h hnx
    | ldc2_w i => 
      have hln := hln.resolve_left (by simp [z_isw])
      rw [hln] at hd hnx
      exact z_x_ldc2_w hcL C hd hK h hnx
    | iload_n k => 
      have hln := hln.resolve_left (by simp [z_isw])
      rw [hln] at hd hnx
      exact z_x_iload_n C hd hK h hnx
    | iload k => 
      have hln := hln.resolve_left (by simp [z_isw])
      rw [hln] at hd hnx
      exact z_x_iload C hd hK h hnx
    | lload_n k => 
      have hln := hln.resolve_left (by simp [z_isw])
      rw [hln] at hd hnx
      exact z_x_lload_n C hd hK h hnx
    | lload k => 
      have hln := hln.resolve_left (by simp [z_isw])
      rw [hln] at hd hnx
      exact z_x_lload C hd hK h hnx
    | aload_n k => 
      have hln := hln.resolve_left (by simp [z_isw])
      rw [hln] at hd hnx
      exact z_x_aload_n C hd hK h hnx
    | aload k => 
      have hln := hln.resolve_left (by simp [z_isw])
      rw [hln] at hd hnx
      exact z_x_aload C hd hK h hnx
    | istore_n k => 
      have hln := hln.resolve_left (by simp [z_isw])
      rw [hln] at hd hnx
      exact z_x_istore_n (by simpa [z_lok] using hlo) C hd hK h hnx
    | istore k => 
      have hln := hln.resolve_left (by simp [z_isw])
      rw [hln] at hd hnx
      exact z_x_istore (by simpa [z_lok] using hlo) C hd hK h hnx
    | lstore_n k => 
      have hln := hln.resolve_left (by simp [z_isw])
      rw [hln] at hd hnx
      exact z_x_lstore_n (by simpa [z_lok] using hlo) C hd hK h hnx
    | lstore k => 
      have hln := hln.resolve_left (by simp [z_isw])
      rw [hln] at hd hnx
      exact z_x_lstore (by simpa [z_lok] using hlo) C hd hK h hnx
    | iinc k n => 
      have hln := hln.resolve_left (by simp [z_isw])
      rw [hln] at hd hnx
      exact z_x_iinc (by simpa [z_lok] using hlo) C hd hK h hnx
    | ifCond op off => 
      have hln := hln.resolve_left (by simp [z_isw])
      rw [hln] at hd hnx
      exact z_x_ifCond (by simpa using hx) C hd hK h hnx
    | if_icmp op off => 
      have hln := hln.resolve_left (by simp [z_isw])
      rw [hln] at hd hnx
      exact z_x_if_icmp (by simpa using hx) C hd hK h hnx
    | goto off => 
      have hln := hln.resolve_left (by simp [z_isw])
      rw [hln] at hd hnx
      exact z_x_goto (by simpa using hx) C hd hK h hnx
    | getfield i => 
      have hln := hln.resolve_left (by simp [z_isw])
      rw [hln] at hd hnx
      exact z_x_getfield hfm C hd hK h hnx
    | putfield i => 
      have hln := hln.resolve_left (by simp [z_isw])
      rw [hln] at hd hnx
      exact z_x_putfield hfm C hd hK h hnx
    | getstatic i => 
      have hln := hln.resolve_left (by simp [z_isw])
      rw [hln] at hd hnx
      exact z_x_getstatic hfm C hd hK h hnx
    | invokevirtual i => 
      have hln := hln.resolve_left (by simp [z_isw])
      rw [hln] at hd hnx
      exact z_x_inv (by simpa [z_lok] using hlo) hd hH hK h hnx
    | invokestatic i => 
      have hln := hln.resolve_left (by simp [z_isw])
      rw [hln] at hd hnx
      exact z_x_ins hd hH hK h hnx
    | tableswitch d lo hi offs => 
      simp only [Bool.and_eq_true, decide_eq_true_eq] at hx
      exact z_x_tsw C hd hK h hx.1.1.1 hx.1.1.2 hx.1.2 hx.2 (Nat.le_of_ble_eq_true hsl)
    | ireturn => 
      have hln := hln.resolve_left (by simp [z_isw])
      rw [hln] at hd hnx
      simp only [z_stp] at h
      split at h
      · split at h
        · rename_i hr
          intro H locs ls hP hS hl hrl hrs
          exact hH.1 pc H locs ls _ S P hd (Or.inl hr) h hP hS
        · rename_i hr
          intro H locs ls hP hS hl hrl hrs
          exact hH.1 pc H locs ls _ S P hd (Or.inr ⟨hr, h.1⟩) h.2 hP hS
        · exact h.elim
      · exact h.elim
    | lreturn => 
      have hln := hln.resolve_left (by simp [z_isw])
      rw [hln] at hd hnx
      simp only [z_stp] at h
      split at h
      · split at h
        · rename_i hr
          intro H locs ls hP hS hl hrl hrs
          exact hH.2.1 pc H locs ls _ S P hd hr h hP hS
        · exact h.elim
      · exact h.elim
    | return_ => 
      have hln := hln.resolve_left (by simp [z_isw])
      rw [hln] at hd hnx
      simp only [z_stp] at h
      split at h
      · split at h
        · rename_i hr
          intro H locs ls hP hS hl hrl hrs
          exact hH.2.2.1 pc H locs ls S P hd hr h hP hS
        · exact h.elim
      · exact h.elim
    | new i => 
      simp only [z_stp] at h
      split at h
      · split at h
        · rename_i E hf
          exact hH.2.2.2.1 pc E lv S P hf h
        · exact h.elim
      · exact h.elim
    | _ => exact h.elim
  · cases htk

theorem z_sound {cuts : List Nat} {J : z_KT} (C : z_C p s m args meth c cc nL own D cI cZ cJ ad A sc) (hH : z_H p l e R s m args below meth c cells slots Q nL D cI cZ cJ ad A cc G Po Px) (hco : z_cok cc nL G = true) (hpo : z_pok own G = true) (hJ : ∀ pc lv st S P, J pc lv st S P → z_V p l e R s m args below meth c cells slots Q nL D cI cZ cJ ad A pc lv st S P) : ∀ (n pc : Nat) (lv : z_LV) (st : List Value) (S : z_MI) (P : z_ML), z_wp G Po Px sc cuts J n pc lv st S P → z_V p l e R s m args below meth c cells slots Q nL D cI cZ cJ ad A pc lv st S P := by
  intro n
  induction n with
  | zero => intro pc lv st S P h; exact h.elim
  | succ n ih =>
    intro pc lv st S P h
    unfold z_wp at h
    split at h
    · rename_i ins nx tg hf
      refine z_step C hH hco hpo (z_fnd_mem _ _ _ hf) (fun pc lv st S P hk => ?_) h
      split at hk
      · exact hJ _ _ _ _ _ hk
      · exact ih _ _ _ _ _ hk
    · exact h.elim
end ZSU
end
section

def z_rm (d : Nat) : Room := { frames := d, cells := 0, slots := 0, locals := 28 * d }
def z_AA (ad : Nat → Nat) (sz : Nat) : Nat → Prop := fun q => (∃ a ∈ z_ids, q = ad a) ∨ sz ≤ q
def z_Pr (D : va_G) (cI cZ cJ : ClassId) (ad : Nat → Nat) (sz : Nat) (S : z_MI) (P : z_ML) (U : State) : Prop := U.heap.size = sz ∧ va_P D z_cl (z_w cI cZ cJ ad S P) U.heap ∧ z_E D cI cZ cJ ad (z_AA ad sz) U
def z_Q (D : va_G) (cI cZ cJ : ClassId) (ad : Nat → Nat) (sz : Nat) (Po : z_PO) : Array Value → State → Outcome → State → Prop := fun _ st oc t => (∃ (v : Option Value) (S : z_MI) (P : z_ML), oc = .returned v ∧ (∀ a, v ≠ some (.ref a)) ∧ Po v S P ∧ va_P D z_cl (z_w cI cZ cJ ad S P) t.heap) ∧ va_F (z_AA ad sz) st t
/-- a method's contract: what it owes is said by sp -/
def z_CT (l : Launch) (y : MethodName) (b : ByteArray) (maxL : Nat) (ret : Option FieldType) (sp : z_SP) (d : Nat) : Prop :=
  ∀ (D : va_G) (cI cZ cJ : ClassId) (ad : Nat → Nat) (sz : Nat) (as : List Value) (S : z_MI) (P : z_ML) (Po : z_PO), z_inj ad → z_rs as = true → sp as S P Po → Met l y (Jvm.Cond.code y b maxL ret :: z_T) (z_rm d) (va_Pc (z_ts ad as) (z_Pr D cI cZ cJ ad sz S P)) (z_Q D cI cZ cJ ad sz Po) 0 0 (z_AA ad sz)
def z_rc (o : Nat) (sp : z_SP) : z_SP := fun as S P k => match as with
  | .ref a :: as' => match Nat.beq a o with
    | true => sp as' S P k
    | false => False
  | _ => False
/-- a call that a method of room d may do -/
def z_CO (l : Launch) (d : Nat) (own : String) (i n : Nat) (sp : z_SP) : Prop :=
  ∀ (p : Program) (e : Env) (R : Room) (s : State) (m : MethodId) (args : Array Value) (below : List Frame) (meth : Method) (c : Code) (cells slots : Nat) (Q : State → Prop) (cc : ByteArray) (nL : Nat) (D : va_G) (cI cZ cJ : ClassId) (ad : Nat → Nat) (A : Nat → Prop) (sc : Option (Nat × (Nat → Int32))) (pc j : Nat) (as r : List Value) (lv : z_LV) (S : z_MI) (P : z_ML) (k : z_PO),
  z_C p s m args meth c cc nL own D cI cZ cJ ad A sc → d ≤ R.frames → 28 * d ≤ R.locals → cells ≤ R.cells → slots ≤ R.slots → (decode cc pc = .ok (.invokevirtual j, 3) ∧ i = j ∧ j < 100000 ∨ decode cc pc = .ok (.invokestatic j, 3) ∧ i = j + 100000) → as.length = n → z_cs r ≤ 8 → sp as S P k →
  (∀ v S' P', (∀ a, v ≠ some (.ref a)) → k v S' P' → z_V p l e R s m args below meth c cells slots Q nL D cI cZ cJ ad A (pc + 3) lv (v.toList ++ r) S' P') → z_V p l e R s m args below meth c cells slots Q nL D cI cZ cJ ad A pc lv (as.reverse ++ r) S P
theorem z_ts_app (ad : Nat → Nat) (a b : List Value) : z_ts ad (a ++ b) = z_ts ad a ++ z_ts ad b := by simp [z_ts]
theorem z_ts_rev (ad : Nat → Nat) (a : List Value) : z_ts ad a.reverse = (z_ts ad a).reverse := by simp [z_ts]
theorem z_ts_nr {ad : Nat → Nat} {v : Option Value} (h : ∀ a, v ≠ some (.ref a)) : z_ts ad v.toList = v.toList := by
  cases v with
  | none => rfl
  | some x => cases x <;> first | rfl | exact absurd rfl (h _)
theorem z_rs_nr {v : Option Value} (h : ∀ a, v ≠ some (.ref a)) : z_rs v.toList = true := by
  cases v with
  | none => rfl
  | some x => cases x <;> first | rfl | exact absurd rfl (h _)
theorem z_rs_app {a b : List Value} : z_rs (a ++ b) = true ↔ z_rs a = true ∧ z_rs b = true := by simp [z_rs]
theorem z_cs_sum (ad : Nat → Nat) : ∀ r : List Value, ((z_ts ad r).map fun v => v.category).sum = z_cs r
  | [] => rfl
  | v :: r => by
    have h := z_cs_sum ad r
    show (z_tv ad v).category + ((z_ts ad r).map fun v => v.category).sum = _
    rw [h, z_cat_tv]
    show _ = (match z_is2 v with
      | true => z_cs r + 2
      | false => z_cs r + 1)
    cases v <;> exact Nat.add_comm _ _
theorem z_Pr_blind {D : va_G} {cI cZ cJ : ClassId} {ad : Nat → Nat} {sz : Nat} {S : z_MI} {P : z_ML} {av : List Value} : FrameBlind (va_Pc av (z_Pr D cI cZ cJ ad sz S P)) := by
  intro a U g mk h
  obtain ⟨h1, h2, h3, h4⟩ := h
  exact ⟨h1, h2, h3, z_E.same (u := U) rfl rfl h4⟩
theorem z_Pr_call {D : va_G} {cI cZ cJ : ClassId} {ad : Nat → Nat} {S : z_MI} {P : z_ML} {A : Nat → Prop} {s U : State} {H : Heap} {locs : List Loc} {av : List Value} (hAd : ∀ a ∈ z_ids, A (ad a)) (hA : ∀ q, s.heap.size ≤ q → A q) (hE : z_E D cI cZ cJ ad A s) (hP : va_P D z_cl (z_w cI cZ cJ ad S P) H) (hS : va_S A s.heap H locs) (hU : U.heap = H) (hW : s.WarmedH U.vm) : va_Pc av (z_Pr D cI cZ cJ ad H.size S P) av.toArray U := by
  refine ⟨rfl, by rw [hU], by rw [hU]; exact hP, z_E.warm hW (fun q h1 h2 => by rw [hU]; exact hS.2.1 q h1 h2) (fun q hq => ?_) hE⟩
  rcases hq with ⟨a, ha, rfl⟩ | hq
  · exact hAd a ha
  · exact hA q (Nat.le_trans hS.1 hq)
section ZCA
variable {p : Program} {l : Launch} {e : Env} {R : Room} {s : State} {m : MethodId} {args : Array Value} {below : List Frame} {meth : Method} {c : Code} {cells slots : Nat} {Q : State → Prop} {cc : ByteArray} {nL : Nat} {own : String} {D : va_G} {cI cZ cJ : ClassId} {ad : Nat → Nat} {A : Nat → Prop} {sc : Option (Nat × (Nat → Int32))}
variable {pc i n d : Nat} {lv : z_LV} {as r : List Value} {S : z_MI} {P : z_ML} {k : z_PO}
/-- behind a call -/
theorem z_back {H : Heap} {locs : List Loc} {ls : Array Slot} {a : Array Value} (C : z_C p s m args meth c cc nL own D cI cZ cJ ad A sc) (hS : va_S A s.heap H locs) (hl : lv_has ls nL (z_tl ad lv)) (hrl : z_rl lv = true) (hrs : z_rs r = true)
    (hr : va_Run p l e R s m args below meth c H locs cells slots 0 0 (F0 m pc ls (z_ts ad (as.reverse ++ r))) (z_ts ad r) (z_Q D cI cZ cJ ad H.size k a) (z_AA ad H.size))
    (hK : ∀ v S' P', (∀ a, v ≠ some (.ref a)) → k v S' P' → z_V p l e R s m args below meth c cells slots Q nL D cI cZ cJ ad A (pc + 3) lv (v.toList ++ r) S' P') : W p l e R s m args below meth c H locs cells slots Q (F0 m pc ls (z_ts ad (as.reverse ++ r))) := by
  obtain ⟨-, hinj, hAd, hA, hE, hlk, hsc⟩ := C
  have hAA : ∀ q, z_AA ad H.size q → A q := fun q hq => by
    rcases hq with ⟨a, ha, rfl⟩ | hq
    · exact hAd a ha
    · exact hA q (Nat.le_trans hS.1 hq)
  intro T hT X
  obtain ⟨v, st₀, t, T', L, h0, X', hL, e1, e2, ⟨⟨v', S', P', hv, hnr, hk, hP1⟩, hz, hkp⟩, st⟩ := hr T hT X
  cases hv
  rw [h0] at hz hkp
  obtain ⟨t2, a1, b1⟩ := hK v S' P' hnr hk T'.heap (locs ++ L) ls (by rw [e1]; exact hP1)
    ⟨Nat.le_trans hS.1 (by rw [e1]; exact hz), fun q h1 h2 => by rw [e1, hkp q (Nat.lt_of_lt_of_le h1 hS.1) (fun z => h2 (hAA q z))]; exact hS.2.1 q h1 h2, fun q hq => by
      rcases List.mem_append.mp hq with h | h
      · exact hS.2.2 q h
      · exact hAA _ (hL q h)⟩ hl hrl (z_rs_app.mpr ⟨z_rs_nr hnr, hrs⟩) T' rfl X'
  refine ⟨t2, st t2 ?_, b1⟩
  rw [z_ts_app, z_ts_nr hnr] at a1
  exact a1
end ZCA
def z_kB (y : MethodName) (b : ByteArray) (maxL : Nat) (ret : Option FieldType) (n : Nat) : Bool := decide (Jvm.Cond.initialized y.cls ∈ z_T) && decide (Jvm.Cond.code y b maxL ret ∈ z_T) && decide (y.cls ≠ "java/lang/invoke/MethodHandle" ∧ y.cls ≠ "java/lang/invoke/VarHandle") && decide ((parseMethodDescriptor y.desc).map (fun d => d.parameters.length) = some n)
def z_kV (own : String) (i : Nat) (y : MethodName) : Bool := decide (Jvm.Cond.methodLink own i y ∈ z_T) && decide (Jvm.Cond.instanceMethod y ∈ z_T) && decide (Jvm.Cond.selects y.cls y y ∈ z_T)
def z_kS (own : String) (i : Nat) (y : MethodName) : Bool := decide (Jvm.Cond.methodLink own i y ∈ z_T) && decide (Jvm.Cond.static y ∈ z_T)
def z_kN (own : String) (i : Nat) (y : MethodName) (host : String) : Bool := decide ((own, i, y, host) ∈ z_nest) && decide (Jvm.Cond.static y ∈ z_T)
def z_kO (o : Nat) (C : String) : Bool := z_ids.contains o && (o % 8 == 0) && (match z_cl[z_n o]? with
  | some q => decide (q.1 = C)
  | none => false)
theorem z_CallB {R : Room} {s : State} {args : Array Value} {y : MethodName} {b : ByteArray} {maxL : Nat} {ret : Option FieldType} {n d : Nat} (hts : ∀ w ∈ z_T, w.before args s = true) (hk : z_kB y b maxL ret n = true) (h1 : d + 1 ≤ R.frames) (h2 : 8 + (maxL + 11) + 28 * d ≤ R.locals) :
    ((z_rm d).cells = 0 ∧ (z_rm d).slots = 0 ∧ (z_rm d).frames + 1 ≤ R.frames ∧ 8 + (maxL + 11) + (z_rm d).locals ≤ R.locals ∧ (∀ w ∈ (Jvm.Cond.code y b maxL ret :: z_T), ∀ (a' : Array Value) (U : State), s.WarmedH U.vm → w.before a' U = true) ∧ Jvm.Cond.code y b maxL ret ∈ (Jvm.Cond.code y b maxL ret :: z_T)) ∧
    (Jvm.Cond.code y b maxL ret).before args s = true ∧ (Jvm.Cond.initialized y.cls).before args s = true ∧ (y.cls ≠ "java/lang/invoke/MethodHandle" ∧ y.cls ≠ "java/lang/invoke/VarHandle") ∧ (∀ sig, parseMethodDescriptor y.desc = some sig → n = sig.parameters.length) := by
  simp only [z_kB, Bool.and_eq_true, decide_eq_true_eq] at hk
  obtain ⟨⟨⟨k1, k2⟩, k3⟩, k4⟩ := hk
  refine ⟨⟨rfl, rfl, h1, h2, fun w hw a' U hW => ?_, List.mem_cons_self⟩, hts _ k2, hts _ k1, k3, fun sig h => ?_⟩
  · have hw' : w ∈ z_T := by
      rcases List.mem_cons.mp hw with rfl | h
      · exact k2
      · exact h
    exact word_at hW (z_T_good hw') (hts w hw')
  · rw [h] at k4
    exact (Option.some.inj k4).symm
theorem z_kO_of {o : Nat} {C : String} (h : z_kO o C = true) : o ∈ z_ids ∧ o % 8 = 0 ∧ ∃ q, z_cl[z_n o]? = some q ∧ q.1 = C := by
  simp only [z_kO, Bool.and_eq_true, List.contains_iff_mem, beq_iff_eq] at h
  obtain ⟨⟨h1, h2⟩, h3⟩ := h
  refine ⟨h1, h2, ?_⟩
  cases hq : z_cl[z_n o]? with
  | none => rw [hq] at h3; cases h3
  | some q => rw [hq] at h3; exact ⟨q, rfl, by simpa using h3⟩
theorem z_rc_of {o : Nat} {sp : z_SP} {as : List Value} {S : z_MI} {P : z_ML} {k : z_PO} (h : z_rc o sp as S P k) : ∃ as', as = .ref o :: as' ∧ sp as' S P k := by
  unfold z_rc at h
  split at h
  · split at h
    · rename_i a as' _ hb
      exact ⟨as', by rw [Nat.eq_of_beq_eq_true hb], h⟩
    · exact h.elim
  · exact h.elim
set_option maxHeartbeats 1000000 in
theorem z_coV {l : Launch} {d d' : Nat} {own : String} {i n o : Nat} {sp : z_SP} {y : MethodName} {b : ByteArray} {maxL : Nat} {ret : Option FieldType} (ct : z_CT l y b maxL ret (z_rc o sp) d') (hB : z_kB y b maxL ret n = true) (hV : z_kV own i y = true) (hO : z_kO o y.cls = true) (hd1 : d' + 1 ≤ d) (hd2 : 8 + (maxL + 11) + 28 * d' ≤ 28 * d) (hi : i < 100000) : z_CO l d own i (n + 1) (z_rc o sp) := by
  intro p e R s m args below meth c cells slots Q cc nL D cI cZ cJ ad A sc pc j as r lv S P k C hf hlo hcl hsl hd hn hr hsp hK H locs ls hP hS hl hrl hrs
  rcases hd with ⟨hd, hij, -⟩ | ⟨-, hij⟩
  · subst hij
    obtain ⟨as', rfl, hsp'⟩ := z_rc_of hsp
    obtain ⟨ho1, ho2, q, hq1, hq2⟩ := z_kO_of hO
    obtain ⟨⟨hx, hb, hml, hown, hts⟩, hinj, hAd, hA, hE, hlk, hsc⟩ := id C
    obtain ⟨hrs1, hrs2⟩ := z_rs_app.mp hrs
    have hras : z_rs (Value.ref o :: as') = true := by
      rw [z_rs, List.all_reverse] at hrs1
      exact hrs1
    obtain ⟨k0, hk0, -⟩ := z_w_at (cI := cI) (cZ := cZ) (cJ := cJ) (ad := ad) (S := S) (P := P) ho1
    rw [z_e0 ho2] at hk0
    simp only [z_kV, Bool.and_eq_true, decide_eq_true_eq] at hV
    obtain ⟨⟨v1, v2⟩, v3⟩ := hV
    obtain ⟨c1, c2, c3, c4, c5⟩ := z_CallB hts hB (R := R) (d := d') (by omega) (by omega)
    have hnl : (z_ts ad as').length = n := by simp only [z_ts, List.length_map]; simpa using hn
    have hcw : CallW R s args own y.cls i y b maxL ret (Jvm.Cond.code y b maxL ret :: z_T) (z_rm d') 0 0 n :=
      ⟨⟨c1.1, c1.2.1, c1.2.2.1, c1.2.2.2.1, c1.2.2.2.2.1, c1.2.2.2.2.2, c2, c3, c4, c5, hts _ v1⟩, hts _ v2, hts _ v3⟩
    have hpre : PreV s H y.cls (ad o) (va_Pc (z_ts ad (.ref o :: as')) (z_Pr D cI cZ cJ ad H.size S P)) (z_ts ad as') := by
      refine ⟨z_Pr_blind, ?_, fun U hU hW => z_Pr_call (av := z_ts ad (.ref o :: as')) hAd hA hE hP hS hU hW⟩
      have h9 := va_recv hE.1 hP hq1 hk0
      rw [hq2] at h9
      exact h9
    refine z_back (as := .ref o :: as') (a := (Value.ref (ad o) :: z_ts ad as').toArray) C hS hl hrl hrs2 ?_ hK
    have hstk : z_ts ad ((Value.ref o :: as').reverse ++ r) = (z_ts ad as').reverse ++ .ref (ad o) :: z_ts ad r := by
      simp [z_ts, z_tv]
    exact va_runV (g := F0 m pc ls (z_ts ad ((Value.ref o :: as').reverse ++ r))) (As := z_ts ad as') (rest := z_ts ad r) (nL := nL) ⟨hx, hb, hml, hown, hts⟩ (ct D cI cZ cJ ad H.size (.ref o :: as') S P k hinj hras hsp) hcw hpre rfl hnl hl.1 hstk (lv_room (by rw [z_cs_sum]; exact hr)) hd ⟨hcl, hsl⟩
  · omega
set_option maxHeartbeats 1000000 in
theorem z_coS {l : Launch} {d d' : Nat} {own : String} {i n : Nat} {sp : z_SP} {y : MethodName} {b : ByteArray} {maxL : Nat} {ret : Option FieldType} (ct : z_CT l y b maxL ret sp d') (hB : z_kB y b maxL ret n = true) (hV : z_kS own i y = true) (hd1 : d' + 1 ≤ d) (hd2 : 8 + (maxL + 11) + 28 * d' ≤ 28 * d) : z_CO l d own (i + 100000) n sp := by
  intro p e R s m args below meth c cells slots Q cc nL D cI cZ cJ ad A sc pc j as r lv S P k C hf hlo hcl hsl hd hn hr hsp hK H locs ls hP hS hl hrl hrs
  rcases hd with ⟨hd, hij, hj9⟩ | ⟨hd, hij⟩
  · omega
  · have hij : i = j := by omega
    subst hij
    obtain ⟨⟨hx, hb, hml, hown, hts⟩, hinj, hAd, hA, hE, hlk, hsc⟩ := id C
    obtain ⟨hrs1, hrs2⟩ := z_rs_app.mp hrs
    have hras : z_rs as = true := by
      rw [z_rs, List.all_reverse] at hrs1
      exact hrs1
    simp only [z_kS, Bool.and_eq_true, decide_eq_true_eq] at hV
    obtain ⟨v1, v2⟩ := hV
    obtain ⟨c1, c2, c3, c4, c5⟩ := z_CallB hts hB (R := R) (d := d') (by omega) (by omega)
    have hnl : (z_ts ad as).length = n := by simp only [z_ts, List.length_map]; exact hn
    have hpre : PreS s H (va_Pc (z_ts ad as) (z_Pr D cI cZ cJ ad H.size S P)) (z_ts ad as) :=
      ⟨z_Pr_blind, fun U hU hW => z_Pr_call (av := z_ts ad as) hAd hA hE hP hS hU hW⟩
    refine z_back (as := as) (a := (z_ts ad as).toArray) C hS hl hrl hrs2 ?_ hK
    have hstk : z_ts ad (as.reverse ++ r) = (z_ts ad as).reverse ++ z_ts ad r := by
      rw [z_ts_app, z_ts_rev]
    exact va_runS (g := F0 m pc ls (z_ts ad (as.reverse ++ r))) (As := z_ts ad as) (rest := z_ts ad r) (nL := nL) ⟨hx, hb, hml, hown, hts⟩ (ct D cI cZ cJ ad H.size as S P k hinj hras hsp) ⟨⟨c1.1, c1.2.1, c1.2.2.1, c1.2.2.2.1, c1.2.2.2.2.1, c1.2.2.2.2.2, c2, c3, c4, c5, hts _ v1⟩, hts _ v2⟩ hpre rfl hnl hl.1 hstk (lv_room (by rw [z_cs_sum]; exact hr)) hd ⟨hcl, hsl⟩
set_option maxHeartbeats 1000000 in
theorem z_coN {l : Launch} {d d' : Nat} {own host : String} {i n : Nat} {sp : z_SP} {y : MethodName} {b : ByteArray} {maxL : Nat} {ret : Option FieldType} (ct : z_CT l y b maxL ret sp d') (hB : z_kB y b maxL ret n = true) (hV : z_kN own i y host = true) (hd1 : d' + 1 ≤ d) (hd2 : 8 + (maxL + 11) + 28 * d' ≤ 28 * d) : z_CO l d own (i + 100000) n sp := by
  intro p e R s m args below meth c cells slots Q cc nL D cI cZ cJ ad A sc pc j as r lv S P k C hf hlo hcl hsl hd hn hr hsp hK H locs ls hP hS hl hrl hrs
  rcases hd with ⟨hd, hij, hj9⟩ | ⟨hd, hij⟩
  · omega
  · have hij : i = j := by omega
    subst hij
    obtain ⟨⟨hx, hb, hml, hown, hts⟩, hinj, hAd, hA, hE, hlk, hsc⟩ := id C
    obtain ⟨hrs1, hrs2⟩ := z_rs_app.mp hrs
    have hras : z_rs as = true := by
      rw [z_rs, List.all_reverse] at hrs1
      exact hrs1
    simp only [z_kN, Bool.and_eq_true, decide_eq_true_eq] at hV
    obtain ⟨v1, v2⟩ := hV
    obtain ⟨c1, c2, c3, c4, c5⟩ := z_CallB hts hB (R := R) (d := d') (by omega) (by omega)
    have hnl : (z_ts ad as).length = n := by simp only [z_ts, List.length_map]; exact hn
    have hpre : PreS s H (va_Pc (z_ts ad as) (z_Pr D cI cZ cJ ad H.size S P)) (z_ts ad as) :=
      ⟨z_Pr_blind, fun U hU hW => z_Pr_call (av := z_ts ad as) hAd hA hE hP hS hU hW⟩
    refine z_back (as := as) (a := (z_ts ad as).toArray) C hS hl hrl hrs2 ?_ hK
    have hstk : z_ts ad (as.reverse ++ r) = (z_ts ad as).reverse ++ z_ts ad r := by
      rw [z_ts_app, z_ts_rev]
    exact va_runSN (g := F0 m pc ls (z_ts ad (as.reverse ++ r))) (As := z_ts ad as) (rest := z_ts ad r) (nL := nL) (host := host) ⟨hx, hb, hml, hown, hts⟩ (ct D cI cZ cJ ad H.size as S P k hinj hras hsp) ⟨⟨c1, c2, c3, c4, c5, va_Nw.use rfl (hE.2.1 _ v1)⟩, hts _ v2, trivial⟩ hpre rfl hnl hl.1 hstk (lv_room (by rw [z_cs_sum]; exact hr)) hd ⟨hcl, hsl⟩
end
section

def z_keep (ks : List Nat) (lv : z_LV) : z_LV := ks.filterMap (fun k => (z_get lv k).map (fun v => (k, v)))
theorem z_keep_mem {ks : List Nat} {lv : z_LV} {q : Nat × Value} (h : q ∈ z_keep ks lv) : q ∈ lv := by
  obtain ⟨k, -, hk⟩ := List.mem_filterMap.mp h
  simp only [Option.map_eq_some_iff] at hk
  obtain ⟨v, hv, rfl⟩ := hk
  exact z_get_mem lv k v hv
theorem z_V_keep {p : Program} {l : Launch} {e : Env} {R : Room} {s : State} {m : MethodId} {args : Array Value} {below : List Frame} {meth : Method} {c : Code} {cells slots : Nat} {Q : State → Prop} {nL : Nat} {D : va_G} {cI cZ cJ : ClassId} {ad : Nat → Nat} {A : Nat → Prop} {ks : List Nat} {pc : Nat} {lv : z_LV} {st : List Value} {S : z_MI} {P : z_ML} (h : z_V p l e R s m args below meth c cells slots Q nL D cI cZ cJ ad A pc (z_keep ks lv) st S P) : z_V p l e R s m args below meth c cells slots Q nL D cI cZ cJ ad A pc lv st S P := by
  intro H locs ls hP hS hl hrl hrs
  refine h H locs ls hP hS ⟨hl.1, hl.2.1, fun q hq => hl.2.2 q ?_⟩ (List.all_eq_true.mpr fun q hq => List.all_eq_true.mp hrl q (z_keep_mem hq)) hrs
  obtain ⟨q0, h0, rfl⟩ := List.mem_map.mp hq
  exact List.mem_map.mpr ⟨q0, z_keep_mem h0, rfl⟩
theorem z_lvargs (ad : Nat → Nat) : ∀ (vs : List Value) (i : Nat), lv_args i (z_ts ad vs) = z_tl ad (lv_args i vs)
  | [], i => rfl
  | v :: vs, i => by
    show (i, z_tv ad v) :: lv_args (if (z_tv ad v).category = 2 then i + 2 else i + 1) (z_ts ad vs) = _
    rw [z_cat_tv, z_lvargs ad vs]
    rfl
theorem z_sllen (ad : Nat → Nat) : ∀ vs : List Value, (lg_sl (z_ts ad vs)).length = z_cs vs
  | [] => rfl
  | v :: vs => by
    have h := z_sllen ad vs
    have e : lg_sl (z_ts ad (v :: vs)) = (if (z_tv ad v).category = 2 then [.val (z_tv ad v), .second] else [.val (z_tv ad v)]) ++ lg_sl (z_ts ad vs) := rfl
    rw [e, List.length_append, h, z_cat_tv]
    show _ = (match z_is2 v with
      | true => z_cs vs + 2
      | false => z_cs vs + 1)
    cases v <;> exact Nat.add_comm _ _
theorem z_rlargs : ∀ (vs : List Value) (i : Nat), z_rs vs = true → z_rl (lv_args i vs) = true
  | [], i, h => rfl
  | v :: vs, i, h => by
    have h1 := z_rs_cons.mp h
    show (z_rv v && z_rl (lv_args _ vs)) = true
    rw [h1.1, z_rlargs vs _ h1.2]
    rfl
set_option maxHeartbeats 2000000 in
/-- a contract out of a walk of the pure machine -/
theorem z_CT_of {l : Launch} {y : MethodName} {b : ByteArray} {maxL : Nat} {ret : Option FieldType} {sp : z_SP} {d : Nat} (G : z_G) (hpl : plainName y.cls = true) (hco : z_cok b maxL G = true) (hpo : z_pok y.cls G = true) (hrt : z_rt G = ret) (hth : z_th G = [])
    (hlen : ∀ as S P Po, sp as S P Po → z_cs as ≤ maxL) (hcalls : ∀ q ∈ z_cm G, z_CO l d y.cls q.1 q.2.1 q.2.2)
    (body : ∀ (as : List Value) (S : z_MI) (P : z_ML) (Po : z_PO), sp as S P Po → ∀ V : z_KT, (∀ (cuts : List Nat) (n pc : Nat) (lv : z_LV) (st : List Value) (S : z_MI) (P : z_ML), z_wp G Po (fun _ _ _ => False) none cuts V n pc lv st S P → V pc lv st S P) → (∀ (ks : List Nat) (pc : Nat) (lv : z_LV) (st : List Value) (S : z_MI) (P : z_ML), V pc (z_keep ks lv) st S P → V pc lv st S P) → V 0 (lv_args 0 as) [] S P) : z_CT l y b maxL ret sp d := by
  intro D cI cZ cJ ad sz as S P Po hinj hras hsp
  refine Met.ofW (cc := b) (maxL := maxL) (ret := ret) hpl rfl ?_
  intro p e s m args below meth c s₁ B hml hv
  obtain ⟨rfl, hsz, hP, hE⟩ := hv
  subst hsz
  have hts0 := atoms_spec (ws := Jvm.Cond.code y b maxL ret :: z_T) B.pre
  have hown : s.vm.findClass y.cls = some m.cls := findClass_of_methodNamed B.named
  have hr := B.returns
  have hlk := B.notSynchronized
  have hC : z_C p s m (z_ts ad as).toArray meth c b maxL y.cls D cI cZ cJ ad (z_AA ad s.heap.size) none :=
    ⟨⟨B.exec, B.bytes, hml, hown, fun w hw => hts0 w (List.mem_cons_of_mem _ hw)⟩, hinj, fun a ha => Or.inl ⟨a, ha, rfl⟩, fun q hq => Or.inr hq, hE, hlk, fun L f h => by cases h⟩
  have hq0 : ∀ (v : Option Value) (S : z_MI) (P : z_ML) (H : Heap) (locs : List Loc), (∀ a, v ≠ some (.ref a)) → Po v S P → va_P D z_cl (z_w cI cZ cJ ad S P) H → va_S (z_AA ad s.heap.size) s.heap H locs → ∀ t : State, t.heap = H → s.WarmedH t.vm → z_Q D cI cZ cJ ad s.heap.size Po (z_ts ad as).toArray s (.returned v) t :=
    fun v S P H locs hn hp hP hS t ht _ => ⟨⟨v, S, P, rfl, hn, hp, by rw [ht]; exact hP⟩, hS.F ht⟩
  have hH : z_H p l e (headSpec (Jvm.Cond.code y b maxL ret :: z_T) (z_rm d)).room s m (z_ts ad as).toArray below meth c 0 0 (MQ below (z_Q D cI cZ cJ ad s.heap.size Po) (z_ts ad as).toArray s 0 0 (z_AA ad s.heap.size)) maxL D cI cZ cJ ad (z_AA ad s.heap.size) b G Po (fun _ _ _ => False) := by
    refine ⟨?_, ?_, ?_, ?_, ?_⟩
    · intro pc H locs ls v S P hd hv hp hP hS
      rcases hv with hv | ⟨hv, hn⟩
      · exact W.iret B.exec B.bytes (by rw [hr, ← hrt, hv]) (hq0 _ S P H locs (fun a h => by cases h) hp hP hS) hS.2.2 hd
      · exact W.zret B.exec B.bytes (ty := .boolean) (by rw [hr, ← hrt, hv]) hn (hq0 _ S P H locs (fun a h => by cases h) hp hP hS) hS.2.2 hd
    · intro pc H locs ls v S P hd hv hp hP hS
      exact W.lret B.exec B.bytes (by rw [hr, ← hrt, hv]) (hq0 _ S P H locs (fun a h => by cases h) hp hP hS) hS.2.2 hd
    · intro pc H locs ls S P hd hv hp hP hS
      exact W.vret B.exec B.bytes (by rw [hr, ← hrt, hv]) (hq0 _ S P H locs (fun a h => by cases h) hp hP hS) hS.2.2 hd
    · intro pc E lv S P hf
      rw [hth] at hf
      cases hf
    · intro pc i j n sp' as' r lv S P k hd hf hn hrr hsp' hK
      exact hcalls _ (z_fnd_mem _ _ _ hf) p e _ s m _ below meth c 0 0 _ b maxL D cI cZ cJ ad _ none pc j as' r lv S P k hC (Nat.le_refl _) (Nat.le_refl _) (Nat.zero_le _) (Nat.zero_le _) hd hn hrr hsp' hK
  have hb := body as S P Po hsp _ (fun cuts n pc lv st S P h => z_sound (cuts := cuts) hC hH hco hpo (fun _ _ _ _ _ h => h) n pc lv st S P h) (fun _ _ _ _ _ _ h => z_V_keep h)
  have hl := lv_entry (z_ts ad as) (n := maxL) (by rw [z_sllen]; exact hlen _ _ _ _ hsp)
  rw [lg_entry_eq]
  generalize (lg_sl (z_ts ad as) ++ List.replicate (maxL - (lg_sl (z_ts ad as)).length) Slot.unset).toArray = ls at hl ⊢
  rw [z_lvargs] at hl
  exact hb s.heap [] ls hP va_S.rf hl (z_rlargs as 0 hras) rfl
/-! methods that may throw -/
def z_rmX (d : Nat) : Room := { frames := d, cells := 1, slots := 6, locals := 28 * d }
abbrev z_SX : Type := List Value → z_MI → z_ML → z_PO → z_PX → Prop
def z_XC (D : va_G) (cI cZ cJ : ClassId) (ad : Nat → Nat) (sz : Nat) (Px : z_PX) : String → State → State → Prop := fun E st t => ((∃ (S : z_MI) (P : z_ML), Px E S P ∧ va_P D z_cl (z_w cI cZ cJ ad S P) t.heap) ∧ va_F (z_AA ad sz) st t) ∧ sz < t.heap.size
def z_CX (l : Launch) (y : MethodName) (b : ByteArray) (maxL : Nat) (ret : Option FieldType) (sx : z_SX) (d : Nat) : Prop :=
  ∀ (D : va_G) (cI cZ cJ : ClassId) (ad : Nat → Nat) (sz : Nat) (as : List Value) (S : z_MI) (P : z_ML) (Po : z_PO) (Px : z_PX), z_inj ad → z_rs as = true → sx as S P Po Px → vx_Met l y (Jvm.Cond.code y b maxL ret :: z_T) (z_rmX d) (va_Pc (z_ts ad as) (z_Pr D cI cZ cJ ad sz S P)) (z_Q D cI cZ cJ ad sz Po) (z_XC D cI cZ cJ ad sz Px) 1 6 (z_AA ad sz)
/-- a place where a text is thrown: pc, the name, new's index, ldc's, the constructor's, the text, ldc_w or ldc -/
abbrev z_ST : Type := Nat × String × Nat × Nat × Nat × String × Bool
def z_nms : List String := ["java/lang/RuntimeException", "java/lang/Exception"]
def z_wok (w : Jvm.Cond) : Bool := decide (w ∈ z_T) || (match w with
  | .castable a b => decide (a = b) && decide (a ∈ z_cas)
  | .declares x => decide (x ∈ z_dec)
  | _ => false)
def z_exs : List (String × Nat × Nat) := [("java/lang/IndexOutOfBoundsException", 86, 90), ("java/lang/IllegalArgumentException", 63, 67), ("java/lang/IllegalStateException", 73, 77)]
theorem z_exs_ok : ∀ q ∈ z_exs, (Bundle.fit q.1 && decide (Jvm.Cond.classLink "Songlinebench" q.2.1 q.1 ∈ z_T) && decide (Jvm.Cond.initialized q.1 ∈ z_T) && (vx_atS "Songlinebench" q.2.2 q.1 z_nms).all (fun w => z_wok w && vx_ot w)) = true := by decide +kernel
def z_sik (own : String) (cc : ByteArray) (q : z_ST) : Bool :=
  decide (own = "Songlinebench") && decide ((q.2.1, q.2.2.1, q.2.2.2.2.1) ∈ z_exs) && decide ((own, q.2.2.2.1, q.2.2.2.2.2.1) ∈ z_strs) &&
  decide (decode cc q.1 = .ok (.new q.2.2.1, 3)) && decide (decode cc (q.1 + 3) = .ok (.dup, 1)) &&
  (match q.2.2.2.2.2.2 with
    | false => decide (decode cc (q.1 + 4) = .ok (.ldc q.2.2.2.1, 2)) && decide (decode cc (q.1 + 6) = .ok (.invokespecial q.2.2.2.2.1, 3)) && decide (decode cc (q.1 + 9) = .ok (.athrow, 1))
    | true => decide (decode cc (q.1 + 4) = .ok (.ldc_w q.2.2.2.1, 3)) && decide (decode cc (q.1 + 7) = .ok (.invokespecial q.2.2.2.2.1, 3)) && decide (decode cc (q.1 + 10) = .ok (.athrow, 1)))
theorem z_wok_of {w : Jvm.Cond} {args : Array Value} {s : State} {D : va_G} {cI cZ cJ : ClassId} {ad : Nat → Nat} {A : Nat → Prop} (hts : ∀ w ∈ z_T, w.before args s = true) (hE : z_E D cI cZ cJ ad A s) (h : z_wok w = true) : w.before args s = true := by
  unfold z_wok at h
  rw [Bool.or_eq_true] at h
  rcases h with h | h
  · exact hts w (by simpa using h)
  · split at h
    · rename_i a b
      simp only [Bool.and_eq_true, decide_eq_true_eq] at h
      obtain ⟨rfl, h⟩ := h
      exact va_Nw.use rfl (hE.2.2.2.2.2.2.2.2.1 _ h)
    · rename_i x
      exact va_Nw.use rfl (hE.2.2.2.2.2.2.2.2.2 _ (by simpa using h))
    · cases h
theorem z_sot (own : String) (ik : Nat) (E : String) : vx_ot (.classLink own ik E) = true ∧ vx_ot (.initialized E) = true := ⟨rfl, rfl⟩
set_option maxHeartbeats 2000000 in
theorem z_throw {p : Program} {l : Launch} {e : Env} {R : Room} {s : State} {m : MethodId} {args : Array Value} {below : List Frame} {meth : Method} {c : Code} {cc : ByteArray} {nL : Nat} {own : String} {D : va_G} {cI cZ cJ : ClassId} {ad : Nat → Nat} {sc : Option (Nat × (Nat → Int32))} {q : z_ST} {lv : z_LV} {S : z_MI} {P : z_ML} {Po : z_PO} {Px : z_PX} (hl9 : l.stackTraces = false) (C : z_C p s m args meth c cc nL own D cI cZ cJ ad (z_AA ad s.heap.size) sc) (hex : ∀ x ∈ c.exceptionTable.toList, False) (hk : z_sik own cc q = true) (hf : 6 ≤ R.frames) (hlo : 82 ≤ R.locals) (hcl : 1 ≤ R.cells) (hsl : 6 ≤ R.slots) (h : Px q.2.1 S P) :
    z_V p l e R s m args below meth c 0 0 (vx_MQ below (z_Q D cI cZ cJ ad s.heap.size Po) (z_XC D cI cZ cJ ad s.heap.size Px) args s 1 6 (z_AA ad s.heap.size)) nL D cI cZ cJ ad (z_AA ad s.heap.size) q.1 lv [] S P := by
  obtain ⟨pc, E, ik, is, ic, tx, wd⟩ := q
  obtain ⟨⟨hx, hb, hml, hown, hts⟩, hinj, hAd, hA, hE, hlk, hsc⟩ := C
  simp only [z_sik, Bool.and_eq_true, decide_eq_true_eq] at hk
  obtain ⟨⟨⟨⟨⟨k0, k1⟩, k4⟩, k6⟩, k7⟩, k8⟩ := hk
  subst k0
  have hex9 := z_exs_ok _ k1
  simp only [Bool.and_eq_true, decide_eq_true_eq, List.all_eq_true] at hex9
  obtain ⟨⟨⟨k1, k2⟩, k3⟩, k5⟩ := hex9
  intro H locs ls hP hS hl hrl hrs
  obtain ⟨sa, hsa⟩ := hE.2.2.1 _ k4
  have hgood : ∀ w ∈ Jvm.Cond.classLink "Songlinebench" ik E :: Jvm.Cond.initialized E :: vx_atS "Songlinebench" ic E z_nms, vx_ot w = true := by
    intro w hw
    rcases List.mem_cons.mp hw with rfl | hw
    · rfl
    · rcases List.mem_cons.mp hw with rfl | hw
      · rfl
      · exact (k5 w hw).2
  have hXC : ∀ t : State, s.vm.Alike t.vm → H.size < t.heap.size → (∀ q : Nat, q < H.size → t.heap[q]? = H[q]?) → z_XC D cI cZ cJ ad s.heap.size Px E s t :=
    fun t _ h1 h2 => ⟨⟨⟨S, P, h, hP.kept (fun k q hk => h2 q.1 ((hP k q hk).lt))⟩, Nat.le_trans hS.1 (Nat.le_of_lt h1), fun q hq hn => (h2 q (Nat.lt_of_lt_of_le hq hS.1)).trans (hS.2.1 q hq hn)⟩, Nat.lt_of_le_of_lt hS.1 h1⟩
  cases wd with
  | false =>
    simp only [Bool.and_eq_true, decide_eq_true_eq] at k8
    exact vx_throwS hx hb hl9 hown k1 (by decide) (hts _ k2) (hts _ k3) hsa (fun w hw => z_wok_of hts hE (k5 w hw).1) hgood hE.2.2.2.1 hE.2.2.2.2.1 hS (hl.1.trans hml.symm) k6 k7 k8.1.1 k8.1.2 k8.2 (fun x hx => (hex x hx).elim) (show 2 + 3 < R.frames by omega) (show 0 + (13 * (2 + 1) + 43) ≤ R.locals by omega) (by omega) (by omega) hlk hXC hS.2.2 (by omega) (by omega)
  | true =>
    simp only [Bool.and_eq_true, decide_eq_true_eq] at k8
    exact vx_throwSW hx hb hl9 hown k1 (by decide) (hts _ k2) (hts _ k3) hsa (fun w hw => z_wok_of hts hE (k5 w hw).1) hgood hE.2.2.2.1 hE.2.2.2.2.1 hS (hl.1.trans hml.symm) k6 k7 k8.1.1 k8.1.2 k8.2 (fun x hx => (hex x hx).elim) (show 2 + 3 < R.frames by omega) (show 0 + (13 * (2 + 1) + 43) ≤ R.locals by omega) (by omega) (by omega) hlk hXC hS.2.2 (by omega) (by omega)
theorem z_st_fnd : ∀ (ss : List z_ST) (pc : Nat) (E : String), z_fnd (ss.map (fun q => (q.1, q.2.1))) pc = some E → ∃ q ∈ ss, q.1 = pc ∧ q.2.1 = E := by
  intro ss pc E h
  obtain ⟨q, hq, he⟩ := List.mem_map.mp (z_fnd_mem _ _ _ h)
  exact ⟨q, hq, congrArg Prod.fst he, congrArg Prod.snd he⟩
set_option maxHeartbeats 2000000 in
theorem z_CX_of {l : Launch} {y : MethodName} {b : ByteArray} {maxL : Nat} {ret : Option FieldType} {sx : z_SX} {d : Nat} (G : z_G) (ss : List z_ST) (hl9 : l.stackTraces = false) (hd6 : 6 ≤ d) (hpl : plainName y.cls = true) (hco : z_cok b maxL G = true) (hpo : z_pok y.cls G = true) (hrt : z_rt G = ret) (hth : z_th G = ss.map (fun q => (q.1, q.2.1))) (hss : ss.all (z_sik y.cls b) = true)
    (hlen : ∀ as S P Po Px, sx as S P Po Px → z_cs as ≤ maxL) (hcalls : ∀ q ∈ z_cm G, z_CO l d y.cls q.1 q.2.1 q.2.2)
    (body : ∀ (as : List Value) (S : z_MI) (P : z_ML) (Po : z_PO) (Px : z_PX), sx as S P Po Px → ∀ V : z_KT, (∀ (cuts : List Nat) (n pc : Nat) (lv : z_LV) (st : List Value) (S : z_MI) (P : z_ML), z_wp G Po Px none cuts V n pc lv st S P → V pc lv st S P) → (∀ (ks : List Nat) (pc : Nat) (lv : z_LV) (st : List Value) (S : z_MI) (P : z_ML), V pc (z_keep ks lv) st S P → V pc lv st S P) → V 0 (lv_args 0 as) [] S P) : z_CX l y b maxL ret sx d := by
  intro D cI cZ cJ ad sz as S P Po Px hinj hras hsp
  refine vx_ofW (cc := b) (maxL := maxL) (ret := ret) hpl rfl ?_
  intro p e s m args below meth c s₁ B hml hex hv
  obtain ⟨rfl, hsz, hP, hE⟩ := hv
  subst hsz
  have hts0 := atoms_spec (ws := Jvm.Cond.code y b maxL ret :: z_T) B.pre
  have hown : s.vm.findClass y.cls = some m.cls := findClass_of_methodNamed B.named
  have hr := B.returns
  have hlk := B.notSynchronized
  have hC : z_C p s m (z_ts ad as).toArray meth c b maxL y.cls D cI cZ cJ ad (z_AA ad s.heap.size) none :=
    ⟨⟨B.exec, B.bytes, hml, hown, fun w hw => hts0 w (List.mem_cons_of_mem _ hw)⟩, hinj, fun a ha => Or.inl ⟨a, ha, rfl⟩, fun q hq => Or.inr hq, hE, hlk, fun L f h => by cases h⟩
  have hq0 : ∀ (v : Option Value) (S : z_MI) (P : z_ML) (H : Heap) (locs : List Loc), (∀ a, v ≠ some (.ref a)) → Po v S P → va_P D z_cl (z_w cI cZ cJ ad S P) H → va_S (z_AA ad s.heap.size) s.heap H locs → ∀ t : State, t.heap = H → s.WarmedH t.vm → z_Q D cI cZ cJ ad s.heap.size Po (z_ts ad as).toArray s (.returned v) t :=
    fun v S P H locs hn hp hP hS t ht _ => ⟨⟨v, S, P, rfl, hn, hp, by rw [ht]; exact hP⟩, hS.F ht⟩
  have hH : z_H p l e (headSpec (Jvm.Cond.code y b maxL ret :: z_T) (z_rmX d)).room s m (z_ts ad as).toArray below meth c 0 0 (vx_MQ below (z_Q D cI cZ cJ ad s.heap.size Po) (z_XC D cI cZ cJ ad s.heap.size Px) (z_ts ad as).toArray s 1 6 (z_AA ad s.heap.size)) maxL D cI cZ cJ ad (z_AA ad s.heap.size) b G Po Px := by
    refine ⟨?_, ?_, ?_, ?_, ?_⟩
    · intro pc H locs ls v S P hd hv hp hP hS
      rcases hv with hv | ⟨hv, hn⟩
      · exact vx_ret (W.widen (k := 1) (n := 6) (by omega) (by omega) (W.iret B.exec B.bytes (by rw [hr, ← hrt, hv]) (hq0 _ S P H locs (fun a h => by cases h) hp hP hS) hS.2.2 hd))
      · exact vx_ret (W.widen (k := 1) (n := 6) (by omega) (by omega) (W.zret B.exec B.bytes (ty := .boolean) (by rw [hr, ← hrt, hv]) hn (hq0 _ S P H locs (fun a h => by cases h) hp hP hS) hS.2.2 hd))
    · intro pc H locs ls v S P hd hv hp hP hS
      exact vx_ret (W.widen (k := 1) (n := 6) (by omega) (by omega) (W.lret B.exec B.bytes (by rw [hr, ← hrt, hv]) (hq0 _ S P H locs (fun a h => by cases h) hp hP hS) hS.2.2 hd))
    · intro pc H locs ls S P hd hv hp hP hS
      exact vx_ret (W.widen (k := 1) (n := 6) (by omega) (by omega) (W.vret B.exec B.bytes (by rw [hr, ← hrt, hv]) (hq0 _ S P H locs (fun a h => by cases h) hp hP hS) hS.2.2 hd))
    · intro pc E lv S P hf hp
      rw [hth] at hf
      obtain ⟨q, hq, rfl, rfl⟩ := z_st_fnd _ _ _ hf
      exact z_throw hl9 hC hex (List.all_eq_true.mp hss q hq) hd6 (show 82 ≤ 28 * d by omega) (Nat.le_refl _) (Nat.le_refl _) hp
    · intro pc i j n sp' as' r lv S P k hd hf hn hrr hsp' hK
      exact hcalls _ (z_fnd_mem _ _ _ hf) p e _ s m _ below meth c 0 0 _ b maxL D cI cZ cJ ad _ none pc j as' r lv S P k hC (Nat.le_refl _) (Nat.le_refl _) (Nat.zero_le _) (Nat.zero_le _) hd hn hrr hsp' hK
  have hb := body as S P Po Px hsp _ (fun cuts n pc lv st S P h => z_sound (cuts := cuts) hC hH hco hpo (fun _ _ _ _ _ h => h) n pc lv st S P h) (fun _ _ _ _ _ _ h => z_V_keep h)
  have hl := lv_entry (z_ts ad as) (n := maxL) (by rw [z_sllen]; exact hlen _ _ _ _ _ hsp)
  rw [lg_entry_eq]
  generalize (lg_sl (z_ts ad as) ++ List.replicate (maxL - (lg_sl (z_ts ad as)).length) Slot.unset).toArray = ls at hl ⊢
  rw [z_lvargs] at hl
  exact hb s.heap [] ls hP va_S.rf hl (z_rlargs as 0 hras) rfl
end
section

def z_b (b : Bool) : Int32 := match b with
  | true => nI 1
  | false => nI 0
theorem z_nb (b : Bool) : narrow .boolean (.int (z_b b)) = .int (z_b b) := by cases b <;> rfl
theorem z_b0 {b : Bool} : z_b b = 0 ↔ b = false := by cases b <;> decide
theorem z_nt {b : Bool} (h : b = false) : ¬ b = true := by rw [h]; decide
theorem z_br {b : Bool} {A B : Prop} (f : b = false → A) (t : b = true → B) : (z_b b = 0 → A) ∧ (¬ z_b b = 0 → B) := ⟨fun h => f (z_b0.mp h), fun h => t (by cases b <;> first | rfl | exact absurd (z_b0.mpr rfl) h)⟩
theorem z_brn {b : Bool} {A B : Prop} (t : b = true → A) (f : b = false → B) : (¬ z_b b = 0 → A) ∧ (z_b b = 0 → B) := ⟨fun h => t (by cases b <;> first | rfl | exact absurd (z_b0.mpr rfl) h), fun h => f (z_b0.mp h)⟩
theorem z_p3 {Po : z_PO} {a b : Option Value} {S S' : z_MI} {P P' : z_ML} (h : Po a S P) (h1 : a = b) (h2 : S = S') (h3 : P = P') : Po b S' P' := by
  subst h1; subst h2; subst h3; exact h
theorem z_pb {Po : z_PO} {a b : Bool} {S S' : z_MI} {P P' : z_ML} (h : Po (some (.int (z_b a))) S P) (h1 : a = b) (h2 : S = S') (h3 : P = P') : Po (some (.int (z_b b))) S' P' := by
  subst h1; subst h2; subst h3; exact h
theorem z_pi {Po : z_PO} {a b : Int32} {S S' : z_MI} {P P' : z_ML} (h : Po (some (.int a)) S P) (h1 : a = b) (h2 : S = S') (h3 : P = P') : Po (some (.int b)) S' P' := by
  subst h1; subst h2; subst h3; exact h
theorem z_pl {Po : z_PO} {a b : Int64} {S S' : z_MI} {P P' : z_ML} (h : Po (some (.long a)) S P) (h1 : a = b) (h2 : S = S') (h3 : P = P') : Po (some (.long b)) S' P' := by
  subst h1; subst h2; subst h3; exact h
theorem z_pv {Po : z_PO} {S S' : z_MI} {P P' : z_ML} (h : Po none S P) (h2 : S = S') (h3 : P = P') : Po none S' P' := by
  subst h2; subst h3; exact h
def z_fo {α : Type} (f : Nat → α → α) (a : α) : Nat → α
  | 0 => a
  | k + 1 => f k (z_fo f a k)
def z_fx {α β : Type} (f : Nat → α → α ⊕ β) (a : α) : Nat → α ⊕ β
  | 0 => .inl a
  | k + 1 => Sum.elim (fun a => f k a) (fun r => .inr r) (z_fx f a k)
theorem z_fx_s {α β : Type} {f : Nat → α → α ⊕ β} {i a : α} {k : Nat} (h : z_fx f i k = .inl a) : z_fx f i (k + 1) = f k a := by
  show Sum.elim _ _ (z_fx f i k) = _
  rw [h]
  rfl
theorem z_fx_r {α β : Type} {f : Nat → α → α ⊕ β} {i : α} {k n : Nat} {r : β} (h : z_fx f i k = .inr r) (hn : k ≤ n) : z_fx f i n = .inr r := by
  induction n with
  | zero =>
    have : k = 0 := by omega
    subst this
    exact h
  | succ n ih =>
    by_cases hk : k = n + 1
    · subst hk; exact h
    · show Sum.elim _ _ (z_fx f i n) = _
      rw [ih (by omega)]
      rfl
def z_le (x : Int32) (N : Nat) : Prop := ∃ n, n ≤ N ∧ x = nI n
theorem z_le_cl {x : Int32} {N : Nat} (h : z_le x N) (hN : N < 2 ^ 31) : x = nI x.toNatClampNeg ∧ x.toNatClampNeg ≤ N := by
  obtain ⟨n, h1, rfl⟩ := h
  rw [nI_clamp (by omega)]
  exact ⟨rfl, h1⟩
theorem z_brge {b : Int32} {n k : Nat} (hb : b = nI n) (hn : n < 2 ^ 31) (hk : k < 2 ^ 31) : b ≤ nI k ↔ n ≤ k := by
  rw [hb]
  exact nI_leI hn hk
theorem z_brgt {n k : Nat} (hb : nI (n + 1) = nI (n + 1)) (hn : n + 1 < 2 ^ 31) (hk : k < 2 ^ 31) : nI n < nI k ↔ n + 1 ≤ k := by
  rw [nI_ltI (by omega) hk]
  omega
theorem z_in_le {x : Int32} {n N : Nat} (h : vp_in x n) (hN : n ≤ N) : vp_in x N := fun q => h (by
  rcases q with q | q
  · exact Or.inl q
  · exact Or.inr (by omega))
theorem z_in_ma {x : Int32} {k m N M : Nat} (h : vp_in x N) (hk : k < m) (hM : N * m ≤ M ∧ M < 2 ^ 31) : vp_in (x * nI m + nI k) M := by
  have hN : N < 2 ^ 31 := by
    have : N * 1 ≤ N * m := Nat.mul_le_mul_left N (by omega)
    omega
  obtain ⟨j, hj, rfl⟩ := vp_in_of h hN
  rw [pk_mul, nI_add]
  have : (j + 1) * m ≤ N * m := Nat.mul_le_mul_right m hj
  rw [Nat.succ_mul] at this
  exact vp_in_nI (by omega) hM.2
theorem z_i64 {x : Int32} (h : ¬ x = 0) : ¬ x.toInt64 = 0 := fun q => h (Int32.toInt_inj.mp (by
  have h1 : x.toInt64.toInt = (0 : Int64).toInt := by rw [q]
  rw [Int32.toInt_toInt64] at h1
  rw [h1]
  decide))
theorem z_ck {x c : Int32} {N : Nat} (h1 : ¬ x < 0) (h2 : ¬ c ≤ x) (hc : z_le c N) (hN : N < 2 ^ 31) : vp_in x N := by
  obtain ⟨n, hn, rfl⟩ := hc
  rw [vp_in_iff]
  rw [Int32.lt_iff_toInt_lt] at h1
  rw [Int32.le_iff_toInt_le, nI_toInt (by omega)] at h2
  have h0 : (0 : Int32).toInt = 0 := by decide
  omega
def z_i2b (x : Int32) : Bool := decide (x = nI 1)
end
section
theorem z_pok_of {own : String} {G : z_G} (ft : List (Nat × Nat × Nat × Option Nat)) (ci cL : List (Nat × Nat)) (h1 : ∀ q ∈ ft, (z_fok own q || z_sok own q) = true) (h2 : ∀ q ∈ ci, Jvm.Cond.constant own q.1 (nI q.2) ∈ z_T) (h3 : ∀ q ∈ cL, Jvm.Cond.constantLong own q.1 (lN q.2) ∈ z_T) (h : ((z_fm G).all (fun q => decide (q ∈ ft)) && (z_ci G).all (fun q => decide (q ∈ ci)) && (z_cL G).all (fun q => decide (q ∈ cL))) = true) : z_pok own G = true := by
  simp only [Bool.and_eq_true, List.all_eq_true, decide_eq_true_eq] at h
  simp only [z_pok, Bool.and_eq_true, List.all_eq_true, decide_eq_true_eq]
  exact ⟨⟨fun q hq => h1 q (h.1.1 q hq), fun q hq => h2 q (h.1.2 q hq)⟩, fun q hq => h3 q (h.2 q hq)⟩
theorem z_mT {c : Jvm.Cond} (i : Nat) (h : lw_tbl[i]? = some c) (hg : goodWord c = true) : c ∈ z_T := List.mem_filter.mpr ⟨List.mem_of_getElem? h, hg⟩
theorem z_kB_mk {y : MethodName} {b : ByteArray} {maxL : Nat} {ret : Option FieldType} {n : Nat} (h1 : Jvm.Cond.initialized y.cls ∈ z_T) (h2 : Jvm.Cond.code y b maxL ret ∈ z_T) (h3 : y.cls ≠ "java/lang/invoke/MethodHandle" ∧ y.cls ≠ "java/lang/invoke/VarHandle") (h4 : (parseMethodDescriptor y.desc).map (fun d => d.parameters.length) = some n) : z_kB y b maxL ret n = true := by
  simp only [z_kB, Bool.and_eq_true, decide_eq_true_eq]
  exact ⟨⟨⟨h1, h2⟩, h3⟩, h4⟩
theorem z_kV_mk {own : String} {i : Nat} {y : MethodName} (h1 : Jvm.Cond.methodLink own i y ∈ z_T) (h2 : Jvm.Cond.instanceMethod y ∈ z_T) (h3 : Jvm.Cond.selects y.cls y y ∈ z_T) : z_kV own i y = true := by
  simp only [z_kV, Bool.and_eq_true, decide_eq_true_eq]
  exact ⟨⟨h1, h2⟩, h3⟩
theorem z_kS_mk {own : String} {i : Nat} {y : MethodName} (h1 : Jvm.Cond.methodLink own i y ∈ z_T) (h2 : Jvm.Cond.static y ∈ z_T) : z_kS own i y = true := by
  simp only [z_kS, Bool.and_eq_true, decide_eq_true_eq]
  exact ⟨h1, h2⟩
theorem z_kN_mk {own : String} {i : Nat} {y : MethodName} {host : String} (h1 : (own, i, y, host) ∈ z_nest) (h2 : Jvm.Cond.static y ∈ z_T) : z_kN own i y host = true := by
  simp only [z_kN, Bool.and_eq_true, decide_eq_true_eq]
  exact ⟨h1, h2⟩
theorem z_fok_mk {own : String} {q : Nat × Nat × Nat × Option Nat} {C : String} {T : u_T} {N : Nat} (hc : z_cl[z_n q.2.1]? = some (C, T, N)) (hw : Jvm.Cond.fieldLink own q.1 (T q.2.2.1).1 (T q.2.2.1).2.1 (T q.2.2.1).2.2.1 ∈ z_T) (h : ((q.2.1 % 8 == 0) && z_ids.contains q.2.1 && decide (q.2.2.1 < N) && decide ((z_fl.getD (z_n q.2.1) [])[q.2.2.1]? = some q.2.2.2) && (match q.2.2.2 with
    | some t => z_ids.contains t
    | none => decide ((T q.2.2.1).2.2.2 = false) && decide ((T q.2.2.1).2.2.1 = "I")) && decide ((z_fl.getD (z_n q.2.1) []).length = N)) = true) : (z_fok own q || z_sok own q) = true := by
  rw [Bool.or_eq_true]
  refine Or.inl ?_
  unfold z_fok
  rw [hc]
  simp only [Bool.and_eq_true, decide_eq_true_eq] at h ⊢
  obtain ⟨⟨⟨⟨⟨h1, h2⟩, h3⟩, h4⟩, h5⟩, h6⟩ := h
  exact ⟨⟨⟨⟨⟨⟨h1, h2⟩, h3⟩, hw⟩, h4⟩, h5⟩, h6⟩
theorem z_sok_mk {own : String} {q : Nat × Nat × Nat × Option Nat} (h : q.2.1 = z_WT) (hw : Jvm.Cond.fieldLink own q.1 "Songlinebench" "WEIGHTS" "[I" ∈ z_T) : (z_fok own q || z_sok own q) = true := by
  rw [Bool.or_eq_true]
  refine Or.inr ?_
  simp only [z_sok, Bool.and_eq_true, decide_eq_true_eq, beq_iff_eq]
  exact ⟨h, hw⟩
def ft_X0 : List (Nat × Nat × Nat × Option Nat) := [(9, 10240, 0, some 55617), (15, 10240, 1, some 57665), (18, 10240, 2, some 59713), (21, 10240, 3, some 61761), (24, 10240, 4, some 63809), (27, 10240, 5, some 65857), (30, 10240, 6, some 67906), (34, 10240, 7, some 69954), (37, 10240, 8, none)]
def ci_X0 : List (Nat × Nat) := []
def cL_X0_L : List (Nat × Nat) := []
set_option maxRecDepth 20000 in
theorem fo_X0 : ∀ q ∈ ft_X0, (z_fok "Songlinebench$Acts" q || z_sok "Songlinebench$Acts" q) = true := List.forall_mem_cons.mpr ⟨z_fok_mk (by rfl) (z_mT 144 (by decide +kernel) rfl) (by decide +kernel), List.forall_mem_cons.mpr ⟨z_fok_mk (by rfl) (z_mT 146 (by decide +kernel) rfl) (by decide +kernel), List.forall_mem_cons.mpr ⟨z_fok_mk (by rfl) (z_mT 148 (by decide +kernel) rfl) (by decide +kernel), List.forall_mem_cons.mpr ⟨z_fok_mk (by rfl) (z_mT 149 (by decide +kernel) rfl) (by decide +kernel), List.forall_mem_cons.mpr ⟨z_fok_mk (by rfl) (z_mT 150 (by decide +kernel) rfl) (by decide +kernel), List.forall_mem_cons.mpr ⟨z_fok_mk (by rfl) (z_mT 151 (by decide +kernel) rfl) (by decide +kernel), List.forall_mem_cons.mpr ⟨z_fok_mk (by rfl) (z_mT 153 (by decide +kernel) rfl) (by decide +kernel), List.forall_mem_cons.mpr ⟨z_fok_mk (by rfl) (z_mT 155 (by decide +kernel) rfl) (by decide +kernel), List.forall_mem_cons.mpr ⟨z_fok_mk (by rfl) (z_mT 157 (by decide +kernel) rfl) (by decide +kernel), fun _ h => absurd h List.not_mem_nil⟩⟩⟩⟩⟩⟩⟩⟩⟩
theorem co_X0 : ∀ q ∈ ci_X0, Jvm.Cond.constant "Songlinebench$Acts" q.1 (nI q.2) ∈ z_T := fun _ h => absurd h List.not_mem_nil
theorem lo_X0 : ∀ q ∈ cL_X0_L, Jvm.Cond.constantLong "Songlinebench$Acts" q.1 (lN q.2) ∈ z_T := fun _ h => absurd h List.not_mem_nil
theorem ko_X0 : z_kO 10240 "Songlinebench$Acts" = true := by decide +kernel
def ft_X1 : List (Nat × Nat × Nat × Option Nat) := [(9, 12296, 0, some 71777), (15, 12296, 1, some 73825), (18, 12296, 2, some 75873), (21, 12296, 3, some 77921), (24, 12296, 4, some 79969), (27, 12296, 5, some 82017), (30, 12296, 6, some 84065), (33, 12296, 7, some 86113), (36, 12296, 8, none)]
def ci_X1 : List (Nat × Nat) := []
def cL_X1_L : List (Nat × Nat) := []
set_option maxRecDepth 20000 in
theorem fo_X1 : ∀ q ∈ ft_X1, (z_fok "Songlinebench$Claims" q || z_sok "Songlinebench$Claims" q) = true := List.forall_mem_cons.mpr ⟨z_fok_mk (by rfl) (z_mT 185 (by decide +kernel) rfl) (by decide +kernel), List.forall_mem_cons.mpr ⟨z_fok_mk (by rfl) (z_mT 187 (by decide +kernel) rfl) (by decide +kernel), List.forall_mem_cons.mpr ⟨z_fok_mk (by rfl) (z_mT 189 (by decide +kernel) rfl) (by decide +kernel), List.forall_mem_cons.mpr ⟨z_fok_mk (by rfl) (z_mT 190 (by decide +kernel) rfl) (by decide +kernel), List.forall_mem_cons.mpr ⟨z_fok_mk (by rfl) (z_mT 192 (by decide +kernel) rfl) (by decide +kernel), List.forall_mem_cons.mpr ⟨z_fok_mk (by rfl) (z_mT 194 (by decide +kernel) rfl) (by decide +kernel), List.forall_mem_cons.mpr ⟨z_fok_mk (by rfl) (z_mT 196 (by decide +kernel) rfl) (by decide +kernel), List.forall_mem_cons.mpr ⟨z_fok_mk (by rfl) (z_mT 198 (by decide +kernel) rfl) (by decide +kernel), List.forall_mem_cons.mpr ⟨z_fok_mk (by rfl) (z_mT 200 (by decide +kernel) rfl) (by decide +kernel), fun _ h => absurd h List.not_mem_nil⟩⟩⟩⟩⟩⟩⟩⟩⟩
theorem co_X1 : ∀ q ∈ ci_X1, Jvm.Cond.constant "Songlinebench$Claims" q.1 (nI q.2) ∈ z_T := fun _ h => absurd h List.not_mem_nil
theorem lo_X1 : ∀ q ∈ cL_X1_L, Jvm.Cond.constantLong "Songlinebench$Claims" q.1 (lN q.2) ∈ z_T := fun _ h => absurd h List.not_mem_nil
theorem ko_X1 : z_kO 12296 "Songlinebench$Claims" = true := by decide +kernel
def ft_X2 : List (Nat × Nat × Nat × Option Nat) := [(9, 4112, 0, some 20529), (15, 4112, 1, some 22577), (18, 4112, 2, some 24817), (21, 4112, 3, some 26865), (24, 4112, 4, some 28913), (27, 4112, 5, some 30961), (30, 4112, 6, none), (34, 4112, 7, none)]
def ci_X2 : List (Nat × Nat) := []
def cL_X2_L : List (Nat × Nat) := []
set_option maxRecDepth 20000 in
theorem fo_X2 : ∀ q ∈ ft_X2, (z_fok "Songlinebench$Kin" q || z_sok "Songlinebench$Kin" q) = true := List.forall_mem_cons.mpr ⟨z_fok_mk (by rfl) (z_mT 49 (by decide +kernel) rfl) (by decide +kernel), List.forall_mem_cons.mpr ⟨z_fok_mk (by rfl) (z_mT 50 (by decide +kernel) rfl) (by decide +kernel), List.forall_mem_cons.mpr ⟨z_fok_mk (by rfl) (z_mT 52 (by decide +kernel) rfl) (by decide +kernel), List.forall_mem_cons.mpr ⟨z_fok_mk (by rfl) (z_mT 53 (by decide +kernel) rfl) (by decide +kernel), List.forall_mem_cons.mpr ⟨z_fok_mk (by rfl) (z_mT 54 (by decide +kernel) rfl) (by decide +kernel), List.forall_mem_cons.mpr ⟨z_fok_mk (by rfl) (z_mT 56 (by decide +kernel) rfl) (by decide +kernel), List.forall_mem_cons.mpr ⟨z_fok_mk (by rfl) (z_mT 58 (by decide +kernel) rfl) (by decide +kernel), List.forall_mem_cons.mpr ⟨z_fok_mk (by rfl) (z_mT 60 (by decide +kernel) rfl) (by decide +kernel), fun _ h => absurd h List.not_mem_nil⟩⟩⟩⟩⟩⟩⟩⟩
theorem co_X2 : ∀ q ∈ ci_X2, Jvm.Cond.constant "Songlinebench$Kin" q.1 (nI q.2) ∈ z_T := fun _ h => absurd h List.not_mem_nil
theorem lo_X2 : ∀ q ∈ cL_X2_L, Jvm.Cond.constantLong "Songlinebench$Kin" q.1 (lN q.2) ∈ z_T := fun _ h => absurd h List.not_mem_nil
theorem ko_X2 : z_kO 4112 "Songlinebench$Kin" = true := by decide +kernel
def ft_X3 : List (Nat × Nat × Nat × Option Nat) := [(9, 8216, 0, some 41441), (15, 8216, 1, some 43489), (18, 8216, 2, some 45537), (21, 8216, 3, some 47585), (24, 8216, 4, some 49201), (27, 8216, 5, some 51585), (30, 8216, 6, some 53633), (33, 8216, 7, none)]
def ci_X3 : List (Nat × Nat) := []
def cL_X3_L : List (Nat × Nat) := []
set_option maxRecDepth 20000 in
theorem fo_X3 : ∀ q ∈ ft_X3, (z_fok "Songlinebench$Marks" q || z_sok "Songlinebench$Marks" q) = true := List.forall_mem_cons.mpr ⟨z_fok_mk (by rfl) (z_mT 111 (by decide +kernel) rfl) (by decide +kernel), List.forall_mem_cons.mpr ⟨z_fok_mk (by rfl) (z_mT 112 (by decide +kernel) rfl) (by decide +kernel), List.forall_mem_cons.mpr ⟨z_fok_mk (by rfl) (z_mT 113 (by decide +kernel) rfl) (by decide +kernel), List.forall_mem_cons.mpr ⟨z_fok_mk (by rfl) (z_mT 114 (by decide +kernel) rfl) (by decide +kernel), List.forall_mem_cons.mpr ⟨z_fok_mk (by rfl) (z_mT 115 (by decide +kernel) rfl) (by decide +kernel), List.forall_mem_cons.mpr ⟨z_fok_mk (by rfl) (z_mT 117 (by decide +kernel) rfl) (by decide +kernel), List.forall_mem_cons.mpr ⟨z_fok_mk (by rfl) (z_mT 118 (by decide +kernel) rfl) (by decide +kernel), List.forall_mem_cons.mpr ⟨z_fok_mk (by rfl) (z_mT 119 (by decide +kernel) rfl) (by decide +kernel), fun _ h => absurd h List.not_mem_nil⟩⟩⟩⟩⟩⟩⟩⟩
theorem co_X3 : ∀ q ∈ ci_X3, Jvm.Cond.constant "Songlinebench$Marks" q.1 (nI q.2) ∈ z_T := fun _ h => absurd h List.not_mem_nil
theorem lo_X3 : ∀ q ∈ cL_X3_L, Jvm.Cond.constantLong "Songlinebench$Marks" q.1 (lN q.2) ∈ z_T := fun _ h => absurd h List.not_mem_nil
theorem ko_X3 : z_kO 8216 "Songlinebench$Marks" = true := by decide +kernel
def ft_X4 : List (Nat × Nat × Nat × Option Nat) := [(9, 14368, 0, some 88161), (15, 14368, 1, some 90209), (18, 14368, 2, some 92257), (21, 14368, 3, some 94305), (24, 14368, 4, some 96353), (27, 14368, 5, some 98401), (30, 14368, 6, some 100449), (33, 14368, 7, some 102497), (36, 14368, 8, some 104545), (39, 14368, 9, some 106594), (43, 14368, 10, some 108642), (46, 14368, 11, none)]
def ci_X4 : List (Nat × Nat) := []
def cL_X4_L : List (Nat × Nat) := []
set_option maxRecDepth 20000 in
theorem fo_X4 : ∀ q ∈ ft_X4, (z_fok "Songlinebench$Notices" q || z_sok "Songlinebench$Notices" q) = true := List.forall_mem_cons.mpr ⟨z_fok_mk (by rfl) (z_mT 227 (by decide +kernel) rfl) (by decide +kernel), List.forall_mem_cons.mpr ⟨z_fok_mk (by rfl) (z_mT 229 (by decide +kernel) rfl) (by decide +kernel), List.forall_mem_cons.mpr ⟨z_fok_mk (by rfl) (z_mT 231 (by decide +kernel) rfl) (by decide +kernel), List.forall_mem_cons.mpr ⟨z_fok_mk (by rfl) (z_mT 233 (by decide +kernel) rfl) (by decide +kernel), List.forall_mem_cons.mpr ⟨z_fok_mk (by rfl) (z_mT 235 (by decide +kernel) rfl) (by decide +kernel), List.forall_mem_cons.mpr ⟨z_fok_mk (by rfl) (z_mT 237 (by decide +kernel) rfl) (by decide +kernel), List.forall_mem_cons.mpr ⟨z_fok_mk (by rfl) (z_mT 239 (by decide +kernel) rfl) (by decide +kernel), List.forall_mem_cons.mpr ⟨z_fok_mk (by rfl) (z_mT 241 (by decide +kernel) rfl) (by decide +kernel), List.forall_mem_cons.mpr ⟨z_fok_mk (by rfl) (z_mT 243 (by decide +kernel) rfl) (by decide +kernel), List.forall_mem_cons.mpr ⟨z_fok_mk (by rfl) (z_mT 245 (by decide +kernel) rfl) (by decide +kernel), List.forall_mem_cons.mpr ⟨z_fok_mk (by rfl) (z_mT 246 (by decide +kernel) rfl) (by decide +kernel), List.forall_mem_cons.mpr ⟨z_fok_mk (by rfl) (z_mT 248 (by decide +kernel) rfl) (by decide +kernel), fun _ h => absurd h List.not_mem_nil⟩⟩⟩⟩⟩⟩⟩⟩⟩⟩⟩⟩
theorem co_X4 : ∀ q ∈ ci_X4, Jvm.Cond.constant "Songlinebench$Notices" q.1 (nI q.2) ∈ z_T := fun _ h => absurd h List.not_mem_nil
theorem lo_X4 : ∀ q ∈ cL_X4_L, Jvm.Cond.constantLong "Songlinebench$Notices" q.1 (lN q.2) ∈ z_T := fun _ h => absurd h List.not_mem_nil
theorem ko_X4 : z_kO 14368 "Songlinebench$Notices" = true := by decide +kernel
def ft_X5 : List (Nat × Nat × Nat × Option Nat) := [(9, 6184, 0, some 32849), (15, 6184, 1, some 34897), (18, 6184, 2, some 37825), (21, 6184, 3, some 39873), (24, 6184, 4, none)]
def ci_X5 : List (Nat × Nat) := []
def cL_X5_L : List (Nat × Nat) := []
set_option maxRecDepth 20000 in
theorem fo_X5 : ∀ q ∈ ft_X5, (z_fok "Songlinebench$Stories" q || z_sok "Songlinebench$Stories" q) = true := List.forall_mem_cons.mpr ⟨z_fok_mk (by rfl) (z_mT 86 (by decide +kernel) rfl) (by decide +kernel), List.forall_mem_cons.mpr ⟨z_fok_mk (by rfl) (z_mT 88 (by decide +kernel) rfl) (by decide +kernel), List.forall_mem_cons.mpr ⟨z_fok_mk (by rfl) (z_mT 90 (by decide +kernel) rfl) (by decide +kernel), List.forall_mem_cons.mpr ⟨z_fok_mk (by rfl) (z_mT 91 (by decide +kernel) rfl) (by decide +kernel), List.forall_mem_cons.mpr ⟨z_fok_mk (by rfl) (z_mT 92 (by decide +kernel) rfl) (by decide +kernel), fun _ h => absurd h List.not_mem_nil⟩⟩⟩⟩⟩
theorem co_X5 : ∀ q ∈ ci_X5, Jvm.Cond.constant "Songlinebench$Stories" q.1 (nI q.2) ∈ z_T := fun _ h => absurd h List.not_mem_nil
theorem lo_X5 : ∀ q ∈ cL_X5_L, Jvm.Cond.constantLong "Songlinebench$Stories" q.1 (lN q.2) ∈ z_T := fun _ h => absurd h List.not_mem_nil
theorem ko_X5 : z_kO 6184 "Songlinebench$Stories" = true := by decide +kernel
def ft_X6 : List (Nat × Nat × Nat × Option Nat) := [(10, 2096, 0, some 4112), (19, 2096, 1, some 6184), (26, 2096, 2, some 8216), (33, 2096, 3, some 10240), (40, 2096, 4, some 12296), (47, 2096, 5, some 14368), (51, 2096, 6, some 16513), (55, 2096, 7, some 18483), (59, 2096, 8, none), (70, 4112, 6, none), (93, 4112, 7, none), (110, 4112, 1, some 22577), (129, 4112, 4, some 28913), (132, 4112, 5, some 30961), (139, 6184, 4, none), (157, 6184, 1, some 34897), (181, 6184, 0, some 32849), (191, 8216, 7, none), (199, 8216, 4, some 49201), (219, 10240, 8, none), (230, 10240, 6, some 67906), (234, 10240, 5, some 65857), (239, 10240, 0, some 55617), (263, 12296, 8, none), (273, 12296, 3, some 77921), (276, 12296, 0, some 71777), (279, 12296, 6, some 84065), (282, 12296, 7, some 86113), (292, 12296, 5, some 82017), (302, 12296, 4, some 79969), (329, 12296, 1, some 73825), (335, 14368, 11, none), (353, 14368, 5, some 98401), (354, 14368, 6, some 100449), (364, 14368, 7, some 102497), (376, 14368, 10, some 108642), (389, 14368, 1, some 90209), (390, 14368, 2, some 92257), (393, 14368, 3, some 94305), (396, 14368, 4, some 96353), (399, 14368, 8, some 104545), (402, 14368, 0, some 88161), (423, 10240, 7, some 69954), (433, 10240, 1, some 57665), (446, 2050093, 0, none)]
def ci_X6 : List (Nat × Nat) := [(406, 1000000), (449, 65535)]
def cL_X6_L : List (Nat × Nat) := [(440, 100), (442, 2), (444, 1000)]
set_option maxRecDepth 20000 in
theorem fo_X6 : ∀ q ∈ ft_X6, (z_fok "Songlinebench" q || z_sok "Songlinebench" q) = true := List.forall_mem_cons.mpr ⟨z_fok_mk (by rfl) (z_mT 275 (by decide +kernel) rfl) (by decide +kernel), List.forall_mem_cons.mpr ⟨z_fok_mk (by rfl) (z_mT 276 (by decide +kernel) rfl) (by decide +kernel), List.forall_mem_cons.mpr ⟨z_fok_mk (by rfl) (z_mT 277 (by decide +kernel) rfl) (by decide +kernel), List.forall_mem_cons.mpr ⟨z_fok_mk (by rfl) (z_mT 278 (by decide +kernel) rfl) (by decide +kernel), List.forall_mem_cons.mpr ⟨z_fok_mk (by rfl) (z_mT 279 (by decide +kernel) rfl) (by decide +kernel), List.forall_mem_cons.mpr ⟨z_fok_mk (by rfl) (z_mT 280 (by decide +kernel) rfl) (by decide +kernel), List.forall_mem_cons.mpr ⟨z_fok_mk (by rfl) (z_mT 281 (by decide +kernel) rfl) (by decide +kernel), List.forall_mem_cons.mpr ⟨z_fok_mk (by rfl) (z_mT 282 (by decide +kernel) rfl) (by decide +kernel), List.forall_mem_cons.mpr ⟨z_fok_mk (by rfl) (z_mT 283 (by decide +kernel) rfl) (by decide +kernel), List.forall_mem_cons.mpr ⟨z_fok_mk (by rfl) (z_mT 59 (by decide +kernel) rfl) (by decide +kernel), List.forall_mem_cons.mpr ⟨z_fok_mk (by rfl) (z_mT 61 (by decide +kernel) rfl) (by decide +kernel), List.forall_mem_cons.mpr ⟨z_fok_mk (by rfl) (z_mT 51 (by decide +kernel) rfl) (by decide +kernel), List.forall_mem_cons.mpr ⟨z_fok_mk (by rfl) (z_mT 55 (by decide +kernel) rfl) (by decide +kernel), List.forall_mem_cons.mpr ⟨z_fok_mk (by rfl) (z_mT 57 (by decide +kernel) rfl) (by decide +kernel), List.forall_mem_cons.mpr ⟨z_fok_mk (by rfl) (z_mT 93 (by decide +kernel) rfl) (by decide +kernel), List.forall_mem_cons.mpr ⟨z_fok_mk (by rfl) (z_mT 89 (by decide +kernel) rfl) (by decide +kernel), List.forall_mem_cons.mpr ⟨z_fok_mk (by rfl) (z_mT 87 (by decide +kernel) rfl) (by decide +kernel), List.forall_mem_cons.mpr ⟨z_fok_mk (by rfl) (z_mT 120 (by decide +kernel) rfl) (by decide +kernel), List.forall_mem_cons.mpr ⟨z_fok_mk (by rfl) (z_mT 116 (by decide +kernel) rfl) (by decide +kernel), List.forall_mem_cons.mpr ⟨z_fok_mk (by rfl) (z_mT 158 (by decide +kernel) rfl) (by decide +kernel), List.forall_mem_cons.mpr ⟨z_fok_mk (by rfl) (z_mT 154 (by decide +kernel) rfl) (by decide +kernel), List.forall_mem_cons.mpr ⟨z_fok_mk (by rfl) (z_mT 152 (by decide +kernel) rfl) (by decide +kernel), List.forall_mem_cons.mpr ⟨z_fok_mk (by rfl) (z_mT 145 (by decide +kernel) rfl) (by decide +kernel), List.forall_mem_cons.mpr ⟨z_fok_mk (by rfl) (z_mT 201 (by decide +kernel) rfl) (by decide +kernel), List.forall_mem_cons.mpr ⟨z_fok_mk (by rfl) (z_mT 191 (by decide +kernel) rfl) (by decide +kernel), List.forall_mem_cons.mpr ⟨z_fok_mk (by rfl) (z_mT 186 (by decide +kernel) rfl) (by decide +kernel), List.forall_mem_cons.mpr ⟨z_fok_mk (by rfl) (z_mT 197 (by decide +kernel) rfl) (by decide +kernel), List.forall_mem_cons.mpr ⟨z_fok_mk (by rfl) (z_mT 199 (by decide +kernel) rfl) (by decide +kernel), List.forall_mem_cons.mpr ⟨z_fok_mk (by rfl) (z_mT 195 (by decide +kernel) rfl) (by decide +kernel), List.forall_mem_cons.mpr ⟨z_fok_mk (by rfl) (z_mT 193 (by decide +kernel) rfl) (by decide +kernel), List.forall_mem_cons.mpr ⟨z_fok_mk (by rfl) (z_mT 188 (by decide +kernel) rfl) (by decide +kernel), List.forall_mem_cons.mpr ⟨z_fok_mk (by rfl) (z_mT 249 (by decide +kernel) rfl) (by decide +kernel), List.forall_mem_cons.mpr ⟨z_fok_mk (by rfl) (z_mT 238 (by decide +kernel) rfl) (by decide +kernel), List.forall_mem_cons.mpr ⟨z_fok_mk (by rfl) (z_mT 240 (by decide +kernel) rfl) (by decide +kernel), List.forall_mem_cons.mpr ⟨z_fok_mk (by rfl) (z_mT 242 (by decide +kernel) rfl) (by decide +kernel), List.forall_mem_cons.mpr ⟨z_fok_mk (by rfl) (z_mT 247 (by decide +kernel) rfl) (by decide +kernel), List.forall_mem_cons.mpr ⟨z_fok_mk (by rfl) (z_mT 230 (by decide +kernel) rfl) (by decide +kernel), List.forall_mem_cons.mpr ⟨z_fok_mk (by rfl) (z_mT 232 (by decide +kernel) rfl) (by decide +kernel), List.forall_mem_cons.mpr ⟨z_fok_mk (by rfl) (z_mT 234 (by decide +kernel) rfl) (by decide +kernel), List.forall_mem_cons.mpr ⟨z_fok_mk (by rfl) (z_mT 236 (by decide +kernel) rfl) (by decide +kernel), List.forall_mem_cons.mpr ⟨z_fok_mk (by rfl) (z_mT 244 (by decide +kernel) rfl) (by decide +kernel), List.forall_mem_cons.mpr ⟨z_fok_mk (by rfl) (z_mT 228 (by decide +kernel) rfl) (by decide +kernel), List.forall_mem_cons.mpr ⟨z_fok_mk (by rfl) (z_mT 156 (by decide +kernel) rfl) (by decide +kernel), List.forall_mem_cons.mpr ⟨z_fok_mk (by rfl) (z_mT 147 (by decide +kernel) rfl) (by decide +kernel), List.forall_mem_cons.mpr ⟨z_sok_mk rfl (z_mT 899 (by decide +kernel) rfl), fun _ h => absurd h List.not_mem_nil⟩⟩⟩⟩⟩⟩⟩⟩⟩⟩⟩⟩⟩⟩⟩⟩⟩⟩⟩⟩⟩⟩⟩⟩⟩⟩⟩⟩⟩⟩⟩⟩⟩⟩⟩⟩⟩⟩⟩⟩⟩⟩⟩⟩⟩
theorem co_X6 : ∀ q ∈ ci_X6, Jvm.Cond.constant "Songlinebench" q.1 (nI q.2) ∈ z_T := List.forall_mem_cons.mpr ⟨(z_mT 811 (by decide +kernel) rfl), List.forall_mem_cons.mpr ⟨(z_mT 639 (by decide +kernel) rfl), fun _ h => absurd h List.not_mem_nil⟩⟩
theorem lo_X6 : ∀ q ∈ cL_X6_L, Jvm.Cond.constantLong "Songlinebench" q.1 (lN q.2) ∈ z_T := List.forall_mem_cons.mpr ⟨(z_mT 901 (by decide +kernel) rfl), List.forall_mem_cons.mpr ⟨(z_mT 902 (by decide +kernel) rfl), List.forall_mem_cons.mpr ⟨(z_mT 903 (by decide +kernel) rfl), fun _ h => absurd h List.not_mem_nil⟩⟩⟩
theorem ko_X6 : z_kO 2096 "Songlinebench" = true := by decide +kernel
def ft_X7 : List (Nat × Nat × Nat × Option Nat) := []
def ci_X7 : List (Nat × Nat) := []
def cL_X7_L : List (Nat × Nat) := []
set_option maxRecDepth 20000 in
theorem fo_X7 : ∀ q ∈ ft_X7, (z_fok "SonglinebenchModel" q || z_sok "SonglinebenchModel" q) = true := fun _ h => absurd h List.not_mem_nil
theorem co_X7 : ∀ q ∈ ci_X7, Jvm.Cond.constant "SonglinebenchModel" q.1 (nI q.2) ∈ z_T := fun _ h => absurd h List.not_mem_nil
theorem lo_X7 : ∀ q ∈ cL_X7_L, Jvm.Cond.constantLong "SonglinebenchModel" q.1 (lN q.2) ∈ z_T := fun _ h => absurd h List.not_mem_nil
def ft_J6 : List (Nat × Nat × Nat × Option Nat) := []
def ci_J6 : List (Nat × Nat) := [(265, 1431655765), (266, 858993459), (267, 252645135)]
def cL_J6_L : List (Nat × Nat) := []
set_option maxRecDepth 20000 in
theorem fo_J6 : ∀ q ∈ ft_J6, (z_fok "java/lang/Integer" q || z_sok "java/lang/Integer" q) = true := fun _ h => absurd h List.not_mem_nil
theorem co_J6 : ∀ q ∈ ci_J6, Jvm.Cond.constant "java/lang/Integer" q.1 (nI q.2) ∈ z_T := List.forall_mem_cons.mpr ⟨(z_mT 463 (by decide +kernel) rfl), List.forall_mem_cons.mpr ⟨(z_mT 464 (by decide +kernel) rfl), List.forall_mem_cons.mpr ⟨(z_mT 465 (by decide +kernel) rfl), fun _ h => absurd h List.not_mem_nil⟩⟩⟩
theorem lo_J6 : ∀ q ∈ cL_J6_L, Jvm.Cond.constantLong "java/lang/Integer" q.1 (lN q.2) ∈ z_T := fun _ h => absurd h List.not_mem_nil
def ft_L : List (Nat × Nat × Nat × Option Nat) := []
def ci_L : List (Nat × Nat) := [(7, 2147483647), (69, 2194967296), (160, 66000), (177, 1500000), (178, 1000001)]
def cL_L_L : List (Nat × Nat) := [(155, 18446744071609551616)]
set_option maxRecDepth 20000 in
theorem fo_L : ∀ q ∈ ft_L, (z_fok "SonglinebenchLaw" q || z_sok "SonglinebenchLaw" q) = true := fun _ h => absurd h List.not_mem_nil
theorem co_L : ∀ q ∈ ci_L, Jvm.Cond.constant "SonglinebenchLaw" q.1 (nI q.2) ∈ z_T := List.forall_mem_cons.mpr ⟨(z_mT 472 (by decide +kernel) rfl), List.forall_mem_cons.mpr ⟨(z_mT 819 (by decide +kernel) rfl), List.forall_mem_cons.mpr ⟨(z_mT 476 (by decide +kernel) rfl), List.forall_mem_cons.mpr ⟨(z_mT 863 (by decide +kernel) rfl), List.forall_mem_cons.mpr ⟨(z_mT 864 (by decide +kernel) rfl), fun _ h => absurd h List.not_mem_nil⟩⟩⟩⟩⟩
theorem lo_L : ∀ q ∈ cL_L_L, Jvm.Cond.constantLong "SonglinebenchLaw" q.1 (lN q.2) ∈ z_T := List.forall_mem_cons.mpr ⟨(z_mT 917 (by decide +kernel) rfl), fun _ h => absurd h List.not_mem_nil⟩
theorem kb_X6_act : z_kB yX6_act cX6_act 6 (some .int) 5 = true := z_kB_mk (z_mT 21 (by decide +kernel) rfl) (z_mT 842 (by decide +kernel) rfl) (by decide) (by decide +kernel)
theorem kb_X6_adopt : z_kB yX6_adopt cX6_adopt 4 (some .int) 2 = true := z_kB_mk (z_mT 21 (by decide +kernel) rfl) (z_mT 492 (by decide +kernel) rfl) (by decide) (by decide +kernel)
theorem kb_X6_agree : z_kB yX6_agree cX6_agree 4 (some .int) 2 = true := z_kB_mk (z_mT 21 (by decide +kernel) rfl) (z_mT 746 (by decide +kernel) rfl) (by decide) (by decide +kernel)
theorem kb_X6_claim : z_kB yX6_claim cX6_claim 4 (some .int) 3 = true := z_kB_mk (z_mT 21 (by decide +kernel) rfl) (z_mT 635 (by decide +kernel) rfl) (by decide) (by decide +kernel)
theorem kb_X6_decide : z_kB yX6_decide cX6_decide 3 (some .int) 2 = true := z_kB_mk (z_mT 21 (by decide +kernel) rfl) (z_mT 777 (by decide +kernel) rfl) (by decide) (by decide +kernel)
theorem kb_X6_determine : z_kB yX6_determine cX6_determine 2 (some .int) 1 = true := z_kB_mk (z_mT 21 (by decide +kernel) rfl) (z_mT 687 (by decide +kernel) rfl) (by decide) (by decide +kernel)
theorem kb_X6_explain : z_kB yX6_explain cX6_explain 4 (some .int) 3 = true := z_kB_mk (z_mT 21 (by decide +kernel) rfl) (z_mT 564 (by decide +kernel) rfl) (by decide) (by decide +kernel)
theorem kb_X6_firstFailed : z_kB yX6_firstFailed cX6_firstFailed 2 (some .int) 1 = true := z_kB_mk (z_mT 21 (by decide +kernel) rfl) (z_mT 671 (by decide +kernel) rfl) (by decide) (by decide +kernel)
theorem kb_X6_giveUp : z_kB yX6_giveUp cX6_giveUp 2 (some .int) 1 = true := z_kB_mk (z_mT 21 (by decide +kernel) rfl) (z_mT 600 (by decide +kernel) rfl) (by decide) (by decide +kernel)
theorem kb_X6_hears : z_kB yX6_hears cX6_hears 4 (some .int) 3 = true := z_kB_mk (z_mT 21 (by decide +kernel) rfl) (z_mT 535 (by decide +kernel) rfl) (by decide) (by decide +kernel)
theorem kb_X6_holders : z_kB yX6_holders cX6_holders 2 (some .int) 1 = true := z_kB_mk (z_mT 21 (by decide +kernel) rfl) (z_mT 715 (by decide +kernel) rfl) (by decide) (by decide +kernel)
theorem kb_X6_isDeed : z_kB yX6_isDeed cX6_isDeed 3 (some .boolean) 3 = true := z_kB_mk (z_mT 21 (by decide +kernel) rfl) (z_mT 845 (by decide +kernel) rfl) (by decide) (by decide +kernel)
theorem kb_X6_isIn : z_kB yX6_isIn cX6_isIn 2 (some .boolean) 2 = true := z_kB_mk (z_mT 21 (by decide +kernel) rfl) (z_mT 458 (by decide +kernel) rfl) (by decide) (by decide +kernel)
theorem kb_X6_isLast : z_kB yX6_isLast cX6_isLast 3 (some .boolean) 3 = true := z_kB_mk (z_mT 21 (by decide +kernel) rfl) (z_mT 848 (by decide +kernel) rfl) (by decide) (by decide +kernel)
theorem kb_X6_isMonth : z_kB yX6_isMonth cX6_isMonth 1 (some .boolean) 1 = true := z_kB_mk (z_mT 21 (by decide +kernel) rfl) (z_mT 609 (by decide +kernel) rfl) (by decide) (by decide +kernel)
theorem kb_X6_isPlace : z_kB yX6_isPlace cX6_isPlace 1 (some .boolean) 1 = true := z_kB_mk (z_mT 21 (by decide +kernel) rfl) (z_mT 524 (by decide +kernel) rfl) (by decide) (by decide +kernel)
theorem kb_X6_isProved : z_kB yX6_isProved cX6_isProved 3 (some .boolean) 2 = true := z_kB_mk (z_mT 21 (by decide +kernel) rfl) (z_mT 574 (by decide +kernel) rfl) (by decide) (by decide +kernel)
theorem kb_X6_isSomePlaces : z_kB yX6_isSomePlaces cX6_isSomePlaces 1 (some .boolean) 1 = true := z_kB_mk (z_mT 21 (by decide +kernel) rfl) (z_mT 638 (by decide +kernel) rfl) (by decide) (by decide +kernel)
theorem kb_X6_isSomeRights : z_kB yX6_isSomeRights cX6_isSomeRights 1 (some .boolean) 1 = true := z_kB_mk (z_mT 21 (by decide +kernel) rfl) (z_mT 642 (by decide +kernel) rfl) (by decide) (by decide +kernel)
theorem kb_X6_isVotedFor : z_kB yX6_isVotedFor cX6_isVotedFor 4 (some .boolean) 1 = true := z_kB_mk (z_mT 21 (by decide +kernel) rfl) (z_mT 675 (by decide +kernel) rfl) (by decide) (by decide +kernel)
theorem kb_X6_left : z_kB yX6_left cX6_left 3 (some .int) 2 = true := z_kB_mk (z_mT 21 (by decide +kernel) rfl) (z_mT 605 (by decide +kernel) rfl) (by decide) (by decide +kernel)
theorem kb_X6_leftAnew : z_kB yX6_leftAnew cX6_leftAnew 5 (some .int) 2 = true := z_kB_mk (z_mT 21 (by decide +kernel) rfl) (z_mT 627 (by decide +kernel) rfl) (by decide) (by decide +kernel)
theorem kb_X6_levelHeard : z_kB yX6_levelHeard cX6_levelHeard 3 (some .int) 2 = true := z_kB_mk (z_mT 21 (by decide +kernel) rfl) (z_mT 545 (by decide +kernel) rfl) (by decide) (by decide +kernel)
theorem kb_X6_mark : z_kB yX6_mark cX6_mark 5 (some .int) 4 = true := z_kB_mk (z_mT 21 (by decide +kernel) rfl) (z_mT 826 (by decide +kernel) rfl) (by decide) (by decide +kernel)
theorem kb_X6_may : z_kB yX6_may cX6_may 4 (some .int) 3 = true := z_kB_mk (z_mT 21 (by decide +kernel) rfl) (z_mT 728 (by decide +kernel) rfl) (by decide) (by decide +kernel)
theorem kb_X6_members : z_kB yX6_members cX6_members 2 (some .int) 1 = true := z_kB_mk (z_mT 21 (by decide +kernel) rfl) (z_mT 503 (by decide +kernel) rfl) (by decide) (by decide +kernel)
theorem kb_X6_notice : z_kB yX6_notice cX6_notice 7 (some .int) 5 = true := z_kB_mk (z_mT 21 (by decide +kernel) rfl) (z_mT 853 (by decide +kernel) rfl) (by decide) (by decide +kernel)
theorem kb_X6_object : z_kB yX6_object cX6_object 3 (none) 2 = true := z_kB_mk (z_mT 21 (by decide +kernel) rfl) (z_mT 767 (by decide +kernel) rfl) (by decide) (by decide +kernel)
theorem kb_X6_ofClaim : z_kB yX6_ofClaim cX6_ofClaim 3 (some .int) 2 = true := z_kB_mk (z_mT 21 (by decide +kernel) rfl) (z_mT 701 (by decide +kernel) rfl) (by decide) (by decide +kernel)
theorem kb_X6_ofNotice : z_kB yX6_ofNotice cX6_ofNotice 3 (some .int) 2 = true := z_kB_mk (z_mT 21 (by decide +kernel) rfl) (z_mT 806 (by decide +kernel) rfl) (by decide) (by decide +kernel)
theorem kb_X6_owed : z_kB yX6_owed cX6_owed 2 (some .long) 1 = true := z_kB_mk (z_mT 21 (by decide +kernel) rfl) (z_mT 871 (by decide +kernel) rfl) (by decide) (by decide +kernel)
theorem kb_X6_owedAt : z_kB yX6_owedAt cX6_owedAt 7 (some .long) 2 = true := z_kB_mk (z_mT 21 (by decide +kernel) rfl) (z_mT 887 (by decide +kernel) rfl) (by decide) (by decide +kernel)
theorem kb_X6_owedFor : z_kB yX6_owedFor cX6_owedFor 5 (some .long) 1 = true := z_kB_mk (z_mT 21 (by decide +kernel) rfl) (z_mT 875 (by decide +kernel) rfl) (by decide) (by decide +kernel)
theorem kb_X6_paid : z_kB yX6_paid cX6_paid 2 (some .long) 1 = true := z_kB_mk (z_mT 21 (by decide +kernel) rfl) (z_mT 916 (by decide +kernel) rfl) (by decide) (by decide +kernel)
theorem kb_X6_part : z_kB yX6_part cX6_part 4 (some .int) 3 = true := z_kB_mk (z_mT 21 (by decide +kernel) rfl) (z_mT 517 (by decide +kernel) rfl) (by decide) (by decide +kernel)
theorem kb_X6_partiesOf : z_kB yX6_partiesOf cX6_partiesOf 2 (some .int) 1 = true := z_kB_mk (z_mT 21 (by decide +kernel) rfl) (z_mT 755 (by decide +kernel) rfl) (by decide) (by decide +kernel)
theorem kb_X6_pass : z_kB yX6_pass cX6_pass 2 (some .int) 1 = true := z_kB_mk (z_mT 21 (by decide +kernel) rfl) (z_mT 816 (by decide +kernel) rfl) (by decide) (by decide +kernel)
theorem kb_X6_pay : z_kB yX6_pay cX6_pay 5 (some .long) 1 = true := z_kB_mk (z_mT 21 (by decide +kernel) rfl) (z_mT 907 (by decide +kernel) rfl) (by decide) (by decide +kernel)
theorem kb_X6_people : z_kB yX6_people cX6_people 2 (some .int) 1 = true := z_kB_mk (z_mT 21 (by decide +kernel) rfl) (z_mT 307 (by decide +kernel) rfl) (by decide) (by decide +kernel)
theorem kb_X6_person : z_kB yX6_person cX6_person 3 (some .int) 2 = true := z_kB_mk (z_mT 21 (by decide +kernel) rfl) (z_mT 399 (by decide +kernel) rfl) (by decide) (by decide +kernel)
theorem kb_X6_proceed : z_kB yX6_proceed cX6_proceed 3 (some .int) 1 = true := z_kB_mk (z_mT 21 (by decide +kernel) rfl) (z_mT 787 (by decide +kernel) rfl) (by decide) (by decide +kernel)
theorem kb_X6_provedOf : z_kB yX6_provedOf cX6_provedOf 4 (some .int) 1 = true := z_kB_mk (z_mT 21 (by decide +kernel) rfl) (z_mT 679 (by decide +kernel) rfl) (by decide) (by decide +kernel)
theorem kb_X6_raise : z_kB yX6_raise cX6_raise 2 (some .int) 1 = true := z_kB_mk (z_mT 21 (by decide +kernel) rfl) (z_mT 498 (by decide +kernel) rfl) (by decide) (by decide +kernel)
theorem kb_X6_register : z_kB yX6_register cX6_register 3 (some .int) 1 = true := z_kB_mk (z_mT 21 (by decide +kernel) rfl) (z_mT 665 (by decide +kernel) rfl) (by decide) (by decide +kernel)
theorem kb_X6_revise : z_kB yX6_revise cX6_revise 3 (some .int) 1 = true := z_kB_mk (z_mT 21 (by decide +kernel) rfl) (z_mT 696 (by decide +kernel) rfl) (by decide) (by decide +kernel)
theorem kb_X6_rightsOf : z_kB yX6_rightsOf cX6_rightsOf 5 (some .int) 2 = true := z_kB_mk (z_mT 21 (by decide +kernel) rfl) (z_mT 733 (by decide +kernel) rfl) (by decide) (by decide +kernel)
theorem kb_X6_root : z_kB yX6_root cX6_root 4 (some .int) 3 = true := z_kB_mk (z_mT 21 (by decide +kernel) rfl) (z_mT 433 (by decide +kernel) rfl) (by decide) (by decide +kernel)
theorem kb_X6_share : z_kB yX6_share cX6_share 8 (none) 2 = true := z_kB_mk (z_mT 21 (by decide +kernel) rfl) (z_mT 912 (by decide +kernel) rfl) (by decide) (by decide +kernel)
theorem kb_X6_story : z_kB yX6_story cX6_story 2 (some .int) 1 = true := z_kB_mk (z_mT 21 (by decide +kernel) rfl) (z_mT 508 (by decide +kernel) rfl) (by decide) (by decide +kernel)
theorem kb_X6_told : z_kB yX6_told cX6_told 4 (some .int) 1 = true := z_kB_mk (z_mT 21 (by decide +kernel) rfl) (z_mT 554 (by decide +kernel) rfl) (by decide) (by decide +kernel)
theorem kb_X6_value : z_kB yX6_value cX6_value 4 (some .int) 2 = true := z_kB_mk (z_mT 21 (by decide +kernel) rfl) (z_mT 810 (by decide +kernel) rfl) (by decide) (by decide +kernel)
theorem kb_X6_voids : z_kB yX6_voids cX6_voids 4 (some .boolean) 2 = true := z_kB_mk (z_mT 21 (by decide +kernel) rfl) (z_mT 591 (by decide +kernel) rfl) (by decide) (by decide +kernel)
theorem kb_X6_vote : z_kB yX6_vote cX6_vote 4 (none) 3 = true := z_kB_mk (z_mT 21 (by decide +kernel) rfl) (z_mT 655 (by decide +kernel) rfl) (by decide) (by decide +kernel)
theorem kb_X6_weightOf : z_kB yX6_weightOf cX6_weightOf 3 (some .int) 1 = true := z_kB_mk (z_mT 21 (by decide +kernel) rfl) (z_mT 898 (by decide +kernel) rfl) (by decide) (by decide +kernel)
theorem kb_X6_with : z_kB yX6_with cX6_with 3 (some .int) 3 = true := z_kB_mk (z_mT 21 (by decide +kernel) rfl) (z_mT 442 (by decide +kernel) rfl) (by decide) (by decide +kernel)
theorem kb_X0_add : z_kB yX0_add cX0_add 7 (some .int) 5 = true := z_kB_mk (z_mT 25 (by decide +kernel) rfl) (z_mT 802 (by decide +kernel) rfl) (by decide) (by decide +kernel)
theorem kb_X0_counts : z_kB yX0_counts cX0_counts 3 (some .boolean) 2 = true := z_kB_mk (z_mT 25 (by decide +kernel) rfl) (z_mT 623 (by decide +kernel) rfl) (by decide) (by decide +kernel)
theorem kb_X0_isAct : z_kB yX0_isAct cX0_isAct 2 (some .boolean) 1 = true := z_kB_mk (z_mT 25 (by decide +kernel) rfl) (z_mT 595 (by decide +kernel) rfl) (by decide) (by decide +kernel)
theorem kb_X0_isAhead : z_kB yX0_isAhead cX0_isAhead 3 (some .boolean) 2 = true := z_kB_mk (z_mT 25 (by decide +kernel) rfl) (z_mT 895 (by decide +kernel) rfl) (by decide) (by decide +kernel)
theorem kb_X0_isPayable : z_kB yX0_isPayable cX0_isPayable 2 (some .boolean) 1 = true := z_kB_mk (z_mT 25 (by decide +kernel) rfl) (z_mT 879 (by decide +kernel) rfl) (by decide) (by decide +kernel)
theorem kb_X0_isTaken : z_kB yX0_isTaken cX0_isTaken 5 (some .boolean) 3 = true := z_kB_mk (z_mT 25 (by decide +kernel) rfl) (z_mT 631 (by decide +kernel) rfl) (by decide) (by decide +kernel)
theorem kb_X0_leftAt : z_kB yX0_leftAt cX0_leftAt 5 (some .int) 2 = true := z_kB_mk (z_mT 25 (by decide +kernel) rfl) (z_mT 614 (by decide +kernel) rfl) (by decide) (by decide +kernel)
theorem kb_X0_stillExtinguishes : z_kB yX0_stillExtinguishes cX0_stillExtinguishes 2 (some .boolean) 1 = true := z_kB_mk (z_mT 25 (by decide +kernel) rfl) (z_mT 883 (by decide +kernel) rfl) (by decide) (by decide +kernel)
theorem kb_X0_takenBy : z_kB yX0_takenBy cX0_takenBy 5 (some .int) 2 = true := z_kB_mk (z_mT 25 (by decide +kernel) rfl) (z_mT 891 (by decide +kernel) rfl) (by decide) (by decide +kernel)
theorem kb_X0_takes : z_kB yX0_takes cX0_takes 5 (some .boolean) 3 = true := z_kB_mk (z_mT 25 (by decide +kernel) rfl) (z_mT 618 (by decide +kernel) rfl) (by decide) (by decide +kernel)
theorem kb_X0_yieldingAt : z_kB yX0_yieldingAt cX0_yieldingAt 5 (some .int) 2 = true := z_kB_mk (z_mT 25 (by decide +kernel) rfl) (z_mT 741 (by decide +kernel) rfl) (by decide) (by decide +kernel)
theorem kb_X1_add : z_kB yX1_add cX1_add 5 (some .int) 3 = true := z_kB_mk (z_mT 26 (by decide +kernel) rfl) (z_mT 648 (by decide +kernel) rfl) (by decide) (by decide +kernel)
theorem kb_X1_grant : z_kB yX1_grant cX1_grant 3 (none) 2 = true := z_kB_mk (z_mT 26 (by decide +kernel) rfl) (z_mT 692 (by decide +kernel) rfl) (by decide) (by decide +kernel)
theorem kb_X1_grantedTo : z_kB yX1_grantedTo cX1_grantedTo 5 (some .int) 2 = true := z_kB_mk (z_mT 26 (by decide +kernel) rfl) (z_mT 737 (by decide +kernel) rfl) (by decide) (by decide +kernel)
theorem kb_X1_holdersOf : z_kB yX1_holdersOf cX1_holdersOf 4 (some .int) 1 = true := z_kB_mk (z_mT 26 (by decide +kernel) rfl) (z_mT 719 (by decide +kernel) rfl) (by decide) (by decide +kernel)
theorem kb_X1_isBarred : z_kB yX1_isBarred cX1_isBarred 3 (some .boolean) 1 = true := z_kB_mk (z_mT 26 (by decide +kernel) rfl) (z_mT 683 (by decide +kernel) rfl) (by decide) (by decide +kernel)
theorem kb_X1_isClaim : z_kB yX1_isClaim cX1_isClaim 2 (some .boolean) 1 = true := z_kB_mk (z_mT 26 (by decide +kernel) rfl) (z_mT 659 (by decide +kernel) rfl) (by decide) (by decide +kernel)
theorem kb_X1_isHeld : z_kB yX1_isHeld cX1_isHeld 3 (some .boolean) 2 = true := z_kB_mk (z_mT 26 (by decide +kernel) rfl) (z_mT 723 (by decide +kernel) rfl) (by decide) (by decide +kernel)
theorem kb_X1_partiesAt : z_kB yX1_partiesAt cX1_partiesAt 5 (some .int) 2 = true := z_kB_mk (z_mT 26 (by decide +kernel) rfl) (z_mT 759 (by decide +kernel) rfl) (by decide) (by decide +kernel)
theorem kb_X1_rivalsOf : z_kB yX1_rivalsOf cX1_rivalsOf 4 (some .int) 1 = true := z_kB_mk (z_mT 26 (by decide +kernel) rfl) (z_mT 706 (by decide +kernel) rfl) (by decide) (by decide +kernel)
theorem kb_X1_stands : z_kB yX1_stands cX1_stands 2 (some .boolean) 1 = true := z_kB_mk (z_mT 26 (by decide +kernel) rfl) (z_mT 710 (by decide +kernel) rfl) (by decide) (by decide +kernel)
theorem kb_X2_addPeople : z_kB yX2_addPeople cX2_addPeople 3 (some .int) 1 = true := z_kB_mk (z_mT 22 (by decide +kernel) rfl) (z_mT 395 (by decide +kernel) rfl) (by decide) (by decide +kernel)
theorem kb_X2_addPerson : z_kB yX2_addPerson cX2_addPerson 4 (some .int) 2 = true := z_kB_mk (z_mT 22 (by decide +kernel) rfl) (z_mT 429 (by decide +kernel) rfl) (by decide) (by decide +kernel)
theorem kb_X2_isNext : z_kB yX2_isNext cX2_isNext 4 (some .boolean) 3 = true := z_kB_mk (z_mT 22 (by decide +kernel) rfl) (z_mT 455 (by decide +kernel) rfl) (by decide) (by decide +kernel)
theorem kb_X2_isPeople : z_kB yX2_isPeople cX2_isPeople 2 (some .boolean) 1 = true := z_kB_mk (z_mT 22 (by decide +kernel) rfl) (z_mT 437 (by decide +kernel) rfl) (by decide) (by decide +kernel)
theorem kb_X2_isPerson : z_kB yX2_isPerson cX2_isPerson 2 (some .boolean) 1 = true := z_kB_mk (z_mT 22 (by decide +kernel) rfl) (z_mT 407 (by decide +kernel) rfl) (by decide) (by decide +kernel)
theorem kb_X2_isPersonOrNone : z_kB yX2_isPersonOrNone cX2_isPersonOrNone 2 (some .boolean) 1 = true := z_kB_mk (z_mT 22 (by decide +kernel) rfl) (z_mT 403 (by decide +kernel) rfl) (by decide) (by decide +kernel)
theorem kb_X2_membersOf : z_kB yX2_membersOf cX2_membersOf 5 (some .int) 1 = true := z_kB_mk (z_mT 22 (by decide +kernel) rfl) (z_mT 446 (by decide +kernel) rfl) (by decide) (by decide +kernel)
theorem kb_X2_withNext : z_kB yX2_withNext cX2_withNext 5 (some .int) 2 = true := z_kB_mk (z_mT 22 (by decide +kernel) rfl) (z_mT 451 (by decide +kernel) rfl) (by decide) (by decide +kernel)
theorem kb_X3_add : z_kB yX3_add cX3_add 6 (some .int) 4 = true := z_kB_mk (z_mT 24 (by decide +kernel) rfl) (z_mT 832 (by decide +kernel) rfl) (by decide) (by decide +kernel)
theorem kb_X3_addExplained : z_kB yX3_addExplained cX3_addExplained 5 (some .int) 3 = true := z_kB_mk (z_mT 24 (by decide +kernel) rfl) (z_mT 570 (by decide +kernel) rfl) (by decide) (by decide +kernel)
theorem kb_X3_isExplained : z_kB yX3_isExplained cX3_isExplained 6 (some .boolean) 3 = true := z_kB_mk (z_mT 24 (by decide +kernel) rfl) (z_mT 587 (by decide +kernel) rfl) (by decide) (by decide +kernel)
theorem kb_X3_isGap : z_kB yX3_isGap cX3_isGap 4 (some .boolean) 3 = true := z_kB_mk (z_mT 24 (by decide +kernel) rfl) (z_mT 583 (by decide +kernel) rfl) (by decide) (by decide +kernel)
theorem kb_X3_prove : z_kB yX3_prove cX3_prove 7 (some .boolean) 3 = true := z_kB_mk (z_mT 24 (by decide +kernel) rfl) (z_mT 579 (by decide +kernel) rfl) (by decide) (by decide +kernel)
theorem kb_X4_add : z_kB yX4_add cX4_add 4 (some .int) 2 = true := z_kB_mk (z_mT 27 (by decide +kernel) rfl) (z_mT 858 (by decide +kernel) rfl) (by decide) (by decide +kernel)
theorem kb_X4_isNotice : z_kB yX4_isNotice cX4_isNotice 2 (some .boolean) 1 = true := z_kB_mk (z_mT 27 (by decide +kernel) rfl) (z_mT 750 (by decide +kernel) rfl) (by decide) (by decide +kernel)
theorem kb_X4_isOpenToDecide : z_kB yX4_isOpenToDecide cX4_isOpenToDecide 3 (some .boolean) 2 = true := z_kB_mk (z_mT 27 (by decide +kernel) rfl) (z_mT 782 (by decide +kernel) rfl) (by decide) (by decide +kernel)
theorem kb_X4_isOpenToObject : z_kB yX4_isOpenToObject cX4_isOpenToObject 3 (some .boolean) 2 = true := z_kB_mk (z_mT 27 (by decide +kernel) rfl) (z_mT 771 (by decide +kernel) rfl) (by decide) (by decide +kernel)
theorem kb_X4_isPast : z_kB yX4_isPast cX4_isPast 3 (some .boolean) 2 = true := z_kB_mk (z_mT 27 (by decide +kernel) rfl) (z_mT 796 (by decide +kernel) rfl) (by decide) (by decide +kernel)
theorem kb_X4_isRipe : z_kB yX4_isRipe cX4_isRipe 7 (some .boolean) 3 = true := z_kB_mk (z_mT 27 (by decide +kernel) rfl) (z_mT 791 (by decide +kernel) rfl) (by decide) (by decide +kernel)
theorem kb_X4_tell : z_kB yX4_tell cX4_tell 6 (none) 5 = true := z_kB_mk (z_mT 27 (by decide +kernel) rfl) (z_mT 862 (by decide +kernel) rfl) (by decide) (by decide +kernel)
theorem kb_X5_add : z_kB yX5_add cX5_add 3 (some .int) 1 = true := z_kB_mk (z_mT 23 (by decide +kernel) rfl) (z_mT 513 (by decide +kernel) rfl) (by decide) (by decide +kernel)
theorem kb_X5_addPart : z_kB yX5_addPart cX5_addPart 5 (some .int) 3 = true := z_kB_mk (z_mT 23 (by decide +kernel) rfl) (z_mT 531 (by decide +kernel) rfl) (by decide) (by decide +kernel)
theorem kb_X5_isPart : z_kB yX5_isPart cX5_isPart 3 (some .boolean) 2 = true := z_kB_mk (z_mT 23 (by decide +kernel) rfl) (z_mT 539 (by decide +kernel) rfl) (by decide) (by decide +kernel)
theorem kb_X5_isStory : z_kB yX5_isStory cX5_isStory 2 (some .boolean) 1 = true := z_kB_mk (z_mT 23 (by decide +kernel) rfl) (z_mT 521 (by decide +kernel) rfl) (by decide) (by decide +kernel)
theorem kb_X5_placeUpTo : z_kB yX5_placeUpTo cX5_placeUpTo 5 (some .int) 3 = true := z_kB_mk (z_mT 23 (by decide +kernel) rfl) (z_mT 550 (by decide +kernel) rfl) (by decide) (by decide +kernel)
theorem kb_X5_placesUpTo : z_kB yX5_placesUpTo cX5_placesUpTo 6 (some .int) 2 = true := z_kB_mk (z_mT 23 (by decide +kernel) rfl) (z_mT 558 (by decide +kernel) rfl) (by decide) (by decide +kernel)
set_option maxRecDepth 20000 in
theorem kb_L_act : z_kB yL_act cL_act 14 (some .int) 3 = true := z_kB_mk (z_mT 20 (by decide +kernel) rfl) (z_mT 475 rfl rfl) (by decide) (by decide +kernel)
set_option maxRecDepth 20000 in
theorem kb_L_areAlike : z_kB yL_areAlike cL_areAlike 6 (some .boolean) 3 = true := z_kB_mk (z_mT 20 (by decide +kernel) rfl) (z_mT 920 rfl rfl) (by decide) (by decide +kernel)
set_option maxRecDepth 20000 in
theorem kb_L_areClaims : z_kB yL_areClaims cL_areClaims 6 (some .boolean) 2 = true := z_kB_mk (z_mT 20 (by decide +kernel) rfl) (z_mT 929 rfl rfl) (by decide) (by decide +kernel)
set_option maxRecDepth 20000 in
theorem kb_L_areRights : z_kB yL_areRights cL_areRights 10 (some .boolean) 2 = true := z_kB_mk (z_mT 20 (by decide +kernel) rfl) (z_mT 923 rfl rfl) (by decide) (by decide +kernel)
set_option maxRecDepth 20000 in
theorem kb_L_cell : z_kB yL_cell cL_cell 2 (some .int) 2 = true := z_kB_mk (z_mT 20 (by decide +kernel) rfl) (z_mT 468 rfl rfl) (by decide) (by decide +kernel)
set_option maxRecDepth 20000 in
theorem kb_L_count : z_kB yL_count cL_count 3 (some .int) 1 = true := z_kB_mk (z_mT 20 (by decide +kernel) rfl) (z_mT 926 rfl rfl) (by decide) (by decide +kernel)
set_option maxRecDepth 20000 in
theorem kb_L_early : z_kB yL_early cL_early 5 (some .int) 5 = true := z_kB_mk (z_mT 20 (by decide +kernel) rfl) (z_mT 488 rfl rfl) (by decide) (by decide +kernel)
set_option maxRecDepth 20000 in
theorem kb_L_few : z_kB yL_few cL_few 1 (some .int) 1 = true := z_kB_mk (z_mT 20 (by decide +kernel) rfl) (z_mT 479 rfl rfl) (by decide) (by decide +kernel)
set_option maxRecDepth 20000 in
theorem kb_L_greater : z_kB yL_greater cL_greater 2 (some .int) 2 = true := z_kB_mk (z_mT 20 (by decide +kernel) rfl) (z_mT 835 rfl rfl) (by decide) (by decide +kernel)
set_option maxRecDepth 20000 in
theorem kb_L_isPaid : z_kB yL_isPaid cL_isPaid 15 (some .boolean) 3 = true := z_kB_mk (z_mT 20 (by decide +kernel) rfl) (z_mT 932 rfl rfl) (by decide) (by decide +kernel)
set_option maxRecDepth 20000 in
theorem kb_L_isQuiet : z_kB yL_isQuiet cL_isQuiet 12 (some .boolean) 3 = true := z_kB_mk (z_mT 20 (by decide +kernel) rfl) (z_mT 935 rfl rfl) (by decide) (by decide +kernel)
set_option maxRecDepth 20000 in
theorem kb_L_low : z_kB yL_low cL_low 2 (some .int) 2 = true := z_kB_mk (z_mT 20 (by decide +kernel) rfl) (z_mT 471 rfl rfl) (by decide) (by decide +kernel)
set_option maxRecDepth 20000 in
theorem kb_L_objects : z_kB yL_objects cL_objects 3 (some .int) 3 = true := z_kB_mk (z_mT 20 (by decide +kernel) rfl) (z_mT 763 rfl rfl) (by decide) (by decide +kernel)
set_option maxRecDepth 20000 in
theorem kb_L_votes : z_kB yL_votes cL_votes 4 (some .int) 4 = true := z_kB_mk (z_mT 20 (by decide +kernel) rfl) (z_mT 651 rfl rfl) (by decide) (by decide +kernel)
theorem kb_J6_bitCount_0f7a4 : z_kB yJ6_bitCount_0f7a4 cJ6_bitCount_0f7a4 1 (some .int) 1 = true := z_kB_mk (z_mT 34 (by decide +kernel) rfl) (z_mT 462 (by decide +kernel) rfl) (by decide) (by decide +kernel)
theorem kv_X6_78 : z_kV "Songlinebench" 78 yX2_addPeople = true := z_kV_mk (z_mT 392 (by decide +kernel) rfl) (z_mT 393 (by decide +kernel) rfl) (z_mT 394 (by decide +kernel) rfl)
theorem kv_X6_82 : z_kV "Songlinebench" 82 yX2_isPersonOrNone = true := z_kV_mk (z_mT 400 (by decide +kernel) rfl) (z_mT 401 (by decide +kernel) rfl) (z_mT 402 (by decide +kernel) rfl)
theorem kv_X6_98 : z_kV "Songlinebench" 98 yX2_addPerson = true := z_kV_mk (z_mT 426 (by decide +kernel) rfl) (z_mT 427 (by decide +kernel) rfl) (z_mT 428 (by decide +kernel) rfl)
theorem kv_X6_102 : z_kV "Songlinebench" 102 yX2_isPeople = true := z_kV_mk (z_mT 434 (by decide +kernel) rfl) (z_mT 435 (by decide +kernel) rfl) (z_mT 436 (by decide +kernel) rfl)
theorem kv_X6_105 : z_kV "Songlinebench" 105 yX2_isPerson = true := z_kV_mk (z_mT 438 (by decide +kernel) rfl) (z_mT 405 (by decide +kernel) rfl) (z_mT 406 (by decide +kernel) rfl)
theorem ks_X6_113 : z_kS "Songlinebench" 113 yX6_with = true := z_kS_mk (z_mT 440 (by decide +kernel) rfl) (z_mT 441 (by decide +kernel) rfl)
theorem kv_X6_117 : z_kV "Songlinebench" 117 yX2_membersOf = true := z_kV_mk (z_mT 443 (by decide +kernel) rfl) (z_mT 444 (by decide +kernel) rfl) (z_mT 445 (by decide +kernel) rfl)
theorem ks_X6_120 : z_kS "Songlinebench" 120 yJ6_bitCount_0f7a4 = true := z_kS_mk (z_mT 460 (by decide +kernel) rfl) (z_mT 461 (by decide +kernel) rfl)
theorem kv_X6_144 : z_kV "Songlinebench" 144 yX5_add = true := z_kV_mk (z_mT 510 (by decide +kernel) rfl) (z_mT 511 (by decide +kernel) rfl) (z_mT 512 (by decide +kernel) rfl)
theorem kv_X6_147 : z_kV "Songlinebench" 147 yX5_isStory = true := z_kV_mk (z_mT 518 (by decide +kernel) rfl) (z_mT 519 (by decide +kernel) rfl) (z_mT 520 (by decide +kernel) rfl)
theorem ks_X6_150 : z_kS "Songlinebench" 150 yX6_isPlace = true := z_kS_mk (z_mT 522 (by decide +kernel) rfl) (z_mT 523 (by decide +kernel) rfl)
theorem kv_X6_162 : z_kV "Songlinebench" 162 yX5_addPart = true := z_kV_mk (z_mT 528 (by decide +kernel) rfl) (z_mT 529 (by decide +kernel) rfl) (z_mT 530 (by decide +kernel) rfl)
theorem kv_X6_166 : z_kV "Songlinebench" 166 yX5_isPart = true := z_kV_mk (z_mT 536 (by decide +kernel) rfl) (z_mT 537 (by decide +kernel) rfl) (z_mT 538 (by decide +kernel) rfl)
theorem kv_X6_172 : z_kV "Songlinebench" 172 yX6_levelHeard = true := z_kV_mk (z_mT 542 (by decide +kernel) rfl) (z_mT 544 (by decide +kernel) rfl) (z_mT 3 (by decide +kernel) rfl)
theorem kv_X6_175 : z_kV "Songlinebench" 175 yX5_placeUpTo = true := z_kV_mk (z_mT 547 (by decide +kernel) rfl) (z_mT 548 (by decide +kernel) rfl) (z_mT 549 (by decide +kernel) rfl)
theorem kv_X6_178 : z_kV "Songlinebench" 178 yX5_placesUpTo = true := z_kV_mk (z_mT 555 (by decide +kernel) rfl) (z_mT 556 (by decide +kernel) rfl) (z_mT 557 (by decide +kernel) rfl)
theorem ks_X6_184 : z_kS "Songlinebench" 184 yX6_isIn = true := z_kS_mk (z_mT 546 (by decide +kernel) rfl) (z_mT 457 (by decide +kernel) rfl)
theorem kv_X6_194 : z_kV "Songlinebench" 194 yX3_add = true := z_kV_mk (z_mT 829 (by decide +kernel) rfl) (z_mT 830 (by decide +kernel) rfl) (z_mT 831 (by decide +kernel) rfl)
theorem kv_X6_204 : z_kV "Songlinebench" 204 yX3_addExplained = true := z_kV_mk (z_mT 567 (by decide +kernel) rfl) (z_mT 568 (by decide +kernel) rfl) (z_mT 569 (by decide +kernel) rfl)
theorem kv_X6_207 : z_kV "Songlinebench" 207 yX3_prove = true := z_kV_mk (z_mT 576 (by decide +kernel) rfl) (z_mT 577 (by decide +kernel) rfl) (z_mT 578 (by decide +kernel) rfl)
theorem ks_X6_211 : z_kS "Songlinebench" 211 yX6_isDeed = true := z_kS_mk (z_mT 843 (by decide +kernel) rfl) (z_mT 844 (by decide +kernel) rfl)
theorem ks_X6_214 : z_kS "Songlinebench" 214 yX6_isLast = true := z_kS_mk (z_mT 846 (by decide +kernel) rfl) (z_mT 847 (by decide +kernel) rfl)
theorem kv_X6_222 : z_kV "Songlinebench" 222 yX0_add = true := z_kV_mk (z_mT 799 (by decide +kernel) rfl) (z_mT 800 (by decide +kernel) rfl) (z_mT 801 (by decide +kernel) rfl)
theorem kv_X6_225 : z_kV "Songlinebench" 225 yX0_isAct = true := z_kV_mk (z_mT 592 (by decide +kernel) rfl) (z_mT 593 (by decide +kernel) rfl) (z_mT 594 (by decide +kernel) rfl)
theorem ks_X6_244 : z_kS "Songlinebench" 244 yX6_isMonth = true := z_kS_mk (z_mT 607 (by decide +kernel) rfl) (z_mT 608 (by decide +kernel) rfl)
theorem kv_X6_249 : z_kV "Songlinebench" 249 yX0_leftAt = true := z_kV_mk (z_mT 611 (by decide +kernel) rfl) (z_mT 612 (by decide +kernel) rfl) (z_mT 613 (by decide +kernel) rfl)
theorem kv_X6_252 : z_kV "Songlinebench" 252 yX0_isTaken = true := z_kV_mk (z_mT 628 (by decide +kernel) rfl) (z_mT 629 (by decide +kernel) rfl) (z_mT 630 (by decide +kernel) rfl)
theorem ks_X6_255 : z_kS "Songlinebench" 255 yX6_isSomePlaces = true := z_kS_mk (z_mT 636 (by decide +kernel) rfl) (z_mT 637 (by decide +kernel) rfl)
theorem ks_X6_258 : z_kS "Songlinebench" 258 yX6_isSomeRights = true := z_kS_mk (z_mT 640 (by decide +kernel) rfl) (z_mT 641 (by decide +kernel) rfl)
theorem kv_X6_266 : z_kV "Songlinebench" 266 yX1_add = true := z_kV_mk (z_mT 645 (by decide +kernel) rfl) (z_mT 646 (by decide +kernel) rfl) (z_mT 647 (by decide +kernel) rfl)
theorem kv_X6_268 : z_kV "Songlinebench" 268 yX1_isClaim = true := z_kV_mk (z_mT 656 (by decide +kernel) rfl) (z_mT 657 (by decide +kernel) rfl) (z_mT 658 (by decide +kernel) rfl)
theorem kv_X6_289 : z_kV "Songlinebench" 289 yX6_firstFailed = true := z_kV_mk (z_mT 668 (by decide +kernel) rfl) (z_mT 670 (by decide +kernel) rfl) (z_mT 8 (by decide +kernel) rfl)
theorem kv_X6_295 : z_kV "Songlinebench" 295 yX6_provedOf = true := z_kV_mk (z_mT 676 (by decide +kernel) rfl) (z_mT 678 (by decide +kernel) rfl) (z_mT 10 (by decide +kernel) rfl)
theorem kv_X6_298 : z_kV "Songlinebench" 298 yX1_grant = true := z_kV_mk (z_mT 689 (by decide +kernel) rfl) (z_mT 690 (by decide +kernel) rfl) (z_mT 691 (by decide +kernel) rfl)
theorem kv_X6_309 : z_kV "Songlinebench" 309 yX1_rivalsOf = true := z_kV_mk (z_mT 703 (by decide +kernel) rfl) (z_mT 704 (by decide +kernel) rfl) (z_mT 705 (by decide +kernel) rfl)
theorem kv_X6_312 : z_kV "Songlinebench" 312 yX1_holdersOf = true := z_kV_mk (z_mT 716 (by decide +kernel) rfl) (z_mT 717 (by decide +kernel) rfl) (z_mT 718 (by decide +kernel) rfl)
theorem kv_X6_317 : z_kV "Songlinebench" 317 yX6_rightsOf = true := z_kV_mk (z_mT 730 (by decide +kernel) rfl) (z_mT 732 (by decide +kernel) rfl) (z_mT 13 (by decide +kernel) rfl)
theorem kv_X6_320 : z_kV "Songlinebench" 320 yX0_yieldingAt = true := z_kV_mk (z_mT 738 (by decide +kernel) rfl) (z_mT 739 (by decide +kernel) rfl) (z_mT 740 (by decide +kernel) rfl)
theorem kv_X6_323 : z_kV "Songlinebench" 323 yX6_isVotedFor = true := z_kV_mk (z_mT 672 (by decide +kernel) rfl) (z_mT 674 (by decide +kernel) rfl) (z_mT 9 (by decide +kernel) rfl)
theorem kv_X6_326 : z_kV "Songlinebench" 326 yX1_isBarred = true := z_kV_mk (z_mT 680 (by decide +kernel) rfl) (z_mT 681 (by decide +kernel) rfl) (z_mT 682 (by decide +kernel) rfl)
theorem kv_X6_332 : z_kV "Songlinebench" 332 yX1_grantedTo = true := z_kV_mk (z_mT 734 (by decide +kernel) rfl) (z_mT 735 (by decide +kernel) rfl) (z_mT 736 (by decide +kernel) rfl)
theorem kv_X6_338 : z_kV "Songlinebench" 338 yX4_add = true := z_kV_mk (z_mT 855 (by decide +kernel) rfl) (z_mT 856 (by decide +kernel) rfl) (z_mT 857 (by decide +kernel) rfl)
theorem kv_X6_341 : z_kV "Songlinebench" 341 yX4_tell = true := z_kV_mk (z_mT 859 (by decide +kernel) rfl) (z_mT 860 (by decide +kernel) rfl) (z_mT 861 (by decide +kernel) rfl)
theorem kv_X6_345 : z_kV "Songlinebench" 345 yX4_isNotice = true := z_kV_mk (z_mT 747 (by decide +kernel) rfl) (z_mT 748 (by decide +kernel) rfl) (z_mT 749 (by decide +kernel) rfl)
theorem kv_X6_350 : z_kV "Songlinebench" 350 yX6_partiesOf = true := z_kV_mk (z_mT 752 (by decide +kernel) rfl) (z_mT 754 (by decide +kernel) rfl) (z_mT 14 (by decide +kernel) rfl)
theorem kv_X6_359 : z_kV "Songlinebench" 359 yX4_isOpenToObject = true := z_kV_mk (z_mT 768 (by decide +kernel) rfl) (z_mT 769 (by decide +kernel) rfl) (z_mT 770 (by decide +kernel) rfl)
theorem kv_X6_371 : z_kV "Songlinebench" 371 yX4_isOpenToDecide = true := z_kV_mk (z_mT 779 (by decide +kernel) rfl) (z_mT 780 (by decide +kernel) rfl) (z_mT 781 (by decide +kernel) rfl)
theorem kv_X6_379 : z_kV "Songlinebench" 379 yX4_isRipe = true := z_kV_mk (z_mT 788 (by decide +kernel) rfl) (z_mT 789 (by decide +kernel) rfl) (z_mT 790 (by decide +kernel) rfl)
theorem kv_X6_384 : z_kV "Songlinebench" 384 yX4_isPast = true := z_kV_mk (z_mT 793 (by decide +kernel) rfl) (z_mT 794 (by decide +kernel) rfl) (z_mT 795 (by decide +kernel) rfl)
theorem kv_X6_403 : z_kV "Songlinebench" 403 yX1_partiesAt = true := z_kV_mk (z_mT 756 (by decide +kernel) rfl) (z_mT 757 (by decide +kernel) rfl) (z_mT 758 (by decide +kernel) rfl)
theorem kv_X6_409 : z_kV "Songlinebench" 409 yX6_owedFor = true := z_kV_mk (z_mT 872 (by decide +kernel) rfl) (z_mT 874 (by decide +kernel) rfl) (z_mT 15 (by decide +kernel) rfl)
theorem kv_X6_415 : z_kV "Songlinebench" 415 yX6_owedAt = true := z_kV_mk (z_mT 884 (by decide +kernel) rfl) (z_mT 886 (by decide +kernel) rfl) (z_mT 17 (by decide +kernel) rfl)
theorem kv_X6_419 : z_kV "Songlinebench" 419 yX6_share = true := z_kV_mk (z_mT 909 (by decide +kernel) rfl) (z_mT 911 (by decide +kernel) rfl) (z_mT 19 (by decide +kernel) rfl)
theorem kv_X6_430 : z_kV "Songlinebench" 430 yX0_isPayable = true := z_kV_mk (z_mT 876 (by decide +kernel) rfl) (z_mT 877 (by decide +kernel) rfl) (z_mT 878 (by decide +kernel) rfl)
theorem kv_X6_434 : z_kV "Songlinebench" 434 yX0_takenBy = true := z_kV_mk (z_mT 888 (by decide +kernel) rfl) (z_mT 889 (by decide +kernel) rfl) (z_mT 890 (by decide +kernel) rfl)
theorem ks_X6_437 : z_kS "Songlinebench" 437 yX6_weightOf = true := z_kS_mk (z_mT 896 (by decide +kernel) rfl) (z_mT 897 (by decide +kernel) rfl)
theorem kv_X0_45 : z_kV "Songlinebench$Acts" 45 yX0_counts = true := z_kV_mk (z_mT 620 (by decide +kernel) rfl) (z_mT 622 (by decide +kernel) rfl) (z_mT 7 (by decide +kernel) rfl)
theorem kv_X0_48 : z_kV "Songlinebench$Acts" 48 yX0_takes = true := z_kV_mk (z_mT 615 (by decide +kernel) rfl) (z_mT 617 (by decide +kernel) rfl) (z_mT 6 (by decide +kernel) rfl)
theorem kv_X0_52 : z_kV "Songlinebench$Acts" 52 yX0_leftAt = true := z_kV_mk (z_mT 742 (by decide +kernel) rfl) (z_mT 612 (by decide +kernel) rfl) (z_mT 613 (by decide +kernel) rfl)
theorem kv_X0_56 : z_kV "Songlinebench$Acts" 56 yX0_stillExtinguishes = true := z_kV_mk (z_mT 880 (by decide +kernel) rfl) (z_mT 882 (by decide +kernel) rfl) (z_mT 16 (by decide +kernel) rfl)
theorem kv_X0_60 : z_kV "Songlinebench$Acts" 60 yX0_isAhead = true := z_kV_mk (z_mT 892 (by decide +kernel) rfl) (z_mT 894 (by decide +kernel) rfl) (z_mT 18 (by decide +kernel) rfl)
theorem kv_X1_40 : z_kV "Songlinebench$Claims" 40 yX1_stands = true := z_kV_mk (z_mT 707 (by decide +kernel) rfl) (z_mT 709 (by decide +kernel) rfl) (z_mT 11 (by decide +kernel) rfl)
theorem kv_X1_52 : z_kV "Songlinebench$Claims" 52 yX1_isHeld = true := z_kV_mk (z_mT 720 (by decide +kernel) rfl) (z_mT 722 (by decide +kernel) rfl) (z_mT 12 (by decide +kernel) rfl)
theorem kv_X2_37 : z_kV "Songlinebench$Kin" 37 yX2_isPerson = true := z_kV_mk (z_mT 404 (by decide +kernel) rfl) (z_mT 405 (by decide +kernel) rfl) (z_mT 406 (by decide +kernel) rfl)
theorem kv_X2_41 : z_kV "Songlinebench$Kin" 41 yX2_isPeople = true := z_kV_mk (z_mT 447 (by decide +kernel) rfl) (z_mT 435 (by decide +kernel) rfl) (z_mT 436 (by decide +kernel) rfl)
theorem kv_X2_44 : z_kV "Songlinebench$Kin" 44 yX2_withNext = true := z_kV_mk (z_mT 448 (by decide +kernel) rfl) (z_mT 450 (by decide +kernel) rfl) (z_mT 1 (by decide +kernel) rfl)
theorem kv_X2_48 : z_kV "Songlinebench$Kin" 48 yX2_isNext = true := z_kV_mk (z_mT 452 (by decide +kernel) rfl) (z_mT 454 (by decide +kernel) rfl) (z_mT 2 (by decide +kernel) rfl)
theorem kv_X3_37 : z_kV "Songlinebench$Marks" 37 yX3_isGap = true := z_kV_mk (z_mT 580 (by decide +kernel) rfl) (z_mT 582 (by decide +kernel) rfl) (z_mT 4 (by decide +kernel) rfl)
theorem kv_X3_41 : z_kV "Songlinebench$Marks" 41 yX3_isExplained = true := z_kV_mk (z_mT 584 (by decide +kernel) rfl) (z_mT 586 (by decide +kernel) rfl) (z_mT 5 (by decide +kernel) rfl)
theorem kv_X5_28 : z_kV "Songlinebench$Stories" 28 yX5_isStory = true := z_kV_mk (z_mT 540 (by decide +kernel) rfl) (z_mT 519 (by decide +kernel) rfl) (z_mT 520 (by decide +kernel) rfl)
theorem kv_X5_32 : z_kV "Songlinebench$Stories" 32 yX5_placeUpTo = true := z_kV_mk (z_mT 559 (by decide +kernel) rfl) (z_mT 548 (by decide +kernel) rfl) (z_mT 549 (by decide +kernel) rfl)
theorem ks_L_8 : z_kS "SonglinebenchLaw" 8 yL_early = true := z_kS_mk (z_mT 486 (by decide +kernel) rfl) (z_mT 487 (by decide +kernel) rfl)
theorem kv_L_14 : z_kV "SonglinebenchLaw" 14 yX6_claim = true := z_kV_mk (z_mT 632 (by decide +kernel) rfl) (z_mT 633 (by decide +kernel) rfl) (z_mT 634 (by decide +kernel) rfl)
theorem ks_L_20 : z_kS "SonglinebenchLaw" 20 yL_votes = true := z_kS_mk (z_mT 649 (by decide +kernel) rfl) (z_mT 650 (by decide +kernel) rfl)
theorem kv_L_24 : z_kV "SonglinebenchLaw" 24 yX6_register = true := z_kV_mk (z_mT 662 (by decide +kernel) rfl) (z_mT 663 (by decide +kernel) rfl) (z_mT 664 (by decide +kernel) rfl)
theorem kv_L_28 : z_kV "SonglinebenchLaw" 28 yX6_determine = true := z_kV_mk (z_mT 684 (by decide +kernel) rfl) (z_mT 685 (by decide +kernel) rfl) (z_mT 686 (by decide +kernel) rfl)
theorem kv_L_31 : z_kV "SonglinebenchLaw" 31 yX6_revise = true := z_kV_mk (z_mT 693 (by decide +kernel) rfl) (z_mT 694 (by decide +kernel) rfl) (z_mT 695 (by decide +kernel) rfl)
theorem kv_L_34 : z_kV "SonglinebenchLaw" 34 yX6_ofClaim = true := z_kV_mk (z_mT 698 (by decide +kernel) rfl) (z_mT 699 (by decide +kernel) rfl) (z_mT 700 (by decide +kernel) rfl)
theorem kv_L_38 : z_kV "SonglinebenchLaw" 38 yX6_holders = true := z_kV_mk (z_mT 712 (by decide +kernel) rfl) (z_mT 713 (by decide +kernel) rfl) (z_mT 714 (by decide +kernel) rfl)
theorem kv_L_41 : z_kV "SonglinebenchLaw" 41 yX6_may = true := z_kV_mk (z_mT 725 (by decide +kernel) rfl) (z_mT 726 (by decide +kernel) rfl) (z_mT 727 (by decide +kernel) rfl)
theorem kv_L_44 : z_kV "SonglinebenchLaw" 44 yX6_agree = true := z_kV_mk (z_mT 743 (by decide +kernel) rfl) (z_mT 744 (by decide +kernel) rfl) (z_mT 745 (by decide +kernel) rfl)
theorem ks_L_47 : z_kS "SonglinebenchLaw" 47 yL_objects = true := z_kS_mk (z_mT 761 (by decide +kernel) rfl) (z_mT 762 (by decide +kernel) rfl)
theorem kv_L_51 : z_kV "SonglinebenchLaw" 51 yX6_decide = true := z_kV_mk (z_mT 774 (by decide +kernel) rfl) (z_mT 775 (by decide +kernel) rfl) (z_mT 776 (by decide +kernel) rfl)
theorem kv_L_55 : z_kV "SonglinebenchLaw" 55 yX6_proceed = true := z_kV_mk (z_mT 784 (by decide +kernel) rfl) (z_mT 785 (by decide +kernel) rfl) (z_mT 786 (by decide +kernel) rfl)
theorem kv_L_58 : z_kV "SonglinebenchLaw" 58 yX6_ofNotice = true := z_kV_mk (z_mT 803 (by decide +kernel) rfl) (z_mT 804 (by decide +kernel) rfl) (z_mT 805 (by decide +kernel) rfl)
theorem kv_L_61 : z_kV "SonglinebenchLaw" 61 yX6_value = true := z_kV_mk (z_mT 807 (by decide +kernel) rfl) (z_mT 808 (by decide +kernel) rfl) (z_mT 809 (by decide +kernel) rfl)
theorem kv_L_64 : z_kV "SonglinebenchLaw" 64 yX6_pass = true := z_kV_mk (z_mT 813 (by decide +kernel) rfl) (z_mT 814 (by decide +kernel) rfl) (z_mT 815 (by decide +kernel) rfl)
theorem kv_L_74 : z_kV "SonglinebenchLaw" 74 yX6_people = true := z_kV_mk (z_mT 304 (by decide +kernel) rfl) (z_mT 305 (by decide +kernel) rfl) (z_mT 306 (by decide +kernel) rfl)
theorem kv_L_77 : z_kV "SonglinebenchLaw" 77 yX6_person = true := z_kV_mk (z_mT 396 (by decide +kernel) rfl) (z_mT 397 (by decide +kernel) rfl) (z_mT 398 (by decide +kernel) rfl)
theorem kv_L_80 : z_kV "SonglinebenchLaw" 80 yX6_root = true := z_kV_mk (z_mT 430 (by decide +kernel) rfl) (z_mT 431 (by decide +kernel) rfl) (z_mT 432 (by decide +kernel) rfl)
theorem kv_L_84 : z_kV "SonglinebenchLaw" 84 yX6_adopt = true := z_kV_mk (z_mT 489 (by decide +kernel) rfl) (z_mT 490 (by decide +kernel) rfl) (z_mT 491 (by decide +kernel) rfl)
theorem kv_L_87 : z_kV "SonglinebenchLaw" 87 yX6_raise = true := z_kV_mk (z_mT 495 (by decide +kernel) rfl) (z_mT 496 (by decide +kernel) rfl) (z_mT 497 (by decide +kernel) rfl)
theorem kv_L_90 : z_kV "SonglinebenchLaw" 90 yX6_members = true := z_kV_mk (z_mT 500 (by decide +kernel) rfl) (z_mT 501 (by decide +kernel) rfl) (z_mT 502 (by decide +kernel) rfl)
theorem kv_L_93 : z_kV "SonglinebenchLaw" 93 yX6_story = true := z_kV_mk (z_mT 505 (by decide +kernel) rfl) (z_mT 506 (by decide +kernel) rfl) (z_mT 507 (by decide +kernel) rfl)
theorem kv_L_96 : z_kV "SonglinebenchLaw" 96 yX6_part = true := z_kV_mk (z_mT 514 (by decide +kernel) rfl) (z_mT 515 (by decide +kernel) rfl) (z_mT 516 (by decide +kernel) rfl)
theorem kv_L_99 : z_kV "SonglinebenchLaw" 99 yX6_hears = true := z_kV_mk (z_mT 532 (by decide +kernel) rfl) (z_mT 533 (by decide +kernel) rfl) (z_mT 534 (by decide +kernel) rfl)
theorem kv_L_102 : z_kV "SonglinebenchLaw" 102 yX6_told = true := z_kV_mk (z_mT 551 (by decide +kernel) rfl) (z_mT 552 (by decide +kernel) rfl) (z_mT 553 (by decide +kernel) rfl)
theorem kv_L_105 : z_kV "SonglinebenchLaw" 105 yX6_explain = true := z_kV_mk (z_mT 561 (by decide +kernel) rfl) (z_mT 562 (by decide +kernel) rfl) (z_mT 563 (by decide +kernel) rfl)
theorem kv_L_108 : z_kV "SonglinebenchLaw" 108 yX6_isProved = true := z_kV_mk (z_mT 571 (by decide +kernel) rfl) (z_mT 572 (by decide +kernel) rfl) (z_mT 573 (by decide +kernel) rfl)
theorem kv_L_112 : z_kV "SonglinebenchLaw" 112 yX6_voids = true := z_kV_mk (z_mT 588 (by decide +kernel) rfl) (z_mT 589 (by decide +kernel) rfl) (z_mT 590 (by decide +kernel) rfl)
theorem kv_L_116 : z_kV "SonglinebenchLaw" 116 yX6_giveUp = true := z_kV_mk (z_mT 597 (by decide +kernel) rfl) (z_mT 598 (by decide +kernel) rfl) (z_mT 599 (by decide +kernel) rfl)
theorem kv_L_119 : z_kV "SonglinebenchLaw" 119 yX6_left = true := z_kV_mk (z_mT 602 (by decide +kernel) rfl) (z_mT 603 (by decide +kernel) rfl) (z_mT 604 (by decide +kernel) rfl)
theorem kv_L_122 : z_kV "SonglinebenchLaw" 122 yX6_leftAnew = true := z_kV_mk (z_mT 624 (by decide +kernel) rfl) (z_mT 625 (by decide +kernel) rfl) (z_mT 626 (by decide +kernel) rfl)
theorem kv_L_125 : z_kV "SonglinebenchLaw" 125 yX6_vote = true := z_kV_mk (z_mT 652 (by decide +kernel) rfl) (z_mT 653 (by decide +kernel) rfl) (z_mT 654 (by decide +kernel) rfl)
theorem kv_L_129 : z_kV "SonglinebenchLaw" 129 yX6_object = true := z_kV_mk (z_mT 764 (by decide +kernel) rfl) (z_mT 765 (by decide +kernel) rfl) (z_mT 766 (by decide +kernel) rfl)
theorem kv_L_133 : z_kV "SonglinebenchLaw" 133 yX6_act = true := z_kV_mk (z_mT 839 (by decide +kernel) rfl) (z_mT 840 (by decide +kernel) rfl) (z_mT 841 (by decide +kernel) rfl)
theorem kv_L_137 : z_kV "SonglinebenchLaw" 137 yX6_notice = true := z_kV_mk (z_mT 850 (by decide +kernel) rfl) (z_mT 851 (by decide +kernel) rfl) (z_mT 852 (by decide +kernel) rfl)
theorem kv_L_141 : z_kV "SonglinebenchLaw" 141 yX6_mark = true := z_kV_mk (z_mT 823 (by decide +kernel) rfl) (z_mT 824 (by decide +kernel) rfl) (z_mT 825 (by decide +kernel) rfl)
theorem kv_L_145 : z_kV "SonglinebenchLaw" 145 yX6_owed = true := z_kV_mk (z_mT 868 (by decide +kernel) rfl) (z_mT 869 (by decide +kernel) rfl) (z_mT 870 (by decide +kernel) rfl)
theorem kv_L_149 : z_kV "SonglinebenchLaw" 149 yX6_pay = true := z_kV_mk (z_mT 904 (by decide +kernel) rfl) (z_mT 905 (by decide +kernel) rfl) (z_mT 906 (by decide +kernel) rfl)
theorem kv_L_152 : z_kV "SonglinebenchLaw" 152 yX6_paid = true := z_kV_mk (z_mT 913 (by decide +kernel) rfl) (z_mT 914 (by decide +kernel) rfl) (z_mT 915 (by decide +kernel) rfl)
theorem ks_L_157 : z_kS "SonglinebenchLaw" 157 yL_low = true := z_kS_mk (z_mT 469 (by decide +kernel) rfl) (z_mT 470 (by decide +kernel) rfl)
theorem ks_L_161 : z_kS "SonglinebenchLaw" 161 yL_few = true := z_kS_mk (z_mT 477 (by decide +kernel) rfl) (z_mT 478 (by decide +kernel) rfl)
theorem ks_L_164 : z_kS "SonglinebenchLaw" 164 yL_does = true := z_kS_mk (z_mT 480 (by decide +kernel) rfl) (z_mT 481 (by decide +kernel) rfl)
theorem ks_L_167 : z_kS "SonglinebenchLaw" 167 yL_marked = true := z_kS_mk (z_mT 820 (by decide +kernel) rfl) (z_mT 821 (by decide +kernel) rfl)
theorem ks_L_170 : z_kS "SonglinebenchLaw" 170 yL_greater = true := z_kS_mk (z_mT 833 (by decide +kernel) rfl) (z_mT 834 (by decide +kernel) rfl)
theorem ks_L_173 : z_kS "SonglinebenchLaw" 173 yL_acted = true := z_kS_mk (z_mT 836 (by decide +kernel) rfl) (z_mT 837 (by decide +kernel) rfl)
theorem ks_L_179 : z_kS "SonglinebenchLaw" 179 yL_money = true := z_kS_mk (z_mT 865 (by decide +kernel) rfl) (z_mT 866 (by decide +kernel) rfl)
theorem ks_L_183 : z_kS "SonglinebenchLaw" 183 yL_count = true := z_kS_mk (z_mT 924 (by decide +kernel) rfl) (z_mT 925 (by decide +kernel) rfl)
theorem ks_L_187 : z_kS "SonglinebenchLaw" 187 yL_cell = true := z_kS_mk (z_mT 466 (by decide +kernel) rfl) (z_mT 467 (by decide +kernel) rfl)
theorem ks_L_191 : z_kS "SonglinebenchLaw" 191 yL_act = true := z_kS_mk (z_mT 473 (by decide +kernel) rfl) (z_mT 474 (by decide +kernel) rfl)
theorem ks_L_193 : z_kS "SonglinebenchLaw" 193 yL_areAlike = true := z_kS_mk (z_mT 918 (by decide +kernel) rfl) (z_mT 919 (by decide +kernel) rfl)
theorem ks_L_197 : z_kS "SonglinebenchLaw" 197 yL_areRights = true := z_kS_mk (z_mT 921 (by decide +kernel) rfl) (z_mT 922 (by decide +kernel) rfl)
theorem ks_L_201 : z_kS "SonglinebenchLaw" 201 yL_areClaims = true := z_kS_mk (z_mT 927 (by decide +kernel) rfl) (z_mT 928 (by decide +kernel) rfl)
theorem ks_L_204 : z_kS "SonglinebenchLaw" 204 yL_isPaid = true := z_kS_mk (z_mT 930 (by decide +kernel) rfl) (z_mT 931 (by decide +kernel) rfl)
theorem ks_L_207 : z_kS "SonglinebenchLaw" 207 yL_isQuiet = true := z_kS_mk (z_mT 933 (by decide +kernel) rfl) (z_mT 934 (by decide +kernel) rfl)
theorem kn_X0_41 : z_kN "Songlinebench$Acts" 41 yX6_isIn "Songlinebench" = true := z_kN_mk (by decide +kernel) (z_mT 457 (by decide +kernel) rfl)
theorem kn_X1_44 : z_kN "Songlinebench$Claims" 44 yX6_with "Songlinebench" = true := z_kN_mk (by decide +kernel) (z_mT 441 (by decide +kernel) rfl)
theorem kn_X1_48 : z_kN "Songlinebench$Claims" 48 yX6_isIn "Songlinebench" = true := z_kN_mk (by decide +kernel) (z_mT 457 (by decide +kernel) rfl)
theorem kn_X2_52 : z_kN "Songlinebench$Kin" 52 yX6_with "Songlinebench" = true := z_kN_mk (by decide +kernel) (z_mT 441 (by decide +kernel) rfl)
theorem kn_X2_56 : z_kN "Songlinebench$Kin" 56 yX6_isIn "Songlinebench" = true := z_kN_mk (by decide +kernel) (z_mT 457 (by decide +kernel) rfl)
theorem kn_X5_36 : z_kN "Songlinebench$Stories" 36 yX6_with "Songlinebench" = true := z_kN_mk (by decide +kernel) (z_mT 441 (by decide +kernel) rfl)
end
section
def f_X6_isIn (S : z_MI) (P : z_ML) (x0 : Int32) (x1 : Int32) : Bool :=
  if x1 < 0 then
    false
  else
    if ((((x0).toUInt32 >>> ((x1).toUInt32 &&& Int32.toUInt32 31)).toInt32) &&& (nI 1)) = (nI 1) then
      true
    else
      false
def sp_X6_isIn : z_SP := fun as S P k => match as with
  | [.int x0, .int x1] => k (some (.int (z_b (f_X6_isIn S P x0 x1)))) S P
  | _ => False
def G_X6_isIn : z_G := ([(0, .iload_n 1, 1, 0), (1, .ifCond .lt 16, 4, 17), (4, .iload_n 0, 5, 0), (5, .iload_n 1, 6, 0), (6, .iushr, 7, 0), (7, .iconst 1, 8, 0), (8, .iand, 9, 0), (9, .iconst 1, 10, 0), (10, .if_icmp .ne 7, 13, 17), (13, .iconst 1, 14, 0), (14, .goto 4, 17, 18), (17, .iconst 0, 18, 0), (18, .ireturn, 19, 0)], [], [], [], [], [], [], some .boolean)
set_option maxRecDepth 20000 in
set_option maxHeartbeats 4000000 in
theorem ct_X6_isIn (l : Launch) : z_CT l yX6_isIn cX6_isIn 2 (some .boolean) sp_X6_isIn 0 := by
  refine z_CT_of G_X6_isIn (by decide) (by decide +kernel) (z_pok_of ft_X6 ci_X6 cL_X6_L fo_X6 co_X6 lo_X6 (by decide +kernel)) rfl rfl ?_ ?_ ?_
  · intro as S P Po h
    unfold sp_X6_isIn at h
    split at h
    · exact Nat.le_of_ble_eq_true rfl
    · exact h.elim
  · exact fun _ h => absurd h List.not_mem_nil
  · intro as S P Po h V hV hW
    unfold sp_X6_isIn at h
    split at h
    · rename_i x0 x1
      have hpo := h
      refine hV [] 18 0 _ _ _ _ ?_
      refine ⟨fun (h1 : x1 < 0) => ?_, fun (h1 : ¬ (x1 < 0)) => ?_⟩
      · exact ⟨(by first | rfl | exact z_nb _), z_pb hpo ((if_pos h1).trans rfl) (rfl) (rfl)⟩
      · refine ⟨fun (h2 : ¬ (((((x0).toUInt32 >>> ((x1).toUInt32 &&& Int32.toUInt32 31)).toInt32) &&& (nI 1)) = (nI 1))) => ?_, fun (h2 : ((((x0).toUInt32 >>> ((x1).toUInt32 &&& Int32.toUInt32 31)).toInt32) &&& (nI 1)) = (nI 1)) => ?_⟩
        · exact ⟨(by first | rfl | exact z_nb _), z_pb hpo ((if_neg h1).trans ((if_neg h2).trans rfl)) (rfl) (rfl)⟩
        · exact ⟨(by first | rfl | exact z_nb _), z_pb hpo ((if_neg h1).trans ((if_pos h2).trans rfl)) (rfl) (rfl)⟩
    · exact h.elim
def f_X6_with (S : z_MI) (P : z_ML) (x0 : Int32) (x1 : Int32) (x2 : Int32) : Int32 :=
  if x2 = 0 then
    x0 &&& (((nI 1) <<< (x1 &&& 31)) ^^^ (-1))
  else
    x0 ||| ((nI 1) <<< (x1 &&& 31))
def sp_X6_with : z_SP := fun as S P k => match as with
  | [.int x0, .int x1, .int x2] => k (some (.int (f_X6_with S P x0 x1 x2))) S P
  | _ => False
def G_X6_with : z_G := ([(0, .iload_n 2, 1, 0), (1, .ifCond .eq 11, 4, 12), (4, .iload_n 0, 5, 0), (5, .iconst 1, 6, 0), (6, .iload_n 1, 7, 0), (7, .ishl, 8, 0), (8, .ior, 9, 0), (9, .goto 10, 12, 19), (12, .iload_n 0, 13, 0), (13, .iconst 1, 14, 0), (14, .iload_n 1, 15, 0), (15, .ishl, 16, 0), (16, .iconst (-1), 17, 0), (17, .ixor, 18, 0), (18, .iand, 19, 0), (19, .ireturn, 20, 0)], [], [], [], [], [], [], some .int)
set_option maxRecDepth 20000 in
set_option maxHeartbeats 4000000 in
theorem ct_X6_with (l : Launch) : z_CT l yX6_with cX6_with 3 (some .int) sp_X6_with 0 := by
  refine z_CT_of G_X6_with (by decide) (by decide +kernel) (z_pok_of ft_X6 ci_X6 cL_X6_L fo_X6 co_X6 lo_X6 (by decide +kernel)) rfl rfl ?_ ?_ ?_
  · intro as S P Po h
    unfold sp_X6_with at h
    split at h
    · exact Nat.le_of_ble_eq_true rfl
    · exact h.elim
  · exact fun _ h => absurd h List.not_mem_nil
  · intro as S P Po h V hV hW
    unfold sp_X6_with at h
    split at h
    · rename_i x0 x1 x2
      have hpo := h
      refine hV [] 21 0 _ _ _ _ ?_
      refine ⟨fun (h1 : x2 = 0) => ?_, fun (h1 : ¬ (x2 = 0)) => ?_⟩
      · exact z_pi hpo ((if_pos h1).trans rfl) (rfl) (rfl)
      · exact z_pi hpo ((if_neg h1).trans rfl) (rfl) (rfl)
    · exact h.elim
def f_X2_isPeople (S : z_MI) (P : z_ML) (x1 : Int32) : Bool :=
  if x1 < 0 then
    false
  else
    if (S 4112 6) ≤ x1 then
      false
    else
      true
def sp_X2_isPeople : z_SP := fun as S P k => match as with
  | [.int x1] => k (some (.int (z_b (f_X2_isPeople S P x1)))) S P
  | _ => False
def G_X2_isPeople : z_G := ([(0, .iload_n 1, 1, 0), (1, .ifCond .lt 15, 4, 16), (4, .iload_n 1, 5, 0), (5, .aload_n 0, 6, 0), (6, .getfield 30, 9, 0), (9, .if_icmp .ge 7, 12, 16), (12, .iconst 1, 13, 0), (13, .goto 4, 16, 17), (16, .iconst 0, 17, 0), (17, .ireturn, 18, 0)], [(30, 4112, 6, none)], [], [], [], [], [], some .boolean)
set_option maxRecDepth 20000 in
set_option maxHeartbeats 4000000 in
theorem ct_X2_isPeople (l : Launch) : z_CT l yX2_isPeople cX2_isPeople 2 (some .boolean) (z_rc 4112 sp_X2_isPeople) 0 := by
  refine z_CT_of G_X2_isPeople (by decide) (by decide +kernel) (z_pok_of ft_X2 ci_X2 cL_X2_L fo_X2 co_X2 lo_X2 (by decide +kernel)) rfl rfl ?_ ?_ ?_
  · intro as S P Po h0
    obtain ⟨as, rfl, h⟩ := z_rc_of h0
    unfold sp_X2_isPeople at h
    split at h
    · exact Nat.le_of_ble_eq_true rfl
    · exact h.elim
  · exact fun _ h => absurd h List.not_mem_nil
  · intro as S P Po h0 V hV hW
    obtain ⟨as, rfl, h⟩ := z_rc_of h0
    unfold sp_X2_isPeople at h
    split at h
    · rename_i x1
      have hpo := h
      refine hV [] 15 0 _ _ _ _ ?_
      refine ⟨fun (h1 : x1 < 0) => ?_, fun (h1 : ¬ (x1 < 0)) => ?_⟩
      · exact ⟨(by first | rfl | exact z_nb _), z_pb hpo ((if_pos h1).trans rfl) (rfl) (rfl)⟩
      · refine ⟨fun (h2 : (S 4112 6) ≤ x1) => ?_, fun (h2 : ¬ ((S 4112 6) ≤ x1)) => ?_⟩
        · exact ⟨(by first | rfl | exact z_nb _), z_pb hpo ((if_neg h1).trans ((if_pos h2).trans rfl)) (rfl) (rfl)⟩
        · exact ⟨(by first | rfl | exact z_nb _), z_pb hpo ((if_neg h1).trans ((if_neg h2).trans rfl)) (rfl) (rfl)⟩
    · exact h.elim
def f_X2_isPerson (S : z_MI) (P : z_ML) (x1 : Int32) : Bool :=
  if x1 < 0 then
    false
  else
    if (S 4112 7) ≤ x1 then
      false
    else
      true
def sp_X2_isPerson : z_SP := fun as S P k => match as with
  | [.int x1] => k (some (.int (z_b (f_X2_isPerson S P x1)))) S P
  | _ => False
def G_X2_isPerson : z_G := ([(0, .iload_n 1, 1, 0), (1, .ifCond .lt 15, 4, 16), (4, .iload_n 1, 5, 0), (5, .aload_n 0, 6, 0), (6, .getfield 34, 9, 0), (9, .if_icmp .ge 7, 12, 16), (12, .iconst 1, 13, 0), (13, .goto 4, 16, 17), (16, .iconst 0, 17, 0), (17, .ireturn, 18, 0)], [(34, 4112, 7, none)], [], [], [], [], [], some .boolean)
set_option maxRecDepth 20000 in
set_option maxHeartbeats 4000000 in
theorem ct_X2_isPerson (l : Launch) : z_CT l yX2_isPerson cX2_isPerson 2 (some .boolean) (z_rc 4112 sp_X2_isPerson) 0 := by
  refine z_CT_of G_X2_isPerson (by decide) (by decide +kernel) (z_pok_of ft_X2 ci_X2 cL_X2_L fo_X2 co_X2 lo_X2 (by decide +kernel)) rfl rfl ?_ ?_ ?_
  · intro as S P Po h0
    obtain ⟨as, rfl, h⟩ := z_rc_of h0
    unfold sp_X2_isPerson at h
    split at h
    · exact Nat.le_of_ble_eq_true rfl
    · exact h.elim
  · exact fun _ h => absurd h List.not_mem_nil
  · intro as S P Po h0 V hV hW
    obtain ⟨as, rfl, h⟩ := z_rc_of h0
    unfold sp_X2_isPerson at h
    split at h
    · rename_i x1
      have hpo := h
      refine hV [] 15 0 _ _ _ _ ?_
      refine ⟨fun (h1 : x1 < 0) => ?_, fun (h1 : ¬ (x1 < 0)) => ?_⟩
      · exact ⟨(by first | rfl | exact z_nb _), z_pb hpo ((if_pos h1).trans rfl) (rfl) (rfl)⟩
      · refine ⟨fun (h2 : (S 4112 7) ≤ x1) => ?_, fun (h2 : ¬ ((S 4112 7) ≤ x1)) => ?_⟩
        · exact ⟨(by first | rfl | exact z_nb _), z_pb hpo ((if_neg h1).trans ((if_pos h2).trans rfl)) (rfl) (rfl)⟩
        · exact ⟨(by first | rfl | exact z_nb _), z_pb hpo ((if_neg h1).trans ((if_neg h2).trans rfl)) (rfl) (rfl)⟩
    · exact h.elim
def f_X2_isPersonOrNone (S : z_MI) (P : z_ML) (x1 : Int32) : Bool :=
  if x1 = (-1) then
    true
  else
    if (f_X2_isPerson S P x1) = true then
      true
    else
      false
def sp_X2_isPersonOrNone : z_SP := fun as S P k => match as with
  | [.int x1] => k (some (.int (z_b (f_X2_isPersonOrNone S P x1)))) S P
  | _ => False
def G_X2_isPersonOrNone : z_G := ([(0, .iload_n 1, 1, 0), (1, .iconst (-1), 2, 0), (2, .if_icmp .eq 11, 5, 13), (5, .aload_n 0, 6, 0), (6, .iload_n 1, 7, 0), (7, .invokevirtual 37, 10, 0), (10, .ifCond .eq 7, 13, 17), (13, .iconst 1, 14, 0), (14, .goto 4, 17, 18), (17, .iconst 0, 18, 0), (18, .ireturn, 19, 0)], [], [(37, 2, (z_rc 4112 sp_X2_isPerson))], [], [], [], [], some .boolean)
set_option maxRecDepth 20000 in
set_option maxHeartbeats 4000000 in
theorem ct_X2_isPersonOrNone (l : Launch) : z_CT l yX2_isPersonOrNone cX2_isPersonOrNone 2 (some .boolean) (z_rc 4112 sp_X2_isPersonOrNone) 1 := by
  refine z_CT_of G_X2_isPersonOrNone (by decide) (by decide +kernel) (z_pok_of ft_X2 ci_X2 cL_X2_L fo_X2 co_X2 lo_X2 (by decide +kernel)) rfl rfl ?_ ?_ ?_
  · intro as S P Po h0
    obtain ⟨as, rfl, h⟩ := z_rc_of h0
    unfold sp_X2_isPersonOrNone at h
    split at h
    · exact Nat.le_of_ble_eq_true rfl
    · exact h.elim
  · exact List.forall_mem_cons.mpr ⟨z_coV (ct_X2_isPerson l) kb_X2_isPerson kv_X2_37 ko_X2 (by decide) (by decide) (by decide), fun _ h => absurd h List.not_mem_nil⟩
  · intro as S P Po h0 V hV hW
    obtain ⟨as, rfl, h⟩ := z_rc_of h0
    unfold sp_X2_isPersonOrNone at h
    split at h
    · rename_i x1
      have hpo := h
      refine hV [] 16 0 _ _ _ _ ?_
      refine ⟨fun (h1 : x1 = (-1)) => ?_, fun (h1 : ¬ (x1 = (-1))) => ?_⟩
      · exact ⟨(by first | rfl | exact z_nb _), z_pb hpo ((if_pos h1).trans rfl) (rfl) (rfl)⟩
      · refine z_br (fun (h2 : (f_X2_isPerson S P x1) = false) => ?_) (fun (h2 : (f_X2_isPerson S P x1) = true) => ?_)
        · exact ⟨(by first | rfl | exact z_nb _), z_pb hpo ((if_neg h1).trans ((if_neg (z_nt h2)).trans rfl)) (rfl) (rfl)⟩
        · exact ⟨(by first | rfl | exact z_nb _), z_pb hpo ((if_neg h1).trans ((if_pos h2).trans rfl)) (rfl) (rfl)⟩
    · exact h.elim
def f_X2_addPeople (S : z_MI) (P : z_ML) (x1 : Int32) : Int32 :=
  S 4112 6
def u_X2_addPeople (S : z_MI) (P : z_ML) (x1 : Int32) : z_MI :=
  va_up (va_up S 20529 (upd (S 20529) ((S 4112 6).toNatClampNeg) x1)) 4112 (upd ((va_up S 20529 (upd (S 20529) ((S 4112 6).toNatClampNeg) x1)) 4112) 6 ((S 4112 6) + (nI 1)))
def sp_X2_addPeople : z_SP := fun as S P k => match as with
  | [.int x1] => vp_in (S 4112 6) 6 ∧ k (some (.int (f_X2_addPeople S P x1))) (u_X2_addPeople S P x1) P
  | _ => False
def G_X2_addPeople : z_G := ([(0, .aload_n 0, 1, 0), (1, .getfield 30, 4, 0), (4, .istore_n 2, 5, 0), (5, .aload_n 0, 6, 0), (6, .getfield 9, 9, 0), (9, .iload_n 2, 10, 0), (10, .iload_n 1, 11, 0), (11, .iastore, 12, 0), (12, .aload_n 0, 13, 0), (13, .dup, 14, 0), (14, .getfield 30, 17, 0), (17, .iconst 1, 18, 0), (18, .iadd, 19, 0), (19, .putfield 30, 22, 0), (22, .iload_n 2, 23, 0), (23, .ireturn, 24, 0)], [(9, 4112, 0, some 20529), (30, 4112, 6, none)], [], [], [], [], [], some .int)
set_option maxRecDepth 20000 in
set_option maxHeartbeats 4000000 in
theorem ct_X2_addPeople (l : Launch) : z_CT l yX2_addPeople cX2_addPeople 3 (some .int) (z_rc 4112 sp_X2_addPeople) 0 := by
  refine z_CT_of G_X2_addPeople (by decide) (by decide +kernel) (z_pok_of ft_X2 ci_X2 cL_X2_L fo_X2 co_X2 lo_X2 (by decide +kernel)) rfl rfl ?_ ?_ ?_
  · intro as S P Po h0
    obtain ⟨as, rfl, h⟩ := z_rc_of h0
    unfold sp_X2_addPeople at h
    split at h
    · exact Nat.le_of_ble_eq_true rfl
    · exact h.elim
  · exact fun _ h => absurd h List.not_mem_nil
  · intro as S P Po h0 V hV hW
    obtain ⟨as, rfl, h⟩ := z_rc_of h0
    unfold sp_X2_addPeople at h
    split at h
    · rename_i x1
      obtain ⟨hp0, hpo⟩ := h
      refine hV [] 21 0 _ _ _ _ ?_
      refine ⟨(show vp_in (S 4112 6) 6 by assumption), ?_⟩
      exact z_pi hpo (rfl) (rfl) (rfl)
    · exact h.elim
def f_X2_addPerson (S : z_MI) (P : z_ML) (x1 : Int32) (x2 : Int32) : Int32 :=
  S 4112 7
def u_X2_addPerson (S : z_MI) (P : z_ML) (x1 : Int32) (x2 : Int32) : z_MI :=
  va_up (va_up (va_up (va_up S 24817 (upd (S 24817) ((S 4112 7).toNatClampNeg) x1)) 26865 (upd ((va_up S 24817 (upd (S 24817) ((S 4112 7).toNatClampNeg) x1)) 26865) ((S 4112 7).toNatClampNeg) x2)) 28913 (upd ((va_up (va_up S 24817 (upd (S 24817) ((S 4112 7).toNatClampNeg) x1)) 26865 (upd ((va_up S 24817 (upd (S 24817) ((S 4112 7).toNatClampNeg) x1)) 26865) ((S 4112 7).toNatClampNeg) x2)) 28913) ((S 4112 7).toNatClampNeg) (-1))) 4112 (upd ((va_up (va_up (va_up S 24817 (upd (S 24817) ((S 4112 7).toNatClampNeg) x1)) 26865 (upd ((va_up S 24817 (upd (S 24817) ((S 4112 7).toNatClampNeg) x1)) 26865) ((S 4112 7).toNatClampNeg) x2)) 28913 (upd ((va_up (va_up S 24817 (upd (S 24817) ((S 4112 7).toNatClampNeg) x1)) 26865 (upd ((va_up S 24817 (upd (S 24817) ((S 4112 7).toNatClampNeg) x1)) 26865) ((S 4112 7).toNatClampNeg) x2)) 28913) ((S 4112 7).toNatClampNeg) (-1))) 4112) 7 ((S 4112 7) + (nI 1)))
def sp_X2_addPerson : z_SP := fun as S P k => match as with
  | [.int x1, .int x2] => vp_in (S 4112 7) 30 ∧ k (some (.int (f_X2_addPerson S P x1 x2))) (u_X2_addPerson S P x1 x2) P
  | _ => False
def G_X2_addPerson : z_G := ([(0, .aload_n 0, 1, 0), (1, .getfield 34, 4, 0), (4, .istore_n 3, 5, 0), (5, .aload_n 0, 6, 0), (6, .getfield 18, 9, 0), (9, .iload_n 3, 10, 0), (10, .iload_n 1, 11, 0), (11, .iastore, 12, 0), (12, .aload_n 0, 13, 0), (13, .getfield 21, 16, 0), (16, .iload_n 3, 17, 0), (17, .iload_n 2, 18, 0), (18, .iastore, 19, 0), (19, .aload_n 0, 20, 0), (20, .getfield 24, 23, 0), (23, .iload_n 3, 24, 0), (24, .iconst (-1), 25, 0), (25, .iastore, 26, 0), (26, .aload_n 0, 27, 0), (27, .dup, 28, 0), (28, .getfield 34, 31, 0), (31, .iconst 1, 32, 0), (32, .iadd, 33, 0), (33, .putfield 34, 36, 0), (36, .iload_n 3, 37, 0), (37, .ireturn, 38, 0)], [(18, 4112, 2, some 24817), (21, 4112, 3, some 26865), (24, 4112, 4, some 28913), (34, 4112, 7, none)], [], [], [], [], [], some .int)
set_option maxRecDepth 20000 in
set_option maxHeartbeats 4000000 in
theorem ct_X2_addPerson (l : Launch) : z_CT l yX2_addPerson cX2_addPerson 4 (some .int) (z_rc 4112 sp_X2_addPerson) 0 := by
  refine z_CT_of G_X2_addPerson (by decide) (by decide +kernel) (z_pok_of ft_X2 ci_X2 cL_X2_L fo_X2 co_X2 lo_X2 (by decide +kernel)) rfl rfl ?_ ?_ ?_
  · intro as S P Po h0
    obtain ⟨as, rfl, h⟩ := z_rc_of h0
    unfold sp_X2_addPerson at h
    split at h
    · exact Nat.le_of_ble_eq_true rfl
    · exact h.elim
  · exact fun _ h => absurd h List.not_mem_nil
  · intro as S P Po h0 V hV hW
    obtain ⟨as, rfl, h⟩ := z_rc_of h0
    unfold sp_X2_addPerson at h
    split at h
    · rename_i x1 x2
      obtain ⟨hp0, hpo⟩ := h
      refine hV [] 31 0 _ _ _ _ ?_
      refine ⟨(show vp_in (S 4112 7) 30 by assumption), ?_⟩
      refine ⟨(show vp_in (S 4112 7) 30 by assumption), ?_⟩
      refine ⟨(show vp_in (S 4112 7) 30 by assumption), ?_⟩
      exact z_pi hpo (rfl) (rfl) (rfl)
    · exact h.elim
def f_X2_isNext (S : z_MI) (P : z_ML) (x1 : Int32) (x2 : Int32) (x3 : Int32) : Bool :=
  if x3 = (nI 1) then
    if x3 = 0 then
      if (f_X6_isIn S P x1 (S 28913 x2.toNatClampNeg)) = true then
        true
      else
        false
    else
      if (f_X6_isIn S P x1 (S 26865 x2.toNatClampNeg)) = true then
        true
      else
        if (f_X6_isIn S P x1 (S 28913 x2.toNatClampNeg)) = true then
          true
        else
          false
  else
    if (f_X6_isIn S P x1 (S 24817 x2.toNatClampNeg)) = true then
      true
    else
      if x3 = 0 then
        if (f_X6_isIn S P x1 (S 28913 x2.toNatClampNeg)) = true then
          true
        else
          false
      else
        if (f_X6_isIn S P x1 (S 26865 x2.toNatClampNeg)) = true then
          true
        else
          if (f_X6_isIn S P x1 (S 28913 x2.toNatClampNeg)) = true then
            true
          else
            false
def sp_X2_isNext : z_SP := fun as S P k => match as with
  | [.int x1, .int x2, .int x3] => vp_in x2 30 ∧ k (some (.int (z_b (f_X2_isNext S P x1 x2 x3)))) S P
  | _ => False
def G_X2_isNext : z_G := ([(0, .iload_n 3, 1, 0), (1, .iconst 1, 2, 0), (2, .if_icmp .eq 16, 5, 18), (5, .iload_n 1, 6, 0), (6, .aload_n 0, 7, 0), (7, .getfield 18, 10, 0), (10, .iload_n 2, 11, 0), (11, .iaload, 12, 0), (12, .invokestatic 56, 15, 0), (15, .ifCond .ne 33, 18, 48), (18, .iload_n 3, 19, 0), (19, .ifCond .eq 16, 22, 35), (22, .iload_n 1, 23, 0), (23, .aload_n 0, 24, 0), (24, .getfield 21, 27, 0), (27, .iload_n 2, 28, 0), (28, .iaload, 29, 0), (29, .invokestatic 56, 32, 0), (32, .ifCond .ne 16, 35, 48), (35, .iload_n 1, 36, 0), (36, .aload_n 0, 37, 0), (37, .getfield 24, 40, 0), (40, .iload_n 2, 41, 0), (41, .iaload, 42, 0), (42, .invokestatic 56, 45, 0), (45, .ifCond .eq 7, 48, 52), (48, .iconst 1, 49, 0), (49, .goto 4, 52, 53), (52, .iconst 0, 53, 0), (53, .ireturn, 54, 0)], [(18, 4112, 2, some 24817), (21, 4112, 3, some 26865), (24, 4112, 4, some 28913)], [(100056, 2, sp_X6_isIn)], [], [], [], [], some .boolean)
set_option maxRecDepth 20000 in
set_option maxHeartbeats 4000000 in
theorem ct_X2_isNext (l : Launch) : z_CT l yX2_isNext cX2_isNext 4 (some .boolean) (z_rc 4112 sp_X2_isNext) 1 := by
  refine z_CT_of G_X2_isNext (by decide) (by decide +kernel) (z_pok_of ft_X2 ci_X2 cL_X2_L fo_X2 co_X2 lo_X2 (by decide +kernel)) rfl rfl ?_ ?_ ?_
  · intro as S P Po h0
    obtain ⟨as, rfl, h⟩ := z_rc_of h0
    unfold sp_X2_isNext at h
    split at h
    · exact Nat.le_of_ble_eq_true rfl
    · exact h.elim
  · exact List.forall_mem_cons.mpr ⟨z_coN (host := "Songlinebench") (ct_X6_isIn l) kb_X6_isIn kn_X2_56 (by decide) (by decide), fun _ h => absurd h List.not_mem_nil⟩
  · intro as S P Po h0 V hV hW
    obtain ⟨as, rfl, h⟩ := z_rc_of h0
    unfold sp_X2_isNext at h
    split at h
    · rename_i x1 x2 x3
      obtain ⟨hp0, hpo⟩ := h
      refine hV [] 35 0 _ _ _ _ ?_
      refine ⟨fun (h1 : x3 = (nI 1)) => ?_, fun (h1 : ¬ (x3 = (nI 1))) => ?_⟩
      · refine ⟨fun (h2 : x3 = 0) => ?_, fun (h2 : ¬ (x3 = 0)) => ?_⟩
        · refine ⟨(show vp_in x2 30 by assumption), ?_⟩
          refine z_br (fun (h3 : (f_X6_isIn S P x1 (S 28913 x2.toNatClampNeg)) = false) => ?_) (fun (h3 : (f_X6_isIn S P x1 (S 28913 x2.toNatClampNeg)) = true) => ?_)
          · exact ⟨(by first | rfl | exact z_nb _), z_pb hpo ((if_pos h1).trans ((if_pos h2).trans ((if_neg (z_nt h3)).trans rfl))) (rfl) (rfl)⟩
          · exact ⟨(by first | rfl | exact z_nb _), z_pb hpo ((if_pos h1).trans ((if_pos h2).trans ((if_pos h3).trans rfl))) (rfl) (rfl)⟩
        · refine ⟨(show vp_in x2 30 by assumption), ?_⟩
          refine z_brn (fun (h4 : (f_X6_isIn S P x1 (S 26865 x2.toNatClampNeg)) = true) => ?_) (fun (h4 : (f_X6_isIn S P x1 (S 26865 x2.toNatClampNeg)) = false) => ?_)
          · exact ⟨(by first | rfl | exact z_nb _), z_pb hpo ((if_pos h1).trans ((if_neg h2).trans ((if_pos h4).trans rfl))) (rfl) (rfl)⟩
          · refine ⟨(show vp_in x2 30 by assumption), ?_⟩
            refine z_br (fun (h5 : (f_X6_isIn S P x1 (S 28913 x2.toNatClampNeg)) = false) => ?_) (fun (h5 : (f_X6_isIn S P x1 (S 28913 x2.toNatClampNeg)) = true) => ?_)
            · exact ⟨(by first | rfl | exact z_nb _), z_pb hpo ((if_pos h1).trans ((if_neg h2).trans ((if_neg (z_nt h4)).trans ((if_neg (z_nt h5)).trans rfl)))) (rfl) (rfl)⟩
            · exact ⟨(by first | rfl | exact z_nb _), z_pb hpo ((if_pos h1).trans ((if_neg h2).trans ((if_neg (z_nt h4)).trans ((if_pos h5).trans rfl)))) (rfl) (rfl)⟩
      · refine ⟨(show vp_in x2 30 by assumption), ?_⟩
        refine z_brn (fun (h6 : (f_X6_isIn S P x1 (S 24817 x2.toNatClampNeg)) = true) => ?_) (fun (h6 : (f_X6_isIn S P x1 (S 24817 x2.toNatClampNeg)) = false) => ?_)
        · exact ⟨(by first | rfl | exact z_nb _), z_pb hpo ((if_neg h1).trans ((if_pos h6).trans rfl)) (rfl) (rfl)⟩
        · refine ⟨fun (h7 : x3 = 0) => ?_, fun (h7 : ¬ (x3 = 0)) => ?_⟩
          · refine ⟨(show vp_in x2 30 by assumption), ?_⟩
            refine z_br (fun (h8 : (f_X6_isIn S P x1 (S 28913 x2.toNatClampNeg)) = false) => ?_) (fun (h8 : (f_X6_isIn S P x1 (S 28913 x2.toNatClampNeg)) = true) => ?_)
            · exact ⟨(by first | rfl | exact z_nb _), z_pb hpo ((if_neg h1).trans ((if_neg (z_nt h6)).trans ((if_pos h7).trans ((if_neg (z_nt h8)).trans rfl)))) (rfl) (rfl)⟩
            · exact ⟨(by first | rfl | exact z_nb _), z_pb hpo ((if_neg h1).trans ((if_neg (z_nt h6)).trans ((if_pos h7).trans ((if_pos h8).trans rfl)))) (rfl) (rfl)⟩
          · refine ⟨(show vp_in x2 30 by assumption), ?_⟩
            refine z_brn (fun (h9 : (f_X6_isIn S P x1 (S 26865 x2.toNatClampNeg)) = true) => ?_) (fun (h9 : (f_X6_isIn S P x1 (S 26865 x2.toNatClampNeg)) = false) => ?_)
            · exact ⟨(by first | rfl | exact z_nb _), z_pb hpo ((if_neg h1).trans ((if_neg (z_nt h6)).trans ((if_neg h7).trans ((if_pos h9).trans rfl)))) (rfl) (rfl)⟩
            · refine ⟨(show vp_in x2 30 by assumption), ?_⟩
              refine z_br (fun (h10 : (f_X6_isIn S P x1 (S 28913 x2.toNatClampNeg)) = false) => ?_) (fun (h10 : (f_X6_isIn S P x1 (S 28913 x2.toNatClampNeg)) = true) => ?_)
              · exact ⟨(by first | rfl | exact z_nb _), z_pb hpo ((if_neg h1).trans ((if_neg (z_nt h6)).trans ((if_neg h7).trans ((if_neg (z_nt h9)).trans ((if_neg (z_nt h10)).trans rfl))))) (rfl) (rfl)⟩
              · exact ⟨(by first | rfl | exact z_nb _), z_pb hpo ((if_neg h1).trans ((if_neg (z_nt h6)).trans ((if_neg h7).trans ((if_neg (z_nt h9)).trans ((if_pos h10).trans rfl))))) (rfl) (rfl)⟩
    · exact h.elim
def l_X2_withNext_5 (S : z_MI) (P : z_ML) (x1 : Int32) (x2 : Int32) (k5 : Nat) (a5 : Int32) : Int32 :=
  if (f_X2_isNext S P a5 (nI k5) x2) = true then
    f_X6_with S P a5 (nI k5) (nI 1)
  else
    a5
def f_X2_withNext (S : z_MI) (P : z_ML) (x1 : Int32) (x2 : Int32) : Int32 :=
  (z_fo (fun k5 a5 => l_X2_withNext_5 S P x1 x2 k5 a5) x1 (S 4112 7).toNatClampNeg)
def sp_X2_withNext : z_SP := fun as S P k => match as with
  | [.int x1, .int x2] => z_le (S 4112 7) 30 ∧ k (some (.int (f_X2_withNext S P x1 x2))) S P
  | _ => False
def G_X2_withNext : z_G := ([(0, .iload_n 1, 1, 0), (1, .istore_n 3, 2, 0), (2, .iconst 0, 3, 0), (3, .istore 4, 5, 0), (5, .iload 4, 7, 0), (7, .aload_n 0, 8, 0), (8, .getfield 34, 11, 0), (11, .if_icmp .ge 28, 14, 39), (14, .aload_n 0, 15, 0), (15, .iload_n 3, 16, 0), (16, .iload 4, 18, 0), (18, .iload_n 2, 19, 0), (19, .invokevirtual 48, 22, 0), (22, .ifCond .eq 11, 25, 33), (25, .iload_n 3, 26, 0), (26, .iload 4, 28, 0), (28, .iconst 1, 29, 0), (29, .invokestatic 52, 32, 0), (32, .istore_n 3, 33, 0), (33, .iinc 4 1, 36, 0), (36, .goto (-31), 39, 5), (39, .iload_n 3, 40, 0), (40, .ireturn, 41, 0)], [(34, 4112, 7, none)], [(100052, 3, sp_X6_with), (48, 4, (z_rc 4112 sp_X2_isNext))], [], [], [], [], some .int)
set_option maxRecDepth 20000 in
set_option maxHeartbeats 4000000 in
theorem ct_X2_withNext (l : Launch) : z_CT l yX2_withNext cX2_withNext 5 (some .int) (z_rc 4112 sp_X2_withNext) 2 := by
  refine z_CT_of G_X2_withNext (by decide) (by decide +kernel) (z_pok_of ft_X2 ci_X2 cL_X2_L fo_X2 co_X2 lo_X2 (by decide +kernel)) rfl rfl ?_ ?_ ?_
  · intro as S P Po h0
    obtain ⟨as, rfl, h⟩ := z_rc_of h0
    unfold sp_X2_withNext at h
    split at h
    · exact Nat.le_of_ble_eq_true rfl
    · exact h.elim
  · exact List.forall_mem_cons.mpr ⟨z_coN (host := "Songlinebench") (ct_X6_with l) kb_X6_with kn_X2_52 (by decide) (by decide), List.forall_mem_cons.mpr ⟨z_coV (ct_X2_isNext l) kb_X2_isNext kv_X2_48 ko_X2 (by decide) (by decide) (by decide), fun _ h => absurd h List.not_mem_nil⟩⟩
  · intro as S P Po h0 V hV hW
    obtain ⟨as, rfl, h⟩ := z_rc_of h0
    unfold sp_X2_withNext at h
    split at h
    · rename_i x1 x2
      obtain ⟨hp0, hpo⟩ := h
      refine hV [5] 28 0 _ _ _ _ ?_
      obtain ⟨hb5, hN5⟩ := z_le_cl (show z_le (S 4112 7) 30 by assumption) (by decide)
      have hL5 : ∀ (j k5 : Nat) (x900 : Int32) (a5 : Int32), k5 + j = (S 4112 7).toNatClampNeg → x900 = nI k5 → a5 = z_fo (fun k5 a5 => l_X2_withNext_5 S P x1 x2 k5 a5) x1 k5 → V 5 [(0, .ref 4112), (1, .int x1), (2, .int x2), (3, .int a5), (4, .int x900)] [] S P := by
        intro j
        induction j with
        | zero =>
          intro k5 x900 a5 hk5 hx5 ha5
          subst hx5
          have hk9 : k5 = (S 4112 7).toNatClampNeg := by omega
          subst hk9
          subst ha5
          refine hV [5] 28 5 _ _ _ _ ?_
          refine ⟨fun _ => ?_, fun h => absurd ((z_brge hb5 (by omega) (by omega)).mpr (Nat.le_refl _)) h⟩
          exact z_pi hpo (rfl) (rfl) (rfl)
        | succ j ih =>
          intro k5 x900 a5 hk5 hx5 ha5
          subst hx5
          have hk9 : k5 < (S 4112 7).toNatClampNeg := by omega
          subst ha5
          refine hV [5] 28 5 _ _ _ _ ?_
          refine ⟨fun h => absurd ((z_brge hb5 (by omega) (by omega)).mp h) (by omega), fun _ => ?_⟩
          refine ⟨(show vp_in (nI k5) 30 by exact vp_in_nI (by omega) (by omega)), ?_⟩
          refine z_br (fun (h2 : (f_X2_isNext S P (z_fo (fun k5 a5 => l_X2_withNext_5 S P x1 x2 k5 a5) x1 k5) (nI k5) x2) = false) => ?_) (fun (h2 : (f_X2_isNext S P (z_fo (fun k5 a5 => l_X2_withNext_5 S P x1 x2 k5 a5) x1 k5) (nI k5) x2) = true) => ?_)
          · exact hW [0, 1, 2, 3, 4] _ _ _ _ _ (ih (k5 + 1) _ (z_fo (fun k5 a5 => l_X2_withNext_5 S P x1 x2 k5 a5) x1 k5) (by omega) (nI_add k5 1) (((if_neg (z_nt h2)).trans rfl).symm))
          · exact hW [0, 1, 2, 3, 4] _ _ _ _ _ (ih (k5 + 1) _ (f_X6_with S P (z_fo (fun k5 a5 => l_X2_withNext_5 S P x1 x2 k5 a5) x1 k5) (nI k5) (nI 1)) (by omega) (nI_add k5 1) (((if_pos h2).trans rfl).symm))
      exact hW [0, 1, 2, 3, 4] _ _ _ _ _ (hL5 (S 4112 7).toNatClampNeg 0 _ x1 (Nat.zero_add _) rfl rfl)
    · exact h.elim
end
section
def f_J6_bitCount_0f7a4 (S : z_MI) (P : z_ML) (x0 : Int32) : Int32 :=
  (((((((x0 - ((((x0).toUInt32 >>> (((nI 1)).toUInt32 &&& Int32.toUInt32 31)).toInt32) &&& (nI 1431655765))) &&& (nI 858993459)) + (((((x0 - ((((x0).toUInt32 >>> (((nI 1)).toUInt32 &&& Int32.toUInt32 31)).toInt32) &&& (nI 1431655765)))).toUInt32 >>> (((nI 2)).toUInt32 &&& Int32.toUInt32 31)).toInt32) &&& (nI 858993459))) + ((((((x0 - ((((x0).toUInt32 >>> (((nI 1)).toUInt32 &&& Int32.toUInt32 31)).toInt32) &&& (nI 1431655765))) &&& (nI 858993459)) + (((((x0 - ((((x0).toUInt32 >>> (((nI 1)).toUInt32 &&& Int32.toUInt32 31)).toInt32) &&& (nI 1431655765)))).toUInt32 >>> (((nI 2)).toUInt32 &&& Int32.toUInt32 31)).toInt32) &&& (nI 858993459)))).toUInt32 >>> (((nI 4)).toUInt32 &&& Int32.toUInt32 31)).toInt32)) &&& (nI 252645135)) + ((((((((x0 - ((((x0).toUInt32 >>> (((nI 1)).toUInt32 &&& Int32.toUInt32 31)).toInt32) &&& (nI 1431655765))) &&& (nI 858993459)) + (((((x0 - ((((x0).toUInt32 >>> (((nI 1)).toUInt32 &&& Int32.toUInt32 31)).toInt32) &&& (nI 1431655765)))).toUInt32 >>> (((nI 2)).toUInt32 &&& Int32.toUInt32 31)).toInt32) &&& (nI 858993459))) + ((((((x0 - ((((x0).toUInt32 >>> (((nI 1)).toUInt32 &&& Int32.toUInt32 31)).toInt32) &&& (nI 1431655765))) &&& (nI 858993459)) + (((((x0 - ((((x0).toUInt32 >>> (((nI 1)).toUInt32 &&& Int32.toUInt32 31)).toInt32) &&& (nI 1431655765)))).toUInt32 >>> (((nI 2)).toUInt32 &&& Int32.toUInt32 31)).toInt32) &&& (nI 858993459)))).toUInt32 >>> (((nI 4)).toUInt32 &&& Int32.toUInt32 31)).toInt32)) &&& (nI 252645135))).toUInt32 >>> (((nI 8)).toUInt32 &&& Int32.toUInt32 31)).toInt32)) + (((((((((x0 - ((((x0).toUInt32 >>> (((nI 1)).toUInt32 &&& Int32.toUInt32 31)).toInt32) &&& (nI 1431655765))) &&& (nI 858993459)) + (((((x0 - ((((x0).toUInt32 >>> (((nI 1)).toUInt32 &&& Int32.toUInt32 31)).toInt32) &&& (nI 1431655765)))).toUInt32 >>> (((nI 2)).toUInt32 &&& Int32.toUInt32 31)).toInt32) &&& (nI 858993459))) + ((((((x0 - ((((x0).toUInt32 >>> (((nI 1)).toUInt32 &&& Int32.toUInt32 31)).toInt32) &&& (nI 1431655765))) &&& (nI 858993459)) + (((((x0 - ((((x0).toUInt32 >>> (((nI 1)).toUInt32 &&& Int32.toUInt32 31)).toInt32) &&& (nI 1431655765)))).toUInt32 >>> (((nI 2)).toUInt32 &&& Int32.toUInt32 31)).toInt32) &&& (nI 858993459)))).toUInt32 >>> (((nI 4)).toUInt32 &&& Int32.toUInt32 31)).toInt32)) &&& (nI 252645135)) + ((((((((x0 - ((((x0).toUInt32 >>> (((nI 1)).toUInt32 &&& Int32.toUInt32 31)).toInt32) &&& (nI 1431655765))) &&& (nI 858993459)) + (((((x0 - ((((x0).toUInt32 >>> (((nI 1)).toUInt32 &&& Int32.toUInt32 31)).toInt32) &&& (nI 1431655765)))).toUInt32 >>> (((nI 2)).toUInt32 &&& Int32.toUInt32 31)).toInt32) &&& (nI 858993459))) + ((((((x0 - ((((x0).toUInt32 >>> (((nI 1)).toUInt32 &&& Int32.toUInt32 31)).toInt32) &&& (nI 1431655765))) &&& (nI 858993459)) + (((((x0 - ((((x0).toUInt32 >>> (((nI 1)).toUInt32 &&& Int32.toUInt32 31)).toInt32) &&& (nI 1431655765)))).toUInt32 >>> (((nI 2)).toUInt32 &&& Int32.toUInt32 31)).toInt32) &&& (nI 858993459)))).toUInt32 >>> (((nI 4)).toUInt32 &&& Int32.toUInt32 31)).toInt32)) &&& (nI 252645135))).toUInt32 >>> (((nI 8)).toUInt32 &&& Int32.toUInt32 31)).toInt32))).toUInt32 >>> (((nI 16)).toUInt32 &&& Int32.toUInt32 31)).toInt32)) &&& (nI 63)
def sp_J6_bitCount_0f7a4 : z_SP := fun as S P k => match as with
  | [.int x0] => k (some (.int (f_J6_bitCount_0f7a4 S P x0))) S P
  | _ => False
def G_J6_bitCount_0f7a4 : z_G := ([(0, .iload_n 0, 1, 0), (1, .iload_n 0, 2, 0), (2, .iconst 1, 3, 0), (3, .iushr, 4, 0), (4, .ldc_w 265, 7, 0), (7, .iand, 8, 0), (8, .isub, 9, 0), (9, .istore_n 0, 10, 0), (10, .iload_n 0, 11, 0), (11, .ldc_w 266, 14, 0), (14, .iand, 15, 0), (15, .iload_n 0, 16, 0), (16, .iconst 2, 17, 0), (17, .iushr, 18, 0), (18, .ldc_w 266, 21, 0), (21, .iand, 22, 0), (22, .iadd, 23, 0), (23, .istore_n 0, 24, 0), (24, .iload_n 0, 25, 0), (25, .iload_n 0, 26, 0), (26, .iconst 4, 27, 0), (27, .iushr, 28, 0), (28, .iadd, 29, 0), (29, .ldc_w 267, 32, 0), (32, .iand, 33, 0), (33, .istore_n 0, 34, 0), (34, .iload_n 0, 35, 0), (35, .iload_n 0, 36, 0), (36, .bipush 8, 38, 0), (38, .iushr, 39, 0), (39, .iadd, 40, 0), (40, .istore_n 0, 41, 0), (41, .iload_n 0, 42, 0), (42, .iload_n 0, 43, 0), (43, .bipush 16, 45, 0), (45, .iushr, 46, 0), (46, .iadd, 47, 0), (47, .istore_n 0, 48, 0), (48, .iload_n 0, 49, 0), (49, .bipush 63, 51, 0), (51, .iand, 52, 0), (52, .ireturn, 53, 0)], [], [], [(265, 1431655765), (266, 858993459), (267, 252645135)], [], [], [], some .int)
set_option maxRecDepth 20000 in
set_option maxHeartbeats 4000000 in
theorem ct_J6_bitCount_0f7a4 (l : Launch) : z_CT l yJ6_bitCount_0f7a4 cJ6_bitCount_0f7a4 1 (some .int) sp_J6_bitCount_0f7a4 0 := by
  refine z_CT_of G_J6_bitCount_0f7a4 (by decide) (by decide +kernel) (z_pok_of ft_J6 ci_J6 cL_J6_L fo_J6 co_J6 lo_J6 (by decide +kernel)) rfl rfl ?_ ?_ ?_
  · intro as S P Po h
    unfold sp_J6_bitCount_0f7a4 at h
    split at h
    · exact Nat.le_of_ble_eq_true rfl
    · exact h.elim
  · exact fun _ h => absurd h List.not_mem_nil
  · intro as S P Po h V hV hW
    unfold sp_J6_bitCount_0f7a4 at h
    split at h
    · rename_i x0
      have hpo := h
      refine hV [] 47 0 _ _ _ _ ?_
      exact z_pi hpo (rfl) (rfl) (rfl)
    · exact h.elim
def l_X2_membersOf_19 (S : z_MI) (P : z_ML) (x1 : Int32) (k19 : Nat) (a19 : Int32) : (Int32) ⊕ (Int32) :=
  if (f_X2_withNext S P a19 (S 20529 x1.toNatClampNeg)) = a19 then
    .inr (f_X2_withNext S P a19 (S 20529 x1.toNatClampNeg))
  else
    .inl (f_X2_withNext S P a19 (S 20529 x1.toNatClampNeg))
def f_X2_membersOf (S : z_MI) (P : z_ML) (x1 : Int32) : Int32 :=
  if (f_X2_isPeople S P x1) = true then
    Sum.elim (fun a19 =>
      a19) (fun r => r) (z_fx (fun k19 a19 => l_X2_membersOf_19 S P x1 k19 a19) (S 22577 x1.toNatClampNeg) (S 4112 7).toNatClampNeg)
  else
    nI 0
def sp_X2_membersOf : z_SP := fun as S P k => match as with
  | [.int x1] => vp_in x1 6 ∧ z_le (S 4112 7) 30 ∧ k (some (.int (f_X2_membersOf S P x1))) S P
  | _ => False
def G_X2_membersOf : z_G := ([(0, .aload_n 0, 1, 0), (1, .iload_n 1, 2, 0), (2, .invokevirtual 41, 5, 0), (5, .ifCond .ne 5, 8, 10), (8, .iconst 0, 9, 0), (9, .ireturn, 10, 0), (10, .aload_n 0, 11, 0), (11, .getfield 15, 14, 0), (14, .iload_n 1, 15, 0), (15, .iaload, 16, 0), (16, .istore_n 2, 17, 0), (17, .iconst 0, 18, 0), (18, .istore_n 3, 19, 0), (19, .iload_n 3, 20, 0), (20, .aload_n 0, 21, 0), (21, .getfield 34, 24, 0), (24, .if_icmp .ge 33, 27, 57), (27, .iload_n 2, 28, 0), (28, .istore 4, 30, 0), (30, .aload_n 0, 31, 0), (31, .iload_n 2, 32, 0), (32, .aload_n 0, 33, 0), (33, .getfield 9, 36, 0), (36, .iload_n 1, 37, 0), (37, .iaload, 38, 0), (38, .invokevirtual 44, 41, 0), (41, .istore_n 2, 42, 0), (42, .iload_n 2, 43, 0), (43, .iload 4, 45, 0), (45, .if_icmp .ne 6, 48, 51), (48, .goto 9, 51, 57), (51, .iinc 3 1, 54, 0), (54, .goto (-35), 57, 19), (57, .iload_n 2, 58, 0), (58, .ireturn, 59, 0)], [(9, 4112, 0, some 20529), (15, 4112, 1, some 22577), (34, 4112, 7, none)], [(41, 2, (z_rc 4112 sp_X2_isPeople)), (44, 3, (z_rc 4112 sp_X2_withNext))], [], [], [], [], some .int)
set_option maxRecDepth 20000 in
set_option maxHeartbeats 4000000 in
theorem ct_X2_membersOf (l : Launch) : z_CT l yX2_membersOf cX2_membersOf 5 (some .int) (z_rc 4112 sp_X2_membersOf) 3 := by
  refine z_CT_of G_X2_membersOf (by decide) (by decide +kernel) (z_pok_of ft_X2 ci_X2 cL_X2_L fo_X2 co_X2 lo_X2 (by decide +kernel)) rfl rfl ?_ ?_ ?_
  · intro as S P Po h0
    obtain ⟨as, rfl, h⟩ := z_rc_of h0
    unfold sp_X2_membersOf at h
    split at h
    · exact Nat.le_of_ble_eq_true rfl
    · exact h.elim
  · exact List.forall_mem_cons.mpr ⟨z_coV (ct_X2_isPeople l) kb_X2_isPeople kv_X2_41 ko_X2 (by decide) (by decide) (by decide), List.forall_mem_cons.mpr ⟨z_coV (ct_X2_withNext l) kb_X2_withNext kv_X2_44 ko_X2 (by decide) (by decide) (by decide), fun _ h => absurd h List.not_mem_nil⟩⟩
  · intro as S P Po h0 V hV hW
    obtain ⟨as, rfl, h⟩ := z_rc_of h0
    unfold sp_X2_membersOf at h
    split at h
    · rename_i x1
      obtain ⟨hp0, hp1, hpo⟩ := h
      refine hV [19] 40 0 _ _ _ _ ?_
      refine z_brn (fun (h1 : (f_X2_isPeople S P x1) = true) => ?_) (fun (h1 : (f_X2_isPeople S P x1) = false) => ?_)
      · refine ⟨(show vp_in x1 6 by assumption), ?_⟩
        obtain ⟨hb19, hN19⟩ := z_le_cl (show z_le (S 4112 7) 30 by assumption) (by decide)
        have hL19 : ∀ (j k19 : Nat) (x900 : Int32) (a19 : Int32), k19 + j = (S 4112 7).toNatClampNeg → x900 = nI k19 → z_fx (fun k19 a19 => l_X2_membersOf_19 S P x1 k19 a19) (S 22577 x1.toNatClampNeg) k19 = .inl a19 → V 19 [(0, .ref 4112), (1, .int x1), (2, .int a19), (3, .int x900)] [] S P := by
          intro j
          induction j with
          | zero =>
            intro k19 x900 a19 hk19 hx19 ha19
            subst hx19
            have hk9 : k19 = (S 4112 7).toNatClampNeg := by omega
            subst hk9
            refine hV [19] 40 19 _ _ _ _ ?_
            refine ⟨fun _ => ?_, fun h => absurd ((z_brge hb19 (by omega) (by omega)).mpr (Nat.le_refl _)) h⟩
            exact z_pi hpo ((if_pos h1).trans ((congrArg (Sum.elim _ _) ha19).trans rfl)) (rfl) (rfl)
          | succ j ih =>
            intro k19 x900 a19 hk19 hx19 ha19
            subst hx19
            have hk9 : k19 < (S 4112 7).toNatClampNeg := by omega
            refine hV [19] 40 19 _ _ _ _ ?_
            refine ⟨fun h => absurd ((z_brge hb19 (by omega) (by omega)).mp h) (by omega), fun _ => ?_⟩
            refine ⟨(show vp_in x1 6 by assumption), ?_⟩
            refine ⟨(show z_le (S 4112 7) 30 by assumption), ?_⟩
            refine ⟨fun (h3 : ¬ ((f_X2_withNext S P a19 (S 20529 x1.toNatClampNeg)) = a19)) => ?_, fun (h3 : (f_X2_withNext S P a19 (S 20529 x1.toNatClampNeg)) = a19) => ?_⟩
            · exact hW [0, 1, 2, 3] _ _ _ _ _ (ih (k19 + 1) _ (f_X2_withNext S P a19 (S 20529 x1.toNatClampNeg)) (by omega) (nI_add k19 1) ((z_fx_s ha19).trans ((if_neg h3).trans rfl)))
            · have hM := (z_fx_s ha19).trans ((if_pos h3).trans rfl)
              have hM := z_fx_r hM (show _ ≤ (S 4112 7).toNatClampNeg by omega)
              exact z_pi hpo ((if_pos h1).trans ((congrArg (Sum.elim _ _) hM).trans rfl)) (rfl) (rfl)
        exact hW [0, 1, 2, 3] _ _ _ _ _ (hL19 (S 4112 7).toNatClampNeg 0 _ (S 22577 x1.toNatClampNeg) (Nat.zero_add _) rfl rfl)
      · exact z_pi hpo ((if_neg (z_nt h1)).trans rfl) (rfl) (rfl)
    · exact h.elim
def f_X5_isStory (S : z_MI) (P : z_ML) (x1 : Int32) : Bool :=
  if x1 < 0 then
    false
  else
    if (S 6184 4) ≤ x1 then
      false
    else
      true
def sp_X5_isStory : z_SP := fun as S P k => match as with
  | [.int x1] => k (some (.int (z_b (f_X5_isStory S P x1)))) S P
  | _ => False
def G_X5_isStory : z_G := ([(0, .iload_n 1, 1, 0), (1, .ifCond .lt 15, 4, 16), (4, .iload_n 1, 5, 0), (5, .aload_n 0, 6, 0), (6, .getfield 24, 9, 0), (9, .if_icmp .ge 7, 12, 16), (12, .iconst 1, 13, 0), (13, .goto 4, 16, 17), (16, .iconst 0, 17, 0), (17, .ireturn, 18, 0)], [(24, 6184, 4, none)], [], [], [], [], [], some .boolean)
set_option maxRecDepth 20000 in
set_option maxHeartbeats 4000000 in
theorem ct_X5_isStory (l : Launch) : z_CT l yX5_isStory cX5_isStory 2 (some .boolean) (z_rc 6184 sp_X5_isStory) 0 := by
  refine z_CT_of G_X5_isStory (by decide) (by decide +kernel) (z_pok_of ft_X5 ci_X5 cL_X5_L fo_X5 co_X5 lo_X5 (by decide +kernel)) rfl rfl ?_ ?_ ?_
  · intro as S P Po h0
    obtain ⟨as, rfl, h⟩ := z_rc_of h0
    unfold sp_X5_isStory at h
    split at h
    · exact Nat.le_of_ble_eq_true rfl
    · exact h.elim
  · exact fun _ h => absurd h List.not_mem_nil
  · intro as S P Po h0 V hV hW
    obtain ⟨as, rfl, h⟩ := z_rc_of h0
    unfold sp_X5_isStory at h
    split at h
    · rename_i x1
      have hpo := h
      refine hV [] 15 0 _ _ _ _ ?_
      refine ⟨fun (h1 : x1 < 0) => ?_, fun (h1 : ¬ (x1 < 0)) => ?_⟩
      · exact ⟨(by first | rfl | exact z_nb _), z_pb hpo ((if_pos h1).trans rfl) (rfl) (rfl)⟩
      · refine ⟨fun (h2 : (S 6184 4) ≤ x1) => ?_, fun (h2 : ¬ ((S 6184 4) ≤ x1)) => ?_⟩
        · exact ⟨(by first | rfl | exact z_nb _), z_pb hpo ((if_neg h1).trans ((if_pos h2).trans rfl)) (rfl) (rfl)⟩
        · exact ⟨(by first | rfl | exact z_nb _), z_pb hpo ((if_neg h1).trans ((if_neg h2).trans rfl)) (rfl) (rfl)⟩
    · exact h.elim
theorem t_isStory0 {S : z_MI} {P : z_ML} {x : Int32} (hz : z_le (S 6184 4) 10) (h : f_X5_isStory S P x = true) : vp_in x 10 := by
  unfold f_X5_isStory at h
  split at h
  · cases h
  · split at h
    · cases h
    · exact z_ck ‹_› ‹_› hz (by decide)
def f_X5_isPart (S : z_MI) (P : z_ML) (x1 : Int32) (x2 : Int32) : Bool :=
  if (f_X5_isStory S P x1) = true then
    if x2 < 0 then
      false
    else
      if (S 34897 x1.toNatClampNeg) ≤ x2 then
        false
      else
        true
  else
    false
def sp_X5_isPart : z_SP := fun as S P k => match as with
  | [.int x1, .int x2] => z_le (S 6184 4) 10 ∧ k (some (.int (z_b (f_X5_isPart S P x1 x2)))) S P
  | _ => False
def G_X5_isPart : z_G := ([(0, .aload_n 0, 1, 0), (1, .iload_n 1, 2, 0), (2, .invokevirtual 28, 5, 0), (5, .ifCond .eq 21, 8, 26), (8, .iload_n 2, 9, 0), (9, .ifCond .lt 17, 12, 26), (12, .iload_n 2, 13, 0), (13, .aload_n 0, 14, 0), (14, .getfield 15, 17, 0), (17, .iload_n 1, 18, 0), (18, .iaload, 19, 0), (19, .if_icmp .ge 7, 22, 26), (22, .iconst 1, 23, 0), (23, .goto 4, 26, 27), (26, .iconst 0, 27, 0), (27, .ireturn, 28, 0)], [(15, 6184, 1, some 34897)], [(28, 2, (z_rc 6184 sp_X5_isStory))], [], [], [], [], some .boolean)
set_option maxRecDepth 20000 in
set_option maxHeartbeats 4000000 in
theorem ct_X5_isPart (l : Launch) : z_CT l yX5_isPart cX5_isPart 3 (some .boolean) (z_rc 6184 sp_X5_isPart) 1 := by
  refine z_CT_of G_X5_isPart (by decide) (by decide +kernel) (z_pok_of ft_X5 ci_X5 cL_X5_L fo_X5 co_X5 lo_X5 (by decide +kernel)) rfl rfl ?_ ?_ ?_
  · intro as S P Po h0
    obtain ⟨as, rfl, h⟩ := z_rc_of h0
    unfold sp_X5_isPart at h
    split at h
    · exact Nat.le_of_ble_eq_true rfl
    · exact h.elim
  · exact List.forall_mem_cons.mpr ⟨z_coV (ct_X5_isStory l) kb_X5_isStory kv_X5_28 ko_X5 (by decide) (by decide) (by decide), fun _ h => absurd h List.not_mem_nil⟩
  · intro as S P Po h0 V hV hW
    obtain ⟨as, rfl, h⟩ := z_rc_of h0
    unfold sp_X5_isPart at h
    split at h
    · rename_i x1 x2
      obtain ⟨hp0, hpo⟩ := h
      refine hV [] 21 0 _ _ _ _ ?_
      refine z_br (fun (h1 : (f_X5_isStory S P x1) = false) => ?_) (fun (h1 : (f_X5_isStory S P x1) = true) => ?_)
      · exact ⟨(by first | rfl | exact z_nb _), z_pb hpo ((if_neg (z_nt h1)).trans rfl) (rfl) (rfl)⟩
      · refine ⟨fun (h2 : x2 < 0) => ?_, fun (h2 : ¬ (x2 < 0)) => ?_⟩
        · exact ⟨(by first | rfl | exact z_nb _), z_pb hpo ((if_pos h1).trans ((if_pos h2).trans rfl)) (rfl) (rfl)⟩
        · refine ⟨(show vp_in x1 10 by exact t_isStory0 hp0 (by assumption)), ?_⟩
          refine ⟨fun (h3 : (S 34897 x1.toNatClampNeg) ≤ x2) => ?_, fun (h3 : ¬ ((S 34897 x1.toNatClampNeg) ≤ x2)) => ?_⟩
          · exact ⟨(by first | rfl | exact z_nb _), z_pb hpo ((if_pos h1).trans ((if_neg h2).trans ((if_pos h3).trans rfl))) (rfl) (rfl)⟩
          · exact ⟨(by first | rfl | exact z_nb _), z_pb hpo ((if_pos h1).trans ((if_neg h2).trans ((if_neg h3).trans rfl))) (rfl) (rfl)⟩
    · exact h.elim
def f_X5_add (S : z_MI) (P : z_ML) (x1 : Int32) : Int32 :=
  S 6184 4
def u_X5_add (S : z_MI) (P : z_ML) (x1 : Int32) : z_MI :=
  va_up (va_up S 32849 (upd (S 32849) ((S 6184 4).toNatClampNeg) x1)) 6184 (upd ((va_up S 32849 (upd (S 32849) ((S 6184 4).toNatClampNeg) x1)) 6184) 4 ((S 6184 4) + (nI 1)))
def sp_X5_add : z_SP := fun as S P k => match as with
  | [.int x1] => vp_in (S 6184 4) 10 ∧ k (some (.int (f_X5_add S P x1))) (u_X5_add S P x1) P
  | _ => False
def G_X5_add : z_G := ([(0, .aload_n 0, 1, 0), (1, .getfield 24, 4, 0), (4, .istore_n 2, 5, 0), (5, .aload_n 0, 6, 0), (6, .getfield 9, 9, 0), (9, .iload_n 2, 10, 0), (10, .iload_n 1, 11, 0), (11, .iastore, 12, 0), (12, .aload_n 0, 13, 0), (13, .dup, 14, 0), (14, .getfield 24, 17, 0), (17, .iconst 1, 18, 0), (18, .iadd, 19, 0), (19, .putfield 24, 22, 0), (22, .iload_n 2, 23, 0), (23, .ireturn, 24, 0)], [(9, 6184, 0, some 32849), (24, 6184, 4, none)], [], [], [], [], [], some .int)
set_option maxRecDepth 20000 in
set_option maxHeartbeats 4000000 in
theorem ct_X5_add (l : Launch) : z_CT l yX5_add cX5_add 3 (some .int) (z_rc 6184 sp_X5_add) 0 := by
  refine z_CT_of G_X5_add (by decide) (by decide +kernel) (z_pok_of ft_X5 ci_X5 cL_X5_L fo_X5 co_X5 lo_X5 (by decide +kernel)) rfl rfl ?_ ?_ ?_
  · intro as S P Po h0
    obtain ⟨as, rfl, h⟩ := z_rc_of h0
    unfold sp_X5_add at h
    split at h
    · exact Nat.le_of_ble_eq_true rfl
    · exact h.elim
  · exact fun _ h => absurd h List.not_mem_nil
  · intro as S P Po h0 V hV hW
    obtain ⟨as, rfl, h⟩ := z_rc_of h0
    unfold sp_X5_add at h
    split at h
    · rename_i x1
      obtain ⟨hp0, hpo⟩ := h
      refine hV [] 21 0 _ _ _ _ ?_
      refine ⟨(show vp_in (S 6184 4) 10 by assumption), ?_⟩
      exact z_pi hpo (rfl) (rfl) (rfl)
    · exact h.elim
def f_X5_addPart (S : z_MI) (P : z_ML) (x1 : Int32) (x2 : Int32) (x3 : Int32) : Int32 :=
  (upd (S 34897) x1.toNatClampNeg ((S 34897 x1.toNatClampNeg) + (nI 1))) x1.toNatClampNeg
def u_X5_addPart (S : z_MI) (P : z_ML) (x1 : Int32) (x2 : Int32) (x3 : Int32) : z_MI :=
  va_up (va_up (va_up S 37825 (upd (S 37825) (((x1 * (nI 12)) + (S 34897 x1.toNatClampNeg)).toNatClampNeg) x2)) 39873 (upd ((va_up S 37825 (upd (S 37825) (((x1 * (nI 12)) + (S 34897 x1.toNatClampNeg)).toNatClampNeg) x2)) 39873) (((x1 * (nI 12)) + (S 34897 x1.toNatClampNeg)).toNatClampNeg) x3)) 34897 (upd ((va_up (va_up S 37825 (upd (S 37825) (((x1 * (nI 12)) + (S 34897 x1.toNatClampNeg)).toNatClampNeg) x2)) 39873 (upd ((va_up S 37825 (upd (S 37825) (((x1 * (nI 12)) + (S 34897 x1.toNatClampNeg)).toNatClampNeg) x2)) 39873) (((x1 * (nI 12)) + (S 34897 x1.toNatClampNeg)).toNatClampNeg) x3)) 34897) x1.toNatClampNeg ((S 34897 x1.toNatClampNeg) + (nI 1)))
def sp_X5_addPart : z_SP := fun as S P k => match as with
  | [.int x1, .int x2, .int x3] => vp_in x1 10 ∧ vp_in ((x1 * (nI 12)) + (S 34897 x1.toNatClampNeg)) 120 ∧ k (some (.int (f_X5_addPart S P x1 x2 x3))) (u_X5_addPart S P x1 x2 x3) P
  | _ => False
def G_X5_addPart : z_G := ([(0, .iload_n 1, 1, 0), (1, .bipush 12, 3, 0), (3, .imul, 4, 0), (4, .aload_n 0, 5, 0), (5, .getfield 15, 8, 0), (8, .iload_n 1, 9, 0), (9, .iaload, 10, 0), (10, .iadd, 11, 0), (11, .istore 4, 13, 0), (13, .aload_n 0, 14, 0), (14, .getfield 18, 17, 0), (17, .iload 4, 19, 0), (19, .iload_n 2, 20, 0), (20, .iastore, 21, 0), (21, .aload_n 0, 22, 0), (22, .getfield 21, 25, 0), (25, .iload 4, 27, 0), (27, .iload_n 3, 28, 0), (28, .iastore, 29, 0), (29, .aload_n 0, 30, 0), (30, .getfield 15, 33, 0), (33, .iload_n 1, 34, 0), (34, .dup2, 35, 0), (35, .iaload, 36, 0), (36, .iconst 1, 37, 0), (37, .iadd, 38, 0), (38, .iastore, 39, 0), (39, .aload_n 0, 40, 0), (40, .getfield 15, 43, 0), (43, .iload_n 1, 44, 0), (44, .iaload, 45, 0), (45, .ireturn, 46, 0)], [(15, 6184, 1, some 34897), (18, 6184, 2, some 37825), (21, 6184, 3, some 39873)], [], [], [], [], [], some .int)
set_option maxRecDepth 20000 in
set_option maxHeartbeats 4000000 in
theorem ct_X5_addPart (l : Launch) : z_CT l yX5_addPart cX5_addPart 5 (some .int) (z_rc 6184 sp_X5_addPart) 0 := by
  refine z_CT_of G_X5_addPart (by decide) (by decide +kernel) (z_pok_of ft_X5 ci_X5 cL_X5_L fo_X5 co_X5 lo_X5 (by decide +kernel)) rfl rfl ?_ ?_ ?_
  · intro as S P Po h0
    obtain ⟨as, rfl, h⟩ := z_rc_of h0
    unfold sp_X5_addPart at h
    split at h
    · exact Nat.le_of_ble_eq_true rfl
    · exact h.elim
  · exact fun _ h => absurd h List.not_mem_nil
  · intro as S P Po h0 V hV hW
    obtain ⟨as, rfl, h⟩ := z_rc_of h0
    unfold sp_X5_addPart at h
    split at h
    · rename_i x1 x2 x3
      obtain ⟨hp0, hp1, hpo⟩ := h
      refine hV [] 37 0 _ _ _ _ ?_
      refine ⟨(show vp_in x1 10 by assumption), ?_⟩
      refine ⟨(show vp_in ((x1 * (nI 12)) + (S 34897 x1.toNatClampNeg)) 120 by assumption), ?_⟩
      refine ⟨(show vp_in ((x1 * (nI 12)) + (S 34897 x1.toNatClampNeg)) 120 by assumption), ?_⟩
      refine ⟨(show vp_in x1 10 by assumption), ?_⟩
      refine ⟨(show vp_in x1 10 by assumption), ?_⟩
      refine ⟨(show vp_in x1 10 by assumption), ?_⟩
      exact z_pi hpo (rfl) (rfl) (rfl)
    · exact h.elim
def f_X5_placeUpTo (S : z_MI) (P : z_ML) (x1 : Int32) (x2 : Int32) (x3 : Int32) : Int32 :=
  if x3 < (S 39873 (((x1 * (nI 12)) + x2).toNatClampNeg)) then
    (-1)
  else
    S 37825 (((x1 * (nI 12)) + x2).toNatClampNeg)
def sp_X5_placeUpTo : z_SP := fun as S P k => match as with
  | [.int x1, .int x2, .int x3] => vp_in ((x1 * (nI 12)) + x2) 120 ∧ k (some (.int (f_X5_placeUpTo S P x1 x2 x3))) S P
  | _ => False
def G_X5_placeUpTo : z_G := ([(0, .iload_n 1, 1, 0), (1, .bipush 12, 3, 0), (3, .imul, 4, 0), (4, .iload_n 2, 5, 0), (5, .iadd, 6, 0), (6, .istore 4, 8, 0), (8, .aload_n 0, 9, 0), (9, .getfield 21, 12, 0), (12, .iload 4, 14, 0), (14, .iaload, 15, 0), (15, .iload_n 3, 16, 0), (16, .if_icmp .gt 13, 19, 29), (19, .aload_n 0, 20, 0), (20, .getfield 18, 23, 0), (23, .iload 4, 25, 0), (25, .iaload, 26, 0), (26, .goto 4, 29, 30), (29, .iconst (-1), 30, 0), (30, .ireturn, 31, 0)], [(18, 6184, 2, some 37825), (21, 6184, 3, some 39873)], [], [], [], [], [], some .int)
set_option maxRecDepth 20000 in
set_option maxHeartbeats 4000000 in
theorem ct_X5_placeUpTo (l : Launch) : z_CT l yX5_placeUpTo cX5_placeUpTo 5 (some .int) (z_rc 6184 sp_X5_placeUpTo) 0 := by
  refine z_CT_of G_X5_placeUpTo (by decide) (by decide +kernel) (z_pok_of ft_X5 ci_X5 cL_X5_L fo_X5 co_X5 lo_X5 (by decide +kernel)) rfl rfl ?_ ?_ ?_
  · intro as S P Po h0
    obtain ⟨as, rfl, h⟩ := z_rc_of h0
    unfold sp_X5_placeUpTo at h
    split at h
    · exact Nat.le_of_ble_eq_true rfl
    · exact h.elim
  · exact fun _ h => absurd h List.not_mem_nil
  · intro as S P Po h0 V hV hW
    obtain ⟨as, rfl, h⟩ := z_rc_of h0
    unfold sp_X5_placeUpTo at h
    split at h
    · rename_i x1 x2 x3
      obtain ⟨hp0, hpo⟩ := h
      refine hV [] 24 0 _ _ _ _ ?_
      refine ⟨(show vp_in ((x1 * (nI 12)) + x2) 120 by assumption), ?_⟩
      refine ⟨fun (h1 : x3 < (S 39873 (((x1 * (nI 12)) + x2).toNatClampNeg))) => ?_, fun (h1 : ¬ (x3 < (S 39873 (((x1 * (nI 12)) + x2).toNatClampNeg)))) => ?_⟩
      · exact z_pi hpo ((if_pos h1).trans rfl) (rfl) (rfl)
      · refine ⟨(show vp_in ((x1 * (nI 12)) + x2) 120 by assumption), ?_⟩
        exact z_pi hpo ((if_neg h1).trans rfl) (rfl) (rfl)
    · exact h.elim
def l_X5_placesUpTo_5 (S : z_MI) (P : z_ML) (x1 : Int32) (x2 : Int32) (k5 : Nat) (a5 : Int32) : Int32 :=
  if (f_X5_placeUpTo S P x1 (nI k5) x2) = (-1) then
    a5
  else
    f_X6_with S P a5 (f_X5_placeUpTo S P x1 (nI k5) x2) (nI 1)
def f_X5_placesUpTo (S : z_MI) (P : z_ML) (x1 : Int32) (x2 : Int32) : Int32 :=
  (z_fo (fun k5 a5 => l_X5_placesUpTo_5 S P x1 x2 k5 a5) (nI 0) (S 34897 x1.toNatClampNeg).toNatClampNeg)
def sp_X5_placesUpTo : z_SP := fun as S P k => match as with
  | [.int x1, .int x2] => z_le (S 34897 x1.toNatClampNeg) 12 ∧ vp_in x1 10 ∧ k (some (.int (f_X5_placesUpTo S P x1 x2))) S P
  | _ => False
def G_X5_placesUpTo : z_G := ([(0, .iconst 0, 1, 0), (1, .istore_n 3, 2, 0), (2, .iconst 0, 3, 0), (3, .istore 4, 5, 0), (5, .iload 4, 7, 0), (7, .aload_n 0, 8, 0), (8, .getfield 15, 11, 0), (11, .iload_n 1, 12, 0), (12, .iaload, 13, 0), (13, .if_icmp .ge 33, 16, 46), (16, .aload_n 0, 17, 0), (17, .iload_n 1, 18, 0), (18, .iload 4, 20, 0), (20, .iload_n 2, 21, 0), (21, .invokevirtual 32, 24, 0), (24, .istore 5, 26, 0), (26, .iload 5, 28, 0), (28, .iconst (-1), 29, 0), (29, .if_icmp .eq 11, 32, 40), (32, .iload_n 3, 33, 0), (33, .iload 5, 35, 0), (35, .iconst 1, 36, 0), (36, .invokestatic 36, 39, 0), (39, .istore_n 3, 40, 0), (40, .iinc 4 1, 43, 0), (43, .goto (-38), 46, 5), (46, .iload_n 3, 47, 0), (47, .ireturn, 48, 0)], [(15, 6184, 1, some 34897)], [(100036, 3, sp_X6_with), (32, 4, (z_rc 6184 sp_X5_placeUpTo))], [], [], [], [], some .int)
set_option maxRecDepth 20000 in
set_option maxHeartbeats 4000000 in
theorem ct_X5_placesUpTo (l : Launch) : z_CT l yX5_placesUpTo cX5_placesUpTo 6 (some .int) (z_rc 6184 sp_X5_placesUpTo) 1 := by
  refine z_CT_of G_X5_placesUpTo (by decide) (by decide +kernel) (z_pok_of ft_X5 ci_X5 cL_X5_L fo_X5 co_X5 lo_X5 (by decide +kernel)) rfl rfl ?_ ?_ ?_
  · intro as S P Po h0
    obtain ⟨as, rfl, h⟩ := z_rc_of h0
    unfold sp_X5_placesUpTo at h
    split at h
    · exact Nat.le_of_ble_eq_true rfl
    · exact h.elim
  · exact List.forall_mem_cons.mpr ⟨z_coN (host := "Songlinebench") (ct_X6_with l) kb_X6_with kn_X5_36 (by decide) (by decide), List.forall_mem_cons.mpr ⟨z_coV (ct_X5_placeUpTo l) kb_X5_placeUpTo kv_X5_32 ko_X5 (by decide) (by decide) (by decide), fun _ h => absurd h List.not_mem_nil⟩⟩
  · intro as S P Po h0 V hV hW
    obtain ⟨as, rfl, h⟩ := z_rc_of h0
    unfold sp_X5_placesUpTo at h
    split at h
    · rename_i x1 x2
      obtain ⟨hp0, hp1, hpo⟩ := h
      refine hV [5] 33 0 _ _ _ _ ?_
      obtain ⟨hb5, hN5⟩ := z_le_cl (show z_le (S 34897 x1.toNatClampNeg) 12 by assumption) (by decide)
      have hL5 : ∀ (j k5 : Nat) (x900 : Int32) (a5 : Int32), k5 + j = (S 34897 x1.toNatClampNeg).toNatClampNeg → x900 = nI k5 → a5 = z_fo (fun k5 a5 => l_X5_placesUpTo_5 S P x1 x2 k5 a5) (nI 0) k5 → V 5 [(0, .ref 6184), (1, .int x1), (2, .int x2), (3, .int a5), (4, .int x900)] [] S P := by
        intro j
        induction j with
        | zero =>
          intro k5 x900 a5 hk5 hx5 ha5
          subst hx5
          have hk9 : k5 = (S 34897 x1.toNatClampNeg).toNatClampNeg := by omega
          subst hk9
          subst ha5
          refine hV [5] 33 5 _ _ _ _ ?_
          refine ⟨(show vp_in x1 10 by assumption), ?_⟩
          refine ⟨fun _ => ?_, fun h => absurd ((z_brge hb5 (by omega) (by omega)).mpr (Nat.le_refl _)) h⟩
          exact z_pi hpo (rfl) (rfl) (rfl)
        | succ j ih =>
          intro k5 x900 a5 hk5 hx5 ha5
          subst hx5
          have hk9 : k5 < (S 34897 x1.toNatClampNeg).toNatClampNeg := by omega
          subst ha5
          refine hV [5] 33 5 _ _ _ _ ?_
          refine ⟨(show vp_in x1 10 by assumption), ?_⟩
          refine ⟨fun h => absurd ((z_brge hb5 (by omega) (by omega)).mp h) (by omega), fun _ => ?_⟩
          refine ⟨(show vp_in ((x1 * (nI 12)) + (nI k5)) 120 by exact z_in_ma (by assumption) (by omega) (by decide)), ?_⟩
          refine ⟨fun (h2 : (f_X5_placeUpTo S P x1 (nI k5) x2) = (-1)) => ?_, fun (h2 : ¬ ((f_X5_placeUpTo S P x1 (nI k5) x2) = (-1))) => ?_⟩
          · exact hW [0, 1, 2, 3, 4] _ _ _ _ _ (ih (k5 + 1) _ (z_fo (fun k5 a5 => l_X5_placesUpTo_5 S P x1 x2 k5 a5) (nI 0) k5) (by omega) (nI_add k5 1) (((if_pos h2).trans rfl).symm))
          · exact hW [0, 1, 2, 3, 4] _ _ _ _ _ (ih (k5 + 1) _ (f_X6_with S P (z_fo (fun k5 a5 => l_X5_placesUpTo_5 S P x1 x2 k5 a5) (nI 0) k5) (f_X5_placeUpTo S P x1 (nI k5) x2) (nI 1)) (by omega) (nI_add k5 1) (((if_neg h2).trans rfl).symm))
      exact hW [0, 1, 2, 3, 4] _ _ _ _ _ (hL5 (S 34897 x1.toNatClampNeg).toNatClampNeg 0 _ (nI 0) (Nat.zero_add _) rfl rfl)
    · exact h.elim
def f_X3_addExplained (S : z_MI) (P : z_ML) (x1 : Int32) (x2 : Int32) (x3 : Int32) : Int32 :=
  (upd (S 49201) x1.toNatClampNeg ((S 49201 x1.toNatClampNeg) + (nI 1))) x1.toNatClampNeg
def u_X3_addExplained (S : z_MI) (P : z_ML) (x1 : Int32) (x2 : Int32) (x3 : Int32) : z_MI :=
  va_up (va_up (va_up S 51585 (upd (S 51585) (((x1 * (nI 8)) + (S 49201 x1.toNatClampNeg)).toNatClampNeg) x2)) 53633 (upd ((va_up S 51585 (upd (S 51585) (((x1 * (nI 8)) + (S 49201 x1.toNatClampNeg)).toNatClampNeg) x2)) 53633) (((x1 * (nI 8)) + (S 49201 x1.toNatClampNeg)).toNatClampNeg) x3)) 49201 (upd ((va_up (va_up S 51585 (upd (S 51585) (((x1 * (nI 8)) + (S 49201 x1.toNatClampNeg)).toNatClampNeg) x2)) 53633 (upd ((va_up S 51585 (upd (S 51585) (((x1 * (nI 8)) + (S 49201 x1.toNatClampNeg)).toNatClampNeg) x2)) 53633) (((x1 * (nI 8)) + (S 49201 x1.toNatClampNeg)).toNatClampNeg) x3)) 49201) x1.toNatClampNeg ((S 49201 x1.toNatClampNeg) + (nI 1)))
def sp_X3_addExplained : z_SP := fun as S P k => match as with
  | [.int x1, .int x2, .int x3] => vp_in x1 6 ∧ vp_in ((x1 * (nI 8)) + (S 49201 x1.toNatClampNeg)) 48 ∧ k (some (.int (f_X3_addExplained S P x1 x2 x3))) (u_X3_addExplained S P x1 x2 x3) P
  | _ => False
def G_X3_addExplained : z_G := ([(0, .iload_n 1, 1, 0), (1, .bipush 8, 3, 0), (3, .imul, 4, 0), (4, .aload_n 0, 5, 0), (5, .getfield 24, 8, 0), (8, .iload_n 1, 9, 0), (9, .iaload, 10, 0), (10, .iadd, 11, 0), (11, .istore 4, 13, 0), (13, .aload_n 0, 14, 0), (14, .getfield 27, 17, 0), (17, .iload 4, 19, 0), (19, .iload_n 2, 20, 0), (20, .iastore, 21, 0), (21, .aload_n 0, 22, 0), (22, .getfield 30, 25, 0), (25, .iload 4, 27, 0), (27, .iload_n 3, 28, 0), (28, .iastore, 29, 0), (29, .aload_n 0, 30, 0), (30, .getfield 24, 33, 0), (33, .iload_n 1, 34, 0), (34, .dup2, 35, 0), (35, .iaload, 36, 0), (36, .iconst 1, 37, 0), (37, .iadd, 38, 0), (38, .iastore, 39, 0), (39, .aload_n 0, 40, 0), (40, .getfield 24, 43, 0), (43, .iload_n 1, 44, 0), (44, .iaload, 45, 0), (45, .ireturn, 46, 0)], [(24, 8216, 4, some 49201), (27, 8216, 5, some 51585), (30, 8216, 6, some 53633)], [], [], [], [], [], some .int)
set_option maxRecDepth 20000 in
set_option maxHeartbeats 4000000 in
theorem ct_X3_addExplained (l : Launch) : z_CT l yX3_addExplained cX3_addExplained 5 (some .int) (z_rc 8216 sp_X3_addExplained) 0 := by
  refine z_CT_of G_X3_addExplained (by decide) (by decide +kernel) (z_pok_of ft_X3 ci_X3 cL_X3_L fo_X3 co_X3 lo_X3 (by decide +kernel)) rfl rfl ?_ ?_ ?_
  · intro as S P Po h0
    obtain ⟨as, rfl, h⟩ := z_rc_of h0
    unfold sp_X3_addExplained at h
    split at h
    · exact Nat.le_of_ble_eq_true rfl
    · exact h.elim
  · exact fun _ h => absurd h List.not_mem_nil
  · intro as S P Po h0 V hV hW
    obtain ⟨as, rfl, h⟩ := z_rc_of h0
    unfold sp_X3_addExplained at h
    split at h
    · rename_i x1 x2 x3
      obtain ⟨hp0, hp1, hpo⟩ := h
      refine hV [] 37 0 _ _ _ _ ?_
      refine ⟨(show vp_in x1 6 by assumption), ?_⟩
      refine ⟨(show vp_in ((x1 * (nI 8)) + (S 49201 x1.toNatClampNeg)) 48 by assumption), ?_⟩
      refine ⟨(show vp_in ((x1 * (nI 8)) + (S 49201 x1.toNatClampNeg)) 48 by assumption), ?_⟩
      refine ⟨(show vp_in x1 6 by assumption), ?_⟩
      refine ⟨(show vp_in x1 6 by assumption), ?_⟩
      refine ⟨(show vp_in x1 6 by assumption), ?_⟩
      exact z_pi hpo (rfl) (rfl) (rfl)
    · exact h.elim
def l_X3_isExplained_18 (S : z_MI) (P : z_ML) (x1 : Int32) (x2 : Int32) (x3 : Int32) (k18 : Nat) (a18 : Unit) : (Unit) ⊕ (Bool) :=
  if x2 < (S 51585 (((x1 * (nI 8)) + (nI k18)).toNatClampNeg)) then
    .inl ()
  else
    if (S 53633 (((x1 * (nI 8)) + (nI k18)).toNatClampNeg)) < x3 then
      .inl ()
    else
      .inr true
def f_X3_isExplained (S : z_MI) (P : z_ML) (x1 : Int32) (x2 : Int32) (x3 : Int32) : Bool :=
  if x1 < 0 then
    false
  else
    if x1 < (nI 6) then
      Sum.elim (fun a18 =>
        false) (fun r => r) (z_fx (fun k18 a18 => l_X3_isExplained_18 S P x1 x2 x3 k18 a18) () (S 49201 x1.toNatClampNeg).toNatClampNeg)
    else
      false
def sp_X3_isExplained : z_SP := fun as S P k => match as with
  | [.int x1, .int x2, .int x3] => z_le (S 49201 x1.toNatClampNeg) 8 ∧ vp_in x1 6 ∧ k (some (.int (z_b (f_X3_isExplained S P x1 x2 x3)))) S P
  | _ => False
def G_X3_isExplained : z_G := ([(0, .iload_n 1, 1, 0), (1, .ifCond .lt 12, 4, 13), (4, .iload_n 1, 5, 0), (5, .aload_n 0, 6, 0), (6, .getfield 24, 9, 0), (9, .arraylength, 10, 0), (10, .if_icmp .lt 5, 13, 15), (13, .iconst 0, 14, 0), (14, .ireturn, 15, 0), (15, .iconst 0, 16, 0), (16, .istore 4, 18, 0), (18, .iload 4, 20, 0), (20, .aload_n 0, 21, 0), (21, .getfield 24, 24, 0), (24, .iload_n 1, 25, 0), (25, .iaload, 26, 0), (26, .if_icmp .ge 42, 29, 68), (29, .iload_n 1, 30, 0), (30, .bipush 8, 32, 0), (32, .imul, 33, 0), (33, .iload 4, 35, 0), (35, .iadd, 36, 0), (36, .istore 5, 38, 0), (38, .aload_n 0, 39, 0), (39, .getfield 27, 42, 0), (42, .iload 5, 44, 0), (44, .iaload, 45, 0), (45, .iload_n 2, 46, 0), (46, .if_icmp .gt 16, 49, 62), (49, .aload_n 0, 50, 0), (50, .getfield 30, 53, 0), (53, .iload 5, 55, 0), (55, .iaload, 56, 0), (56, .iload_n 3, 57, 0), (57, .if_icmp .lt 5, 60, 62), (60, .iconst 1, 61, 0), (61, .ireturn, 62, 0), (62, .iinc 4 1, 65, 0), (65, .goto (-47), 68, 18), (68, .iconst 0, 69, 0), (69, .ireturn, 70, 0)], [(24, 8216, 4, some 49201), (27, 8216, 5, some 51585), (30, 8216, 6, some 53633)], [], [], [], [], [], some .boolean)
set_option maxRecDepth 20000 in
set_option maxHeartbeats 4000000 in
theorem ct_X3_isExplained (l : Launch) : z_CT l yX3_isExplained cX3_isExplained 6 (some .boolean) (z_rc 8216 sp_X3_isExplained) 0 := by
  refine z_CT_of G_X3_isExplained (by decide) (by decide +kernel) (z_pok_of ft_X3 ci_X3 cL_X3_L fo_X3 co_X3 lo_X3 (by decide +kernel)) rfl rfl ?_ ?_ ?_
  · intro as S P Po h0
    obtain ⟨as, rfl, h⟩ := z_rc_of h0
    unfold sp_X3_isExplained at h
    split at h
    · exact Nat.le_of_ble_eq_true rfl
    · exact h.elim
  · exact fun _ h => absurd h List.not_mem_nil
  · intro as S P Po h0 V hV hW
    obtain ⟨as, rfl, h⟩ := z_rc_of h0
    unfold sp_X3_isExplained at h
    split at h
    · rename_i x1 x2 x3
      obtain ⟨hp0, hp1, hpo⟩ := h
      refine hV [18] 46 0 _ _ _ _ ?_
      refine ⟨fun (h1 : x1 < 0) => ?_, fun (h1 : ¬ (x1 < 0)) => ?_⟩
      · exact ⟨(by first | rfl | exact z_nb _), z_pb hpo ((if_pos h1).trans rfl) (rfl) (rfl)⟩
      · refine ⟨fun (h2 : x1 < (nI 6)) => ?_, fun (h2 : ¬ (x1 < (nI 6))) => ?_⟩
        · obtain ⟨hb18, hN18⟩ := z_le_cl (show z_le (S 49201 x1.toNatClampNeg) 8 by assumption) (by decide)
          have hL18 : ∀ (j k18 : Nat) (x900 : Int32) (a18 : Unit), k18 + j = (S 49201 x1.toNatClampNeg).toNatClampNeg → x900 = nI k18 → z_fx (fun k18 a18 => l_X3_isExplained_18 S P x1 x2 x3 k18 a18) () k18 = .inl a18 → V 18 [(0, .ref 8216), (1, .int x1), (2, .int x2), (3, .int x3), (4, .int x900)] [] S P := by
            intro j
            induction j with
            | zero =>
              intro k18 x900 a18 hk18 hx18 ha18
              subst hx18
              have hk9 : k18 = (S 49201 x1.toNatClampNeg).toNatClampNeg := by omega
              subst hk9
              refine hV [18] 46 18 _ _ _ _ ?_
              refine ⟨(show vp_in x1 6 by assumption), ?_⟩
              refine ⟨fun _ => ?_, fun h => absurd ((z_brge hb18 (by omega) (by omega)).mpr (Nat.le_refl _)) h⟩
              exact ⟨(by first | rfl | exact z_nb _), z_pb hpo ((if_neg h1).trans ((if_pos h2).trans ((congrArg (Sum.elim _ _) ha18).trans rfl))) (rfl) (rfl)⟩
            | succ j ih =>
              intro k18 x900 a18 hk18 hx18 ha18
              subst hx18
              have hk9 : k18 < (S 49201 x1.toNatClampNeg).toNatClampNeg := by omega
              refine hV [18] 46 18 _ _ _ _ ?_
              refine ⟨(show vp_in x1 6 by assumption), ?_⟩
              refine ⟨fun h => absurd ((z_brge hb18 (by omega) (by omega)).mp h) (by omega), fun _ => ?_⟩
              refine ⟨(show vp_in ((x1 * (nI 8)) + (nI k18)) 48 by exact z_in_ma (by assumption) (by omega) (by decide)), ?_⟩
              refine ⟨fun (h4 : x2 < (S 51585 (((x1 * (nI 8)) + (nI k18)).toNatClampNeg))) => ?_, fun (h4 : ¬ (x2 < (S 51585 (((x1 * (nI 8)) + (nI k18)).toNatClampNeg)))) => ?_⟩
              · exact hW [0, 1, 2, 3, 4] _ _ _ _ _ (ih (k18 + 1) _ () (by omega) (nI_add k18 1) ((z_fx_s ha18).trans ((if_pos h4).trans rfl)))
              · refine ⟨(show vp_in ((x1 * (nI 8)) + (nI k18)) 48 by exact z_in_ma (by assumption) (by omega) (by decide)), ?_⟩
                refine ⟨fun (h5 : (S 53633 (((x1 * (nI 8)) + (nI k18)).toNatClampNeg)) < x3) => ?_, fun (h5 : ¬ ((S 53633 (((x1 * (nI 8)) + (nI k18)).toNatClampNeg)) < x3)) => ?_⟩
                · exact hW [0, 1, 2, 3, 4] _ _ _ _ _ (ih (k18 + 1) _ () (by omega) (nI_add k18 1) ((z_fx_s ha18).trans ((if_neg h4).trans ((if_pos h5).trans rfl))))
                · have hM := (z_fx_s ha18).trans ((if_neg h4).trans ((if_neg h5).trans rfl))
                  have hM := z_fx_r hM (show _ ≤ (S 49201 x1.toNatClampNeg).toNatClampNeg by omega)
                  exact ⟨(by first | rfl | exact z_nb _), z_pb hpo ((if_neg h1).trans ((if_pos h2).trans ((congrArg (Sum.elim _ _) hM).trans rfl))) (rfl) (rfl)⟩
          exact hW [0, 1, 2, 3, 4] _ _ _ _ _ (hL18 (S 49201 x1.toNatClampNeg).toNatClampNeg 0 _ () (Nat.zero_add _) rfl rfl)
        · exact ⟨(by first | rfl | exact z_nb _), z_pb hpo ((if_neg h1).trans ((if_neg h2).trans rfl)) (rfl) (rfl)⟩
    · exact h.elim
def f_X3_isGap (S : z_MI) (P : z_ML) (x1 : Int32) (x2 : Int32) (x3 : Int32) : Bool :=
  if (x3 - x2) ≤ (nI 480) then
    false
  else
    if (f_X3_isExplained S P x1 x2 x3) = true then
      false
    else
      true
def sp_X3_isGap : z_SP := fun as S P k => match as with
  | [.int x1, .int x2, .int x3] => z_le (S 49201 x1.toNatClampNeg) 8 ∧ vp_in x1 6 ∧ k (some (.int (z_b (f_X3_isGap S P x1 x2 x3)))) S P
  | _ => False
def G_X3_isGap : z_G := ([(0, .iload_n 3, 1, 0), (1, .iload_n 2, 2, 0), (2, .isub, 3, 0), (3, .sipush 480, 6, 0), (6, .if_icmp .le 17, 9, 23), (9, .aload_n 0, 10, 0), (10, .iload_n 1, 11, 0), (11, .iload_n 2, 12, 0), (12, .iload_n 3, 13, 0), (13, .invokevirtual 41, 16, 0), (16, .ifCond .ne 7, 19, 23), (19, .iconst 1, 20, 0), (20, .goto 4, 23, 24), (23, .iconst 0, 24, 0), (24, .ireturn, 25, 0)], [], [(41, 4, (z_rc 8216 sp_X3_isExplained))], [], [], [], [], some .boolean)
set_option maxRecDepth 20000 in
set_option maxHeartbeats 4000000 in
theorem ct_X3_isGap (l : Launch) : z_CT l yX3_isGap cX3_isGap 4 (some .boolean) (z_rc 8216 sp_X3_isGap) 1 := by
  refine z_CT_of G_X3_isGap (by decide) (by decide +kernel) (z_pok_of ft_X3 ci_X3 cL_X3_L fo_X3 co_X3 lo_X3 (by decide +kernel)) rfl rfl ?_ ?_ ?_
  · intro as S P Po h0
    obtain ⟨as, rfl, h⟩ := z_rc_of h0
    unfold sp_X3_isGap at h
    split at h
    · exact Nat.le_of_ble_eq_true rfl
    · exact h.elim
  · exact List.forall_mem_cons.mpr ⟨z_coV (ct_X3_isExplained l) kb_X3_isExplained kv_X3_41 ko_X3 (by decide) (by decide) (by decide), fun _ h => absurd h List.not_mem_nil⟩
  · intro as S P Po h0 V hV hW
    obtain ⟨as, rfl, h⟩ := z_rc_of h0
    unfold sp_X3_isGap at h
    split at h
    · rename_i x1 x2 x3
      obtain ⟨hp0, hp1, hpo⟩ := h
      refine hV [] 20 0 _ _ _ _ ?_
      refine ⟨fun (h1 : (x3 - x2) ≤ (nI 480)) => ?_, fun (h1 : ¬ ((x3 - x2) ≤ (nI 480))) => ?_⟩
      · exact ⟨(by first | rfl | exact z_nb _), z_pb hpo ((if_pos h1).trans rfl) (rfl) (rfl)⟩
      · refine ⟨(show z_le (S 49201 x1.toNatClampNeg) 8 by assumption), (show vp_in x1 6 by assumption), ?_⟩
        refine z_brn (fun (h2 : (f_X3_isExplained S P x1 x2 x3) = true) => ?_) (fun (h2 : (f_X3_isExplained S P x1 x2 x3) = false) => ?_)
        · exact ⟨(by first | rfl | exact z_nb _), z_pb hpo ((if_neg h1).trans ((if_pos h2).trans rfl)) (rfl) (rfl)⟩
        · exact ⟨(by first | rfl | exact z_nb _), z_pb hpo ((if_neg h1).trans ((if_neg (z_nt h2)).trans rfl)) (rfl) (rfl)⟩
    · exact h.elim
def l_X3_prove_9 (S : z_MI) (P : z_ML) (x1 : Int32) (x2 : Int32) (x3 : Int32) (k9 : Nat) (a9 : Int32 × Int32) : (Int32 × Int32) ⊕ (Bool) :=
  if (S 41441 ((nI k9).toNatClampNeg)) = x1 then
    if (S 43489 ((nI k9).toNatClampNeg)) = x2 then
      if (f_X3_isGap S P x1 a9.1 (S 45537 ((nI k9).toNatClampNeg))) = true then
        .inr false
      else
        .inl (S 45537 ((nI k9).toNatClampNeg), a9.2 + (S 47585 ((nI k9).toNatClampNeg)))
    else
      .inl (a9.1, a9.2)
  else
    .inl (a9.1, a9.2)
def f_X3_prove (S : z_MI) (P : z_ML) (x1 : Int32) (x2 : Int32) (x3 : Int32) : Bool :=
  Sum.elim (fun a9 =>
    if a9.2 < (nI 10) then
      false
    else
      if (f_X3_isGap S P x1 a9.1 x3) = true then
        false
      else
        true) (fun r => r) (z_fx (fun k9 a9 => l_X3_prove_9 S P x1 x2 x3 k9 a9) (nI 0, nI 0) (S 8216 7).toNatClampNeg)
def sp_X3_prove : z_SP := fun as S P k => match as with
  | [.int x1, .int x2, .int x3] => z_le (S 8216 7) 60 ∧ z_le (S 49201 x1.toNatClampNeg) 8 ∧ vp_in x1 6 ∧ k (some (.int (z_b (f_X3_prove S P x1 x2 x3)))) S P
  | _ => False
def G_X3_prove : z_G := ([(0, .iconst 0, 1, 0), (1, .istore 4, 3, 0), (3, .iconst 0, 4, 0), (4, .istore 5, 6, 0), (6, .iconst 0, 7, 0), (7, .istore 6, 9, 0), (9, .iload 6, 11, 0), (11, .aload_n 0, 12, 0), (12, .getfield 33, 15, 0), (15, .if_icmp .ge 71, 18, 86), (18, .aload_n 0, 19, 0), (19, .getfield 9, 22, 0), (22, .iload 6, 24, 0), (24, .iaload, 25, 0), (25, .iload_n 1, 26, 0), (26, .if_icmp .ne 54, 29, 80), (29, .aload_n 0, 30, 0), (30, .getfield 15, 33, 0), (33, .iload 6, 35, 0), (35, .iaload, 36, 0), (36, .iload_n 2, 37, 0), (37, .if_icmp .ne 43, 40, 80), (40, .aload_n 0, 41, 0), (41, .iload_n 1, 42, 0), (42, .iload 4, 44, 0), (44, .aload_n 0, 45, 0), (45, .getfield 18, 48, 0), (48, .iload 6, 50, 0), (50, .iaload, 51, 0), (51, .invokevirtual 37, 54, 0), (54, .ifCond .eq 5, 57, 59), (57, .iconst 0, 58, 0), (58, .ireturn, 59, 0), (59, .aload_n 0, 60, 0), (60, .getfield 18, 63, 0), (63, .iload 6, 65, 0), (65, .iaload, 66, 0), (66, .istore 4, 68, 0), (68, .iload 5, 70, 0), (70, .aload_n 0, 71, 0), (71, .getfield 21, 74, 0), (74, .iload 6, 76, 0), (76, .iaload, 77, 0), (77, .iadd, 78, 0), (78, .istore 5, 80, 0), (80, .iinc 6 1, 83, 0), (83, .goto (-74), 86, 9), (86, .iload 5, 88, 0), (88, .bipush 10, 90, 0), (90, .if_icmp .lt 18, 93, 108), (93, .aload_n 0, 94, 0), (94, .iload_n 1, 95, 0), (95, .iload 4, 97, 0), (97, .iload_n 3, 98, 0), (98, .invokevirtual 37, 101, 0), (101, .ifCond .ne 7, 104, 108), (104, .iconst 1, 105, 0), (105, .goto 4, 108, 109), (108, .iconst 0, 109, 0), (109, .ireturn, 110, 0)], [(9, 8216, 0, some 41441), (15, 8216, 1, some 43489), (18, 8216, 2, some 45537), (21, 8216, 3, some 47585), (33, 8216, 7, none)], [(37, 4, (z_rc 8216 sp_X3_isGap))], [], [], [], [], some .boolean)
set_option maxRecDepth 20000 in
set_option maxHeartbeats 4000000 in
theorem ct_X3_prove (l : Launch) : z_CT l yX3_prove cX3_prove 7 (some .boolean) (z_rc 8216 sp_X3_prove) 2 := by
  refine z_CT_of G_X3_prove (by decide) (by decide +kernel) (z_pok_of ft_X3 ci_X3 cL_X3_L fo_X3 co_X3 lo_X3 (by decide +kernel)) rfl rfl ?_ ?_ ?_
  · intro as S P Po h0
    obtain ⟨as, rfl, h⟩ := z_rc_of h0
    unfold sp_X3_prove at h
    split at h
    · exact Nat.le_of_ble_eq_true rfl
    · exact h.elim
  · exact List.forall_mem_cons.mpr ⟨z_coV (ct_X3_isGap l) kb_X3_isGap kv_X3_37 ko_X3 (by decide) (by decide) (by decide), fun _ h => absurd h List.not_mem_nil⟩
  · intro as S P Po h0 V hV hW
    obtain ⟨as, rfl, h⟩ := z_rc_of h0
    unfold sp_X3_prove at h
    split at h
    · rename_i x1 x2 x3
      obtain ⟨hp0, hp1, hp2, hpo⟩ := h
      refine hV [9] 65 0 _ _ _ _ ?_
      obtain ⟨hb9, hN9⟩ := z_le_cl (show z_le (S 8216 7) 60 by assumption) (by decide)
      have hL9 : ∀ (j k9 : Nat) (x900 : Int32) (a9 : Int32 × Int32), k9 + j = (S 8216 7).toNatClampNeg → x900 = nI k9 → z_fx (fun k9 a9 => l_X3_prove_9 S P x1 x2 x3 k9 a9) (nI 0, nI 0) k9 = .inl a9 → V 9 [(0, .ref 8216), (1, .int x1), (2, .int x2), (3, .int x3), (4, .int a9.1), (5, .int a9.2), (6, .int x900)] [] S P := by
        intro j
        induction j with
        | zero =>
          intro k9 x900 a9 hk9 hx9 ha9
          subst hx9
          have hk9 : k9 = (S 8216 7).toNatClampNeg := by omega
          subst hk9
          refine hV [9] 65 9 _ _ _ _ ?_
          refine ⟨fun _ => ?_, fun h => absurd ((z_brge hb9 (by omega) (by omega)).mpr (Nat.le_refl _)) h⟩
          refine ⟨fun (h2 : a9.2 < (nI 10)) => ?_, fun (h2 : ¬ (a9.2 < (nI 10))) => ?_⟩
          · exact ⟨(by first | rfl | exact z_nb _), z_pb hpo ((congrArg (Sum.elim _ _) ha9).trans ((if_pos h2).trans rfl)) (rfl) (rfl)⟩
          · refine ⟨(show z_le (S 49201 x1.toNatClampNeg) 8 by assumption), (show vp_in x1 6 by assumption), ?_⟩
            refine z_brn (fun (h3 : (f_X3_isGap S P x1 a9.1 x3) = true) => ?_) (fun (h3 : (f_X3_isGap S P x1 a9.1 x3) = false) => ?_)
            · exact ⟨(by first | rfl | exact z_nb _), z_pb hpo ((congrArg (Sum.elim _ _) ha9).trans ((if_neg h2).trans ((if_pos h3).trans rfl))) (rfl) (rfl)⟩
            · exact ⟨(by first | rfl | exact z_nb _), z_pb hpo ((congrArg (Sum.elim _ _) ha9).trans ((if_neg h2).trans ((if_neg (z_nt h3)).trans rfl))) (rfl) (rfl)⟩
        | succ j ih =>
          intro k9 x900 a9 hk9 hx9 ha9
          subst hx9
          have hk9 : k9 < (S 8216 7).toNatClampNeg := by omega
          refine hV [9] 65 9 _ _ _ _ ?_
          refine ⟨fun h => absurd ((z_brge hb9 (by omega) (by omega)).mp h) (by omega), fun _ => ?_⟩
          refine ⟨(show vp_in (nI k9) 60 by exact vp_in_nI (by omega) (by omega)), ?_⟩
          refine ⟨fun (h4 : ¬ ((S 41441 ((nI k9).toNatClampNeg)) = x1)) => ?_, fun (h4 : (S 41441 ((nI k9).toNatClampNeg)) = x1) => ?_⟩
          · exact hW [0, 1, 2, 3, 4, 5, 6] _ _ _ _ _ (ih (k9 + 1) _ (a9.1, a9.2) (by omega) (nI_add k9 1) ((z_fx_s ha9).trans ((if_neg h4).trans rfl)))
          · refine ⟨(show vp_in (nI k9) 60 by exact vp_in_nI (by omega) (by omega)), ?_⟩
            refine ⟨fun (h5 : ¬ ((S 43489 ((nI k9).toNatClampNeg)) = x2)) => ?_, fun (h5 : (S 43489 ((nI k9).toNatClampNeg)) = x2) => ?_⟩
            · exact hW [0, 1, 2, 3, 4, 5, 6] _ _ _ _ _ (ih (k9 + 1) _ (a9.1, a9.2) (by omega) (nI_add k9 1) ((z_fx_s ha9).trans ((if_pos h4).trans ((if_neg h5).trans rfl))))
            · refine ⟨(show vp_in (nI k9) 60 by exact vp_in_nI (by omega) (by omega)), ?_⟩
              refine ⟨(show z_le (S 49201 x1.toNatClampNeg) 8 by assumption), (show vp_in x1 6 by assumption), ?_⟩
              refine z_br (fun (h6 : (f_X3_isGap S P x1 a9.1 (S 45537 ((nI k9).toNatClampNeg))) = false) => ?_) (fun (h6 : (f_X3_isGap S P x1 a9.1 (S 45537 ((nI k9).toNatClampNeg))) = true) => ?_)
              · refine ⟨(show vp_in (nI k9) 60 by exact vp_in_nI (by omega) (by omega)), ?_⟩
                refine ⟨(show vp_in (nI k9) 60 by exact vp_in_nI (by omega) (by omega)), ?_⟩
                exact hW [0, 1, 2, 3, 4, 5, 6] _ _ _ _ _ (ih (k9 + 1) _ (S 45537 ((nI k9).toNatClampNeg), a9.2 + (S 47585 ((nI k9).toNatClampNeg))) (by omega) (nI_add k9 1) ((z_fx_s ha9).trans ((if_pos h4).trans ((if_pos h5).trans ((if_neg (z_nt h6)).trans rfl)))))
              · have hM := (z_fx_s ha9).trans ((if_pos h4).trans ((if_pos h5).trans ((if_pos h6).trans rfl)))
                have hM := z_fx_r hM (show _ ≤ (S 8216 7).toNatClampNeg by omega)
                exact ⟨(by first | rfl | exact z_nb _), z_pb hpo ((congrArg (Sum.elim _ _) hM).trans rfl) (rfl) (rfl)⟩
      exact hW [0, 1, 2, 3, 4, 5, 6] _ _ _ _ _ (hL9 (S 8216 7).toNatClampNeg 0 _ (nI 0, nI 0) (Nat.zero_add _) rfl rfl)
    · exact h.elim
def f_X0_isAct (S : z_MI) (P : z_ML) (x1 : Int32) : Bool :=
  if x1 < 0 then
    false
  else
    if (S 10240 8) ≤ x1 then
      false
    else
      true
def sp_X0_isAct : z_SP := fun as S P k => match as with
  | [.int x1] => k (some (.int (z_b (f_X0_isAct S P x1)))) S P
  | _ => False
def G_X0_isAct : z_G := ([(0, .iload_n 1, 1, 0), (1, .ifCond .lt 15, 4, 16), (4, .iload_n 1, 5, 0), (5, .aload_n 0, 6, 0), (6, .getfield 37, 9, 0), (9, .if_icmp .ge 7, 12, 16), (12, .iconst 1, 13, 0), (13, .goto 4, 16, 17), (16, .iconst 0, 17, 0), (17, .ireturn, 18, 0)], [(37, 10240, 8, none)], [], [], [], [], [], some .boolean)
set_option maxRecDepth 20000 in
set_option maxHeartbeats 4000000 in
theorem ct_X0_isAct (l : Launch) : z_CT l yX0_isAct cX0_isAct 2 (some .boolean) (z_rc 10240 sp_X0_isAct) 0 := by
  refine z_CT_of G_X0_isAct (by decide) (by decide +kernel) (z_pok_of ft_X0 ci_X0 cL_X0_L fo_X0 co_X0 lo_X0 (by decide +kernel)) rfl rfl ?_ ?_ ?_
  · intro as S P Po h0
    obtain ⟨as, rfl, h⟩ := z_rc_of h0
    unfold sp_X0_isAct at h
    split at h
    · exact Nat.le_of_ble_eq_true rfl
    · exact h.elim
  · exact fun _ h => absurd h List.not_mem_nil
  · intro as S P Po h0 V hV hW
    obtain ⟨as, rfl, h⟩ := z_rc_of h0
    unfold sp_X0_isAct at h
    split at h
    · rename_i x1
      have hpo := h
      refine hV [] 15 0 _ _ _ _ ?_
      refine ⟨fun (h1 : x1 < 0) => ?_, fun (h1 : ¬ (x1 < 0)) => ?_⟩
      · exact ⟨(by first | rfl | exact z_nb _), z_pb hpo ((if_pos h1).trans rfl) (rfl) (rfl)⟩
      · refine ⟨fun (h2 : (S 10240 8) ≤ x1) => ?_, fun (h2 : ¬ ((S 10240 8) ≤ x1)) => ?_⟩
        · exact ⟨(by first | rfl | exact z_nb _), z_pb hpo ((if_neg h1).trans ((if_pos h2).trans rfl)) (rfl) (rfl)⟩
        · exact ⟨(by first | rfl | exact z_nb _), z_pb hpo ((if_neg h1).trans ((if_neg h2).trans rfl)) (rfl) (rfl)⟩
    · exact h.elim
def f_X0_add (S : z_MI) (P : z_ML) (x1 : Int32) (x2 : Int32) (x3 : Int32) (x4 : Int32) (x5 : Int32) : Int32 :=
  S 10240 8
def u_X0_add (S : z_MI) (P : z_ML) (x1 : Int32) (x2 : Int32) (x3 : Int32) (x4 : Int32) (x5 : Int32) : z_MI :=
  va_up (va_up (va_up (va_up (va_up (va_up (va_up S 55617 (upd (S 55617) ((S 10240 8).toNatClampNeg) x1)) 57665 (upd ((va_up S 55617 (upd (S 55617) ((S 10240 8).toNatClampNeg) x1)) 57665) ((S 10240 8).toNatClampNeg) x2)) 59713 (upd ((va_up (va_up S 55617 (upd (S 55617) ((S 10240 8).toNatClampNeg) x1)) 57665 (upd ((va_up S 55617 (upd (S 55617) ((S 10240 8).toNatClampNeg) x1)) 57665) ((S 10240 8).toNatClampNeg) x2)) 59713) ((S 10240 8).toNatClampNeg) x3)) 61761 (upd ((va_up (va_up (va_up S 55617 (upd (S 55617) ((S 10240 8).toNatClampNeg) x1)) 57665 (upd ((va_up S 55617 (upd (S 55617) ((S 10240 8).toNatClampNeg) x1)) 57665) ((S 10240 8).toNatClampNeg) x2)) 59713 (upd ((va_up (va_up S 55617 (upd (S 55617) ((S 10240 8).toNatClampNeg) x1)) 57665 (upd ((va_up S 55617 (upd (S 55617) ((S 10240 8).toNatClampNeg) x1)) 57665) ((S 10240 8).toNatClampNeg) x2)) 59713) ((S 10240 8).toNatClampNeg) x3)) 61761) ((S 10240 8).toNatClampNeg) x4)) 63809 (upd ((va_up (va_up (va_up (va_up S 55617 (upd (S 55617) ((S 10240 8).toNatClampNeg) x1)) 57665 (upd ((va_up S 55617 (upd (S 55617) ((S 10240 8).toNatClampNeg) x1)) 57665) ((S 10240 8).toNatClampNeg) x2)) 59713 (upd ((va_up (va_up S 55617 (upd (S 55617) ((S 10240 8).toNatClampNeg) x1)) 57665 (upd ((va_up S 55617 (upd (S 55617) ((S 10240 8).toNatClampNeg) x1)) 57665) ((S 10240 8).toNatClampNeg) x2)) 59713) ((S 10240 8).toNatClampNeg) x3)) 61761 (upd ((va_up (va_up (va_up S 55617 (upd (S 55617) ((S 10240 8).toNatClampNeg) x1)) 57665 (upd ((va_up S 55617 (upd (S 55617) ((S 10240 8).toNatClampNeg) x1)) 57665) ((S 10240 8).toNatClampNeg) x2)) 59713 (upd ((va_up (va_up S 55617 (upd (S 55617) ((S 10240 8).toNatClampNeg) x1)) 57665 (upd ((va_up S 55617 (upd (S 55617) ((S 10240 8).toNatClampNeg) x1)) 57665) ((S 10240 8).toNatClampNeg) x2)) 59713) ((S 10240 8).toNatClampNeg) x3)) 61761) ((S 10240 8).toNatClampNeg) x4)) 63809) ((S 10240 8).toNatClampNeg) x5)) 65857 (upd ((va_up (va_up (va_up (va_up (va_up S 55617 (upd (S 55617) ((S 10240 8).toNatClampNeg) x1)) 57665 (upd ((va_up S 55617 (upd (S 55617) ((S 10240 8).toNatClampNeg) x1)) 57665) ((S 10240 8).toNatClampNeg) x2)) 59713 (upd ((va_up (va_up S 55617 (upd (S 55617) ((S 10240 8).toNatClampNeg) x1)) 57665 (upd ((va_up S 55617 (upd (S 55617) ((S 10240 8).toNatClampNeg) x1)) 57665) ((S 10240 8).toNatClampNeg) x2)) 59713) ((S 10240 8).toNatClampNeg) x3)) 61761 (upd ((va_up (va_up (va_up S 55617 (upd (S 55617) ((S 10240 8).toNatClampNeg) x1)) 57665 (upd ((va_up S 55617 (upd (S 55617) ((S 10240 8).toNatClampNeg) x1)) 57665) ((S 10240 8).toNatClampNeg) x2)) 59713 (upd ((va_up (va_up S 55617 (upd (S 55617) ((S 10240 8).toNatClampNeg) x1)) 57665 (upd ((va_up S 55617 (upd (S 55617) ((S 10240 8).toNatClampNeg) x1)) 57665) ((S 10240 8).toNatClampNeg) x2)) 59713) ((S 10240 8).toNatClampNeg) x3)) 61761) ((S 10240 8).toNatClampNeg) x4)) 63809 (upd ((va_up (va_up (va_up (va_up S 55617 (upd (S 55617) ((S 10240 8).toNatClampNeg) x1)) 57665 (upd ((va_up S 55617 (upd (S 55617) ((S 10240 8).toNatClampNeg) x1)) 57665) ((S 10240 8).toNatClampNeg) x2)) 59713 (upd ((va_up (va_up S 55617 (upd (S 55617) ((S 10240 8).toNatClampNeg) x1)) 57665 (upd ((va_up S 55617 (upd (S 55617) ((S 10240 8).toNatClampNeg) x1)) 57665) ((S 10240 8).toNatClampNeg) x2)) 59713) ((S 10240 8).toNatClampNeg) x3)) 61761 (upd ((va_up (va_up (va_up S 55617 (upd (S 55617) ((S 10240 8).toNatClampNeg) x1)) 57665 (upd ((va_up S 55617 (upd (S 55617) ((S 10240 8).toNatClampNeg) x1)) 57665) ((S 10240 8).toNatClampNeg) x2)) 59713 (upd ((va_up (va_up S 55617 (upd (S 55617) ((S 10240 8).toNatClampNeg) x1)) 57665 (upd ((va_up S 55617 (upd (S 55617) ((S 10240 8).toNatClampNeg) x1)) 57665) ((S 10240 8).toNatClampNeg) x2)) 59713) ((S 10240 8).toNatClampNeg) x3)) 61761) ((S 10240 8).toNatClampNeg) x4)) 63809) ((S 10240 8).toNatClampNeg) x5)) 65857) ((S 10240 8).toNatClampNeg) (-1))) 10240 (upd ((va_up (va_up (va_up (va_up (va_up (va_up S 55617 (upd (S 55617) ((S 10240 8).toNatClampNeg) x1)) 57665 (upd ((va_up S 55617 (upd (S 55617) ((S 10240 8).toNatClampNeg) x1)) 57665) ((S 10240 8).toNatClampNeg) x2)) 59713 (upd ((va_up (va_up S 55617 (upd (S 55617) ((S 10240 8).toNatClampNeg) x1)) 57665 (upd ((va_up S 55617 (upd (S 55617) ((S 10240 8).toNatClampNeg) x1)) 57665) ((S 10240 8).toNatClampNeg) x2)) 59713) ((S 10240 8).toNatClampNeg) x3)) 61761 (upd ((va_up (va_up (va_up S 55617 (upd (S 55617) ((S 10240 8).toNatClampNeg) x1)) 57665 (upd ((va_up S 55617 (upd (S 55617) ((S 10240 8).toNatClampNeg) x1)) 57665) ((S 10240 8).toNatClampNeg) x2)) 59713 (upd ((va_up (va_up S 55617 (upd (S 55617) ((S 10240 8).toNatClampNeg) x1)) 57665 (upd ((va_up S 55617 (upd (S 55617) ((S 10240 8).toNatClampNeg) x1)) 57665) ((S 10240 8).toNatClampNeg) x2)) 59713) ((S 10240 8).toNatClampNeg) x3)) 61761) ((S 10240 8).toNatClampNeg) x4)) 63809 (upd ((va_up (va_up (va_up (va_up S 55617 (upd (S 55617) ((S 10240 8).toNatClampNeg) x1)) 57665 (upd ((va_up S 55617 (upd (S 55617) ((S 10240 8).toNatClampNeg) x1)) 57665) ((S 10240 8).toNatClampNeg) x2)) 59713 (upd ((va_up (va_up S 55617 (upd (S 55617) ((S 10240 8).toNatClampNeg) x1)) 57665 (upd ((va_up S 55617 (upd (S 55617) ((S 10240 8).toNatClampNeg) x1)) 57665) ((S 10240 8).toNatClampNeg) x2)) 59713) ((S 10240 8).toNatClampNeg) x3)) 61761 (upd ((va_up (va_up (va_up S 55617 (upd (S 55617) ((S 10240 8).toNatClampNeg) x1)) 57665 (upd ((va_up S 55617 (upd (S 55617) ((S 10240 8).toNatClampNeg) x1)) 57665) ((S 10240 8).toNatClampNeg) x2)) 59713 (upd ((va_up (va_up S 55617 (upd (S 55617) ((S 10240 8).toNatClampNeg) x1)) 57665 (upd ((va_up S 55617 (upd (S 55617) ((S 10240 8).toNatClampNeg) x1)) 57665) ((S 10240 8).toNatClampNeg) x2)) 59713) ((S 10240 8).toNatClampNeg) x3)) 61761) ((S 10240 8).toNatClampNeg) x4)) 63809) ((S 10240 8).toNatClampNeg) x5)) 65857 (upd ((va_up (va_up (va_up (va_up (va_up S 55617 (upd (S 55617) ((S 10240 8).toNatClampNeg) x1)) 57665 (upd ((va_up S 55617 (upd (S 55617) ((S 10240 8).toNatClampNeg) x1)) 57665) ((S 10240 8).toNatClampNeg) x2)) 59713 (upd ((va_up (va_up S 55617 (upd (S 55617) ((S 10240 8).toNatClampNeg) x1)) 57665 (upd ((va_up S 55617 (upd (S 55617) ((S 10240 8).toNatClampNeg) x1)) 57665) ((S 10240 8).toNatClampNeg) x2)) 59713) ((S 10240 8).toNatClampNeg) x3)) 61761 (upd ((va_up (va_up (va_up S 55617 (upd (S 55617) ((S 10240 8).toNatClampNeg) x1)) 57665 (upd ((va_up S 55617 (upd (S 55617) ((S 10240 8).toNatClampNeg) x1)) 57665) ((S 10240 8).toNatClampNeg) x2)) 59713 (upd ((va_up (va_up S 55617 (upd (S 55617) ((S 10240 8).toNatClampNeg) x1)) 57665 (upd ((va_up S 55617 (upd (S 55617) ((S 10240 8).toNatClampNeg) x1)) 57665) ((S 10240 8).toNatClampNeg) x2)) 59713) ((S 10240 8).toNatClampNeg) x3)) 61761) ((S 10240 8).toNatClampNeg) x4)) 63809 (upd ((va_up (va_up (va_up (va_up S 55617 (upd (S 55617) ((S 10240 8).toNatClampNeg) x1)) 57665 (upd ((va_up S 55617 (upd (S 55617) ((S 10240 8).toNatClampNeg) x1)) 57665) ((S 10240 8).toNatClampNeg) x2)) 59713 (upd ((va_up (va_up S 55617 (upd (S 55617) ((S 10240 8).toNatClampNeg) x1)) 57665 (upd ((va_up S 55617 (upd (S 55617) ((S 10240 8).toNatClampNeg) x1)) 57665) ((S 10240 8).toNatClampNeg) x2)) 59713) ((S 10240 8).toNatClampNeg) x3)) 61761 (upd ((va_up (va_up (va_up S 55617 (upd (S 55617) ((S 10240 8).toNatClampNeg) x1)) 57665 (upd ((va_up S 55617 (upd (S 55617) ((S 10240 8).toNatClampNeg) x1)) 57665) ((S 10240 8).toNatClampNeg) x2)) 59713 (upd ((va_up (va_up S 55617 (upd (S 55617) ((S 10240 8).toNatClampNeg) x1)) 57665 (upd ((va_up S 55617 (upd (S 55617) ((S 10240 8).toNatClampNeg) x1)) 57665) ((S 10240 8).toNatClampNeg) x2)) 59713) ((S 10240 8).toNatClampNeg) x3)) 61761) ((S 10240 8).toNatClampNeg) x4)) 63809) ((S 10240 8).toNatClampNeg) x5)) 65857) ((S 10240 8).toNatClampNeg) (-1))) 10240) 8 ((S 10240 8) + (nI 1)))
def sp_X0_add : z_SP := fun as S P k => match as with
  | [.int x1, .int x2, .int x3, .int x4, .int x5] => vp_in (S 10240 8) 40 ∧ k (some (.int (f_X0_add S P x1 x2 x3 x4 x5))) (u_X0_add S P x1 x2 x3 x4 x5) P
  | _ => False
def G_X0_add : z_G := ([(0, .aload_n 0, 1, 0), (1, .getfield 37, 4, 0), (4, .istore 6, 6, 0), (6, .aload_n 0, 7, 0), (7, .getfield 9, 10, 0), (10, .iload 6, 12, 0), (12, .iload_n 1, 13, 0), (13, .iastore, 14, 0), (14, .aload_n 0, 15, 0), (15, .getfield 15, 18, 0), (18, .iload 6, 20, 0), (20, .iload_n 2, 21, 0), (21, .iastore, 22, 0), (22, .aload_n 0, 23, 0), (23, .getfield 18, 26, 0), (26, .iload 6, 28, 0), (28, .iload_n 3, 29, 0), (29, .iastore, 30, 0), (30, .aload_n 0, 31, 0), (31, .getfield 21, 34, 0), (34, .iload 6, 36, 0), (36, .iload 4, 38, 0), (38, .iastore, 39, 0), (39, .aload_n 0, 40, 0), (40, .getfield 24, 43, 0), (43, .iload 6, 45, 0), (45, .iload 5, 47, 0), (47, .iastore, 48, 0), (48, .aload_n 0, 49, 0), (49, .getfield 27, 52, 0), (52, .iload 6, 54, 0), (54, .iconst (-1), 55, 0), (55, .iastore, 56, 0), (56, .aload_n 0, 57, 0), (57, .dup, 58, 0), (58, .getfield 37, 61, 0), (61, .iconst 1, 62, 0), (62, .iadd, 63, 0), (63, .putfield 37, 66, 0), (66, .iload 6, 68, 0), (68, .ireturn, 69, 0)], [(9, 10240, 0, some 55617), (15, 10240, 1, some 57665), (18, 10240, 2, some 59713), (21, 10240, 3, some 61761), (24, 10240, 4, some 63809), (27, 10240, 5, some 65857), (37, 10240, 8, none)], [], [], [], [], [], some .int)
set_option maxRecDepth 20000 in
set_option maxHeartbeats 4000000 in
theorem ct_X0_add (l : Launch) : z_CT l yX0_add cX0_add 7 (some .int) (z_rc 10240 sp_X0_add) 0 := by
  refine z_CT_of G_X0_add (by decide) (by decide +kernel) (z_pok_of ft_X0 ci_X0 cL_X0_L fo_X0 co_X0 lo_X0 (by decide +kernel)) rfl rfl ?_ ?_ ?_
  · intro as S P Po h0
    obtain ⟨as, rfl, h⟩ := z_rc_of h0
    unfold sp_X0_add at h
    split at h
    · exact Nat.le_of_ble_eq_true rfl
    · exact h.elim
  · exact fun _ h => absurd h List.not_mem_nil
  · intro as S P Po h0 V hV hW
    obtain ⟨as, rfl, h⟩ := z_rc_of h0
    unfold sp_X0_add at h
    split at h
    · rename_i x1 x2 x3 x4 x5
      obtain ⟨hp0, hpo⟩ := h
      refine hV [] 46 0 _ _ _ _ ?_
      refine ⟨(show vp_in (S 10240 8) 40 by assumption), ?_⟩
      refine ⟨(show vp_in (S 10240 8) 40 by assumption), ?_⟩
      refine ⟨(show vp_in (S 10240 8) 40 by assumption), ?_⟩
      refine ⟨(show vp_in (S 10240 8) 40 by assumption), ?_⟩
      refine ⟨(show vp_in (S 10240 8) 40 by assumption), ?_⟩
      refine ⟨(show vp_in (S 10240 8) 40 by assumption), ?_⟩
      exact z_pi hpo (rfl) (rfl) (rfl)
    · exact h.elim
def f_X0_counts (S : z_MI) (P : z_ML) (x1 : Int32) (x2 : Int32) : Bool :=
  if (S 67906 x1.toNatClampNeg) = 0 then
    if x2 < (S 55617 x1.toNatClampNeg) then
      false
    else
      if (S 65857 x1.toNatClampNeg) = (-1) then
        true
      else
        if (S 65857 x1.toNatClampNeg) ≤ x2 then
          false
        else
          true
  else
    false
def sp_X0_counts : z_SP := fun as S P k => match as with
  | [.int x1, .int x2] => vp_in x1 40 ∧ k (some (.int (z_b (f_X0_counts S P x1 x2)))) S P
  | _ => False
def G_X0_counts : z_G := ([(0, .aload_n 0, 1, 0), (1, .getfield 30, 4, 0), (4, .iload_n 1, 5, 0), (5, .baload, 6, 0), (6, .ifCond .ne 37, 9, 43), (9, .aload_n 0, 10, 0), (10, .getfield 9, 13, 0), (13, .iload_n 1, 14, 0), (14, .iaload, 15, 0), (15, .iload_n 2, 16, 0), (16, .if_icmp .gt 27, 19, 43), (19, .aload_n 0, 20, 0), (20, .getfield 27, 23, 0), (23, .iload_n 1, 24, 0), (24, .iaload, 25, 0), (25, .iconst (-1), 26, 0), (26, .if_icmp .eq 13, 29, 39), (29, .aload_n 0, 30, 0), (30, .getfield 27, 33, 0), (33, .iload_n 1, 34, 0), (34, .iaload, 35, 0), (35, .iload_n 2, 36, 0), (36, .if_icmp .le 7, 39, 43), (39, .iconst 1, 40, 0), (40, .goto 4, 43, 44), (43, .iconst 0, 44, 0), (44, .ireturn, 45, 0)], [(9, 10240, 0, some 55617), (27, 10240, 5, some 65857), (30, 10240, 6, some 67906)], [], [], [], [], [], some .boolean)
set_option maxRecDepth 20000 in
set_option maxHeartbeats 4000000 in
theorem ct_X0_counts (l : Launch) : z_CT l yX0_counts cX0_counts 3 (some .boolean) (z_rc 10240 sp_X0_counts) 0 := by
  refine z_CT_of G_X0_counts (by decide) (by decide +kernel) (z_pok_of ft_X0 ci_X0 cL_X0_L fo_X0 co_X0 lo_X0 (by decide +kernel)) rfl rfl ?_ ?_ ?_
  · intro as S P Po h0
    obtain ⟨as, rfl, h⟩ := z_rc_of h0
    unfold sp_X0_counts at h
    split at h
    · exact Nat.le_of_ble_eq_true rfl
    · exact h.elim
  · exact fun _ h => absurd h List.not_mem_nil
  · intro as S P Po h0 V hV hW
    obtain ⟨as, rfl, h⟩ := z_rc_of h0
    unfold sp_X0_counts at h
    split at h
    · rename_i x1 x2
      obtain ⟨hp0, hpo⟩ := h
      refine hV [] 32 0 _ _ _ _ ?_
      refine ⟨(show vp_in x1 40 by assumption), ?_⟩
      refine ⟨fun (h1 : ¬ ((S 67906 x1.toNatClampNeg) = 0)) => ?_, fun (h1 : (S 67906 x1.toNatClampNeg) = 0) => ?_⟩
      · exact ⟨(by first | rfl | exact z_nb _), z_pb hpo ((if_neg h1).trans rfl) (rfl) (rfl)⟩
      · refine ⟨(show vp_in x1 40 by assumption), ?_⟩
        refine ⟨fun (h2 : x2 < (S 55617 x1.toNatClampNeg)) => ?_, fun (h2 : ¬ (x2 < (S 55617 x1.toNatClampNeg))) => ?_⟩
        · exact ⟨(by first | rfl | exact z_nb _), z_pb hpo ((if_pos h1).trans ((if_pos h2).trans rfl)) (rfl) (rfl)⟩
        · refine ⟨(show vp_in x1 40 by assumption), ?_⟩
          refine ⟨fun (h3 : (S 65857 x1.toNatClampNeg) = (-1)) => ?_, fun (h3 : ¬ ((S 65857 x1.toNatClampNeg) = (-1))) => ?_⟩
          · exact ⟨(by first | rfl | exact z_nb _), z_pb hpo ((if_pos h1).trans ((if_neg h2).trans ((if_pos h3).trans rfl))) (rfl) (rfl)⟩
          · refine ⟨(show vp_in x1 40 by assumption), ?_⟩
            refine ⟨fun (h4 : (S 65857 x1.toNatClampNeg) ≤ x2) => ?_, fun (h4 : ¬ ((S 65857 x1.toNatClampNeg) ≤ x2)) => ?_⟩
            · exact ⟨(by first | rfl | exact z_nb _), z_pb hpo ((if_pos h1).trans ((if_neg h2).trans ((if_neg h3).trans ((if_pos h4).trans rfl)))) (rfl) (rfl)⟩
            · exact ⟨(by first | rfl | exact z_nb _), z_pb hpo ((if_pos h1).trans ((if_neg h2).trans ((if_neg h3).trans ((if_neg h4).trans rfl)))) (rfl) (rfl)⟩
    · exact h.elim
def f_X0_takes (S : z_MI) (P : z_ML) (x1 : Int32) (x2 : Int32) (x3 : Int32) : Bool :=
  if (S 61761 x1.toNatClampNeg) = 0 then
    if (f_X6_isIn S P (S 57665 x1.toNatClampNeg) x2) = true then
      if (f_X0_counts S P x1 x3) = true then
        true
      else
        false
    else
      false
  else
    if (S 61761 x1.toNatClampNeg) = (nI 1) then
      if (S 63809 x1.toNatClampNeg) < x3 then
        false
      else
        if (f_X6_isIn S P (S 57665 x1.toNatClampNeg) x2) = true then
          if (f_X0_counts S P x1 x3) = true then
            true
          else
            false
        else
          false
    else
      false
def sp_X0_takes : z_SP := fun as S P k => match as with
  | [.int x1, .int x2, .int x3] => vp_in x1 40 ∧ k (some (.int (z_b (f_X0_takes S P x1 x2 x3)))) S P
  | _ => False
def G_X0_takes : z_G := ([(0, .aload_n 0, 1, 0), (1, .getfield 21, 4, 0), (4, .iload_n 1, 5, 0), (5, .iaload, 6, 0), (6, .ifCond .eq 23, 9, 29), (9, .aload_n 0, 10, 0), (10, .getfield 21, 13, 0), (13, .iload_n 1, 14, 0), (14, .iaload, 15, 0), (15, .iconst 1, 16, 0), (16, .if_icmp .ne 17, 19, 33), (19, .aload_n 0, 20, 0), (20, .getfield 24, 23, 0), (23, .iload_n 1, 24, 0), (24, .iaload, 25, 0), (25, .iload_n 3, 26, 0), (26, .if_icmp .lt 7, 29, 33), (29, .iconst 1, 30, 0), (30, .goto 4, 33, 34), (33, .iconst 0, 34, 0), (34, .istore 4, 36, 0), (36, .iload 4, 38, 0), (38, .ifCond .eq 29, 41, 67), (41, .aload_n 0, 42, 0), (42, .getfield 15, 45, 0), (45, .iload_n 1, 46, 0), (46, .iaload, 47, 0), (47, .iload_n 2, 48, 0), (48, .invokestatic 41, 51, 0), (51, .ifCond .eq 16, 54, 67), (54, .aload_n 0, 55, 0), (55, .iload_n 1, 56, 0), (56, .iload_n 3, 57, 0), (57, .invokevirtual 45, 60, 0), (60, .ifCond .eq 7, 63, 67), (63, .iconst 1, 64, 0), (64, .goto 4, 67, 68), (67, .iconst 0, 68, 0), (68, .ireturn, 69, 0)], [(15, 10240, 1, some 57665), (21, 10240, 3, some 61761), (24, 10240, 4, some 63809)], [(100041, 2, sp_X6_isIn), (45, 3, (z_rc 10240 sp_X0_counts))], [], [], [], [], some .boolean)
set_option maxRecDepth 20000 in
set_option maxHeartbeats 4000000 in
theorem ct_X0_takes (l : Launch) : z_CT l yX0_takes cX0_takes 5 (some .boolean) (z_rc 10240 sp_X0_takes) 1 := by
  refine z_CT_of G_X0_takes (by decide) (by decide +kernel) (z_pok_of ft_X0 ci_X0 cL_X0_L fo_X0 co_X0 lo_X0 (by decide +kernel)) rfl rfl ?_ ?_ ?_
  · intro as S P Po h0
    obtain ⟨as, rfl, h⟩ := z_rc_of h0
    unfold sp_X0_takes at h
    split at h
    · exact Nat.le_of_ble_eq_true rfl
    · exact h.elim
  · exact List.forall_mem_cons.mpr ⟨z_coN (host := "Songlinebench") (ct_X6_isIn l) kb_X6_isIn kn_X0_41 (by decide) (by decide), List.forall_mem_cons.mpr ⟨z_coV (ct_X0_counts l) kb_X0_counts kv_X0_45 ko_X0 (by decide) (by decide) (by decide), fun _ h => absurd h List.not_mem_nil⟩⟩
  · intro as S P Po h0 V hV hW
    obtain ⟨as, rfl, h⟩ := z_rc_of h0
    unfold sp_X0_takes at h
    split at h
    · rename_i x1 x2 x3
      obtain ⟨hp0, hpo⟩ := h
      refine hV [] 44 0 _ _ _ _ ?_
      refine ⟨(show vp_in x1 40 by assumption), ?_⟩
      refine ⟨fun (h1 : (S 61761 x1.toNatClampNeg) = 0) => ?_, fun (h1 : ¬ ((S 61761 x1.toNatClampNeg) = 0)) => ?_⟩
      · refine ⟨fun h => absurd h (by decide), fun _ => ?_⟩
        refine ⟨(show vp_in x1 40 by assumption), ?_⟩
        refine z_br (fun (h2 : (f_X6_isIn S P (S 57665 x1.toNatClampNeg) x2) = false) => ?_) (fun (h2 : (f_X6_isIn S P (S 57665 x1.toNatClampNeg) x2) = true) => ?_)
        · exact ⟨(by first | rfl | exact z_nb _), z_pb hpo ((if_pos h1).trans ((if_neg (z_nt h2)).trans rfl)) (rfl) (rfl)⟩
        · refine ⟨(show vp_in x1 40 by assumption), ?_⟩
          refine z_br (fun (h3 : (f_X0_counts S P x1 x3) = false) => ?_) (fun (h3 : (f_X0_counts S P x1 x3) = true) => ?_)
          · exact ⟨(by first | rfl | exact z_nb _), z_pb hpo ((if_pos h1).trans ((if_pos h2).trans ((if_neg (z_nt h3)).trans rfl))) (rfl) (rfl)⟩
          · exact ⟨(by first | rfl | exact z_nb _), z_pb hpo ((if_pos h1).trans ((if_pos h2).trans ((if_pos h3).trans rfl))) (rfl) (rfl)⟩
      · refine ⟨(show vp_in x1 40 by assumption), ?_⟩
        refine ⟨fun (h4 : ¬ ((S 61761 x1.toNatClampNeg) = (nI 1))) => ?_, fun (h4 : (S 61761 x1.toNatClampNeg) = (nI 1)) => ?_⟩
        · refine ⟨fun _ => ?_, fun h => absurd (by decide) h⟩
          exact ⟨(by first | rfl | exact z_nb _), z_pb hpo ((if_neg h1).trans ((if_neg h4).trans rfl)) (rfl) (rfl)⟩
        · refine ⟨(show vp_in x1 40 by assumption), ?_⟩
          refine ⟨fun (h5 : (S 63809 x1.toNatClampNeg) < x3) => ?_, fun (h5 : ¬ ((S 63809 x1.toNatClampNeg) < x3)) => ?_⟩
          · refine ⟨fun _ => ?_, fun h => absurd (by decide) h⟩
            exact ⟨(by first | rfl | exact z_nb _), z_pb hpo ((if_neg h1).trans ((if_pos h4).trans ((if_pos h5).trans rfl))) (rfl) (rfl)⟩
          · refine ⟨fun h => absurd h (by decide), fun _ => ?_⟩
            refine ⟨(show vp_in x1 40 by assumption), ?_⟩
            refine z_br (fun (h6 : (f_X6_isIn S P (S 57665 x1.toNatClampNeg) x2) = false) => ?_) (fun (h6 : (f_X6_isIn S P (S 57665 x1.toNatClampNeg) x2) = true) => ?_)
            · exact ⟨(by first | rfl | exact z_nb _), z_pb hpo ((if_neg h1).trans ((if_pos h4).trans ((if_neg h5).trans ((if_neg (z_nt h6)).trans rfl)))) (rfl) (rfl)⟩
            · refine ⟨(show vp_in x1 40 by assumption), ?_⟩
              refine z_br (fun (h7 : (f_X0_counts S P x1 x3) = false) => ?_) (fun (h7 : (f_X0_counts S P x1 x3) = true) => ?_)
              · exact ⟨(by first | rfl | exact z_nb _), z_pb hpo ((if_neg h1).trans ((if_pos h4).trans ((if_neg h5).trans ((if_pos h6).trans ((if_neg (z_nt h7)).trans rfl))))) (rfl) (rfl)⟩
              · exact ⟨(by first | rfl | exact z_nb _), z_pb hpo ((if_neg h1).trans ((if_pos h4).trans ((if_neg h5).trans ((if_pos h6).trans ((if_pos h7).trans rfl))))) (rfl) (rfl)⟩
    · exact h.elim
def l_X0_leftAt_6 (S : z_MI) (P : z_ML) (x1 : Int32) (x2 : Int32) (k6 : Nat) (a6 : Int32) : Int32 :=
  if (f_X0_takes S P (nI k6) x1 x2) = true then
    a6 &&& ((S 59713 ((nI k6).toNatClampNeg)) ^^^ (-1))
  else
    a6
def f_X0_leftAt (S : z_MI) (P : z_ML) (x1 : Int32) (x2 : Int32) : Int32 :=
  (z_fo (fun k6 a6 => l_X0_leftAt_6 S P x1 x2 k6 a6) (nI 31) (S 10240 8).toNatClampNeg)
def sp_X0_leftAt : z_SP := fun as S P k => match as with
  | [.int x1, .int x2] => z_le (S 10240 8) 40 ∧ k (some (.int (f_X0_leftAt S P x1 x2))) S P
  | _ => False
def G_X0_leftAt : z_G := ([(0, .bipush 31, 2, 0), (2, .istore_n 3, 3, 0), (3, .iconst 0, 4, 0), (4, .istore 4, 6, 0), (6, .iload 4, 8, 0), (8, .aload_n 0, 9, 0), (9, .getfield 37, 12, 0), (12, .if_icmp .ge 32, 15, 44), (15, .aload_n 0, 16, 0), (16, .iload 4, 18, 0), (18, .iload_n 1, 19, 0), (19, .iload_n 2, 20, 0), (20, .invokevirtual 48, 23, 0), (23, .ifCond .eq 15, 26, 38), (26, .iload_n 3, 27, 0), (27, .aload_n 0, 28, 0), (28, .getfield 18, 31, 0), (31, .iload 4, 33, 0), (33, .iaload, 34, 0), (34, .iconst (-1), 35, 0), (35, .ixor, 36, 0), (36, .iand, 37, 0), (37, .istore_n 3, 38, 0), (38, .iinc 4 1, 41, 0), (41, .goto (-35), 44, 6), (44, .iload_n 3, 45, 0), (45, .ireturn, 46, 0)], [(18, 10240, 2, some 59713), (37, 10240, 8, none)], [(48, 4, (z_rc 10240 sp_X0_takes))], [], [], [], [], some .int)
set_option maxRecDepth 20000 in
set_option maxHeartbeats 4000000 in
theorem ct_X0_leftAt (l : Launch) : z_CT l yX0_leftAt cX0_leftAt 5 (some .int) (z_rc 10240 sp_X0_leftAt) 2 := by
  refine z_CT_of G_X0_leftAt (by decide) (by decide +kernel) (z_pok_of ft_X0 ci_X0 cL_X0_L fo_X0 co_X0 lo_X0 (by decide +kernel)) rfl rfl ?_ ?_ ?_
  · intro as S P Po h0
    obtain ⟨as, rfl, h⟩ := z_rc_of h0
    unfold sp_X0_leftAt at h
    split at h
    · exact Nat.le_of_ble_eq_true rfl
    · exact h.elim
  · exact List.forall_mem_cons.mpr ⟨z_coV (ct_X0_takes l) kb_X0_takes kv_X0_48 ko_X0 (by decide) (by decide) (by decide), fun _ h => absurd h List.not_mem_nil⟩
  · intro as S P Po h0 V hV hW
    obtain ⟨as, rfl, h⟩ := z_rc_of h0
    unfold sp_X0_leftAt at h
    split at h
    · rename_i x1 x2
      obtain ⟨hp0, hpo⟩ := h
      refine hV [6] 32 0 _ _ _ _ ?_
      obtain ⟨hb6, hN6⟩ := z_le_cl (show z_le (S 10240 8) 40 by assumption) (by decide)
      have hL6 : ∀ (j k6 : Nat) (x900 : Int32) (a6 : Int32), k6 + j = (S 10240 8).toNatClampNeg → x900 = nI k6 → a6 = z_fo (fun k6 a6 => l_X0_leftAt_6 S P x1 x2 k6 a6) (nI 31) k6 → V 6 [(0, .ref 10240), (1, .int x1), (2, .int x2), (3, .int a6), (4, .int x900)] [] S P := by
        intro j
        induction j with
        | zero =>
          intro k6 x900 a6 hk6 hx6 ha6
          subst hx6
          have hk9 : k6 = (S 10240 8).toNatClampNeg := by omega
          subst hk9
          subst ha6
          refine hV [6] 32 6 _ _ _ _ ?_
          refine ⟨fun _ => ?_, fun h => absurd ((z_brge hb6 (by omega) (by omega)).mpr (Nat.le_refl _)) h⟩
          exact z_pi hpo (rfl) (rfl) (rfl)
        | succ j ih =>
          intro k6 x900 a6 hk6 hx6 ha6
          subst hx6
          have hk9 : k6 < (S 10240 8).toNatClampNeg := by omega
          subst ha6
          refine hV [6] 32 6 _ _ _ _ ?_
          refine ⟨fun h => absurd ((z_brge hb6 (by omega) (by omega)).mp h) (by omega), fun _ => ?_⟩
          refine ⟨(show vp_in (nI k6) 40 by exact vp_in_nI (by omega) (by omega)), ?_⟩
          refine z_br (fun (h2 : (f_X0_takes S P (nI k6) x1 x2) = false) => ?_) (fun (h2 : (f_X0_takes S P (nI k6) x1 x2) = true) => ?_)
          · exact hW [0, 1, 2, 3, 4] _ _ _ _ _ (ih (k6 + 1) _ (z_fo (fun k6 a6 => l_X0_leftAt_6 S P x1 x2 k6 a6) (nI 31) k6) (by omega) (nI_add k6 1) (((if_neg (z_nt h2)).trans rfl).symm))
          · refine ⟨(show vp_in (nI k6) 40 by exact vp_in_nI (by omega) (by omega)), ?_⟩
            exact hW [0, 1, 2, 3, 4] _ _ _ _ _ (ih (k6 + 1) _ ((z_fo (fun k6 a6 => l_X0_leftAt_6 S P x1 x2 k6 a6) (nI 31) k6) &&& ((S 59713 ((nI k6).toNatClampNeg)) ^^^ (-1))) (by omega) (nI_add k6 1) (((if_pos h2).trans rfl).symm))
      exact hW [0, 1, 2, 3, 4] _ _ _ _ _ (hL6 (S 10240 8).toNatClampNeg 0 _ (nI 31) (Nat.zero_add _) rfl rfl)
    · exact h.elim
def l_X0_isTaken_3 (S : z_MI) (P : z_ML) (x1 : Int32) (x2 : Int32) (x3 : Int32) (k3 : Nat) (a3 : Unit) : (Unit) ⊕ (Bool) :=
  if (f_X6_isIn S P (S 59713 ((nI k3).toNatClampNeg)) x1) = true then
    if (f_X0_takes S P (nI k3) x2 x3) = true then
      .inr true
    else
      .inl ()
  else
    .inl ()
def f_X0_isTaken (S : z_MI) (P : z_ML) (x1 : Int32) (x2 : Int32) (x3 : Int32) : Bool :=
  Sum.elim (fun a3 =>
    false) (fun r => r) (z_fx (fun k3 a3 => l_X0_isTaken_3 S P x1 x2 x3 k3 a3) () (S 10240 8).toNatClampNeg)
def sp_X0_isTaken : z_SP := fun as S P k => match as with
  | [.int x1, .int x2, .int x3] => z_le (S 10240 8) 40 ∧ k (some (.int (z_b (f_X0_isTaken S P x1 x2 x3)))) S P
  | _ => False
def G_X0_isTaken : z_G := ([(0, .iconst 0, 1, 0), (1, .istore 4, 3, 0), (3, .iload 4, 5, 0), (5, .aload_n 0, 6, 0), (6, .getfield 37, 9, 0), (9, .if_icmp .ge 36, 12, 45), (12, .aload_n 0, 13, 0), (13, .getfield 18, 16, 0), (16, .iload 4, 18, 0), (18, .iaload, 19, 0), (19, .iload_n 1, 20, 0), (20, .invokestatic 41, 23, 0), (23, .ifCond .eq 16, 26, 39), (26, .aload_n 0, 27, 0), (27, .iload 4, 29, 0), (29, .iload_n 2, 30, 0), (30, .iload_n 3, 31, 0), (31, .invokevirtual 48, 34, 0), (34, .ifCond .eq 5, 37, 39), (37, .iconst 1, 38, 0), (38, .ireturn, 39, 0), (39, .iinc 4 1, 42, 0), (42, .goto (-39), 45, 3), (45, .iconst 0, 46, 0), (46, .ireturn, 47, 0)], [(18, 10240, 2, some 59713), (37, 10240, 8, none)], [(100041, 2, sp_X6_isIn), (48, 4, (z_rc 10240 sp_X0_takes))], [], [], [], [], some .boolean)
set_option maxRecDepth 20000 in
set_option maxHeartbeats 4000000 in
theorem ct_X0_isTaken (l : Launch) : z_CT l yX0_isTaken cX0_isTaken 5 (some .boolean) (z_rc 10240 sp_X0_isTaken) 2 := by
  refine z_CT_of G_X0_isTaken (by decide) (by decide +kernel) (z_pok_of ft_X0 ci_X0 cL_X0_L fo_X0 co_X0 lo_X0 (by decide +kernel)) rfl rfl ?_ ?_ ?_
  · intro as S P Po h0
    obtain ⟨as, rfl, h⟩ := z_rc_of h0
    unfold sp_X0_isTaken at h
    split at h
    · exact Nat.le_of_ble_eq_true rfl
    · exact h.elim
  · exact List.forall_mem_cons.mpr ⟨z_coN (host := "Songlinebench") (ct_X6_isIn l) kb_X6_isIn kn_X0_41 (by decide) (by decide), List.forall_mem_cons.mpr ⟨z_coV (ct_X0_takes l) kb_X0_takes kv_X0_48 ko_X0 (by decide) (by decide) (by decide), fun _ h => absurd h List.not_mem_nil⟩⟩
  · intro as S P Po h0 V hV hW
    obtain ⟨as, rfl, h⟩ := z_rc_of h0
    unfold sp_X0_isTaken at h
    split at h
    · rename_i x1 x2 x3
      obtain ⟨hp0, hpo⟩ := h
      refine hV [3] 30 0 _ _ _ _ ?_
      obtain ⟨hb3, hN3⟩ := z_le_cl (show z_le (S 10240 8) 40 by assumption) (by decide)
      have hL3 : ∀ (j k3 : Nat) (x900 : Int32) (a3 : Unit), k3 + j = (S 10240 8).toNatClampNeg → x900 = nI k3 → z_fx (fun k3 a3 => l_X0_isTaken_3 S P x1 x2 x3 k3 a3) () k3 = .inl a3 → V 3 [(0, .ref 10240), (1, .int x1), (2, .int x2), (3, .int x3), (4, .int x900)] [] S P := by
        intro j
        induction j with
        | zero =>
          intro k3 x900 a3 hk3 hx3 ha3
          subst hx3
          have hk9 : k3 = (S 10240 8).toNatClampNeg := by omega
          subst hk9
          refine hV [3] 30 3 _ _ _ _ ?_
          refine ⟨fun _ => ?_, fun h => absurd ((z_brge hb3 (by omega) (by omega)).mpr (Nat.le_refl _)) h⟩
          exact ⟨(by first | rfl | exact z_nb _), z_pb hpo ((congrArg (Sum.elim _ _) ha3).trans rfl) (rfl) (rfl)⟩
        | succ j ih =>
          intro k3 x900 a3 hk3 hx3 ha3
          subst hx3
          have hk9 : k3 < (S 10240 8).toNatClampNeg := by omega
          refine hV [3] 30 3 _ _ _ _ ?_
          refine ⟨fun h => absurd ((z_brge hb3 (by omega) (by omega)).mp h) (by omega), fun _ => ?_⟩
          refine ⟨(show vp_in (nI k3) 40 by exact vp_in_nI (by omega) (by omega)), ?_⟩
          refine z_br (fun (h2 : (f_X6_isIn S P (S 59713 ((nI k3).toNatClampNeg)) x1) = false) => ?_) (fun (h2 : (f_X6_isIn S P (S 59713 ((nI k3).toNatClampNeg)) x1) = true) => ?_)
          · exact hW [0, 1, 2, 3, 4] _ _ _ _ _ (ih (k3 + 1) _ () (by omega) (nI_add k3 1) ((z_fx_s ha3).trans ((if_neg (z_nt h2)).trans rfl)))
          · refine ⟨(show vp_in (nI k3) 40 by exact vp_in_nI (by omega) (by omega)), ?_⟩
            refine z_br (fun (h3 : (f_X0_takes S P (nI k3) x2 x3) = false) => ?_) (fun (h3 : (f_X0_takes S P (nI k3) x2 x3) = true) => ?_)
            · exact hW [0, 1, 2, 3, 4] _ _ _ _ _ (ih (k3 + 1) _ () (by omega) (nI_add k3 1) ((z_fx_s ha3).trans ((if_pos h2).trans ((if_neg (z_nt h3)).trans rfl))))
            · have hM := (z_fx_s ha3).trans ((if_pos h2).trans ((if_pos h3).trans rfl))
              have hM := z_fx_r hM (show _ ≤ (S 10240 8).toNatClampNeg by omega)
              exact ⟨(by first | rfl | exact z_nb _), z_pb hpo ((congrArg (Sum.elim _ _) hM).trans rfl) (rfl) (rfl)⟩
      exact hW [0, 1, 2, 3, 4] _ _ _ _ _ (hL3 (S 10240 8).toNatClampNeg 0 _ () (Nat.zero_add _) rfl rfl)
    · exact h.elim
def l_X0_yieldingAt_5 (S : z_MI) (P : z_ML) (x1 : Int32) (x2 : Int32) (k5 : Nat) (a5 : Int32) : Int32 :=
  if (S 61761 ((nI k5).toNatClampNeg)) = (nI 2) then
    if (f_X6_isIn S P (S 57665 ((nI k5).toNatClampNeg)) x1) = true then
      if (f_X0_counts S P (nI k5) x2) = true then
        a5 ||| (S 59713 ((nI k5).toNatClampNeg))
      else
        a5
    else
      a5
  else
    a5
def f_X0_yieldingAt (S : z_MI) (P : z_ML) (x1 : Int32) (x2 : Int32) : Int32 :=
  (z_fo (fun k5 a5 => l_X0_yieldingAt_5 S P x1 x2 k5 a5) (nI 0) (S 10240 8).toNatClampNeg) &&& (f_X0_leftAt S P x1 x2)
def sp_X0_yieldingAt : z_SP := fun as S P k => match as with
  | [.int x1, .int x2] => z_le (S 10240 8) 40 ∧ k (some (.int (f_X0_yieldingAt S P x1 x2))) S P
  | _ => False
def G_X0_yieldingAt : z_G := ([(0, .iconst 0, 1, 0), (1, .istore_n 3, 2, 0), (2, .iconst 0, 3, 0), (3, .istore 4, 5, 0), (5, .iload 4, 7, 0), (7, .aload_n 0, 8, 0), (8, .getfield 37, 11, 0), (11, .if_icmp .ge 54, 14, 65), (14, .aload_n 0, 15, 0), (15, .getfield 21, 18, 0), (18, .iload 4, 20, 0), (20, .iaload, 21, 0), (21, .iconst 2, 22, 0), (22, .if_icmp .ne 37, 25, 59), (25, .aload_n 0, 26, 0), (26, .getfield 15, 29, 0), (29, .iload 4, 31, 0), (31, .iaload, 32, 0), (32, .iload_n 1, 33, 0), (33, .invokestatic 41, 36, 0), (36, .ifCond .eq 23, 39, 59), (39, .aload_n 0, 40, 0), (40, .iload 4, 42, 0), (42, .iload_n 2, 43, 0), (43, .invokevirtual 45, 46, 0), (46, .ifCond .eq 13, 49, 59), (49, .iload_n 3, 50, 0), (50, .aload_n 0, 51, 0), (51, .getfield 18, 54, 0), (54, .iload 4, 56, 0), (56, .iaload, 57, 0), (57, .ior, 58, 0), (58, .istore_n 3, 59, 0), (59, .iinc 4 1, 62, 0), (62, .goto (-57), 65, 5), (65, .iload_n 3, 66, 0), (66, .aload_n 0, 67, 0), (67, .iload_n 1, 68, 0), (68, .iload_n 2, 69, 0), (69, .invokevirtual 52, 72, 0), (72, .iand, 73, 0), (73, .ireturn, 74, 0)], [(15, 10240, 1, some 57665), (18, 10240, 2, some 59713), (21, 10240, 3, some 61761), (37, 10240, 8, none)], [(100041, 2, sp_X6_isIn), (45, 3, (z_rc 10240 sp_X0_counts)), (52, 3, (z_rc 10240 sp_X0_leftAt))], [], [], [], [], some .int)
set_option maxRecDepth 20000 in
set_option maxHeartbeats 4000000 in
theorem ct_X0_yieldingAt (l : Launch) : z_CT l yX0_yieldingAt cX0_yieldingAt 5 (some .int) (z_rc 10240 sp_X0_yieldingAt) 3 := by
  refine z_CT_of G_X0_yieldingAt (by decide) (by decide +kernel) (z_pok_of ft_X0 ci_X0 cL_X0_L fo_X0 co_X0 lo_X0 (by decide +kernel)) rfl rfl ?_ ?_ ?_
  · intro as S P Po h0
    obtain ⟨as, rfl, h⟩ := z_rc_of h0
    unfold sp_X0_yieldingAt at h
    split at h
    · exact Nat.le_of_ble_eq_true rfl
    · exact h.elim
  · exact List.forall_mem_cons.mpr ⟨z_coN (host := "Songlinebench") (ct_X6_isIn l) kb_X6_isIn kn_X0_41 (by decide) (by decide), List.forall_mem_cons.mpr ⟨z_coV (ct_X0_counts l) kb_X0_counts kv_X0_45 ko_X0 (by decide) (by decide) (by decide), List.forall_mem_cons.mpr ⟨z_coV (ct_X0_leftAt l) kb_X0_leftAt kv_X0_52 ko_X0 (by decide) (by decide) (by decide), fun _ h => absurd h List.not_mem_nil⟩⟩⟩
  · intro as S P Po h0 V hV hW
    obtain ⟨as, rfl, h⟩ := z_rc_of h0
    unfold sp_X0_yieldingAt at h
    split at h
    · rename_i x1 x2
      obtain ⟨hp0, hpo⟩ := h
      refine hV [5] 47 0 _ _ _ _ ?_
      obtain ⟨hb5, hN5⟩ := z_le_cl (show z_le (S 10240 8) 40 by assumption) (by decide)
      have hL5 : ∀ (j k5 : Nat) (x900 : Int32) (a5 : Int32), k5 + j = (S 10240 8).toNatClampNeg → x900 = nI k5 → a5 = z_fo (fun k5 a5 => l_X0_yieldingAt_5 S P x1 x2 k5 a5) (nI 0) k5 → V 5 [(0, .ref 10240), (1, .int x1), (2, .int x2), (3, .int a5), (4, .int x900)] [] S P := by
        intro j
        induction j with
        | zero =>
          intro k5 x900 a5 hk5 hx5 ha5
          subst hx5
          have hk9 : k5 = (S 10240 8).toNatClampNeg := by omega
          subst hk9
          subst ha5
          refine hV [5] 47 5 _ _ _ _ ?_
          refine ⟨fun _ => ?_, fun h => absurd ((z_brge hb5 (by omega) (by omega)).mpr (Nat.le_refl _)) h⟩
          refine ⟨(show z_le (S 10240 8) 40 by assumption), ?_⟩
          exact z_pi hpo (rfl) (rfl) (rfl)
        | succ j ih =>
          intro k5 x900 a5 hk5 hx5 ha5
          subst hx5
          have hk9 : k5 < (S 10240 8).toNatClampNeg := by omega
          subst ha5
          refine hV [5] 47 5 _ _ _ _ ?_
          refine ⟨fun h => absurd ((z_brge hb5 (by omega) (by omega)).mp h) (by omega), fun _ => ?_⟩
          refine ⟨(show vp_in (nI k5) 40 by exact vp_in_nI (by omega) (by omega)), ?_⟩
          refine ⟨fun (h2 : ¬ ((S 61761 ((nI k5).toNatClampNeg)) = (nI 2))) => ?_, fun (h2 : (S 61761 ((nI k5).toNatClampNeg)) = (nI 2)) => ?_⟩
          · exact hW [0, 1, 2, 3, 4] _ _ _ _ _ (ih (k5 + 1) _ (z_fo (fun k5 a5 => l_X0_yieldingAt_5 S P x1 x2 k5 a5) (nI 0) k5) (by omega) (nI_add k5 1) (((if_neg h2).trans rfl).symm))
          · refine ⟨(show vp_in (nI k5) 40 by exact vp_in_nI (by omega) (by omega)), ?_⟩
            refine z_br (fun (h3 : (f_X6_isIn S P (S 57665 ((nI k5).toNatClampNeg)) x1) = false) => ?_) (fun (h3 : (f_X6_isIn S P (S 57665 ((nI k5).toNatClampNeg)) x1) = true) => ?_)
            · exact hW [0, 1, 2, 3, 4] _ _ _ _ _ (ih (k5 + 1) _ (z_fo (fun k5 a5 => l_X0_yieldingAt_5 S P x1 x2 k5 a5) (nI 0) k5) (by omega) (nI_add k5 1) (((if_pos h2).trans ((if_neg (z_nt h3)).trans rfl)).symm))
            · refine ⟨(show vp_in (nI k5) 40 by exact vp_in_nI (by omega) (by omega)), ?_⟩
              refine z_br (fun (h4 : (f_X0_counts S P (nI k5) x2) = false) => ?_) (fun (h4 : (f_X0_counts S P (nI k5) x2) = true) => ?_)
              · exact hW [0, 1, 2, 3, 4] _ _ _ _ _ (ih (k5 + 1) _ (z_fo (fun k5 a5 => l_X0_yieldingAt_5 S P x1 x2 k5 a5) (nI 0) k5) (by omega) (nI_add k5 1) (((if_pos h2).trans ((if_pos h3).trans ((if_neg (z_nt h4)).trans rfl))).symm))
              · refine ⟨(show vp_in (nI k5) 40 by exact vp_in_nI (by omega) (by omega)), ?_⟩
                exact hW [0, 1, 2, 3, 4] _ _ _ _ _ (ih (k5 + 1) _ ((z_fo (fun k5 a5 => l_X0_yieldingAt_5 S P x1 x2 k5 a5) (nI 0) k5) ||| (S 59713 ((nI k5).toNatClampNeg))) (by omega) (nI_add k5 1) (((if_pos h2).trans ((if_pos h3).trans ((if_pos h4).trans rfl))).symm))
      exact hW [0, 1, 2, 3, 4] _ _ _ _ _ (hL5 (S 10240 8).toNatClampNeg 0 _ (nI 0) (Nat.zero_add _) rfl rfl)
    · exact h.elim
def f_X0_stillExtinguishes (S : z_MI) (P : z_ML) (x1 : Int32) : Bool :=
  if (S 61761 x1.toNatClampNeg) = 0 then
    if (S 67906 x1.toNatClampNeg) = 0 then
      if (S 65857 x1.toNatClampNeg) = (-1) then
        true
      else
        false
    else
      false
  else
    false
def sp_X0_stillExtinguishes : z_SP := fun as S P k => match as with
  | [.int x1] => vp_in x1 40 ∧ k (some (.int (z_b (f_X0_stillExtinguishes S P x1)))) S P
  | _ => False
def G_X0_stillExtinguishes : z_G := ([(0, .aload_n 0, 1, 0), (1, .getfield 21, 4, 0), (4, .iload_n 1, 5, 0), (5, .iaload, 6, 0), (6, .ifCond .ne 26, 9, 32), (9, .aload_n 0, 10, 0), (10, .getfield 30, 13, 0), (13, .iload_n 1, 14, 0), (14, .baload, 15, 0), (15, .ifCond .ne 17, 18, 32), (18, .aload_n 0, 19, 0), (19, .getfield 27, 22, 0), (22, .iload_n 1, 23, 0), (23, .iaload, 24, 0), (24, .iconst (-1), 25, 0), (25, .if_icmp .ne 7, 28, 32), (28, .iconst 1, 29, 0), (29, .goto 4, 32, 33), (32, .iconst 0, 33, 0), (33, .ireturn, 34, 0)], [(21, 10240, 3, some 61761), (27, 10240, 5, some 65857), (30, 10240, 6, some 67906)], [], [], [], [], [], some .boolean)
set_option maxRecDepth 20000 in
set_option maxHeartbeats 4000000 in
theorem ct_X0_stillExtinguishes (l : Launch) : z_CT l yX0_stillExtinguishes cX0_stillExtinguishes 2 (some .boolean) (z_rc 10240 sp_X0_stillExtinguishes) 0 := by
  refine z_CT_of G_X0_stillExtinguishes (by decide) (by decide +kernel) (z_pok_of ft_X0 ci_X0 cL_X0_L fo_X0 co_X0 lo_X0 (by decide +kernel)) rfl rfl ?_ ?_ ?_
  · intro as S P Po h0
    obtain ⟨as, rfl, h⟩ := z_rc_of h0
    unfold sp_X0_stillExtinguishes at h
    split at h
    · exact Nat.le_of_ble_eq_true rfl
    · exact h.elim
  · exact fun _ h => absurd h List.not_mem_nil
  · intro as S P Po h0 V hV hW
    obtain ⟨as, rfl, h⟩ := z_rc_of h0
    unfold sp_X0_stillExtinguishes at h
    split at h
    · rename_i x1
      obtain ⟨hp0, hpo⟩ := h
      refine hV [] 25 0 _ _ _ _ ?_
      refine ⟨(show vp_in x1 40 by assumption), ?_⟩
      refine ⟨fun (h1 : ¬ ((S 61761 x1.toNatClampNeg) = 0)) => ?_, fun (h1 : (S 61761 x1.toNatClampNeg) = 0) => ?_⟩
      · exact ⟨(by first | rfl | exact z_nb _), z_pb hpo ((if_neg h1).trans rfl) (rfl) (rfl)⟩
      · refine ⟨(show vp_in x1 40 by assumption), ?_⟩
        refine ⟨fun (h2 : ¬ ((S 67906 x1.toNatClampNeg) = 0)) => ?_, fun (h2 : (S 67906 x1.toNatClampNeg) = 0) => ?_⟩
        · exact ⟨(by first | rfl | exact z_nb _), z_pb hpo ((if_pos h1).trans ((if_neg h2).trans rfl)) (rfl) (rfl)⟩
        · refine ⟨(show vp_in x1 40 by assumption), ?_⟩
          refine ⟨fun (h3 : ¬ ((S 65857 x1.toNatClampNeg) = (-1))) => ?_, fun (h3 : (S 65857 x1.toNatClampNeg) = (-1)) => ?_⟩
          · exact ⟨(by first | rfl | exact z_nb _), z_pb hpo ((if_pos h1).trans ((if_pos h2).trans ((if_neg h3).trans rfl))) (rfl) (rfl)⟩
          · exact ⟨(by first | rfl | exact z_nb _), z_pb hpo ((if_pos h1).trans ((if_pos h2).trans ((if_pos h3).trans rfl))) (rfl) (rfl)⟩
    · exact h.elim
def f_X0_isPayable (S : z_MI) (P : z_ML) (x1 : Int32) : Bool :=
  if (f_X0_stillExtinguishes S P x1) = true then
    if (S 69954 x1.toNatClampNeg) = 0 then
      true
    else
      false
  else
    false
def sp_X0_isPayable : z_SP := fun as S P k => match as with
  | [.int x1] => vp_in x1 40 ∧ k (some (.int (z_b (f_X0_isPayable S P x1)))) S P
  | _ => False
def G_X0_isPayable : z_G := ([(0, .aload_n 0, 1, 0), (1, .iload_n 1, 2, 0), (2, .invokevirtual 56, 5, 0), (5, .ifCond .eq 16, 8, 21), (8, .aload_n 0, 9, 0), (9, .getfield 34, 12, 0), (12, .iload_n 1, 13, 0), (13, .baload, 14, 0), (14, .ifCond .ne 7, 17, 21), (17, .iconst 1, 18, 0), (18, .goto 4, 21, 22), (21, .iconst 0, 22, 0), (22, .ireturn, 23, 0)], [(34, 10240, 7, some 69954)], [(56, 2, (z_rc 10240 sp_X0_stillExtinguishes))], [], [], [], [], some .boolean)
set_option maxRecDepth 20000 in
set_option maxHeartbeats 4000000 in
theorem ct_X0_isPayable (l : Launch) : z_CT l yX0_isPayable cX0_isPayable 2 (some .boolean) (z_rc 10240 sp_X0_isPayable) 1 := by
  refine z_CT_of G_X0_isPayable (by decide) (by decide +kernel) (z_pok_of ft_X0 ci_X0 cL_X0_L fo_X0 co_X0 lo_X0 (by decide +kernel)) rfl rfl ?_ ?_ ?_
  · intro as S P Po h0
    obtain ⟨as, rfl, h⟩ := z_rc_of h0
    unfold sp_X0_isPayable at h
    split at h
    · exact Nat.le_of_ble_eq_true rfl
    · exact h.elim
  · exact List.forall_mem_cons.mpr ⟨z_coV (ct_X0_stillExtinguishes l) kb_X0_stillExtinguishes kv_X0_56 ko_X0 (by decide) (by decide) (by decide), fun _ h => absurd h List.not_mem_nil⟩
  · intro as S P Po h0 V hV hW
    obtain ⟨as, rfl, h⟩ := z_rc_of h0
    unfold sp_X0_isPayable at h
    split at h
    · rename_i x1
      obtain ⟨hp0, hpo⟩ := h
      refine hV [] 18 0 _ _ _ _ ?_
      refine ⟨(show vp_in x1 40 by assumption), ?_⟩
      refine z_br (fun (h1 : (f_X0_stillExtinguishes S P x1) = false) => ?_) (fun (h1 : (f_X0_stillExtinguishes S P x1) = true) => ?_)
      · exact ⟨(by first | rfl | exact z_nb _), z_pb hpo ((if_neg (z_nt h1)).trans rfl) (rfl) (rfl)⟩
      · refine ⟨(show vp_in x1 40 by assumption), ?_⟩
        refine ⟨fun (h2 : ¬ ((S 69954 x1.toNatClampNeg) = 0)) => ?_, fun (h2 : (S 69954 x1.toNatClampNeg) = 0) => ?_⟩
        · exact ⟨(by first | rfl | exact z_nb _), z_pb hpo ((if_pos h1).trans ((if_neg h2).trans rfl)) (rfl) (rfl)⟩
        · exact ⟨(by first | rfl | exact z_nb _), z_pb hpo ((if_pos h1).trans ((if_pos h2).trans rfl)) (rfl) (rfl)⟩
    · exact h.elim
def f_X0_isAhead (S : z_MI) (P : z_ML) (x1 : Int32) (x2 : Int32) : Bool :=
  if (S 55617 x1.toNatClampNeg) < (S 55617 x2.toNatClampNeg) then
    true
  else
    if (S 55617 x1.toNatClampNeg) = (S 55617 x2.toNatClampNeg) then
      if x2 ≤ x1 then
        false
      else
        true
    else
      false
def sp_X0_isAhead : z_SP := fun as S P k => match as with
  | [.int x1, .int x2] => vp_in x1 40 ∧ vp_in x2 40 ∧ k (some (.int (z_b (f_X0_isAhead S P x1 x2)))) S P
  | _ => False
def G_X0_isAhead : z_G := ([(0, .aload_n 0, 1, 0), (1, .getfield 9, 4, 0), (4, .iload_n 1, 5, 0), (5, .iaload, 6, 0), (6, .aload_n 0, 7, 0), (7, .getfield 9, 10, 0), (10, .iload_n 2, 11, 0), (11, .iaload, 12, 0), (12, .if_icmp .lt 23, 15, 35), (15, .aload_n 0, 16, 0), (16, .getfield 9, 19, 0), (19, .iload_n 1, 20, 0), (20, .iaload, 21, 0), (21, .aload_n 0, 22, 0), (22, .getfield 9, 25, 0), (25, .iload_n 2, 26, 0), (26, .iaload, 27, 0), (27, .if_icmp .ne 12, 30, 39), (30, .iload_n 1, 31, 0), (31, .iload_n 2, 32, 0), (32, .if_icmp .ge 7, 35, 39), (35, .iconst 1, 36, 0), (36, .goto 4, 39, 40), (39, .iconst 0, 40, 0), (40, .ireturn, 41, 0)], [(9, 10240, 0, some 55617)], [], [], [], [], [], some .boolean)
set_option maxRecDepth 20000 in
set_option maxHeartbeats 4000000 in
theorem ct_X0_isAhead (l : Launch) : z_CT l yX0_isAhead cX0_isAhead 3 (some .boolean) (z_rc 10240 sp_X0_isAhead) 0 := by
  refine z_CT_of G_X0_isAhead (by decide) (by decide +kernel) (z_pok_of ft_X0 ci_X0 cL_X0_L fo_X0 co_X0 lo_X0 (by decide +kernel)) rfl rfl ?_ ?_ ?_
  · intro as S P Po h0
    obtain ⟨as, rfl, h⟩ := z_rc_of h0
    unfold sp_X0_isAhead at h
    split at h
    · exact Nat.le_of_ble_eq_true rfl
    · exact h.elim
  · exact fun _ h => absurd h List.not_mem_nil
  · intro as S P Po h0 V hV hW
    obtain ⟨as, rfl, h⟩ := z_rc_of h0
    unfold sp_X0_isAhead at h
    split at h
    · rename_i x1 x2
      obtain ⟨hp0, hp1, hpo⟩ := h
      refine hV [] 30 0 _ _ _ _ ?_
      refine ⟨(show vp_in x1 40 by assumption), ?_⟩
      refine ⟨(show vp_in x2 40 by assumption), ?_⟩
      refine ⟨fun (h1 : (S 55617 x1.toNatClampNeg) < (S 55617 x2.toNatClampNeg)) => ?_, fun (h1 : ¬ ((S 55617 x1.toNatClampNeg) < (S 55617 x2.toNatClampNeg))) => ?_⟩
      · exact ⟨(by first | rfl | exact z_nb _), z_pb hpo ((if_pos h1).trans rfl) (rfl) (rfl)⟩
      · refine ⟨(show vp_in x1 40 by assumption), ?_⟩
        refine ⟨(show vp_in x2 40 by assumption), ?_⟩
        refine ⟨fun (h2 : ¬ ((S 55617 x1.toNatClampNeg) = (S 55617 x2.toNatClampNeg))) => ?_, fun (h2 : (S 55617 x1.toNatClampNeg) = (S 55617 x2.toNatClampNeg)) => ?_⟩
        · exact ⟨(by first | rfl | exact z_nb _), z_pb hpo ((if_neg h1).trans ((if_neg h2).trans rfl)) (rfl) (rfl)⟩
        · refine ⟨fun (h3 : x2 ≤ x1) => ?_, fun (h3 : ¬ (x2 ≤ x1)) => ?_⟩
          · exact ⟨(by first | rfl | exact z_nb _), z_pb hpo ((if_neg h1).trans ((if_pos h2).trans ((if_pos h3).trans rfl))) (rfl) (rfl)⟩
          · exact ⟨(by first | rfl | exact z_nb _), z_pb hpo ((if_neg h1).trans ((if_pos h2).trans ((if_neg h3).trans rfl))) (rfl) (rfl)⟩
    · exact h.elim
def l_X0_takenBy_10 (S : z_MI) (P : z_ML) (x1 : Int32) (x2 : Int32) (k10 : Nat) (a10 : Int32) : Int32 :=
  if (f_X0_isAhead S P (nI k10) x1) = true then
    if (f_X0_stillExtinguishes S P (nI k10)) = true then
      if (f_X6_isIn S P (S 57665 ((nI k10).toNatClampNeg)) x2) = true then
        a10 &&& ((S 59713 ((nI k10).toNatClampNeg)) ^^^ (-1))
      else
        a10
    else
      a10
  else
    a10
def f_X0_takenBy (S : z_MI) (P : z_ML) (x1 : Int32) (x2 : Int32) : Int32 :=
  (z_fo (fun k10 a10 => l_X0_takenBy_10 S P x1 x2 k10 a10) (S 59713 x1.toNatClampNeg) (S 10240 8).toNatClampNeg)
def sp_X0_takenBy : z_SP := fun as S P k => match as with
  | [.int x1, .int x2] => vp_in x1 40 ∧ z_le (S 10240 8) 40 ∧ k (some (.int (f_X0_takenBy S P x1 x2))) S P
  | _ => False
def G_X0_takenBy : z_G := ([(0, .aload_n 0, 1, 0), (1, .getfield 18, 4, 0), (4, .iload_n 1, 5, 0), (5, .iaload, 6, 0), (6, .istore_n 3, 7, 0), (7, .iconst 0, 8, 0), (8, .istore 4, 10, 0), (10, .iload 4, 12, 0), (12, .aload_n 0, 13, 0), (13, .getfield 37, 16, 0), (16, .if_icmp .ge 54, 19, 70), (19, .aload_n 0, 20, 0), (20, .iload 4, 22, 0), (22, .iload_n 1, 23, 0), (23, .invokevirtual 60, 26, 0), (26, .ifCond .eq 38, 29, 64), (29, .aload_n 0, 30, 0), (30, .iload 4, 32, 0), (32, .invokevirtual 56, 35, 0), (35, .ifCond .eq 29, 38, 64), (38, .aload_n 0, 39, 0), (39, .getfield 15, 42, 0), (42, .iload 4, 44, 0), (44, .iaload, 45, 0), (45, .iload_n 2, 46, 0), (46, .invokestatic 41, 49, 0), (49, .ifCond .eq 15, 52, 64), (52, .iload_n 3, 53, 0), (53, .aload_n 0, 54, 0), (54, .getfield 18, 57, 0), (57, .iload 4, 59, 0), (59, .iaload, 60, 0), (60, .iconst (-1), 61, 0), (61, .ixor, 62, 0), (62, .iand, 63, 0), (63, .istore_n 3, 64, 0), (64, .iinc 4 1, 67, 0), (67, .goto (-57), 70, 10), (70, .iload_n 3, 71, 0), (71, .ireturn, 72, 0)], [(15, 10240, 1, some 57665), (18, 10240, 2, some 59713), (37, 10240, 8, none)], [(100041, 2, sp_X6_isIn), (56, 2, (z_rc 10240 sp_X0_stillExtinguishes)), (60, 3, (z_rc 10240 sp_X0_isAhead))], [], [], [], [], some .int)
set_option maxRecDepth 20000 in
set_option maxHeartbeats 4000000 in
theorem ct_X0_takenBy (l : Launch) : z_CT l yX0_takenBy cX0_takenBy 5 (some .int) (z_rc 10240 sp_X0_takenBy) 1 := by
  refine z_CT_of G_X0_takenBy (by decide) (by decide +kernel) (z_pok_of ft_X0 ci_X0 cL_X0_L fo_X0 co_X0 lo_X0 (by decide +kernel)) rfl rfl ?_ ?_ ?_
  · intro as S P Po h0
    obtain ⟨as, rfl, h⟩ := z_rc_of h0
    unfold sp_X0_takenBy at h
    split at h
    · exact Nat.le_of_ble_eq_true rfl
    · exact h.elim
  · exact List.forall_mem_cons.mpr ⟨z_coN (host := "Songlinebench") (ct_X6_isIn l) kb_X6_isIn kn_X0_41 (by decide) (by decide), List.forall_mem_cons.mpr ⟨z_coV (ct_X0_stillExtinguishes l) kb_X0_stillExtinguishes kv_X0_56 ko_X0 (by decide) (by decide) (by decide), List.forall_mem_cons.mpr ⟨z_coV (ct_X0_isAhead l) kb_X0_isAhead kv_X0_60 ko_X0 (by decide) (by decide) (by decide), fun _ h => absurd h List.not_mem_nil⟩⟩⟩
  · intro as S P Po h0 V hV hW
    obtain ⟨as, rfl, h⟩ := z_rc_of h0
    unfold sp_X0_takenBy at h
    split at h
    · rename_i x1 x2
      obtain ⟨hp0, hp1, hpo⟩ := h
      refine hV [10] 45 0 _ _ _ _ ?_
      refine ⟨(show vp_in x1 40 by assumption), ?_⟩
      obtain ⟨hb10, hN10⟩ := z_le_cl (show z_le (S 10240 8) 40 by assumption) (by decide)
      have hL10 : ∀ (j k10 : Nat) (x900 : Int32) (a10 : Int32), k10 + j = (S 10240 8).toNatClampNeg → x900 = nI k10 → a10 = z_fo (fun k10 a10 => l_X0_takenBy_10 S P x1 x2 k10 a10) (S 59713 x1.toNatClampNeg) k10 → V 10 [(0, .ref 10240), (1, .int x1), (2, .int x2), (3, .int a10), (4, .int x900)] [] S P := by
        intro j
        induction j with
        | zero =>
          intro k10 x900 a10 hk10 hx10 ha10
          subst hx10
          have hk9 : k10 = (S 10240 8).toNatClampNeg := by omega
          subst hk9
          subst ha10
          refine hV [10] 45 10 _ _ _ _ ?_
          refine ⟨fun _ => ?_, fun h => absurd ((z_brge hb10 (by omega) (by omega)).mpr (Nat.le_refl _)) h⟩
          exact z_pi hpo (rfl) (rfl) (rfl)
        | succ j ih =>
          intro k10 x900 a10 hk10 hx10 ha10
          subst hx10
          have hk9 : k10 < (S 10240 8).toNatClampNeg := by omega
          subst ha10
          refine hV [10] 45 10 _ _ _ _ ?_
          refine ⟨fun h => absurd ((z_brge hb10 (by omega) (by omega)).mp h) (by omega), fun _ => ?_⟩
          refine ⟨(show vp_in (nI k10) 40 by exact vp_in_nI (by omega) (by omega)), (show vp_in x1 40 by assumption), ?_⟩
          refine z_br (fun (h2 : (f_X0_isAhead S P (nI k10) x1) = false) => ?_) (fun (h2 : (f_X0_isAhead S P (nI k10) x1) = true) => ?_)
          · exact hW [0, 1, 2, 3, 4] _ _ _ _ _ (ih (k10 + 1) _ (z_fo (fun k10 a10 => l_X0_takenBy_10 S P x1 x2 k10 a10) (S 59713 x1.toNatClampNeg) k10) (by omega) (nI_add k10 1) (((if_neg (z_nt h2)).trans rfl).symm))
          · refine ⟨(show vp_in (nI k10) 40 by exact vp_in_nI (by omega) (by omega)), ?_⟩
            refine z_br (fun (h3 : (f_X0_stillExtinguishes S P (nI k10)) = false) => ?_) (fun (h3 : (f_X0_stillExtinguishes S P (nI k10)) = true) => ?_)
            · exact hW [0, 1, 2, 3, 4] _ _ _ _ _ (ih (k10 + 1) _ (z_fo (fun k10 a10 => l_X0_takenBy_10 S P x1 x2 k10 a10) (S 59713 x1.toNatClampNeg) k10) (by omega) (nI_add k10 1) (((if_pos h2).trans ((if_neg (z_nt h3)).trans rfl)).symm))
            · refine ⟨(show vp_in (nI k10) 40 by exact vp_in_nI (by omega) (by omega)), ?_⟩
              refine z_br (fun (h4 : (f_X6_isIn S P (S 57665 ((nI k10).toNatClampNeg)) x2) = false) => ?_) (fun (h4 : (f_X6_isIn S P (S 57665 ((nI k10).toNatClampNeg)) x2) = true) => ?_)
              · exact hW [0, 1, 2, 3, 4] _ _ _ _ _ (ih (k10 + 1) _ (z_fo (fun k10 a10 => l_X0_takenBy_10 S P x1 x2 k10 a10) (S 59713 x1.toNatClampNeg) k10) (by omega) (nI_add k10 1) (((if_pos h2).trans ((if_pos h3).trans ((if_neg (z_nt h4)).trans rfl))).symm))
              · refine ⟨(show vp_in (nI k10) 40 by exact vp_in_nI (by omega) (by omega)), ?_⟩
                exact hW [0, 1, 2, 3, 4] _ _ _ _ _ (ih (k10 + 1) _ ((z_fo (fun k10 a10 => l_X0_takenBy_10 S P x1 x2 k10 a10) (S 59713 x1.toNatClampNeg) k10) &&& ((S 59713 ((nI k10).toNatClampNeg)) ^^^ (-1))) (by omega) (nI_add k10 1) (((if_pos h2).trans ((if_pos h3).trans ((if_pos h4).trans rfl))).symm))
      exact hW [0, 1, 2, 3, 4] _ _ _ _ _ (hL10 (S 10240 8).toNatClampNeg 0 _ (S 59713 x1.toNatClampNeg) (Nat.zero_add _) rfl rfl)
    · exact h.elim
def f_X1_isClaim (S : z_MI) (P : z_ML) (x1 : Int32) : Bool :=
  if x1 < 0 then
    false
  else
    if (S 12296 8) ≤ x1 then
      false
    else
      true
def sp_X1_isClaim : z_SP := fun as S P k => match as with
  | [.int x1] => k (some (.int (z_b (f_X1_isClaim S P x1)))) S P
  | _ => False
def G_X1_isClaim : z_G := ([(0, .iload_n 1, 1, 0), (1, .ifCond .lt 15, 4, 16), (4, .iload_n 1, 5, 0), (5, .aload_n 0, 6, 0), (6, .getfield 36, 9, 0), (9, .if_icmp .ge 7, 12, 16), (12, .iconst 1, 13, 0), (13, .goto 4, 16, 17), (16, .iconst 0, 17, 0), (17, .ireturn, 18, 0)], [(36, 12296, 8, none)], [], [], [], [], [], some .boolean)
set_option maxRecDepth 20000 in
set_option maxHeartbeats 4000000 in
theorem ct_X1_isClaim (l : Launch) : z_CT l yX1_isClaim cX1_isClaim 2 (some .boolean) (z_rc 12296 sp_X1_isClaim) 0 := by
  refine z_CT_of G_X1_isClaim (by decide) (by decide +kernel) (z_pok_of ft_X1 ci_X1 cL_X1_L fo_X1 co_X1 lo_X1 (by decide +kernel)) rfl rfl ?_ ?_ ?_
  · intro as S P Po h0
    obtain ⟨as, rfl, h⟩ := z_rc_of h0
    unfold sp_X1_isClaim at h
    split at h
    · exact Nat.le_of_ble_eq_true rfl
    · exact h.elim
  · exact fun _ h => absurd h List.not_mem_nil
  · intro as S P Po h0 V hV hW
    obtain ⟨as, rfl, h⟩ := z_rc_of h0
    unfold sp_X1_isClaim at h
    split at h
    · rename_i x1
      have hpo := h
      refine hV [] 15 0 _ _ _ _ ?_
      refine ⟨fun (h1 : x1 < 0) => ?_, fun (h1 : ¬ (x1 < 0)) => ?_⟩
      · exact ⟨(by first | rfl | exact z_nb _), z_pb hpo ((if_pos h1).trans rfl) (rfl) (rfl)⟩
      · refine ⟨fun (h2 : (S 12296 8) ≤ x1) => ?_, fun (h2 : ¬ ((S 12296 8) ≤ x1)) => ?_⟩
        · exact ⟨(by first | rfl | exact z_nb _), z_pb hpo ((if_neg h1).trans ((if_pos h2).trans rfl)) (rfl) (rfl)⟩
        · exact ⟨(by first | rfl | exact z_nb _), z_pb hpo ((if_neg h1).trans ((if_neg h2).trans rfl)) (rfl) (rfl)⟩
    · exact h.elim
def f_X1_add (S : z_MI) (P : z_ML) (x1 : Int32) (x2 : Int32) (x3 : Int32) : Int32 :=
  S 12296 8
def u_X1_add (S : z_MI) (P : z_ML) (x1 : Int32) (x2 : Int32) (x3 : Int32) : z_MI :=
  va_up (va_up (va_up (va_up (va_up (va_up S 71777 (upd (S 71777) ((S 12296 8).toNatClampNeg) x1)) 73825 (upd ((va_up S 71777 (upd (S 71777) ((S 12296 8).toNatClampNeg) x1)) 73825) ((S 12296 8).toNatClampNeg) x2)) 75873 (upd ((va_up (va_up S 71777 (upd (S 71777) ((S 12296 8).toNatClampNeg) x1)) 73825 (upd ((va_up S 71777 (upd (S 71777) ((S 12296 8).toNatClampNeg) x1)) 73825) ((S 12296 8).toNatClampNeg) x2)) 75873) ((S 12296 8).toNatClampNeg) x3)) 77921 (upd ((va_up (va_up (va_up S 71777 (upd (S 71777) ((S 12296 8).toNatClampNeg) x1)) 73825 (upd ((va_up S 71777 (upd (S 71777) ((S 12296 8).toNatClampNeg) x1)) 73825) ((S 12296 8).toNatClampNeg) x2)) 75873 (upd ((va_up (va_up S 71777 (upd (S 71777) ((S 12296 8).toNatClampNeg) x1)) 73825 (upd ((va_up S 71777 (upd (S 71777) ((S 12296 8).toNatClampNeg) x1)) 73825) ((S 12296 8).toNatClampNeg) x2)) 75873) ((S 12296 8).toNatClampNeg) x3)) 77921) ((S 12296 8).toNatClampNeg) (nI 0))) 82017 (upd ((va_up (va_up (va_up (va_up S 71777 (upd (S 71777) ((S 12296 8).toNatClampNeg) x1)) 73825 (upd ((va_up S 71777 (upd (S 71777) ((S 12296 8).toNatClampNeg) x1)) 73825) ((S 12296 8).toNatClampNeg) x2)) 75873 (upd ((va_up (va_up S 71777 (upd (S 71777) ((S 12296 8).toNatClampNeg) x1)) 73825 (upd ((va_up S 71777 (upd (S 71777) ((S 12296 8).toNatClampNeg) x1)) 73825) ((S 12296 8).toNatClampNeg) x2)) 75873) ((S 12296 8).toNatClampNeg) x3)) 77921 (upd ((va_up (va_up (va_up S 71777 (upd (S 71777) ((S 12296 8).toNatClampNeg) x1)) 73825 (upd ((va_up S 71777 (upd (S 71777) ((S 12296 8).toNatClampNeg) x1)) 73825) ((S 12296 8).toNatClampNeg) x2)) 75873 (upd ((va_up (va_up S 71777 (upd (S 71777) ((S 12296 8).toNatClampNeg) x1)) 73825 (upd ((va_up S 71777 (upd (S 71777) ((S 12296 8).toNatClampNeg) x1)) 73825) ((S 12296 8).toNatClampNeg) x2)) 75873) ((S 12296 8).toNatClampNeg) x3)) 77921) ((S 12296 8).toNatClampNeg) (nI 0))) 82017) ((S 12296 8).toNatClampNeg) (-1))) 12296 (upd ((va_up (va_up (va_up (va_up (va_up S 71777 (upd (S 71777) ((S 12296 8).toNatClampNeg) x1)) 73825 (upd ((va_up S 71777 (upd (S 71777) ((S 12296 8).toNatClampNeg) x1)) 73825) ((S 12296 8).toNatClampNeg) x2)) 75873 (upd ((va_up (va_up S 71777 (upd (S 71777) ((S 12296 8).toNatClampNeg) x1)) 73825 (upd ((va_up S 71777 (upd (S 71777) ((S 12296 8).toNatClampNeg) x1)) 73825) ((S 12296 8).toNatClampNeg) x2)) 75873) ((S 12296 8).toNatClampNeg) x3)) 77921 (upd ((va_up (va_up (va_up S 71777 (upd (S 71777) ((S 12296 8).toNatClampNeg) x1)) 73825 (upd ((va_up S 71777 (upd (S 71777) ((S 12296 8).toNatClampNeg) x1)) 73825) ((S 12296 8).toNatClampNeg) x2)) 75873 (upd ((va_up (va_up S 71777 (upd (S 71777) ((S 12296 8).toNatClampNeg) x1)) 73825 (upd ((va_up S 71777 (upd (S 71777) ((S 12296 8).toNatClampNeg) x1)) 73825) ((S 12296 8).toNatClampNeg) x2)) 75873) ((S 12296 8).toNatClampNeg) x3)) 77921) ((S 12296 8).toNatClampNeg) (nI 0))) 82017 (upd ((va_up (va_up (va_up (va_up S 71777 (upd (S 71777) ((S 12296 8).toNatClampNeg) x1)) 73825 (upd ((va_up S 71777 (upd (S 71777) ((S 12296 8).toNatClampNeg) x1)) 73825) ((S 12296 8).toNatClampNeg) x2)) 75873 (upd ((va_up (va_up S 71777 (upd (S 71777) ((S 12296 8).toNatClampNeg) x1)) 73825 (upd ((va_up S 71777 (upd (S 71777) ((S 12296 8).toNatClampNeg) x1)) 73825) ((S 12296 8).toNatClampNeg) x2)) 75873) ((S 12296 8).toNatClampNeg) x3)) 77921 (upd ((va_up (va_up (va_up S 71777 (upd (S 71777) ((S 12296 8).toNatClampNeg) x1)) 73825 (upd ((va_up S 71777 (upd (S 71777) ((S 12296 8).toNatClampNeg) x1)) 73825) ((S 12296 8).toNatClampNeg) x2)) 75873 (upd ((va_up (va_up S 71777 (upd (S 71777) ((S 12296 8).toNatClampNeg) x1)) 73825 (upd ((va_up S 71777 (upd (S 71777) ((S 12296 8).toNatClampNeg) x1)) 73825) ((S 12296 8).toNatClampNeg) x2)) 75873) ((S 12296 8).toNatClampNeg) x3)) 77921) ((S 12296 8).toNatClampNeg) (nI 0))) 82017) ((S 12296 8).toNatClampNeg) (-1))) 12296) 8 ((S 12296 8) + (nI 1)))
def sp_X1_add : z_SP := fun as S P k => match as with
  | [.int x1, .int x2, .int x3] => vp_in (S 12296 8) 12 ∧ k (some (.int (f_X1_add S P x1 x2 x3))) (u_X1_add S P x1 x2 x3) P
  | _ => False
def G_X1_add : z_G := ([(0, .aload_n 0, 1, 0), (1, .getfield 36, 4, 0), (4, .istore 4, 6, 0), (6, .aload_n 0, 7, 0), (7, .getfield 9, 10, 0), (10, .iload 4, 12, 0), (12, .iload_n 1, 13, 0), (13, .iastore, 14, 0), (14, .aload_n 0, 15, 0), (15, .getfield 15, 18, 0), (18, .iload 4, 20, 0), (20, .iload_n 2, 21, 0), (21, .iastore, 22, 0), (22, .aload_n 0, 23, 0), (23, .getfield 18, 26, 0), (26, .iload 4, 28, 0), (28, .iload_n 3, 29, 0), (29, .iastore, 30, 0), (30, .aload_n 0, 31, 0), (31, .getfield 21, 34, 0), (34, .iload 4, 36, 0), (36, .iconst 0, 37, 0), (37, .iastore, 38, 0), (38, .aload_n 0, 39, 0), (39, .getfield 27, 42, 0), (42, .iload 4, 44, 0), (44, .iconst (-1), 45, 0), (45, .iastore, 46, 0), (46, .aload_n 0, 47, 0), (47, .dup, 48, 0), (48, .getfield 36, 51, 0), (51, .iconst 1, 52, 0), (52, .iadd, 53, 0), (53, .putfield 36, 56, 0), (56, .iload 4, 58, 0), (58, .ireturn, 59, 0)], [(9, 12296, 0, some 71777), (15, 12296, 1, some 73825), (18, 12296, 2, some 75873), (21, 12296, 3, some 77921), (27, 12296, 5, some 82017), (36, 12296, 8, none)], [], [], [], [], [], some .int)
set_option maxRecDepth 20000 in
set_option maxHeartbeats 4000000 in
theorem ct_X1_add (l : Launch) : z_CT l yX1_add cX1_add 5 (some .int) (z_rc 12296 sp_X1_add) 0 := by
  refine z_CT_of G_X1_add (by decide) (by decide +kernel) (z_pok_of ft_X1 ci_X1 cL_X1_L fo_X1 co_X1 lo_X1 (by decide +kernel)) rfl rfl ?_ ?_ ?_
  · intro as S P Po h0
    obtain ⟨as, rfl, h⟩ := z_rc_of h0
    unfold sp_X1_add at h
    split at h
    · exact Nat.le_of_ble_eq_true rfl
    · exact h.elim
  · exact fun _ h => absurd h List.not_mem_nil
  · intro as S P Po h0 V hV hW
    obtain ⟨as, rfl, h⟩ := z_rc_of h0
    unfold sp_X1_add at h
    split at h
    · rename_i x1 x2 x3
      obtain ⟨hp0, hpo⟩ := h
      refine hV [] 41 0 _ _ _ _ ?_
      refine ⟨(show vp_in (S 12296 8) 12 by assumption), ?_⟩
      refine ⟨(show vp_in (S 12296 8) 12 by assumption), ?_⟩
      refine ⟨(show vp_in (S 12296 8) 12 by assumption), ?_⟩
      refine ⟨(show vp_in (S 12296 8) 12 by assumption), ?_⟩
      refine ⟨(show vp_in (S 12296 8) 12 by assumption), ?_⟩
      exact z_pi hpo (rfl) (rfl) (rfl)
    · exact h.elim
def u_X1_grant (S : z_MI) (P : z_ML) (x1 : Int32) (x2 : Int32) : z_MI :=
  if x2 = 0 then
    va_up (va_up S 79969 (upd (S 79969) x1.toNatClampNeg x2)) 77921 (upd ((va_up S 79969 (upd (S 79969) x1.toNatClampNeg x2)) 77921) x1.toNatClampNeg (nI 3))
  else
    va_up (va_up S 79969 (upd (S 79969) x1.toNatClampNeg x2)) 77921 (upd ((va_up S 79969 (upd (S 79969) x1.toNatClampNeg x2)) 77921) x1.toNatClampNeg (nI 2))
def sp_X1_grant : z_SP := fun as S P k => match as with
  | [.int x1, .int x2] => vp_in x1 12 ∧ k (none) (u_X1_grant S P x1 x2) P
  | _ => False
def G_X1_grant : z_G := ([(0, .aload_n 0, 1, 0), (1, .getfield 24, 4, 0), (4, .iload_n 1, 5, 0), (5, .iload_n 2, 6, 0), (6, .iastore, 7, 0), (7, .aload_n 0, 8, 0), (8, .getfield 21, 11, 0), (11, .iload_n 1, 12, 0), (12, .iload_n 2, 13, 0), (13, .ifCond .ne 7, 16, 20), (16, .iconst 3, 17, 0), (17, .goto 4, 20, 21), (20, .iconst 2, 21, 0), (21, .iastore, 22, 0), (22, .return_, 23, 0)], [(21, 12296, 3, some 77921), (24, 12296, 4, some 79969)], [], [], [], [], [], none)
set_option maxRecDepth 20000 in
set_option maxHeartbeats 4000000 in
theorem ct_X1_grant (l : Launch) : z_CT l yX1_grant cX1_grant 3 (none) (z_rc 12296 sp_X1_grant) 0 := by
  refine z_CT_of G_X1_grant (by decide) (by decide +kernel) (z_pok_of ft_X1 ci_X1 cL_X1_L fo_X1 co_X1 lo_X1 (by decide +kernel)) rfl rfl ?_ ?_ ?_
  · intro as S P Po h0
    obtain ⟨as, rfl, h⟩ := z_rc_of h0
    unfold sp_X1_grant at h
    split at h
    · exact Nat.le_of_ble_eq_true rfl
    · exact h.elim
  · exact fun _ h => absurd h List.not_mem_nil
  · intro as S P Po h0 V hV hW
    obtain ⟨as, rfl, h⟩ := z_rc_of h0
    unfold sp_X1_grant at h
    split at h
    · rename_i x1 x2
      obtain ⟨hp0, hpo⟩ := h
      refine hV [] 20 0 _ _ _ _ ?_
      refine ⟨(show vp_in x1 12 by assumption), ?_⟩
      refine ⟨fun (h1 : ¬ (x2 = 0)) => ?_, fun (h1 : x2 = 0) => ?_⟩
      · refine ⟨(show vp_in x1 12 by assumption), ?_⟩
        exact z_pv hpo ((if_neg h1).trans rfl) (rfl)
      · refine ⟨(show vp_in x1 12 by assumption), ?_⟩
        exact z_pv hpo ((if_pos h1).trans rfl) (rfl)
    · exact h.elim
def l_X1_isBarred_2 (S : z_MI) (P : z_ML) (x1 : Int32) (k2 : Nat) (a2 : Unit) : (Unit) ⊕ (Bool) :=
  if (nI k2) = x1 then
    .inl ()
  else
    if (S 71777 ((nI k2).toNatClampNeg)) = (S 71777 x1.toNatClampNeg) then
      if (S 77921 ((nI k2).toNatClampNeg)) = (nI 1) then
        if ((S 73825 ((nI k2).toNatClampNeg)) &&& (S 73825 x1.toNatClampNeg)) = 0 then
          .inl ()
        else
          .inr true
      else
        .inl ()
    else
      .inl ()
def f_X1_isBarred (S : z_MI) (P : z_ML) (x1 : Int32) : Bool :=
  Sum.elim (fun a2 =>
    false) (fun r => r) (z_fx (fun k2 a2 => l_X1_isBarred_2 S P x1 k2 a2) () (S 12296 8).toNatClampNeg)
def sp_X1_isBarred : z_SP := fun as S P k => match as with
  | [.int x1] => z_le (S 12296 8) 12 ∧ vp_in x1 12 ∧ k (some (.int (z_b (f_X1_isBarred S P x1)))) S P
  | _ => False
def G_X1_isBarred : z_G := ([(0, .iconst 0, 1, 0), (1, .istore_n 2, 2, 0), (2, .iload_n 2, 3, 0), (3, .aload_n 0, 4, 0), (4, .getfield 36, 7, 0), (7, .if_icmp .ge 57, 10, 64), (10, .iload_n 2, 11, 0), (11, .iload_n 1, 12, 0), (12, .if_icmp .eq 46, 15, 58), (15, .aload_n 0, 16, 0), (16, .getfield 9, 19, 0), (19, .iload_n 2, 20, 0), (20, .iaload, 21, 0), (21, .aload_n 0, 22, 0), (22, .getfield 9, 25, 0), (25, .iload_n 1, 26, 0), (26, .iaload, 27, 0), (27, .if_icmp .ne 31, 30, 58), (30, .aload_n 0, 31, 0), (31, .getfield 21, 34, 0), (34, .iload_n 2, 35, 0), (35, .iaload, 36, 0), (36, .iconst 1, 37, 0), (37, .if_icmp .ne 21, 40, 58), (40, .aload_n 0, 41, 0), (41, .getfield 15, 44, 0), (44, .iload_n 2, 45, 0), (45, .iaload, 46, 0), (46, .aload_n 0, 47, 0), (47, .getfield 15, 50, 0), (50, .iload_n 1, 51, 0), (51, .iaload, 52, 0), (52, .iand, 53, 0), (53, .ifCond .eq 5, 56, 58), (56, .iconst 1, 57, 0), (57, .ireturn, 58, 0), (58, .iinc 2 1, 61, 0), (61, .goto (-59), 64, 2), (64, .iconst 0, 65, 0), (65, .ireturn, 66, 0)], [(9, 12296, 0, some 71777), (15, 12296, 1, some 73825), (21, 12296, 3, some 77921), (36, 12296, 8, none)], [], [], [], [], [], some .boolean)
set_option maxRecDepth 20000 in
set_option maxHeartbeats 4000000 in
theorem ct_X1_isBarred (l : Launch) : z_CT l yX1_isBarred cX1_isBarred 3 (some .boolean) (z_rc 12296 sp_X1_isBarred) 0 := by
  refine z_CT_of G_X1_isBarred (by decide) (by decide +kernel) (z_pok_of ft_X1 ci_X1 cL_X1_L fo_X1 co_X1 lo_X1 (by decide +kernel)) rfl rfl ?_ ?_ ?_
  · intro as S P Po h0
    obtain ⟨as, rfl, h⟩ := z_rc_of h0
    unfold sp_X1_isBarred at h
    split at h
    · exact Nat.le_of_ble_eq_true rfl
    · exact h.elim
  · exact fun _ h => absurd h List.not_mem_nil
  · intro as S P Po h0 V hV hW
    obtain ⟨as, rfl, h⟩ := z_rc_of h0
    unfold sp_X1_isBarred at h
    split at h
    · rename_i x1
      obtain ⟨hp0, hp1, hpo⟩ := h
      refine hV [2] 45 0 _ _ _ _ ?_
      obtain ⟨hb2, hN2⟩ := z_le_cl (show z_le (S 12296 8) 12 by assumption) (by decide)
      have hL2 : ∀ (j k2 : Nat) (x900 : Int32) (a2 : Unit), k2 + j = (S 12296 8).toNatClampNeg → x900 = nI k2 → z_fx (fun k2 a2 => l_X1_isBarred_2 S P x1 k2 a2) () k2 = .inl a2 → V 2 [(0, .ref 12296), (1, .int x1), (2, .int x900)] [] S P := by
        intro j
        induction j with
        | zero =>
          intro k2 x900 a2 hk2 hx2 ha2
          subst hx2
          have hk9 : k2 = (S 12296 8).toNatClampNeg := by omega
          subst hk9
          refine hV [2] 45 2 _ _ _ _ ?_
          refine ⟨fun _ => ?_, fun h => absurd ((z_brge hb2 (by omega) (by omega)).mpr (Nat.le_refl _)) h⟩
          exact ⟨(by first | rfl | exact z_nb _), z_pb hpo ((congrArg (Sum.elim _ _) ha2).trans rfl) (rfl) (rfl)⟩
        | succ j ih =>
          intro k2 x900 a2 hk2 hx2 ha2
          subst hx2
          have hk9 : k2 < (S 12296 8).toNatClampNeg := by omega
          refine hV [2] 45 2 _ _ _ _ ?_
          refine ⟨fun h => absurd ((z_brge hb2 (by omega) (by omega)).mp h) (by omega), fun _ => ?_⟩
          refine ⟨fun (h2 : (nI k2) = x1) => ?_, fun (h2 : ¬ ((nI k2) = x1)) => ?_⟩
          · exact hW [0, 1, 2] _ _ _ _ _ (ih (k2 + 1) _ () (by omega) (nI_add k2 1) ((z_fx_s ha2).trans ((if_pos h2).trans rfl)))
          · refine ⟨(show vp_in (nI k2) 12 by exact vp_in_nI (by omega) (by omega)), ?_⟩
            refine ⟨(show vp_in x1 12 by assumption), ?_⟩
            refine ⟨fun (h3 : ¬ ((S 71777 ((nI k2).toNatClampNeg)) = (S 71777 x1.toNatClampNeg))) => ?_, fun (h3 : (S 71777 ((nI k2).toNatClampNeg)) = (S 71777 x1.toNatClampNeg)) => ?_⟩
            · exact hW [0, 1, 2] _ _ _ _ _ (ih (k2 + 1) _ () (by omega) (nI_add k2 1) ((z_fx_s ha2).trans ((if_neg h2).trans ((if_neg h3).trans rfl))))
            · refine ⟨(show vp_in (nI k2) 12 by exact vp_in_nI (by omega) (by omega)), ?_⟩
              refine ⟨fun (h4 : ¬ ((S 77921 ((nI k2).toNatClampNeg)) = (nI 1))) => ?_, fun (h4 : (S 77921 ((nI k2).toNatClampNeg)) = (nI 1)) => ?_⟩
              · exact hW [0, 1, 2] _ _ _ _ _ (ih (k2 + 1) _ () (by omega) (nI_add k2 1) ((z_fx_s ha2).trans ((if_neg h2).trans ((if_pos h3).trans ((if_neg h4).trans rfl)))))
              · refine ⟨(show vp_in (nI k2) 12 by exact vp_in_nI (by omega) (by omega)), ?_⟩
                refine ⟨(show vp_in x1 12 by assumption), ?_⟩
                refine ⟨fun (h5 : ((S 73825 ((nI k2).toNatClampNeg)) &&& (S 73825 x1.toNatClampNeg)) = 0) => ?_, fun (h5 : ¬ (((S 73825 ((nI k2).toNatClampNeg)) &&& (S 73825 x1.toNatClampNeg)) = 0)) => ?_⟩
                · exact hW [0, 1, 2] _ _ _ _ _ (ih (k2 + 1) _ () (by omega) (nI_add k2 1) ((z_fx_s ha2).trans ((if_neg h2).trans ((if_pos h3).trans ((if_pos h4).trans ((if_pos h5).trans rfl))))))
                · have hM := (z_fx_s ha2).trans ((if_neg h2).trans ((if_pos h3).trans ((if_pos h4).trans ((if_neg h5).trans rfl))))
                  have hM := z_fx_r hM (show _ ≤ (S 12296 8).toNatClampNeg by omega)
                  exact ⟨(by first | rfl | exact z_nb _), z_pb hpo ((congrArg (Sum.elim _ _) hM).trans rfl) (rfl) (rfl)⟩
      exact hW [0, 1, 2] _ _ _ _ _ (hL2 (S 12296 8).toNatClampNeg 0 _ () (Nat.zero_add _) rfl rfl)
    · exact h.elim
def f_X1_stands (S : z_MI) (P : z_ML) (x1 : Int32) : Bool :=
  if (S 77921 x1.toNatClampNeg) = (nI 1) then
    true
  else
    if (S 77921 x1.toNatClampNeg) = (nI 2) then
      true
    else
      false
def sp_X1_stands : z_SP := fun as S P k => match as with
  | [.int x1] => vp_in x1 12 ∧ k (some (.int (z_b (f_X1_stands S P x1)))) S P
  | _ => False
def G_X1_stands : z_G := ([(0, .aload_n 0, 1, 0), (1, .getfield 21, 4, 0), (4, .iload_n 1, 5, 0), (5, .iaload, 6, 0), (6, .iconst 1, 7, 0), (7, .if_icmp .eq 13, 10, 20), (10, .aload_n 0, 11, 0), (11, .getfield 21, 14, 0), (14, .iload_n 1, 15, 0), (15, .iaload, 16, 0), (16, .iconst 2, 17, 0), (17, .if_icmp .ne 7, 20, 24), (20, .iconst 1, 21, 0), (21, .goto 4, 24, 25), (24, .iconst 0, 25, 0), (25, .ireturn, 26, 0)], [(21, 12296, 3, some 77921)], [], [], [], [], [], some .boolean)
set_option maxRecDepth 20000 in
set_option maxHeartbeats 4000000 in
theorem ct_X1_stands (l : Launch) : z_CT l yX1_stands cX1_stands 2 (some .boolean) (z_rc 12296 sp_X1_stands) 0 := by
  refine z_CT_of G_X1_stands (by decide) (by decide +kernel) (z_pok_of ft_X1 ci_X1 cL_X1_L fo_X1 co_X1 lo_X1 (by decide +kernel)) rfl rfl ?_ ?_ ?_
  · intro as S P Po h0
    obtain ⟨as, rfl, h⟩ := z_rc_of h0
    unfold sp_X1_stands at h
    split at h
    · exact Nat.le_of_ble_eq_true rfl
    · exact h.elim
  · exact fun _ h => absurd h List.not_mem_nil
  · intro as S P Po h0 V hV hW
    obtain ⟨as, rfl, h⟩ := z_rc_of h0
    unfold sp_X1_stands at h
    split at h
    · rename_i x1
      obtain ⟨hp0, hpo⟩ := h
      refine hV [] 21 0 _ _ _ _ ?_
      refine ⟨(show vp_in x1 12 by assumption), ?_⟩
      refine ⟨fun (h1 : (S 77921 x1.toNatClampNeg) = (nI 1)) => ?_, fun (h1 : ¬ ((S 77921 x1.toNatClampNeg) = (nI 1))) => ?_⟩
      · exact ⟨(by first | rfl | exact z_nb _), z_pb hpo ((if_pos h1).trans rfl) (rfl) (rfl)⟩
      · refine ⟨(show vp_in x1 12 by assumption), ?_⟩
        refine ⟨fun (h2 : ¬ ((S 77921 x1.toNatClampNeg) = (nI 2))) => ?_, fun (h2 : (S 77921 x1.toNatClampNeg) = (nI 2)) => ?_⟩
        · exact ⟨(by first | rfl | exact z_nb _), z_pb hpo ((if_neg h1).trans ((if_neg h2).trans rfl)) (rfl) (rfl)⟩
        · exact ⟨(by first | rfl | exact z_nb _), z_pb hpo ((if_neg h1).trans ((if_pos h2).trans rfl)) (rfl) (rfl)⟩
    · exact h.elim
def l_X1_rivalsOf_4 (S : z_MI) (P : z_ML) (x1 : Int32) (k4 : Nat) (a4 : Int32) : Int32 :=
  if (S 71777 ((nI k4).toNatClampNeg)) = (S 71777 x1.toNatClampNeg) then
    a4
  else
    if (f_X1_stands S P (nI k4)) = true then
      if ((S 73825 ((nI k4).toNatClampNeg)) &&& (S 73825 x1.toNatClampNeg)) = 0 then
        a4
      else
        f_X6_with S P a4 (nI k4) (nI 1)
    else
      a4
def f_X1_rivalsOf (S : z_MI) (P : z_ML) (x1 : Int32) : Int32 :=
  (z_fo (fun k4 a4 => l_X1_rivalsOf_4 S P x1 k4 a4) (nI 0) (S 12296 8).toNatClampNeg)
def sp_X1_rivalsOf : z_SP := fun as S P k => match as with
  | [.int x1] => z_le (S 12296 8) 12 ∧ vp_in x1 12 ∧ k (some (.int (f_X1_rivalsOf S P x1))) S P
  | _ => False
def G_X1_rivalsOf : z_G := ([(0, .iconst 0, 1, 0), (1, .istore_n 2, 2, 0), (2, .iconst 0, 3, 0), (3, .istore_n 3, 4, 0), (4, .iload_n 3, 5, 0), (5, .aload_n 0, 6, 0), (6, .getfield 36, 9, 0), (9, .if_icmp .ge 55, 12, 64), (12, .aload_n 0, 13, 0), (13, .getfield 9, 16, 0), (16, .iload_n 3, 17, 0), (17, .iaload, 18, 0), (18, .aload_n 0, 19, 0), (19, .getfield 9, 22, 0), (22, .iload_n 1, 23, 0), (23, .iaload, 24, 0), (24, .if_icmp .eq 34, 27, 58), (27, .aload_n 0, 28, 0), (28, .iload_n 3, 29, 0), (29, .invokevirtual 40, 32, 0), (32, .ifCond .eq 26, 35, 58), (35, .aload_n 0, 36, 0), (36, .getfield 15, 39, 0), (39, .iload_n 3, 40, 0), (40, .iaload, 41, 0), (41, .aload_n 0, 42, 0), (42, .getfield 15, 45, 0), (45, .iload_n 1, 46, 0), (46, .iaload, 47, 0), (47, .iand, 48, 0), (48, .ifCond .eq 10, 51, 58), (51, .iload_n 2, 52, 0), (52, .iload_n 3, 53, 0), (53, .iconst 1, 54, 0), (54, .invokestatic 44, 57, 0), (57, .istore_n 2, 58, 0), (58, .iinc 3 1, 61, 0), (61, .goto (-57), 64, 4), (64, .iload_n 2, 65, 0), (65, .ireturn, 66, 0)], [(9, 12296, 0, some 71777), (15, 12296, 1, some 73825), (36, 12296, 8, none)], [(100044, 3, sp_X6_with), (40, 2, (z_rc 12296 sp_X1_stands))], [], [], [], [], some .int)
set_option maxRecDepth 20000 in
set_option maxHeartbeats 4000000 in
theorem ct_X1_rivalsOf (l : Launch) : z_CT l yX1_rivalsOf cX1_rivalsOf 4 (some .int) (z_rc 12296 sp_X1_rivalsOf) 1 := by
  refine z_CT_of G_X1_rivalsOf (by decide) (by decide +kernel) (z_pok_of ft_X1 ci_X1 cL_X1_L fo_X1 co_X1 lo_X1 (by decide +kernel)) rfl rfl ?_ ?_ ?_
  · intro as S P Po h0
    obtain ⟨as, rfl, h⟩ := z_rc_of h0
    unfold sp_X1_rivalsOf at h
    split at h
    · exact Nat.le_of_ble_eq_true rfl
    · exact h.elim
  · exact List.forall_mem_cons.mpr ⟨z_coN (host := "Songlinebench") (ct_X6_with l) kb_X6_with kn_X1_44 (by decide) (by decide), List.forall_mem_cons.mpr ⟨z_coV (ct_X1_stands l) kb_X1_stands kv_X1_40 ko_X1 (by decide) (by decide) (by decide), fun _ h => absurd h List.not_mem_nil⟩⟩
  · intro as S P Po h0 V hV hW
    obtain ⟨as, rfl, h⟩ := z_rc_of h0
    unfold sp_X1_rivalsOf at h
    split at h
    · rename_i x1
      obtain ⟨hp0, hp1, hpo⟩ := h
      refine hV [4] 45 0 _ _ _ _ ?_
      obtain ⟨hb4, hN4⟩ := z_le_cl (show z_le (S 12296 8) 12 by assumption) (by decide)
      have hL4 : ∀ (j k4 : Nat) (x900 : Int32) (a4 : Int32), k4 + j = (S 12296 8).toNatClampNeg → x900 = nI k4 → a4 = z_fo (fun k4 a4 => l_X1_rivalsOf_4 S P x1 k4 a4) (nI 0) k4 → V 4 [(0, .ref 12296), (1, .int x1), (2, .int a4), (3, .int x900)] [] S P := by
        intro j
        induction j with
        | zero =>
          intro k4 x900 a4 hk4 hx4 ha4
          subst hx4
          have hk9 : k4 = (S 12296 8).toNatClampNeg := by omega
          subst hk9
          subst ha4
          refine hV [4] 45 4 _ _ _ _ ?_
          refine ⟨fun _ => ?_, fun h => absurd ((z_brge hb4 (by omega) (by omega)).mpr (Nat.le_refl _)) h⟩
          exact z_pi hpo (rfl) (rfl) (rfl)
        | succ j ih =>
          intro k4 x900 a4 hk4 hx4 ha4
          subst hx4
          have hk9 : k4 < (S 12296 8).toNatClampNeg := by omega
          subst ha4
          refine hV [4] 45 4 _ _ _ _ ?_
          refine ⟨fun h => absurd ((z_brge hb4 (by omega) (by omega)).mp h) (by omega), fun _ => ?_⟩
          refine ⟨(show vp_in (nI k4) 12 by exact vp_in_nI (by omega) (by omega)), ?_⟩
          refine ⟨(show vp_in x1 12 by assumption), ?_⟩
          refine ⟨fun (h2 : (S 71777 ((nI k4).toNatClampNeg)) = (S 71777 x1.toNatClampNeg)) => ?_, fun (h2 : ¬ ((S 71777 ((nI k4).toNatClampNeg)) = (S 71777 x1.toNatClampNeg))) => ?_⟩
          · exact hW [0, 1, 2, 3] _ _ _ _ _ (ih (k4 + 1) _ (z_fo (fun k4 a4 => l_X1_rivalsOf_4 S P x1 k4 a4) (nI 0) k4) (by omega) (nI_add k4 1) (((if_pos h2).trans rfl).symm))
          · refine ⟨(show vp_in (nI k4) 12 by exact vp_in_nI (by omega) (by omega)), ?_⟩
            refine z_br (fun (h3 : (f_X1_stands S P (nI k4)) = false) => ?_) (fun (h3 : (f_X1_stands S P (nI k4)) = true) => ?_)
            · exact hW [0, 1, 2, 3] _ _ _ _ _ (ih (k4 + 1) _ (z_fo (fun k4 a4 => l_X1_rivalsOf_4 S P x1 k4 a4) (nI 0) k4) (by omega) (nI_add k4 1) (((if_neg h2).trans ((if_neg (z_nt h3)).trans rfl)).symm))
            · refine ⟨(show vp_in (nI k4) 12 by exact vp_in_nI (by omega) (by omega)), ?_⟩
              refine ⟨(show vp_in x1 12 by assumption), ?_⟩
              refine ⟨fun (h4 : ((S 73825 ((nI k4).toNatClampNeg)) &&& (S 73825 x1.toNatClampNeg)) = 0) => ?_, fun (h4 : ¬ (((S 73825 ((nI k4).toNatClampNeg)) &&& (S 73825 x1.toNatClampNeg)) = 0)) => ?_⟩
              · exact hW [0, 1, 2, 3] _ _ _ _ _ (ih (k4 + 1) _ (z_fo (fun k4 a4 => l_X1_rivalsOf_4 S P x1 k4 a4) (nI 0) k4) (by omega) (nI_add k4 1) (((if_neg h2).trans ((if_pos h3).trans ((if_pos h4).trans rfl))).symm))
              · exact hW [0, 1, 2, 3] _ _ _ _ _ (ih (k4 + 1) _ (f_X6_with S P (z_fo (fun k4 a4 => l_X1_rivalsOf_4 S P x1 k4 a4) (nI 0) k4) (nI k4) (nI 1)) (by omega) (nI_add k4 1) (((if_neg h2).trans ((if_pos h3).trans ((if_neg h4).trans rfl))).symm))
      exact hW [0, 1, 2, 3] _ _ _ _ _ (hL4 (S 12296 8).toNatClampNeg 0 _ (nI 0) (Nat.zero_add _) rfl rfl)
    · exact h.elim
def f_X1_isHeld (S : z_MI) (P : z_ML) (x1 : Int32) (x2 : Int32) : Bool :=
  if (S 77921 x1.toNatClampNeg) = (nI 2) then
    if (f_X6_isIn S P (S 79969 x1.toNatClampNeg) x2) = true then
      true
    else
      false
  else
    false
def sp_X1_isHeld : z_SP := fun as S P k => match as with
  | [.int x1, .int x2] => vp_in x1 12 ∧ k (some (.int (z_b (f_X1_isHeld S P x1 x2)))) S P
  | _ => False
def G_X1_isHeld : z_G := ([(0, .aload_n 0, 1, 0), (1, .getfield 21, 4, 0), (4, .iload_n 1, 5, 0), (5, .iaload, 6, 0), (6, .iconst 2, 7, 0), (7, .if_icmp .ne 20, 10, 27), (10, .aload_n 0, 11, 0), (11, .getfield 24, 14, 0), (14, .iload_n 1, 15, 0), (15, .iaload, 16, 0), (16, .iload_n 2, 17, 0), (17, .invokestatic 48, 20, 0), (20, .ifCond .eq 7, 23, 27), (23, .iconst 1, 24, 0), (24, .goto 4, 27, 28), (27, .iconst 0, 28, 0), (28, .ireturn, 29, 0)], [(21, 12296, 3, some 77921), (24, 12296, 4, some 79969)], [(100048, 2, sp_X6_isIn)], [], [], [], [], some .boolean)
set_option maxRecDepth 20000 in
set_option maxHeartbeats 4000000 in
theorem ct_X1_isHeld (l : Launch) : z_CT l yX1_isHeld cX1_isHeld 3 (some .boolean) (z_rc 12296 sp_X1_isHeld) 1 := by
  refine z_CT_of G_X1_isHeld (by decide) (by decide +kernel) (z_pok_of ft_X1 ci_X1 cL_X1_L fo_X1 co_X1 lo_X1 (by decide +kernel)) rfl rfl ?_ ?_ ?_
  · intro as S P Po h0
    obtain ⟨as, rfl, h⟩ := z_rc_of h0
    unfold sp_X1_isHeld at h
    split at h
    · exact Nat.le_of_ble_eq_true rfl
    · exact h.elim
  · exact List.forall_mem_cons.mpr ⟨z_coN (host := "Songlinebench") (ct_X6_isIn l) kb_X6_isIn kn_X1_48 (by decide) (by decide), fun _ h => absurd h List.not_mem_nil⟩
  · intro as S P Po h0 V hV hW
    obtain ⟨as, rfl, h⟩ := z_rc_of h0
    unfold sp_X1_isHeld at h
    split at h
    · rename_i x1 x2
      obtain ⟨hp0, hpo⟩ := h
      refine hV [] 22 0 _ _ _ _ ?_
      refine ⟨(show vp_in x1 12 by assumption), ?_⟩
      refine ⟨fun (h1 : ¬ ((S 77921 x1.toNatClampNeg) = (nI 2))) => ?_, fun (h1 : (S 77921 x1.toNatClampNeg) = (nI 2)) => ?_⟩
      · exact ⟨(by first | rfl | exact z_nb _), z_pb hpo ((if_neg h1).trans rfl) (rfl) (rfl)⟩
      · refine ⟨(show vp_in x1 12 by assumption), ?_⟩
        refine z_br (fun (h2 : (f_X6_isIn S P (S 79969 x1.toNatClampNeg) x2) = false) => ?_) (fun (h2 : (f_X6_isIn S P (S 79969 x1.toNatClampNeg) x2) = true) => ?_)
        · exact ⟨(by first | rfl | exact z_nb _), z_pb hpo ((if_pos h1).trans ((if_neg (z_nt h2)).trans rfl)) (rfl) (rfl)⟩
        · exact ⟨(by first | rfl | exact z_nb _), z_pb hpo ((if_pos h1).trans ((if_pos h2).trans rfl)) (rfl) (rfl)⟩
    · exact h.elim
def l_X1_holdersOf_4 (S : z_MI) (P : z_ML) (x1 : Int32) (k4 : Nat) (a4 : Int32) : Int32 :=
  if (f_X1_isHeld S P (nI k4) x1) = true then
    f_X6_with S P a4 (S 71777 ((nI k4).toNatClampNeg)) (nI 1)
  else
    a4
def f_X1_holdersOf (S : z_MI) (P : z_ML) (x1 : Int32) : Int32 :=
  (z_fo (fun k4 a4 => l_X1_holdersOf_4 S P x1 k4 a4) (nI 0) (S 12296 8).toNatClampNeg)
def sp_X1_holdersOf : z_SP := fun as S P k => match as with
  | [.int x1] => z_le (S 12296 8) 12 ∧ k (some (.int (f_X1_holdersOf S P x1))) S P
  | _ => False
def G_X1_holdersOf : z_G := ([(0, .iconst 0, 1, 0), (1, .istore_n 2, 2, 0), (2, .iconst 0, 3, 0), (3, .istore_n 3, 4, 0), (4, .iload_n 3, 5, 0), (5, .aload_n 0, 6, 0), (6, .getfield 36, 9, 0), (9, .if_icmp .ge 30, 12, 39), (12, .aload_n 0, 13, 0), (13, .iload_n 3, 14, 0), (14, .iload_n 1, 15, 0), (15, .invokevirtual 52, 18, 0), (18, .ifCond .eq 15, 21, 33), (21, .iload_n 2, 22, 0), (22, .aload_n 0, 23, 0), (23, .getfield 9, 26, 0), (26, .iload_n 3, 27, 0), (27, .iaload, 28, 0), (28, .iconst 1, 29, 0), (29, .invokestatic 44, 32, 0), (32, .istore_n 2, 33, 0), (33, .iinc 3 1, 36, 0), (36, .goto (-32), 39, 4), (39, .iload_n 2, 40, 0), (40, .ireturn, 41, 0)], [(9, 12296, 0, some 71777), (36, 12296, 8, none)], [(100044, 3, sp_X6_with), (52, 3, (z_rc 12296 sp_X1_isHeld))], [], [], [], [], some .int)
set_option maxRecDepth 20000 in
set_option maxHeartbeats 4000000 in
theorem ct_X1_holdersOf (l : Launch) : z_CT l yX1_holdersOf cX1_holdersOf 4 (some .int) (z_rc 12296 sp_X1_holdersOf) 2 := by
  refine z_CT_of G_X1_holdersOf (by decide) (by decide +kernel) (z_pok_of ft_X1 ci_X1 cL_X1_L fo_X1 co_X1 lo_X1 (by decide +kernel)) rfl rfl ?_ ?_ ?_
  · intro as S P Po h0
    obtain ⟨as, rfl, h⟩ := z_rc_of h0
    unfold sp_X1_holdersOf at h
    split at h
    · exact Nat.le_of_ble_eq_true rfl
    · exact h.elim
  · exact List.forall_mem_cons.mpr ⟨z_coN (host := "Songlinebench") (ct_X6_with l) kb_X6_with kn_X1_44 (by decide) (by decide), List.forall_mem_cons.mpr ⟨z_coV (ct_X1_isHeld l) kb_X1_isHeld kv_X1_52 ko_X1 (by decide) (by decide) (by decide), fun _ h => absurd h List.not_mem_nil⟩⟩
  · intro as S P Po h0 V hV hW
    obtain ⟨as, rfl, h⟩ := z_rc_of h0
    unfold sp_X1_holdersOf at h
    split at h
    · rename_i x1
      obtain ⟨hp0, hpo⟩ := h
      refine hV [4] 30 0 _ _ _ _ ?_
      obtain ⟨hb4, hN4⟩ := z_le_cl (show z_le (S 12296 8) 12 by assumption) (by decide)
      have hL4 : ∀ (j k4 : Nat) (x900 : Int32) (a4 : Int32), k4 + j = (S 12296 8).toNatClampNeg → x900 = nI k4 → a4 = z_fo (fun k4 a4 => l_X1_holdersOf_4 S P x1 k4 a4) (nI 0) k4 → V 4 [(0, .ref 12296), (1, .int x1), (2, .int a4), (3, .int x900)] [] S P := by
        intro j
        induction j with
        | zero =>
          intro k4 x900 a4 hk4 hx4 ha4
          subst hx4
          have hk9 : k4 = (S 12296 8).toNatClampNeg := by omega
          subst hk9
          subst ha4
          refine hV [4] 30 4 _ _ _ _ ?_
          refine ⟨fun _ => ?_, fun h => absurd ((z_brge hb4 (by omega) (by omega)).mpr (Nat.le_refl _)) h⟩
          exact z_pi hpo (rfl) (rfl) (rfl)
        | succ j ih =>
          intro k4 x900 a4 hk4 hx4 ha4
          subst hx4
          have hk9 : k4 < (S 12296 8).toNatClampNeg := by omega
          subst ha4
          refine hV [4] 30 4 _ _ _ _ ?_
          refine ⟨fun h => absurd ((z_brge hb4 (by omega) (by omega)).mp h) (by omega), fun _ => ?_⟩
          refine ⟨(show vp_in (nI k4) 12 by exact vp_in_nI (by omega) (by omega)), ?_⟩
          refine z_br (fun (h2 : (f_X1_isHeld S P (nI k4) x1) = false) => ?_) (fun (h2 : (f_X1_isHeld S P (nI k4) x1) = true) => ?_)
          · exact hW [0, 1, 2, 3] _ _ _ _ _ (ih (k4 + 1) _ (z_fo (fun k4 a4 => l_X1_holdersOf_4 S P x1 k4 a4) (nI 0) k4) (by omega) (nI_add k4 1) (((if_neg (z_nt h2)).trans rfl).symm))
          · refine ⟨(show vp_in (nI k4) 12 by exact vp_in_nI (by omega) (by omega)), ?_⟩
            exact hW [0, 1, 2, 3] _ _ _ _ _ (ih (k4 + 1) _ (f_X6_with S P (z_fo (fun k4 a4 => l_X1_holdersOf_4 S P x1 k4 a4) (nI 0) k4) (S 71777 ((nI k4).toNatClampNeg)) (nI 1)) (by omega) (nI_add k4 1) (((if_pos h2).trans rfl).symm))
      exact hW [0, 1, 2, 3] _ _ _ _ _ (hL4 (S 12296 8).toNatClampNeg 0 _ (nI 0) (Nat.zero_add _) rfl rfl)
    · exact h.elim
def l_X1_grantedTo_5 (S : z_MI) (P : z_ML) (x1 : Int32) (x2 : Int32) (k5 : Nat) (a5 : Int32) : Int32 :=
  if (S 71777 ((nI k5).toNatClampNeg)) = x1 then
    if (f_X1_isHeld S P (nI k5) x2) = true then
      a5 ||| (S 75873 ((nI k5).toNatClampNeg))
    else
      a5
  else
    a5
def f_X1_grantedTo (S : z_MI) (P : z_ML) (x1 : Int32) (x2 : Int32) : Int32 :=
  (z_fo (fun k5 a5 => l_X1_grantedTo_5 S P x1 x2 k5 a5) (nI 0) (S 12296 8).toNatClampNeg)
def sp_X1_grantedTo : z_SP := fun as S P k => match as with
  | [.int x1, .int x2] => z_le (S 12296 8) 12 ∧ k (some (.int (f_X1_grantedTo S P x1 x2))) S P
  | _ => False
def G_X1_grantedTo : z_G := ([(0, .iconst 0, 1, 0), (1, .istore_n 3, 2, 0), (2, .iconst 0, 3, 0), (3, .istore 4, 5, 0), (5, .iload 4, 7, 0), (7, .aload_n 0, 8, 0), (8, .getfield 36, 11, 0), (11, .if_icmp .ge 40, 14, 51), (14, .aload_n 0, 15, 0), (15, .getfield 9, 18, 0), (18, .iload 4, 20, 0), (20, .iaload, 21, 0), (21, .iload_n 1, 22, 0), (22, .if_icmp .ne 23, 25, 45), (25, .aload_n 0, 26, 0), (26, .iload 4, 28, 0), (28, .iload_n 2, 29, 0), (29, .invokevirtual 52, 32, 0), (32, .ifCond .eq 13, 35, 45), (35, .iload_n 3, 36, 0), (36, .aload_n 0, 37, 0), (37, .getfield 18, 40, 0), (40, .iload 4, 42, 0), (42, .iaload, 43, 0), (43, .ior, 44, 0), (44, .istore_n 3, 45, 0), (45, .iinc 4 1, 48, 0), (48, .goto (-43), 51, 5), (51, .iload_n 3, 52, 0), (52, .ireturn, 53, 0)], [(9, 12296, 0, some 71777), (18, 12296, 2, some 75873), (36, 12296, 8, none)], [(52, 3, (z_rc 12296 sp_X1_isHeld))], [], [], [], [], some .int)
set_option maxRecDepth 20000 in
set_option maxHeartbeats 4000000 in
theorem ct_X1_grantedTo (l : Launch) : z_CT l yX1_grantedTo cX1_grantedTo 5 (some .int) (z_rc 12296 sp_X1_grantedTo) 2 := by
  refine z_CT_of G_X1_grantedTo (by decide) (by decide +kernel) (z_pok_of ft_X1 ci_X1 cL_X1_L fo_X1 co_X1 lo_X1 (by decide +kernel)) rfl rfl ?_ ?_ ?_
  · intro as S P Po h0
    obtain ⟨as, rfl, h⟩ := z_rc_of h0
    unfold sp_X1_grantedTo at h
    split at h
    · exact Nat.le_of_ble_eq_true rfl
    · exact h.elim
  · exact List.forall_mem_cons.mpr ⟨z_coV (ct_X1_isHeld l) kb_X1_isHeld kv_X1_52 ko_X1 (by decide) (by decide) (by decide), fun _ h => absurd h List.not_mem_nil⟩
  · intro as S P Po h0 V hV hW
    obtain ⟨as, rfl, h⟩ := z_rc_of h0
    unfold sp_X1_grantedTo at h
    split at h
    · rename_i x1 x2
      obtain ⟨hp0, hpo⟩ := h
      refine hV [5] 35 0 _ _ _ _ ?_
      obtain ⟨hb5, hN5⟩ := z_le_cl (show z_le (S 12296 8) 12 by assumption) (by decide)
      have hL5 : ∀ (j k5 : Nat) (x900 : Int32) (a5 : Int32), k5 + j = (S 12296 8).toNatClampNeg → x900 = nI k5 → a5 = z_fo (fun k5 a5 => l_X1_grantedTo_5 S P x1 x2 k5 a5) (nI 0) k5 → V 5 [(0, .ref 12296), (1, .int x1), (2, .int x2), (3, .int a5), (4, .int x900)] [] S P := by
        intro j
        induction j with
        | zero =>
          intro k5 x900 a5 hk5 hx5 ha5
          subst hx5
          have hk9 : k5 = (S 12296 8).toNatClampNeg := by omega
          subst hk9
          subst ha5
          refine hV [5] 35 5 _ _ _ _ ?_
          refine ⟨fun _ => ?_, fun h => absurd ((z_brge hb5 (by omega) (by omega)).mpr (Nat.le_refl _)) h⟩
          exact z_pi hpo (rfl) (rfl) (rfl)
        | succ j ih =>
          intro k5 x900 a5 hk5 hx5 ha5
          subst hx5
          have hk9 : k5 < (S 12296 8).toNatClampNeg := by omega
          subst ha5
          refine hV [5] 35 5 _ _ _ _ ?_
          refine ⟨fun h => absurd ((z_brge hb5 (by omega) (by omega)).mp h) (by omega), fun _ => ?_⟩
          refine ⟨(show vp_in (nI k5) 12 by exact vp_in_nI (by omega) (by omega)), ?_⟩
          refine ⟨fun (h2 : ¬ ((S 71777 ((nI k5).toNatClampNeg)) = x1)) => ?_, fun (h2 : (S 71777 ((nI k5).toNatClampNeg)) = x1) => ?_⟩
          · exact hW [0, 1, 2, 3, 4] _ _ _ _ _ (ih (k5 + 1) _ (z_fo (fun k5 a5 => l_X1_grantedTo_5 S P x1 x2 k5 a5) (nI 0) k5) (by omega) (nI_add k5 1) (((if_neg h2).trans rfl).symm))
          · refine ⟨(show vp_in (nI k5) 12 by exact vp_in_nI (by omega) (by omega)), ?_⟩
            refine z_br (fun (h3 : (f_X1_isHeld S P (nI k5) x2) = false) => ?_) (fun (h3 : (f_X1_isHeld S P (nI k5) x2) = true) => ?_)
            · exact hW [0, 1, 2, 3, 4] _ _ _ _ _ (ih (k5 + 1) _ (z_fo (fun k5 a5 => l_X1_grantedTo_5 S P x1 x2 k5 a5) (nI 0) k5) (by omega) (nI_add k5 1) (((if_pos h2).trans ((if_neg (z_nt h3)).trans rfl)).symm))
            · refine ⟨(show vp_in (nI k5) 12 by exact vp_in_nI (by omega) (by omega)), ?_⟩
              exact hW [0, 1, 2, 3, 4] _ _ _ _ _ (ih (k5 + 1) _ ((z_fo (fun k5 a5 => l_X1_grantedTo_5 S P x1 x2 k5 a5) (nI 0) k5) ||| (S 75873 ((nI k5).toNatClampNeg))) (by omega) (nI_add k5 1) (((if_pos h2).trans ((if_pos h3).trans rfl)).symm))
      exact hW [0, 1, 2, 3, 4] _ _ _ _ _ (hL5 (S 12296 8).toNatClampNeg 0 _ (nI 0) (Nat.zero_add _) rfl rfl)
    · exact h.elim
def l_X1_partiesAt_5 (S : z_MI) (P : z_ML) (x1 : Int32) (x2 : Int32) (k5 : Nat) (a5 : Int32) : Int32 :=
  if (f_X1_stands S P (nI k5)) = true then
    if x2 < (S 82017 ((nI k5).toNatClampNeg)) then
      a5
    else
      if ((S 73825 ((nI k5).toNatClampNeg)) &&& x1) = 0 then
        a5
      else
        f_X6_with S P a5 (S 71777 ((nI k5).toNatClampNeg)) (nI 1)
  else
    a5
def f_X1_partiesAt (S : z_MI) (P : z_ML) (x1 : Int32) (x2 : Int32) : Int32 :=
  (z_fo (fun k5 a5 => l_X1_partiesAt_5 S P x1 x2 k5 a5) (nI 0) (S 12296 8).toNatClampNeg)
def sp_X1_partiesAt : z_SP := fun as S P k => match as with
  | [.int x1, .int x2] => z_le (S 12296 8) 12 ∧ k (some (.int (f_X1_partiesAt S P x1 x2))) S P
  | _ => False
def G_X1_partiesAt : z_G := ([(0, .iconst 0, 1, 0), (1, .istore_n 3, 2, 0), (2, .iconst 0, 3, 0), (3, .istore 4, 5, 0), (5, .iload 4, 7, 0), (7, .aload_n 0, 8, 0), (8, .getfield 36, 11, 0), (11, .if_icmp .ge 54, 14, 65), (14, .aload_n 0, 15, 0), (15, .iload 4, 17, 0), (17, .invokevirtual 40, 20, 0), (20, .ifCond .eq 39, 23, 59), (23, .aload_n 0, 24, 0), (24, .getfield 27, 27, 0), (27, .iload 4, 29, 0), (29, .iaload, 30, 0), (30, .iload_n 2, 31, 0), (31, .if_icmp .gt 28, 34, 59), (34, .aload_n 0, 35, 0), (35, .getfield 15, 38, 0), (38, .iload 4, 40, 0), (40, .iaload, 41, 0), (41, .iload_n 1, 42, 0), (42, .iand, 43, 0), (43, .ifCond .eq 16, 46, 59), (46, .iload_n 3, 47, 0), (47, .aload_n 0, 48, 0), (48, .getfield 9, 51, 0), (51, .iload 4, 53, 0), (53, .iaload, 54, 0), (54, .iconst 1, 55, 0), (55, .invokestatic 44, 58, 0), (58, .istore_n 3, 59, 0), (59, .iinc 4 1, 62, 0), (62, .goto (-57), 65, 5), (65, .iload_n 3, 66, 0), (66, .ireturn, 67, 0)], [(9, 12296, 0, some 71777), (15, 12296, 1, some 73825), (27, 12296, 5, some 82017), (36, 12296, 8, none)], [(100044, 3, sp_X6_with), (40, 2, (z_rc 12296 sp_X1_stands))], [], [], [], [], some .int)
set_option maxRecDepth 20000 in
set_option maxHeartbeats 4000000 in
theorem ct_X1_partiesAt (l : Launch) : z_CT l yX1_partiesAt cX1_partiesAt 5 (some .int) (z_rc 12296 sp_X1_partiesAt) 1 := by
  refine z_CT_of G_X1_partiesAt (by decide) (by decide +kernel) (z_pok_of ft_X1 ci_X1 cL_X1_L fo_X1 co_X1 lo_X1 (by decide +kernel)) rfl rfl ?_ ?_ ?_
  · intro as S P Po h0
    obtain ⟨as, rfl, h⟩ := z_rc_of h0
    unfold sp_X1_partiesAt at h
    split at h
    · exact Nat.le_of_ble_eq_true rfl
    · exact h.elim
  · exact List.forall_mem_cons.mpr ⟨z_coN (host := "Songlinebench") (ct_X6_with l) kb_X6_with kn_X1_44 (by decide) (by decide), List.forall_mem_cons.mpr ⟨z_coV (ct_X1_stands l) kb_X1_stands kv_X1_40 ko_X1 (by decide) (by decide) (by decide), fun _ h => absurd h List.not_mem_nil⟩⟩
  · intro as S P Po h0 V hV hW
    obtain ⟨as, rfl, h⟩ := z_rc_of h0
    unfold sp_X1_partiesAt at h
    split at h
    · rename_i x1 x2
      obtain ⟨hp0, hpo⟩ := h
      refine hV [5] 42 0 _ _ _ _ ?_
      obtain ⟨hb5, hN5⟩ := z_le_cl (show z_le (S 12296 8) 12 by assumption) (by decide)
      have hL5 : ∀ (j k5 : Nat) (x900 : Int32) (a5 : Int32), k5 + j = (S 12296 8).toNatClampNeg → x900 = nI k5 → a5 = z_fo (fun k5 a5 => l_X1_partiesAt_5 S P x1 x2 k5 a5) (nI 0) k5 → V 5 [(0, .ref 12296), (1, .int x1), (2, .int x2), (3, .int a5), (4, .int x900)] [] S P := by
        intro j
        induction j with
        | zero =>
          intro k5 x900 a5 hk5 hx5 ha5
          subst hx5
          have hk9 : k5 = (S 12296 8).toNatClampNeg := by omega
          subst hk9
          subst ha5
          refine hV [5] 42 5 _ _ _ _ ?_
          refine ⟨fun _ => ?_, fun h => absurd ((z_brge hb5 (by omega) (by omega)).mpr (Nat.le_refl _)) h⟩
          exact z_pi hpo (rfl) (rfl) (rfl)
        | succ j ih =>
          intro k5 x900 a5 hk5 hx5 ha5
          subst hx5
          have hk9 : k5 < (S 12296 8).toNatClampNeg := by omega
          subst ha5
          refine hV [5] 42 5 _ _ _ _ ?_
          refine ⟨fun h => absurd ((z_brge hb5 (by omega) (by omega)).mp h) (by omega), fun _ => ?_⟩
          refine ⟨(show vp_in (nI k5) 12 by exact vp_in_nI (by omega) (by omega)), ?_⟩
          refine z_br (fun (h2 : (f_X1_stands S P (nI k5)) = false) => ?_) (fun (h2 : (f_X1_stands S P (nI k5)) = true) => ?_)
          · exact hW [0, 1, 2, 3, 4] _ _ _ _ _ (ih (k5 + 1) _ (z_fo (fun k5 a5 => l_X1_partiesAt_5 S P x1 x2 k5 a5) (nI 0) k5) (by omega) (nI_add k5 1) (((if_neg (z_nt h2)).trans rfl).symm))
          · refine ⟨(show vp_in (nI k5) 12 by exact vp_in_nI (by omega) (by omega)), ?_⟩
            refine ⟨fun (h3 : x2 < (S 82017 ((nI k5).toNatClampNeg))) => ?_, fun (h3 : ¬ (x2 < (S 82017 ((nI k5).toNatClampNeg)))) => ?_⟩
            · exact hW [0, 1, 2, 3, 4] _ _ _ _ _ (ih (k5 + 1) _ (z_fo (fun k5 a5 => l_X1_partiesAt_5 S P x1 x2 k5 a5) (nI 0) k5) (by omega) (nI_add k5 1) (((if_pos h2).trans ((if_pos h3).trans rfl)).symm))
            · refine ⟨(show vp_in (nI k5) 12 by exact vp_in_nI (by omega) (by omega)), ?_⟩
              refine ⟨fun (h4 : ((S 73825 ((nI k5).toNatClampNeg)) &&& x1) = 0) => ?_, fun (h4 : ¬ (((S 73825 ((nI k5).toNatClampNeg)) &&& x1) = 0)) => ?_⟩
              · exact hW [0, 1, 2, 3, 4] _ _ _ _ _ (ih (k5 + 1) _ (z_fo (fun k5 a5 => l_X1_partiesAt_5 S P x1 x2 k5 a5) (nI 0) k5) (by omega) (nI_add k5 1) (((if_pos h2).trans ((if_neg h3).trans ((if_pos h4).trans rfl))).symm))
              · refine ⟨(show vp_in (nI k5) 12 by exact vp_in_nI (by omega) (by omega)), ?_⟩
                exact hW [0, 1, 2, 3, 4] _ _ _ _ _ (ih (k5 + 1) _ (f_X6_with S P (z_fo (fun k5 a5 => l_X1_partiesAt_5 S P x1 x2 k5 a5) (nI 0) k5) (S 71777 ((nI k5).toNatClampNeg)) (nI 1)) (by omega) (nI_add k5 1) (((if_pos h2).trans ((if_neg h3).trans ((if_neg h4).trans rfl))).symm))
      exact hW [0, 1, 2, 3, 4] _ _ _ _ _ (hL5 (S 12296 8).toNatClampNeg 0 _ (nI 0) (Nat.zero_add _) rfl rfl)
    · exact h.elim
def f_X4_isNotice (S : z_MI) (P : z_ML) (x1 : Int32) : Bool :=
  if x1 < 0 then
    false
  else
    if (S 14368 11) ≤ x1 then
      false
    else
      true
def sp_X4_isNotice : z_SP := fun as S P k => match as with
  | [.int x1] => k (some (.int (z_b (f_X4_isNotice S P x1)))) S P
  | _ => False
def G_X4_isNotice : z_G := ([(0, .iload_n 1, 1, 0), (1, .ifCond .lt 15, 4, 16), (4, .iload_n 1, 5, 0), (5, .aload_n 0, 6, 0), (6, .getfield 46, 9, 0), (9, .if_icmp .ge 7, 12, 16), (12, .iconst 1, 13, 0), (13, .goto 4, 16, 17), (16, .iconst 0, 17, 0), (17, .ireturn, 18, 0)], [(46, 14368, 11, none)], [], [], [], [], [], some .boolean)
set_option maxRecDepth 20000 in
set_option maxHeartbeats 4000000 in
theorem ct_X4_isNotice (l : Launch) : z_CT l yX4_isNotice cX4_isNotice 2 (some .boolean) (z_rc 14368 sp_X4_isNotice) 0 := by
  refine z_CT_of G_X4_isNotice (by decide) (by decide +kernel) (z_pok_of ft_X4 ci_X4 cL_X4_L fo_X4 co_X4 lo_X4 (by decide +kernel)) rfl rfl ?_ ?_ ?_
  · intro as S P Po h0
    obtain ⟨as, rfl, h⟩ := z_rc_of h0
    unfold sp_X4_isNotice at h
    split at h
    · exact Nat.le_of_ble_eq_true rfl
    · exact h.elim
  · exact fun _ h => absurd h List.not_mem_nil
  · intro as S P Po h0 V hV hW
    obtain ⟨as, rfl, h⟩ := z_rc_of h0
    unfold sp_X4_isNotice at h
    split at h
    · rename_i x1
      have hpo := h
      refine hV [] 15 0 _ _ _ _ ?_
      refine ⟨fun (h1 : x1 < 0) => ?_, fun (h1 : ¬ (x1 < 0)) => ?_⟩
      · exact ⟨(by first | rfl | exact z_nb _), z_pb hpo ((if_pos h1).trans rfl) (rfl) (rfl)⟩
      · refine ⟨fun (h2 : (S 14368 11) ≤ x1) => ?_, fun (h2 : ¬ ((S 14368 11) ≤ x1)) => ?_⟩
        · exact ⟨(by first | rfl | exact z_nb _), z_pb hpo ((if_neg h1).trans ((if_pos h2).trans rfl)) (rfl) (rfl)⟩
        · exact ⟨(by first | rfl | exact z_nb _), z_pb hpo ((if_neg h1).trans ((if_neg h2).trans rfl)) (rfl) (rfl)⟩
    · exact h.elim
def f_X4_add (S : z_MI) (P : z_ML) (x1 : Int32) (x2 : Int32) : Int32 :=
  S 14368 11
def u_X4_add (S : z_MI) (P : z_ML) (x1 : Int32) (x2 : Int32) : z_MI :=
  va_up (va_up (va_up (va_up (va_up S 88161 (upd (S 88161) ((S 14368 11).toNatClampNeg) x1)) 106594 (upd ((va_up S 88161 (upd (S 88161) ((S 14368 11).toNatClampNeg) x1)) 106594) ((S 14368 11).toNatClampNeg) (vp_nar .boolean x2))) 98401 (upd ((va_up (va_up S 88161 (upd (S 88161) ((S 14368 11).toNatClampNeg) x1)) 106594 (upd ((va_up S 88161 (upd (S 88161) ((S 14368 11).toNatClampNeg) x1)) 106594) ((S 14368 11).toNatClampNeg) (vp_nar .boolean x2))) 98401) ((S 14368 11).toNatClampNeg) (nI 0))) 104545 (upd ((va_up (va_up (va_up S 88161 (upd (S 88161) ((S 14368 11).toNatClampNeg) x1)) 106594 (upd ((va_up S 88161 (upd (S 88161) ((S 14368 11).toNatClampNeg) x1)) 106594) ((S 14368 11).toNatClampNeg) (vp_nar .boolean x2))) 98401 (upd ((va_up (va_up S 88161 (upd (S 88161) ((S 14368 11).toNatClampNeg) x1)) 106594 (upd ((va_up S 88161 (upd (S 88161) ((S 14368 11).toNatClampNeg) x1)) 106594) ((S 14368 11).toNatClampNeg) (vp_nar .boolean x2))) 98401) ((S 14368 11).toNatClampNeg) (nI 0))) 104545) ((S 14368 11).toNatClampNeg) (-1))) 14368 (upd ((va_up (va_up (va_up (va_up S 88161 (upd (S 88161) ((S 14368 11).toNatClampNeg) x1)) 106594 (upd ((va_up S 88161 (upd (S 88161) ((S 14368 11).toNatClampNeg) x1)) 106594) ((S 14368 11).toNatClampNeg) (vp_nar .boolean x2))) 98401 (upd ((va_up (va_up S 88161 (upd (S 88161) ((S 14368 11).toNatClampNeg) x1)) 106594 (upd ((va_up S 88161 (upd (S 88161) ((S 14368 11).toNatClampNeg) x1)) 106594) ((S 14368 11).toNatClampNeg) (vp_nar .boolean x2))) 98401) ((S 14368 11).toNatClampNeg) (nI 0))) 104545 (upd ((va_up (va_up (va_up S 88161 (upd (S 88161) ((S 14368 11).toNatClampNeg) x1)) 106594 (upd ((va_up S 88161 (upd (S 88161) ((S 14368 11).toNatClampNeg) x1)) 106594) ((S 14368 11).toNatClampNeg) (vp_nar .boolean x2))) 98401 (upd ((va_up (va_up S 88161 (upd (S 88161) ((S 14368 11).toNatClampNeg) x1)) 106594 (upd ((va_up S 88161 (upd (S 88161) ((S 14368 11).toNatClampNeg) x1)) 106594) ((S 14368 11).toNatClampNeg) (vp_nar .boolean x2))) 98401) ((S 14368 11).toNatClampNeg) (nI 0))) 104545) ((S 14368 11).toNatClampNeg) (-1))) 14368) 11 ((S 14368 11) + (nI 1)))
def sp_X4_add : z_SP := fun as S P k => match as with
  | [.int x1, .int x2] => vp_in (S 14368 11) 12 ∧ k (some (.int (f_X4_add S P x1 x2))) (u_X4_add S P x1 x2) P
  | _ => False
def G_X4_add : z_G := ([(0, .aload_n 0, 1, 0), (1, .getfield 46, 4, 0), (4, .istore_n 3, 5, 0), (5, .aload_n 0, 6, 0), (6, .getfield 9, 9, 0), (9, .iload_n 3, 10, 0), (10, .iload_n 1, 11, 0), (11, .iastore, 12, 0), (12, .aload_n 0, 13, 0), (13, .getfield 39, 16, 0), (16, .iload_n 3, 17, 0), (17, .iload_n 2, 18, 0), (18, .bastore, 19, 0), (19, .aload_n 0, 20, 0), (20, .getfield 27, 23, 0), (23, .iload_n 3, 24, 0), (24, .iconst 0, 25, 0), (25, .iastore, 26, 0), (26, .aload_n 0, 27, 0), (27, .getfield 36, 30, 0), (30, .iload_n 3, 31, 0), (31, .iconst (-1), 32, 0), (32, .iastore, 33, 0), (33, .aload_n 0, 34, 0), (34, .dup, 35, 0), (35, .getfield 46, 38, 0), (38, .iconst 1, 39, 0), (39, .iadd, 40, 0), (40, .putfield 46, 43, 0), (43, .iload_n 3, 44, 0), (44, .ireturn, 45, 0)], [(9, 14368, 0, some 88161), (27, 14368, 5, some 98401), (36, 14368, 8, some 104545), (39, 14368, 9, some 106594), (46, 14368, 11, none)], [], [], [], [], [], some .int)
set_option maxRecDepth 20000 in
set_option maxHeartbeats 4000000 in
theorem ct_X4_add (l : Launch) : z_CT l yX4_add cX4_add 4 (some .int) (z_rc 14368 sp_X4_add) 0 := by
  refine z_CT_of G_X4_add (by decide) (by decide +kernel) (z_pok_of ft_X4 ci_X4 cL_X4_L fo_X4 co_X4 lo_X4 (by decide +kernel)) rfl rfl ?_ ?_ ?_
  · intro as S P Po h0
    obtain ⟨as, rfl, h⟩ := z_rc_of h0
    unfold sp_X4_add at h
    split at h
    · exact Nat.le_of_ble_eq_true rfl
    · exact h.elim
  · exact fun _ h => absurd h List.not_mem_nil
  · intro as S P Po h0 V hV hW
    obtain ⟨as, rfl, h⟩ := z_rc_of h0
    unfold sp_X4_add at h
    split at h
    · rename_i x1 x2
      obtain ⟨hp0, hpo⟩ := h
      refine hV [] 36 0 _ _ _ _ ?_
      refine ⟨(show vp_in (S 14368 11) 12 by assumption), ?_⟩
      refine ⟨(show vp_in (S 14368 11) 12 by assumption), ?_⟩
      refine ⟨(show vp_in (S 14368 11) 12 by assumption), ?_⟩
      refine ⟨(show vp_in (S 14368 11) 12 by assumption), ?_⟩
      exact z_pi hpo (rfl) (rfl) (rfl)
    · exact h.elim
def u_X4_tell (S : z_MI) (P : z_ML) (x1 : Int32) (x2 : Int32) (x3 : Int32) (x4 : Int32) (x5 : Int32) : z_MI :=
  va_up (va_up (va_up (va_up S 90209 (upd (S 90209) x1.toNatClampNeg x2)) 92257 (upd ((va_up S 90209 (upd (S 90209) x1.toNatClampNeg x2)) 92257) x1.toNatClampNeg x3)) 94305 (upd ((va_up (va_up S 90209 (upd (S 90209) x1.toNatClampNeg x2)) 92257 (upd ((va_up S 90209 (upd (S 90209) x1.toNatClampNeg x2)) 92257) x1.toNatClampNeg x3)) 94305) x1.toNatClampNeg x4)) 96353 (upd ((va_up (va_up (va_up S 90209 (upd (S 90209) x1.toNatClampNeg x2)) 92257 (upd ((va_up S 90209 (upd (S 90209) x1.toNatClampNeg x2)) 92257) x1.toNatClampNeg x3)) 94305 (upd ((va_up (va_up S 90209 (upd (S 90209) x1.toNatClampNeg x2)) 92257 (upd ((va_up S 90209 (upd (S 90209) x1.toNatClampNeg x2)) 92257) x1.toNatClampNeg x3)) 94305) x1.toNatClampNeg x4)) 96353) x1.toNatClampNeg x5)
def sp_X4_tell : z_SP := fun as S P k => match as with
  | [.int x1, .int x2, .int x3, .int x4, .int x5] => vp_in x1 12 ∧ k (none) (u_X4_tell S P x1 x2 x3 x4 x5) P
  | _ => False
def G_X4_tell : z_G := ([(0, .aload_n 0, 1, 0), (1, .getfield 15, 4, 0), (4, .iload_n 1, 5, 0), (5, .iload_n 2, 6, 0), (6, .iastore, 7, 0), (7, .aload_n 0, 8, 0), (8, .getfield 18, 11, 0), (11, .iload_n 1, 12, 0), (12, .iload_n 3, 13, 0), (13, .iastore, 14, 0), (14, .aload_n 0, 15, 0), (15, .getfield 21, 18, 0), (18, .iload_n 1, 19, 0), (19, .iload 4, 21, 0), (21, .iastore, 22, 0), (22, .aload_n 0, 23, 0), (23, .getfield 24, 26, 0), (26, .iload_n 1, 27, 0), (27, .iload 5, 29, 0), (29, .iastore, 30, 0), (30, .return_, 31, 0)], [(15, 14368, 1, some 90209), (18, 14368, 2, some 92257), (21, 14368, 3, some 94305), (24, 14368, 4, some 96353)], [], [], [], [], [], none)
set_option maxRecDepth 20000 in
set_option maxHeartbeats 4000000 in
theorem ct_X4_tell (l : Launch) : z_CT l yX4_tell cX4_tell 6 (none) (z_rc 14368 sp_X4_tell) 0 := by
  refine z_CT_of G_X4_tell (by decide) (by decide +kernel) (z_pok_of ft_X4 ci_X4 cL_X4_L fo_X4 co_X4 lo_X4 (by decide +kernel)) rfl rfl ?_ ?_ ?_
  · intro as S P Po h0
    obtain ⟨as, rfl, h⟩ := z_rc_of h0
    unfold sp_X4_tell at h
    split at h
    · exact Nat.le_of_ble_eq_true rfl
    · exact h.elim
  · exact fun _ h => absurd h List.not_mem_nil
  · intro as S P Po h0 V hV hW
    obtain ⟨as, rfl, h⟩ := z_rc_of h0
    unfold sp_X4_tell at h
    split at h
    · rename_i x1 x2 x3 x4 x5
      obtain ⟨hp0, hpo⟩ := h
      refine hV [] 26 0 _ _ _ _ ?_
      refine ⟨(show vp_in x1 12 by assumption), ?_⟩
      refine ⟨(show vp_in x1 12 by assumption), ?_⟩
      refine ⟨(show vp_in x1 12 by assumption), ?_⟩
      refine ⟨(show vp_in x1 12 by assumption), ?_⟩
      exact z_pv hpo (rfl) (rfl)
    · exact h.elim
def f_X4_isOpenToObject (S : z_MI) (P : z_ML) (x1 : Int32) (x2 : Int32) : Bool :=
  if (S 98401 x1.toNatClampNeg) = 0 then
    if (S 106594 x1.toNatClampNeg) = 0 then
      false
    else
      if (nI 4) < (x2 - (S 88161 x1.toNatClampNeg)) then
        false
      else
        true
  else
    false
def sp_X4_isOpenToObject : z_SP := fun as S P k => match as with
  | [.int x1, .int x2] => vp_in x1 12 ∧ k (some (.int (z_b (f_X4_isOpenToObject S P x1 x2)))) S P
  | _ => False
def G_X4_isOpenToObject : z_G := ([(0, .aload_n 0, 1, 0), (1, .getfield 27, 4, 0), (4, .iload_n 1, 5, 0), (5, .iaload, 6, 0), (6, .ifCond .ne 28, 9, 34), (9, .aload_n 0, 10, 0), (10, .getfield 39, 13, 0), (13, .iload_n 1, 14, 0), (14, .baload, 15, 0), (15, .ifCond .eq 19, 18, 34), (18, .iload_n 2, 19, 0), (19, .aload_n 0, 20, 0), (20, .getfield 9, 23, 0), (23, .iload_n 1, 24, 0), (24, .iaload, 25, 0), (25, .isub, 26, 0), (26, .iconst 4, 27, 0), (27, .if_icmp .gt 7, 30, 34), (30, .iconst 1, 31, 0), (31, .goto 4, 34, 35), (34, .iconst 0, 35, 0), (35, .ireturn, 36, 0)], [(9, 14368, 0, some 88161), (27, 14368, 5, some 98401), (39, 14368, 9, some 106594)], [], [], [], [], [], some .boolean)
set_option maxRecDepth 20000 in
set_option maxHeartbeats 4000000 in
theorem ct_X4_isOpenToObject (l : Launch) : z_CT l yX4_isOpenToObject cX4_isOpenToObject 3 (some .boolean) (z_rc 14368 sp_X4_isOpenToObject) 0 := by
  refine z_CT_of G_X4_isOpenToObject (by decide) (by decide +kernel) (z_pok_of ft_X4 ci_X4 cL_X4_L fo_X4 co_X4 lo_X4 (by decide +kernel)) rfl rfl ?_ ?_ ?_
  · intro as S P Po h0
    obtain ⟨as, rfl, h⟩ := z_rc_of h0
    unfold sp_X4_isOpenToObject at h
    split at h
    · exact Nat.le_of_ble_eq_true rfl
    · exact h.elim
  · exact fun _ h => absurd h List.not_mem_nil
  · intro as S P Po h0 V hV hW
    obtain ⟨as, rfl, h⟩ := z_rc_of h0
    unfold sp_X4_isOpenToObject at h
    split at h
    · rename_i x1 x2
      obtain ⟨hp0, hpo⟩ := h
      refine hV [] 27 0 _ _ _ _ ?_
      refine ⟨(show vp_in x1 12 by assumption), ?_⟩
      refine ⟨fun (h1 : ¬ ((S 98401 x1.toNatClampNeg) = 0)) => ?_, fun (h1 : (S 98401 x1.toNatClampNeg) = 0) => ?_⟩
      · exact ⟨(by first | rfl | exact z_nb _), z_pb hpo ((if_neg h1).trans rfl) (rfl) (rfl)⟩
      · refine ⟨(show vp_in x1 12 by assumption), ?_⟩
        refine ⟨fun (h2 : (S 106594 x1.toNatClampNeg) = 0) => ?_, fun (h2 : ¬ ((S 106594 x1.toNatClampNeg) = 0)) => ?_⟩
        · exact ⟨(by first | rfl | exact z_nb _), z_pb hpo ((if_pos h1).trans ((if_pos h2).trans rfl)) (rfl) (rfl)⟩
        · refine ⟨(show vp_in x1 12 by assumption), ?_⟩
          refine ⟨fun (h3 : (nI 4) < (x2 - (S 88161 x1.toNatClampNeg))) => ?_, fun (h3 : ¬ ((nI 4) < (x2 - (S 88161 x1.toNatClampNeg)))) => ?_⟩
          · exact ⟨(by first | rfl | exact z_nb _), z_pb hpo ((if_pos h1).trans ((if_neg h2).trans ((if_pos h3).trans rfl))) (rfl) (rfl)⟩
          · exact ⟨(by first | rfl | exact z_nb _), z_pb hpo ((if_pos h1).trans ((if_neg h2).trans ((if_neg h3).trans rfl))) (rfl) (rfl)⟩
    · exact h.elim
def f_X4_isOpenToDecide (S : z_MI) (P : z_ML) (x1 : Int32) (x2 : Int32) : Bool :=
  if (S 98401 x1.toNatClampNeg) = 0 then
    if (S 108642 x1.toNatClampNeg) = 0 then
      if (x2 - (S 88161 x1.toNatClampNeg)) < (nI 6) then
        false
      else
        true
    else
      false
  else
    false
def sp_X4_isOpenToDecide : z_SP := fun as S P k => match as with
  | [.int x1, .int x2] => vp_in x1 12 ∧ k (some (.int (z_b (f_X4_isOpenToDecide S P x1 x2)))) S P
  | _ => False
def G_X4_isOpenToDecide : z_G := ([(0, .aload_n 0, 1, 0), (1, .getfield 27, 4, 0), (4, .iload_n 1, 5, 0), (5, .iaload, 6, 0), (6, .ifCond .ne 29, 9, 35), (9, .aload_n 0, 10, 0), (10, .getfield 43, 13, 0), (13, .iload_n 1, 14, 0), (14, .baload, 15, 0), (15, .ifCond .ne 20, 18, 35), (18, .iload_n 2, 19, 0), (19, .aload_n 0, 20, 0), (20, .getfield 9, 23, 0), (23, .iload_n 1, 24, 0), (24, .iaload, 25, 0), (25, .isub, 26, 0), (26, .bipush 6, 28, 0), (28, .if_icmp .lt 7, 31, 35), (31, .iconst 1, 32, 0), (32, .goto 4, 35, 36), (35, .iconst 0, 36, 0), (36, .ireturn, 37, 0)], [(9, 14368, 0, some 88161), (27, 14368, 5, some 98401), (43, 14368, 10, some 108642)], [], [], [], [], [], some .boolean)
set_option maxRecDepth 20000 in
set_option maxHeartbeats 4000000 in
theorem ct_X4_isOpenToDecide (l : Launch) : z_CT l yX4_isOpenToDecide cX4_isOpenToDecide 3 (some .boolean) (z_rc 14368 sp_X4_isOpenToDecide) 0 := by
  refine z_CT_of G_X4_isOpenToDecide (by decide) (by decide +kernel) (z_pok_of ft_X4 ci_X4 cL_X4_L fo_X4 co_X4 lo_X4 (by decide +kernel)) rfl rfl ?_ ?_ ?_
  · intro as S P Po h0
    obtain ⟨as, rfl, h⟩ := z_rc_of h0
    unfold sp_X4_isOpenToDecide at h
    split at h
    · exact Nat.le_of_ble_eq_true rfl
    · exact h.elim
  · exact fun _ h => absurd h List.not_mem_nil
  · intro as S P Po h0 V hV hW
    obtain ⟨as, rfl, h⟩ := z_rc_of h0
    unfold sp_X4_isOpenToDecide at h
    split at h
    · rename_i x1 x2
      obtain ⟨hp0, hpo⟩ := h
      refine hV [] 27 0 _ _ _ _ ?_
      refine ⟨(show vp_in x1 12 by assumption), ?_⟩
      refine ⟨fun (h1 : ¬ ((S 98401 x1.toNatClampNeg) = 0)) => ?_, fun (h1 : (S 98401 x1.toNatClampNeg) = 0) => ?_⟩
      · exact ⟨(by first | rfl | exact z_nb _), z_pb hpo ((if_neg h1).trans rfl) (rfl) (rfl)⟩
      · refine ⟨(show vp_in x1 12 by assumption), ?_⟩
        refine ⟨fun (h2 : ¬ ((S 108642 x1.toNatClampNeg) = 0)) => ?_, fun (h2 : (S 108642 x1.toNatClampNeg) = 0) => ?_⟩
        · exact ⟨(by first | rfl | exact z_nb _), z_pb hpo ((if_pos h1).trans ((if_neg h2).trans rfl)) (rfl) (rfl)⟩
        · refine ⟨(show vp_in x1 12 by assumption), ?_⟩
          refine ⟨fun (h3 : (x2 - (S 88161 x1.toNatClampNeg)) < (nI 6)) => ?_, fun (h3 : ¬ ((x2 - (S 88161 x1.toNatClampNeg)) < (nI 6))) => ?_⟩
          · exact ⟨(by first | rfl | exact z_nb _), z_pb hpo ((if_pos h1).trans ((if_pos h2).trans ((if_pos h3).trans rfl))) (rfl) (rfl)⟩
          · exact ⟨(by first | rfl | exact z_nb _), z_pb hpo ((if_pos h1).trans ((if_pos h2).trans ((if_neg h3).trans rfl))) (rfl) (rfl)⟩
    · exact h.elim
def f_X4_isRipe (S : z_MI) (P : z_ML) (x1 : Int32) (x2 : Int32) (x3 : Int32) : Bool :=
  if (x2 - (S 88161 x1.toNatClampNeg)) ≤ (nI 3) then
    if (S 106594 x1.toNatClampNeg) = 0 then
      if (S 98401 x1.toNatClampNeg) = 0 then
        if (S 108642 x1.toNatClampNeg) = 0 then
          false
        else
          true
      else
        false
    else
      if (x2 - (S 88161 x1.toNatClampNeg)) ≤ (nI 4) then
        if (S 98401 x1.toNatClampNeg) = 0 then
          if (S 108642 x1.toNatClampNeg) = 0 then
            false
          else
            true
        else
          false
      else
        if (S 102497 x1.toNatClampNeg) = 0 then
          if (S 98401 x1.toNatClampNeg) = 0 then
            true
          else
            false
        else
          if (S 98401 x1.toNatClampNeg) = 0 then
            if (S 108642 x1.toNatClampNeg) = 0 then
              false
            else
              true
          else
            false
  else
    if (x3 &&& ((S 100449 x1.toNatClampNeg) ^^^ (-1))) = 0 then
      if (S 106594 x1.toNatClampNeg) = 0 then
        if (S 98401 x1.toNatClampNeg) = 0 then
          true
        else
          false
      else
        if (x2 - (S 88161 x1.toNatClampNeg)) ≤ (nI 4) then
          if (S 98401 x1.toNatClampNeg) = 0 then
            true
          else
            false
        else
          if (S 102497 x1.toNatClampNeg) = 0 then
            if (S 98401 x1.toNatClampNeg) = 0 then
              true
            else
              false
          else
            if (S 98401 x1.toNatClampNeg) = 0 then
              true
            else
              false
    else
      if (S 106594 x1.toNatClampNeg) = 0 then
        if (S 98401 x1.toNatClampNeg) = 0 then
          if (S 108642 x1.toNatClampNeg) = 0 then
            false
          else
            true
        else
          false
      else
        if (x2 - (S 88161 x1.toNatClampNeg)) ≤ (nI 4) then
          if (S 98401 x1.toNatClampNeg) = 0 then
            if (S 108642 x1.toNatClampNeg) = 0 then
              false
            else
              true
          else
            false
        else
          if (S 102497 x1.toNatClampNeg) = 0 then
            if (S 98401 x1.toNatClampNeg) = 0 then
              true
            else
              false
          else
            if (S 98401 x1.toNatClampNeg) = 0 then
              if (S 108642 x1.toNatClampNeg) = 0 then
                false
              else
                true
            else
              false
def sp_X4_isRipe : z_SP := fun as S P k => match as with
  | [.int x1, .int x2, .int x3] => vp_in x1 12 ∧ k (some (.int (z_b (f_X4_isRipe S P x1 x2 x3)))) S P
  | _ => False
def G_X4_isRipe : z_G := ([(0, .iload_n 2, 1, 0), (1, .aload_n 0, 2, 0), (2, .getfield 9, 5, 0), (5, .iload_n 1, 6, 0), (6, .iaload, 7, 0), (7, .isub, 8, 0), (8, .istore 4, 10, 0), (10, .iload 4, 12, 0), (12, .iconst 3, 13, 0), (13, .if_icmp .le 20, 16, 33), (16, .iload_n 3, 17, 0), (17, .aload_n 0, 18, 0), (18, .getfield 30, 21, 0), (21, .iload_n 1, 22, 0), (22, .iaload, 23, 0), (23, .iconst (-1), 24, 0), (24, .ixor, 25, 0), (25, .iand, 26, 0), (26, .ifCond .ne 7, 29, 33), (29, .iconst 1, 30, 0), (30, .goto 4, 33, 34), (33, .iconst 0, 34, 0), (34, .istore 5, 36, 0), (36, .aload_n 0, 37, 0), (37, .getfield 39, 40, 0), (40, .iload_n 1, 41, 0), (41, .baload, 42, 0), (42, .ifCond .eq 22, 45, 64), (45, .iload 4, 47, 0), (47, .iconst 4, 48, 0), (48, .if_icmp .le 16, 51, 64), (51, .aload_n 0, 52, 0), (52, .getfield 33, 55, 0), (55, .iload_n 1, 56, 0), (56, .iaload, 57, 0), (57, .ifCond .ne 7, 60, 64), (60, .iconst 1, 61, 0), (61, .goto 4, 64, 65), (64, .iconst 0, 65, 0), (65, .istore 6, 67, 0), (67, .aload_n 0, 68, 0), (68, .getfield 27, 71, 0), (71, .iload_n 1, 72, 0), (72, .iaload, 73, 0), (73, .ifCond .ne 26, 76, 99), (76, .iload 5, 78, 0), (78, .ifCond .ne 17, 81, 95), (81, .iload 6, 83, 0), (83, .ifCond .ne 12, 86, 95), (86, .aload_n 0, 87, 0), (87, .getfield 43, 90, 0), (90, .iload_n 1, 91, 0), (91, .baload, 92, 0), (92, .ifCond .eq 7, 95, 99), (95, .iconst 1, 96, 0), (96, .goto 4, 99, 100), (99, .iconst 0, 100, 0), (100, .ireturn, 101, 0)], [(9, 14368, 0, some 88161), (27, 14368, 5, some 98401), (30, 14368, 6, some 100449), (33, 14368, 7, some 102497), (39, 14368, 9, some 106594), (43, 14368, 10, some 108642)], [], [], [], [], [], some .boolean)
set_option maxRecDepth 20000 in
set_option maxHeartbeats 4000000 in
theorem ct_X4_isRipe (l : Launch) : z_CT l yX4_isRipe cX4_isRipe 7 (some .boolean) (z_rc 14368 sp_X4_isRipe) 0 := by
  refine z_CT_of G_X4_isRipe (by decide) (by decide +kernel) (z_pok_of ft_X4 ci_X4 cL_X4_L fo_X4 co_X4 lo_X4 (by decide +kernel)) rfl rfl ?_ ?_ ?_
  · intro as S P Po h0
    obtain ⟨as, rfl, h⟩ := z_rc_of h0
    unfold sp_X4_isRipe at h
    split at h
    · exact Nat.le_of_ble_eq_true rfl
    · exact h.elim
  · exact fun _ h => absurd h List.not_mem_nil
  · intro as S P Po h0 V hV hW
    obtain ⟨as, rfl, h⟩ := z_rc_of h0
    unfold sp_X4_isRipe at h
    split at h
    · rename_i x1 x2 x3
      obtain ⟨hp0, hpo⟩ := h
      refine hV [] 63 0 _ _ _ _ ?_
      refine ⟨(show vp_in x1 12 by assumption), ?_⟩
      refine ⟨fun (h1 : (x2 - (S 88161 x1.toNatClampNeg)) ≤ (nI 3)) => ?_, fun (h1 : ¬ ((x2 - (S 88161 x1.toNatClampNeg)) ≤ (nI 3))) => ?_⟩
      · refine ⟨(show vp_in x1 12 by assumption), ?_⟩
        refine ⟨fun (h2 : (S 106594 x1.toNatClampNeg) = 0) => ?_, fun (h2 : ¬ ((S 106594 x1.toNatClampNeg) = 0)) => ?_⟩
        · refine ⟨(show vp_in x1 12 by assumption), ?_⟩
          refine ⟨fun (h3 : ¬ ((S 98401 x1.toNatClampNeg) = 0)) => ?_, fun (h3 : (S 98401 x1.toNatClampNeg) = 0) => ?_⟩
          · exact ⟨(by first | rfl | exact z_nb _), z_pb hpo ((if_pos h1).trans ((if_pos h2).trans ((if_neg h3).trans rfl))) (rfl) (rfl)⟩
          · refine ⟨fun h => absurd (by decide) h, fun _ => ?_⟩
            refine ⟨fun h => absurd (by decide) h, fun _ => ?_⟩
            refine ⟨(show vp_in x1 12 by assumption), ?_⟩
            refine ⟨fun (h4 : (S 108642 x1.toNatClampNeg) = 0) => ?_, fun (h4 : ¬ ((S 108642 x1.toNatClampNeg) = 0)) => ?_⟩
            · exact ⟨(by first | rfl | exact z_nb _), z_pb hpo ((if_pos h1).trans ((if_pos h2).trans ((if_pos h3).trans ((if_pos h4).trans rfl)))) (rfl) (rfl)⟩
            · exact ⟨(by first | rfl | exact z_nb _), z_pb hpo ((if_pos h1).trans ((if_pos h2).trans ((if_pos h3).trans ((if_neg h4).trans rfl)))) (rfl) (rfl)⟩
        · refine ⟨fun (h5 : (x2 - (S 88161 x1.toNatClampNeg)) ≤ (nI 4)) => ?_, fun (h5 : ¬ ((x2 - (S 88161 x1.toNatClampNeg)) ≤ (nI 4))) => ?_⟩
          · refine ⟨(show vp_in x1 12 by assumption), ?_⟩
            refine ⟨fun (h6 : ¬ ((S 98401 x1.toNatClampNeg) = 0)) => ?_, fun (h6 : (S 98401 x1.toNatClampNeg) = 0) => ?_⟩
            · exact ⟨(by first | rfl | exact z_nb _), z_pb hpo ((if_pos h1).trans ((if_neg h2).trans ((if_pos h5).trans ((if_neg h6).trans rfl)))) (rfl) (rfl)⟩
            · refine ⟨fun h => absurd (by decide) h, fun _ => ?_⟩
              refine ⟨fun h => absurd (by decide) h, fun _ => ?_⟩
              refine ⟨(show vp_in x1 12 by assumption), ?_⟩
              refine ⟨fun (h7 : (S 108642 x1.toNatClampNeg) = 0) => ?_, fun (h7 : ¬ ((S 108642 x1.toNatClampNeg) = 0)) => ?_⟩
              · exact ⟨(by first | rfl | exact z_nb _), z_pb hpo ((if_pos h1).trans ((if_neg h2).trans ((if_pos h5).trans ((if_pos h6).trans ((if_pos h7).trans rfl))))) (rfl) (rfl)⟩
              · exact ⟨(by first | rfl | exact z_nb _), z_pb hpo ((if_pos h1).trans ((if_neg h2).trans ((if_pos h5).trans ((if_pos h6).trans ((if_neg h7).trans rfl))))) (rfl) (rfl)⟩
          · refine ⟨(show vp_in x1 12 by assumption), ?_⟩
            refine ⟨fun (h8 : ¬ ((S 102497 x1.toNatClampNeg) = 0)) => ?_, fun (h8 : (S 102497 x1.toNatClampNeg) = 0) => ?_⟩
            · refine ⟨(show vp_in x1 12 by assumption), ?_⟩
              refine ⟨fun (h9 : ¬ ((S 98401 x1.toNatClampNeg) = 0)) => ?_, fun (h9 : (S 98401 x1.toNatClampNeg) = 0) => ?_⟩
              · exact ⟨(by first | rfl | exact z_nb _), z_pb hpo ((if_pos h1).trans ((if_neg h2).trans ((if_neg h5).trans ((if_neg h8).trans ((if_neg h9).trans rfl))))) (rfl) (rfl)⟩
              · refine ⟨fun h => absurd (by decide) h, fun _ => ?_⟩
                refine ⟨fun h => absurd (by decide) h, fun _ => ?_⟩
                refine ⟨(show vp_in x1 12 by assumption), ?_⟩
                refine ⟨fun (h10 : (S 108642 x1.toNatClampNeg) = 0) => ?_, fun (h10 : ¬ ((S 108642 x1.toNatClampNeg) = 0)) => ?_⟩
                · exact ⟨(by first | rfl | exact z_nb _), z_pb hpo ((if_pos h1).trans ((if_neg h2).trans ((if_neg h5).trans ((if_neg h8).trans ((if_pos h9).trans ((if_pos h10).trans rfl)))))) (rfl) (rfl)⟩
                · exact ⟨(by first | rfl | exact z_nb _), z_pb hpo ((if_pos h1).trans ((if_neg h2).trans ((if_neg h5).trans ((if_neg h8).trans ((if_pos h9).trans ((if_neg h10).trans rfl)))))) (rfl) (rfl)⟩
            · refine ⟨(show vp_in x1 12 by assumption), ?_⟩
              refine ⟨fun (h11 : ¬ ((S 98401 x1.toNatClampNeg) = 0)) => ?_, fun (h11 : (S 98401 x1.toNatClampNeg) = 0) => ?_⟩
              · exact ⟨(by first | rfl | exact z_nb _), z_pb hpo ((if_pos h1).trans ((if_neg h2).trans ((if_neg h5).trans ((if_pos h8).trans ((if_neg h11).trans rfl))))) (rfl) (rfl)⟩
              · refine ⟨fun h => absurd (by decide) h, fun _ => ?_⟩
                refine ⟨fun _ => ?_, fun h => absurd h (by decide)⟩
                exact ⟨(by first | rfl | exact z_nb _), z_pb hpo ((if_pos h1).trans ((if_neg h2).trans ((if_neg h5).trans ((if_pos h8).trans ((if_pos h11).trans rfl))))) (rfl) (rfl)⟩
      · refine ⟨(show vp_in x1 12 by assumption), ?_⟩
        refine ⟨fun (h12 : ¬ ((x3 &&& ((S 100449 x1.toNatClampNeg) ^^^ (-1))) = 0)) => ?_, fun (h12 : (x3 &&& ((S 100449 x1.toNatClampNeg) ^^^ (-1))) = 0) => ?_⟩
        · refine ⟨(show vp_in x1 12 by assumption), ?_⟩
          refine ⟨fun (h13 : (S 106594 x1.toNatClampNeg) = 0) => ?_, fun (h13 : ¬ ((S 106594 x1.toNatClampNeg) = 0)) => ?_⟩
          · refine ⟨(show vp_in x1 12 by assumption), ?_⟩
            refine ⟨fun (h14 : ¬ ((S 98401 x1.toNatClampNeg) = 0)) => ?_, fun (h14 : (S 98401 x1.toNatClampNeg) = 0) => ?_⟩
            · exact ⟨(by first | rfl | exact z_nb _), z_pb hpo ((if_neg h1).trans ((if_neg h12).trans ((if_pos h13).trans ((if_neg h14).trans rfl)))) (rfl) (rfl)⟩
            · refine ⟨fun h => absurd (by decide) h, fun _ => ?_⟩
              refine ⟨fun h => absurd (by decide) h, fun _ => ?_⟩
              refine ⟨(show vp_in x1 12 by assumption), ?_⟩
              refine ⟨fun (h15 : (S 108642 x1.toNatClampNeg) = 0) => ?_, fun (h15 : ¬ ((S 108642 x1.toNatClampNeg) = 0)) => ?_⟩
              · exact ⟨(by first | rfl | exact z_nb _), z_pb hpo ((if_neg h1).trans ((if_neg h12).trans ((if_pos h13).trans ((if_pos h14).trans ((if_pos h15).trans rfl))))) (rfl) (rfl)⟩
              · exact ⟨(by first | rfl | exact z_nb _), z_pb hpo ((if_neg h1).trans ((if_neg h12).trans ((if_pos h13).trans ((if_pos h14).trans ((if_neg h15).trans rfl))))) (rfl) (rfl)⟩
          · refine ⟨fun (h16 : (x2 - (S 88161 x1.toNatClampNeg)) ≤ (nI 4)) => ?_, fun (h16 : ¬ ((x2 - (S 88161 x1.toNatClampNeg)) ≤ (nI 4))) => ?_⟩
            · refine ⟨(show vp_in x1 12 by assumption), ?_⟩
              refine ⟨fun (h17 : ¬ ((S 98401 x1.toNatClampNeg) = 0)) => ?_, fun (h17 : (S 98401 x1.toNatClampNeg) = 0) => ?_⟩
              · exact ⟨(by first | rfl | exact z_nb _), z_pb hpo ((if_neg h1).trans ((if_neg h12).trans ((if_neg h13).trans ((if_pos h16).trans ((if_neg h17).trans rfl))))) (rfl) (rfl)⟩
              · refine ⟨fun h => absurd (by decide) h, fun _ => ?_⟩
                refine ⟨fun h => absurd (by decide) h, fun _ => ?_⟩
                refine ⟨(show vp_in x1 12 by assumption), ?_⟩
                refine ⟨fun (h18 : (S 108642 x1.toNatClampNeg) = 0) => ?_, fun (h18 : ¬ ((S 108642 x1.toNatClampNeg) = 0)) => ?_⟩
                · exact ⟨(by first | rfl | exact z_nb _), z_pb hpo ((if_neg h1).trans ((if_neg h12).trans ((if_neg h13).trans ((if_pos h16).trans ((if_pos h17).trans ((if_pos h18).trans rfl)))))) (rfl) (rfl)⟩
                · exact ⟨(by first | rfl | exact z_nb _), z_pb hpo ((if_neg h1).trans ((if_neg h12).trans ((if_neg h13).trans ((if_pos h16).trans ((if_pos h17).trans ((if_neg h18).trans rfl)))))) (rfl) (rfl)⟩
            · refine ⟨(show vp_in x1 12 by assumption), ?_⟩
              refine ⟨fun (h19 : ¬ ((S 102497 x1.toNatClampNeg) = 0)) => ?_, fun (h19 : (S 102497 x1.toNatClampNeg) = 0) => ?_⟩
              · refine ⟨(show vp_in x1 12 by assumption), ?_⟩
                refine ⟨fun (h20 : ¬ ((S 98401 x1.toNatClampNeg) = 0)) => ?_, fun (h20 : (S 98401 x1.toNatClampNeg) = 0) => ?_⟩
                · exact ⟨(by first | rfl | exact z_nb _), z_pb hpo ((if_neg h1).trans ((if_neg h12).trans ((if_neg h13).trans ((if_neg h16).trans ((if_neg h19).trans ((if_neg h20).trans rfl)))))) (rfl) (rfl)⟩
                · refine ⟨fun h => absurd (by decide) h, fun _ => ?_⟩
                  refine ⟨fun h => absurd (by decide) h, fun _ => ?_⟩
                  refine ⟨(show vp_in x1 12 by assumption), ?_⟩
                  refine ⟨fun (h21 : (S 108642 x1.toNatClampNeg) = 0) => ?_, fun (h21 : ¬ ((S 108642 x1.toNatClampNeg) = 0)) => ?_⟩
                  · exact ⟨(by first | rfl | exact z_nb _), z_pb hpo ((if_neg h1).trans ((if_neg h12).trans ((if_neg h13).trans ((if_neg h16).trans ((if_neg h19).trans ((if_pos h20).trans ((if_pos h21).trans rfl))))))) (rfl) (rfl)⟩
                  · exact ⟨(by first | rfl | exact z_nb _), z_pb hpo ((if_neg h1).trans ((if_neg h12).trans ((if_neg h13).trans ((if_neg h16).trans ((if_neg h19).trans ((if_pos h20).trans ((if_neg h21).trans rfl))))))) (rfl) (rfl)⟩
              · refine ⟨(show vp_in x1 12 by assumption), ?_⟩
                refine ⟨fun (h22 : ¬ ((S 98401 x1.toNatClampNeg) = 0)) => ?_, fun (h22 : (S 98401 x1.toNatClampNeg) = 0) => ?_⟩
                · exact ⟨(by first | rfl | exact z_nb _), z_pb hpo ((if_neg h1).trans ((if_neg h12).trans ((if_neg h13).trans ((if_neg h16).trans ((if_pos h19).trans ((if_neg h22).trans rfl)))))) (rfl) (rfl)⟩
                · refine ⟨fun h => absurd (by decide) h, fun _ => ?_⟩
                  refine ⟨fun _ => ?_, fun h => absurd h (by decide)⟩
                  exact ⟨(by first | rfl | exact z_nb _), z_pb hpo ((if_neg h1).trans ((if_neg h12).trans ((if_neg h13).trans ((if_neg h16).trans ((if_pos h19).trans ((if_pos h22).trans rfl)))))) (rfl) (rfl)⟩
        · refine ⟨(show vp_in x1 12 by assumption), ?_⟩
          refine ⟨fun (h23 : (S 106594 x1.toNatClampNeg) = 0) => ?_, fun (h23 : ¬ ((S 106594 x1.toNatClampNeg) = 0)) => ?_⟩
          · refine ⟨(show vp_in x1 12 by assumption), ?_⟩
            refine ⟨fun (h24 : ¬ ((S 98401 x1.toNatClampNeg) = 0)) => ?_, fun (h24 : (S 98401 x1.toNatClampNeg) = 0) => ?_⟩
            · exact ⟨(by first | rfl | exact z_nb _), z_pb hpo ((if_neg h1).trans ((if_pos h12).trans ((if_pos h23).trans ((if_neg h24).trans rfl)))) (rfl) (rfl)⟩
            · refine ⟨fun _ => ?_, fun h => absurd h (by decide)⟩
              exact ⟨(by first | rfl | exact z_nb _), z_pb hpo ((if_neg h1).trans ((if_pos h12).trans ((if_pos h23).trans ((if_pos h24).trans rfl)))) (rfl) (rfl)⟩
          · refine ⟨fun (h25 : (x2 - (S 88161 x1.toNatClampNeg)) ≤ (nI 4)) => ?_, fun (h25 : ¬ ((x2 - (S 88161 x1.toNatClampNeg)) ≤ (nI 4))) => ?_⟩
            · refine ⟨(show vp_in x1 12 by assumption), ?_⟩
              refine ⟨fun (h26 : ¬ ((S 98401 x1.toNatClampNeg) = 0)) => ?_, fun (h26 : (S 98401 x1.toNatClampNeg) = 0) => ?_⟩
              · exact ⟨(by first | rfl | exact z_nb _), z_pb hpo ((if_neg h1).trans ((if_pos h12).trans ((if_neg h23).trans ((if_pos h25).trans ((if_neg h26).trans rfl))))) (rfl) (rfl)⟩
              · refine ⟨fun _ => ?_, fun h => absurd h (by decide)⟩
                exact ⟨(by first | rfl | exact z_nb _), z_pb hpo ((if_neg h1).trans ((if_pos h12).trans ((if_neg h23).trans ((if_pos h25).trans ((if_pos h26).trans rfl))))) (rfl) (rfl)⟩
            · refine ⟨(show vp_in x1 12 by assumption), ?_⟩
              refine ⟨fun (h27 : ¬ ((S 102497 x1.toNatClampNeg) = 0)) => ?_, fun (h27 : (S 102497 x1.toNatClampNeg) = 0) => ?_⟩
              · refine ⟨(show vp_in x1 12 by assumption), ?_⟩
                refine ⟨fun (h28 : ¬ ((S 98401 x1.toNatClampNeg) = 0)) => ?_, fun (h28 : (S 98401 x1.toNatClampNeg) = 0) => ?_⟩
                · exact ⟨(by first | rfl | exact z_nb _), z_pb hpo ((if_neg h1).trans ((if_pos h12).trans ((if_neg h23).trans ((if_neg h25).trans ((if_neg h27).trans ((if_neg h28).trans rfl)))))) (rfl) (rfl)⟩
                · refine ⟨fun _ => ?_, fun h => absurd h (by decide)⟩
                  exact ⟨(by first | rfl | exact z_nb _), z_pb hpo ((if_neg h1).trans ((if_pos h12).trans ((if_neg h23).trans ((if_neg h25).trans ((if_neg h27).trans ((if_pos h28).trans rfl)))))) (rfl) (rfl)⟩
              · refine ⟨(show vp_in x1 12 by assumption), ?_⟩
                refine ⟨fun (h29 : ¬ ((S 98401 x1.toNatClampNeg) = 0)) => ?_, fun (h29 : (S 98401 x1.toNatClampNeg) = 0) => ?_⟩
                · exact ⟨(by first | rfl | exact z_nb _), z_pb hpo ((if_neg h1).trans ((if_pos h12).trans ((if_neg h23).trans ((if_neg h25).trans ((if_pos h27).trans ((if_neg h29).trans rfl)))))) (rfl) (rfl)⟩
                · refine ⟨fun _ => ?_, fun h => absurd h (by decide)⟩
                  exact ⟨(by first | rfl | exact z_nb _), z_pb hpo ((if_neg h1).trans ((if_pos h12).trans ((if_neg h23).trans ((if_neg h25).trans ((if_pos h27).trans ((if_pos h29).trans rfl)))))) (rfl) (rfl)⟩
    · exact h.elim
def f_X4_isPast (S : z_MI) (P : z_ML) (x1 : Int32) (x2 : Int32) : Bool :=
  if (S 94305 x1.toNatClampNeg) = (nI 1) then
    if x2 ≤ (S 96353 x1.toNatClampNeg) then
      false
    else
      true
  else
    false
def sp_X4_isPast : z_SP := fun as S P k => match as with
  | [.int x1, .int x2] => vp_in x1 12 ∧ k (some (.int (z_b (f_X4_isPast S P x1 x2)))) S P
  | _ => False
def G_X4_isPast : z_G := ([(0, .aload_n 0, 1, 0), (1, .getfield 21, 4, 0), (4, .iload_n 1, 5, 0), (5, .iaload, 6, 0), (6, .iconst 1, 7, 0), (7, .if_icmp .ne 17, 10, 24), (10, .aload_n 0, 11, 0), (11, .getfield 24, 14, 0), (14, .iload_n 1, 15, 0), (15, .iaload, 16, 0), (16, .iload_n 2, 17, 0), (17, .if_icmp .ge 7, 20, 24), (20, .iconst 1, 21, 0), (21, .goto 4, 24, 25), (24, .iconst 0, 25, 0), (25, .ireturn, 26, 0)], [(21, 14368, 3, some 94305), (24, 14368, 4, some 96353)], [], [], [], [], [], some .boolean)
set_option maxRecDepth 20000 in
set_option maxHeartbeats 4000000 in
theorem ct_X4_isPast (l : Launch) : z_CT l yX4_isPast cX4_isPast 3 (some .boolean) (z_rc 14368 sp_X4_isPast) 0 := by
  refine z_CT_of G_X4_isPast (by decide) (by decide +kernel) (z_pok_of ft_X4 ci_X4 cL_X4_L fo_X4 co_X4 lo_X4 (by decide +kernel)) rfl rfl ?_ ?_ ?_
  · intro as S P Po h0
    obtain ⟨as, rfl, h⟩ := z_rc_of h0
    unfold sp_X4_isPast at h
    split at h
    · exact Nat.le_of_ble_eq_true rfl
    · exact h.elim
  · exact fun _ h => absurd h List.not_mem_nil
  · intro as S P Po h0 V hV hW
    obtain ⟨as, rfl, h⟩ := z_rc_of h0
    unfold sp_X4_isPast at h
    split at h
    · rename_i x1 x2
      obtain ⟨hp0, hpo⟩ := h
      refine hV [] 21 0 _ _ _ _ ?_
      refine ⟨(show vp_in x1 12 by assumption), ?_⟩
      refine ⟨fun (h1 : ¬ ((S 94305 x1.toNatClampNeg) = (nI 1))) => ?_, fun (h1 : (S 94305 x1.toNatClampNeg) = (nI 1)) => ?_⟩
      · exact ⟨(by first | rfl | exact z_nb _), z_pb hpo ((if_neg h1).trans rfl) (rfl) (rfl)⟩
      · refine ⟨(show vp_in x1 12 by assumption), ?_⟩
        refine ⟨fun (h2 : x2 ≤ (S 96353 x1.toNatClampNeg)) => ?_, fun (h2 : ¬ (x2 ≤ (S 96353 x1.toNatClampNeg))) => ?_⟩
        · exact ⟨(by first | rfl | exact z_nb _), z_pb hpo ((if_pos h1).trans ((if_pos h2).trans rfl)) (rfl) (rfl)⟩
        · exact ⟨(by first | rfl | exact z_nb _), z_pb hpo ((if_pos h1).trans ((if_neg h2).trans rfl)) (rfl) (rfl)⟩
    · exact h.elim
end
section
/-! what holds of the memory at all times, as far as the walks want it -/
def z_J (S : z_MI) : Prop := (z_le (S 4112 6) 6) ∧ (z_le (S 4112 7) 30) ∧ (z_le (S 6184 4) 10) ∧ (z_le (S 8216 7) 60) ∧ (z_le (S 10240 8) 40) ∧ (z_le (S 12296 8) 12) ∧ (z_le (S 14368 11) 12) ∧ (z_le (S 2096 8) 5000) ∧ (∀ i, vp_in (S 32849 i) 6) ∧ (∀ i, z_le (S 34897 i) 12) ∧ (∀ i, z_le (S 49201 i) 8) ∧ (∀ i, vp_in (S 71777 i) 6)
theorem z_J_peoples {S : z_MI} (h : z_J S) : z_le (S 4112 6) 6 := h.1
theorem z_J_persons {S : z_MI} (h : z_J S) : z_le (S 4112 7) 30 := h.2.1
theorem z_J_stories {S : z_MI} (h : z_J S) : z_le (S 6184 4) 10 := h.2.2.1
theorem z_J_marks {S : z_MI} (h : z_J S) : z_le (S 8216 7) 60 := h.2.2.2.1
theorem z_J_acts {S : z_MI} (h : z_J S) : z_le (S 10240 8) 40 := h.2.2.2.2.1
theorem z_J_claims {S : z_MI} (h : z_J S) : z_le (S 12296 8) 12 := h.2.2.2.2.2.1
theorem z_J_notices {S : z_MI} (h : z_J S) : z_le (S 14368 11) 12 := h.2.2.2.2.2.2.1
theorem z_J_now {S : z_MI} (h : z_J S) : z_le (S 2096 8) 5000 := h.2.2.2.2.2.2.2.1
theorem z_J_stp {S : z_MI} (h : z_J S) : ∀ i, vp_in (S 32849 i) 6 := h.2.2.2.2.2.2.2.2.1
theorem z_J_parts {S : z_MI} (h : z_J S) : ∀ i, z_le (S 34897 i) 12 := h.2.2.2.2.2.2.2.2.2.1
theorem z_J_expl {S : z_MI} (h : z_J S) : ∀ i, z_le (S 49201 i) 8 := h.2.2.2.2.2.2.2.2.2.2.1
theorem z_J_clp {S : z_MI} (h : z_J S) : ∀ i, vp_in (S 71777 i) 6 := h.2.2.2.2.2.2.2.2.2.2.2
theorem z_room {c : Int32} {n N : Nat} (h : ¬ nI n ≤ c) (hc : z_le c N) (hN : N < 2 ^ 31) (hn : n < 2 ^ 31) : vp_in c n := by
  obtain ⟨k, hk, rfl⟩ := hc
  have h1 : ¬ n ≤ k := fun q => h ((nI_leI hn (by omega)).mpr q)
  exact vp_in_nI (by omega) hn
theorem t_isPeople {S : z_MI} {P : z_ML} {x : Int32} (hJ : z_J S) (h : f_X2_isPeople S P x = true) : vp_in x 6 := by
  unfold f_X2_isPeople at h
  split at h
  · cases h
  · split at h
    · cases h
    · exact z_ck ‹_› ‹_› (z_J_peoples hJ) (by decide)
theorem t_isPerson {S : z_MI} {P : z_ML} {x : Int32} (hJ : z_J S) (h : f_X2_isPerson S P x = true) : vp_in x 30 := by
  unfold f_X2_isPerson at h
  split at h
  · cases h
  · split at h
    · cases h
    · exact z_ck ‹_› ‹_› (z_J_persons hJ) (by decide)
theorem t_isStory {S : z_MI} {P : z_ML} {x : Int32} (hJ : z_J S) (h : f_X5_isStory S P x = true) : vp_in x 10 := by
  unfold f_X5_isStory at h
  split at h
  · cases h
  · split at h
    · cases h
    · exact z_ck ‹_› ‹_› (z_J_stories hJ) (by decide)
theorem t_isAct {S : z_MI} {P : z_ML} {x : Int32} (hJ : z_J S) (h : f_X0_isAct S P x = true) : vp_in x 40 := by
  unfold f_X0_isAct at h
  split at h
  · cases h
  · split at h
    · cases h
    · exact z_ck ‹_› ‹_› (z_J_acts hJ) (by decide)
theorem t_isClaim {S : z_MI} {P : z_ML} {x : Int32} (hJ : z_J S) (h : f_X1_isClaim S P x = true) : vp_in x 12 := by
  unfold f_X1_isClaim at h
  split at h
  · cases h
  · split at h
    · cases h
    · exact z_ck ‹_› ‹_› (z_J_claims hJ) (by decide)
theorem t_isNotice {S : z_MI} {P : z_ML} {x : Int32} (hJ : z_J S) (h : f_X4_isNotice S P x = true) : vp_in x 12 := by
  unfold f_X4_isNotice at h
  split at h
  · cases h
  · split at h
    · cases h
    · exact z_ck ‹_› ‹_› (z_J_notices hJ) (by decide)
theorem z_roomL {c : Int32} {n N : Nat} (h : c < nI n) (hc : z_le c N) (hN : N < 2 ^ 31) (hn : n < 2 ^ 31) : vp_in c n := by
  obtain ⟨k, hk, rfl⟩ := hc
  exact vp_in_nI ((nI_ltI (by omega) hn).mp h) hn
theorem z_room1L {c x : Int32} (h : c < nI 12) (hc : z_le c 12) (hx : vp_in x 10) : vp_in (x * nI 12 + c) 120 := by
  obtain ⟨k, hk, rfl⟩ := hc
  exact z_in_ma hx ((nI_ltI (by omega) (by omega)).mp h) (by decide)
theorem z_room2L {c x : Int32} (h : c < nI 8) (hc : z_le c 8) (hx : vp_in x 6) : vp_in (x * nI 8 + c) 48 := by
  obtain ⟨k, hk, rfl⟩ := hc
  exact z_in_ma hx ((nI_ltI (by omega) (by omega)).mp h) (by decide)
theorem z_room1 {c x : Int32} (h : ¬ nI 12 ≤ c) (hc : z_le c 12) (hx : vp_in x 10) : vp_in (x * nI 12 + c) 120 := by
  obtain ⟨k, hk, rfl⟩ := hc
  have h1 : ¬ 12 ≤ k := fun q => h ((nI_leI (by omega) (by omega)).mpr q)
  exact z_in_ma hx (by omega) (by decide)
theorem z_room2 {c x : Int32} (h : ¬ nI 8 ≤ c) (hc : z_le c 8) (hx : vp_in x 6) : vp_in (x * nI 8 + c) 48 := by
  obtain ⟨k, hk, rfl⟩ := hc
  have h1 : ¬ 8 ≤ k := fun q => h ((nI_leI (by omega) (by omega)).mpr q)
  exact z_in_ma hx (by omega) (by decide)
theorem t_isPartB {S : z_MI} {P : z_ML} {x y : Int32} (hJ : z_J S) (h : f_X5_isPart S P x y = true) : vp_in x 10 ∧ vp_in (x * nI 12 + y) 120 := by
  unfold f_X5_isPart at h
  split at h
  · rename_i hs
    split at h
    · cases h
    · split at h
      · cases h
      · rename_i h1 h2
        have hx := t_isStory hJ hs
        have hy := z_ck h1 h2 (z_J_parts hJ _) (by decide)
        obtain ⟨j, hj, rfl⟩ := vp_in_of hy (by decide)
        exact ⟨hx, z_in_ma hx hj (by decide)⟩
  · cases h
theorem t_isPart {S : z_MI} {P : z_ML} {x y : Int32} (hJ : z_J S) (h : f_X5_isPart S P x y = true) : vp_in (x * nI 12 + y) 120 := (t_isPartB hJ h).2
theorem t_isPartS {S : z_MI} {P : z_ML} {x y : Int32} (hJ : z_J S) (h : f_X5_isPart S P x y = true) : vp_in x 10 := (t_isPartB hJ h).1
end
section
def f_X6_isPlace (S : z_MI) (P : z_ML) (x0 : Int32) : Bool :=
  if x0 < 0 then
    false
  else
    if (nI 16) ≤ x0 then
      false
    else
      true
def sp_X6_isPlace : z_SP := fun as S P k => match as with
  | [.int x0] => k (some (.int (z_b (f_X6_isPlace S P x0)))) S P
  | _ => False
def G_X6_isPlace : z_G := ([(0, .iload_n 0, 1, 0), (1, .ifCond .lt 13, 4, 14), (4, .iload_n 0, 5, 0), (5, .bipush 16, 7, 0), (7, .if_icmp .ge 7, 10, 14), (10, .iconst 1, 11, 0), (11, .goto 4, 14, 15), (14, .iconst 0, 15, 0), (15, .ireturn, 16, 0)], [], [], [], [], [], [], some .boolean)
set_option maxRecDepth 20000 in
set_option maxHeartbeats 4000000 in
theorem ct_X6_isPlace (l : Launch) : z_CT l yX6_isPlace cX6_isPlace 1 (some .boolean) sp_X6_isPlace 0 := by
  refine z_CT_of G_X6_isPlace (by decide) (by decide +kernel) (z_pok_of ft_X6 ci_X6 cL_X6_L fo_X6 co_X6 lo_X6 (by decide +kernel)) rfl rfl ?_ ?_ ?_
  · intro as S P Po h
    unfold sp_X6_isPlace at h
    split at h
    · exact Nat.le_of_ble_eq_true rfl
    · exact h.elim
  · exact fun _ h => absurd h List.not_mem_nil
  · intro as S P Po h V hV hW
    unfold sp_X6_isPlace at h
    split at h
    · rename_i x0
      have hpo := h
      refine hV [] 14 0 _ _ _ _ ?_
      refine ⟨fun (h1 : x0 < 0) => ?_, fun (h1 : ¬ (x0 < 0)) => ?_⟩
      · exact ⟨(by first | rfl | exact z_nb _), z_pb hpo ((if_pos h1).trans rfl) (rfl) (rfl)⟩
      · refine ⟨fun (h2 : (nI 16) ≤ x0) => ?_, fun (h2 : ¬ ((nI 16) ≤ x0)) => ?_⟩
        · exact ⟨(by first | rfl | exact z_nb _), z_pb hpo ((if_neg h1).trans ((if_pos h2).trans rfl)) (rfl) (rfl)⟩
        · exact ⟨(by first | rfl | exact z_nb _), z_pb hpo ((if_neg h1).trans ((if_neg h2).trans rfl)) (rfl) (rfl)⟩
    · exact h.elim
def f_X6_isMonth (S : z_MI) (P : z_ML) (x0 : Int32) : Bool :=
  if x0 < 0 then
    false
  else
    if (nI 5000) < x0 then
      false
    else
      true
def sp_X6_isMonth : z_SP := fun as S P k => match as with
  | [.int x0] => k (some (.int (z_b (f_X6_isMonth S P x0)))) S P
  | _ => False
def G_X6_isMonth : z_G := ([(0, .iload_n 0, 1, 0), (1, .ifCond .lt 14, 4, 15), (4, .iload_n 0, 5, 0), (5, .sipush 5000, 8, 0), (8, .if_icmp .gt 7, 11, 15), (11, .iconst 1, 12, 0), (12, .goto 4, 15, 16), (15, .iconst 0, 16, 0), (16, .ireturn, 17, 0)], [], [], [], [], [], [], some .boolean)
set_option maxRecDepth 20000 in
set_option maxHeartbeats 4000000 in
theorem ct_X6_isMonth (l : Launch) : z_CT l yX6_isMonth cX6_isMonth 1 (some .boolean) sp_X6_isMonth 0 := by
  refine z_CT_of G_X6_isMonth (by decide) (by decide +kernel) (z_pok_of ft_X6 ci_X6 cL_X6_L fo_X6 co_X6 lo_X6 (by decide +kernel)) rfl rfl ?_ ?_ ?_
  · intro as S P Po h
    unfold sp_X6_isMonth at h
    split at h
    · exact Nat.le_of_ble_eq_true rfl
    · exact h.elim
  · exact fun _ h => absurd h List.not_mem_nil
  · intro as S P Po h V hV hW
    unfold sp_X6_isMonth at h
    split at h
    · rename_i x0
      have hpo := h
      refine hV [] 14 0 _ _ _ _ ?_
      refine ⟨fun (h1 : x0 < 0) => ?_, fun (h1 : ¬ (x0 < 0)) => ?_⟩
      · exact ⟨(by first | rfl | exact z_nb _), z_pb hpo ((if_pos h1).trans rfl) (rfl) (rfl)⟩
      · refine ⟨fun (h2 : (nI 5000) < x0) => ?_, fun (h2 : ¬ ((nI 5000) < x0)) => ?_⟩
        · exact ⟨(by first | rfl | exact z_nb _), z_pb hpo ((if_neg h1).trans ((if_pos h2).trans rfl)) (rfl) (rfl)⟩
        · exact ⟨(by first | rfl | exact z_nb _), z_pb hpo ((if_neg h1).trans ((if_neg h2).trans rfl)) (rfl) (rfl)⟩
    · exact h.elim
def f_X6_isSomePlaces (S : z_MI) (P : z_ML) (x0 : Int32) : Bool :=
  if x0 < (nI 1) then
    false
  else
    if (nI 65535) < x0 then
      false
    else
      true
def sp_X6_isSomePlaces : z_SP := fun as S P k => match as with
  | [.int x0] => k (some (.int (z_b (f_X6_isSomePlaces S P x0)))) S P
  | _ => False
def G_X6_isSomePlaces : z_G := ([(0, .iload_n 0, 1, 0), (1, .iconst 1, 2, 0), (2, .if_icmp .lt 14, 5, 16), (5, .iload_n 0, 6, 0), (6, .ldc_w 449, 9, 0), (9, .if_icmp .gt 7, 12, 16), (12, .iconst 1, 13, 0), (13, .goto 4, 16, 17), (16, .iconst 0, 17, 0), (17, .ireturn, 18, 0)], [], [], [(449, 65535)], [], [], [], some .boolean)
set_option maxRecDepth 20000 in
set_option maxHeartbeats 4000000 in
theorem ct_X6_isSomePlaces (l : Launch) : z_CT l yX6_isSomePlaces cX6_isSomePlaces 1 (some .boolean) sp_X6_isSomePlaces 0 := by
  refine z_CT_of G_X6_isSomePlaces (by decide) (by decide +kernel) (z_pok_of ft_X6 ci_X6 cL_X6_L fo_X6 co_X6 lo_X6 (by decide +kernel)) rfl rfl ?_ ?_ ?_
  · intro as S P Po h
    unfold sp_X6_isSomePlaces at h
    split at h
    · exact Nat.le_of_ble_eq_true rfl
    · exact h.elim
  · exact fun _ h => absurd h List.not_mem_nil
  · intro as S P Po h V hV hW
    unfold sp_X6_isSomePlaces at h
    split at h
    · rename_i x0
      have hpo := h
      refine hV [] 15 0 _ _ _ _ ?_
      refine ⟨fun (h1 : x0 < (nI 1)) => ?_, fun (h1 : ¬ (x0 < (nI 1))) => ?_⟩
      · exact ⟨(by first | rfl | exact z_nb _), z_pb hpo ((if_pos h1).trans rfl) (rfl) (rfl)⟩
      · refine ⟨fun (h2 : (nI 65535) < x0) => ?_, fun (h2 : ¬ ((nI 65535) < x0)) => ?_⟩
        · exact ⟨(by first | rfl | exact z_nb _), z_pb hpo ((if_neg h1).trans ((if_pos h2).trans rfl)) (rfl) (rfl)⟩
        · exact ⟨(by first | rfl | exact z_nb _), z_pb hpo ((if_neg h1).trans ((if_neg h2).trans rfl)) (rfl) (rfl)⟩
    · exact h.elim
def f_X6_isSomeRights (S : z_MI) (P : z_ML) (x0 : Int32) : Bool :=
  if x0 < (nI 1) then
    false
  else
    if (nI 31) < x0 then
      false
    else
      true
def sp_X6_isSomeRights : z_SP := fun as S P k => match as with
  | [.int x0] => k (some (.int (z_b (f_X6_isSomeRights S P x0)))) S P
  | _ => False
def G_X6_isSomeRights : z_G := ([(0, .iload_n 0, 1, 0), (1, .iconst 1, 2, 0), (2, .if_icmp .lt 13, 5, 15), (5, .iload_n 0, 6, 0), (6, .bipush 31, 8, 0), (8, .if_icmp .gt 7, 11, 15), (11, .iconst 1, 12, 0), (12, .goto 4, 15, 16), (15, .iconst 0, 16, 0), (16, .ireturn, 17, 0)], [], [], [], [], [], [], some .boolean)
set_option maxRecDepth 20000 in
set_option maxHeartbeats 4000000 in
theorem ct_X6_isSomeRights (l : Launch) : z_CT l yX6_isSomeRights cX6_isSomeRights 1 (some .boolean) sp_X6_isSomeRights 0 := by
  refine z_CT_of G_X6_isSomeRights (by decide) (by decide +kernel) (z_pok_of ft_X6 ci_X6 cL_X6_L fo_X6 co_X6 lo_X6 (by decide +kernel)) rfl rfl ?_ ?_ ?_
  · intro as S P Po h
    unfold sp_X6_isSomeRights at h
    split at h
    · exact Nat.le_of_ble_eq_true rfl
    · exact h.elim
  · exact fun _ h => absurd h List.not_mem_nil
  · intro as S P Po h V hV hW
    unfold sp_X6_isSomeRights at h
    split at h
    · rename_i x0
      have hpo := h
      refine hV [] 15 0 _ _ _ _ ?_
      refine ⟨fun (h1 : x0 < (nI 1)) => ?_, fun (h1 : ¬ (x0 < (nI 1))) => ?_⟩
      · exact ⟨(by first | rfl | exact z_nb _), z_pb hpo ((if_pos h1).trans rfl) (rfl) (rfl)⟩
      · refine ⟨fun (h2 : (nI 31) < x0) => ?_, fun (h2 : ¬ ((nI 31) < x0)) => ?_⟩
        · exact ⟨(by first | rfl | exact z_nb _), z_pb hpo ((if_neg h1).trans ((if_pos h2).trans rfl)) (rfl) (rfl)⟩
        · exact ⟨(by first | rfl | exact z_nb _), z_pb hpo ((if_neg h1).trans ((if_neg h2).trans rfl)) (rfl) (rfl)⟩
    · exact h.elim
def f_X6_isDeed (S : z_MI) (P : z_ML) (x0 : Int32) (x1 : Int32) (x2 : Int32) : Bool :=
  if (f_X6_isSomePlaces S P x0) = true then
    if (f_X6_isSomeRights S P x1) = true then
      if x2 < 0 then
        false
      else
        if (nI 2) < x2 then
          false
        else
          true
    else
      false
  else
    false
def sp_X6_isDeed : z_SP := fun as S P k => match as with
  | [.int x0, .int x1, .int x2] => k (some (.int (z_b (f_X6_isDeed S P x0 x1 x2)))) S P
  | _ => False
def G_X6_isDeed : z_G := ([(0, .iload_n 0, 1, 0), (1, .invokestatic 255, 4, 0), (4, .ifCond .eq 23, 7, 27), (7, .iload_n 1, 8, 0), (8, .invokestatic 258, 11, 0), (11, .ifCond .eq 16, 14, 27), (14, .iload_n 2, 15, 0), (15, .ifCond .lt 12, 18, 27), (18, .iload_n 2, 19, 0), (19, .iconst 2, 20, 0), (20, .if_icmp .gt 7, 23, 27), (23, .iconst 1, 24, 0), (24, .goto 4, 27, 28), (27, .iconst 0, 28, 0), (28, .ireturn, 29, 0)], [], [(100255, 1, sp_X6_isSomePlaces), (100258, 1, sp_X6_isSomeRights)], [], [], [], [], some .boolean)
set_option maxRecDepth 20000 in
set_option maxHeartbeats 4000000 in
theorem ct_X6_isDeed (l : Launch) : z_CT l yX6_isDeed cX6_isDeed 3 (some .boolean) sp_X6_isDeed 1 := by
  refine z_CT_of G_X6_isDeed (by decide) (by decide +kernel) (z_pok_of ft_X6 ci_X6 cL_X6_L fo_X6 co_X6 lo_X6 (by decide +kernel)) rfl rfl ?_ ?_ ?_
  · intro as S P Po h
    unfold sp_X6_isDeed at h
    split at h
    · exact Nat.le_of_ble_eq_true rfl
    · exact h.elim
  · exact List.forall_mem_cons.mpr ⟨z_coS (ct_X6_isSomePlaces l) kb_X6_isSomePlaces ks_X6_255 (by decide) (by decide), List.forall_mem_cons.mpr ⟨z_coS (ct_X6_isSomeRights l) kb_X6_isSomeRights ks_X6_258 (by decide) (by decide), fun _ h => absurd h List.not_mem_nil⟩⟩
  · intro as S P Po h V hV hW
    unfold sp_X6_isDeed at h
    split at h
    · rename_i x0 x1 x2
      have hpo := h
      refine hV [] 20 0 _ _ _ _ ?_
      refine z_br (fun (h1 : (f_X6_isSomePlaces S P x0) = false) => ?_) (fun (h1 : (f_X6_isSomePlaces S P x0) = true) => ?_)
      · exact ⟨(by first | rfl | exact z_nb _), z_pb hpo ((if_neg (z_nt h1)).trans rfl) (rfl) (rfl)⟩
      · refine z_br (fun (h2 : (f_X6_isSomeRights S P x1) = false) => ?_) (fun (h2 : (f_X6_isSomeRights S P x1) = true) => ?_)
        · exact ⟨(by first | rfl | exact z_nb _), z_pb hpo ((if_pos h1).trans ((if_neg (z_nt h2)).trans rfl)) (rfl) (rfl)⟩
        · refine ⟨fun (h3 : x2 < 0) => ?_, fun (h3 : ¬ (x2 < 0)) => ?_⟩
          · exact ⟨(by first | rfl | exact z_nb _), z_pb hpo ((if_pos h1).trans ((if_pos h2).trans ((if_pos h3).trans rfl))) (rfl) (rfl)⟩
          · refine ⟨fun (h4 : (nI 2) < x2) => ?_, fun (h4 : ¬ ((nI 2) < x2)) => ?_⟩
            · exact ⟨(by first | rfl | exact z_nb _), z_pb hpo ((if_pos h1).trans ((if_pos h2).trans ((if_neg h3).trans ((if_pos h4).trans rfl)))) (rfl) (rfl)⟩
            · exact ⟨(by first | rfl | exact z_nb _), z_pb hpo ((if_pos h1).trans ((if_pos h2).trans ((if_neg h3).trans ((if_neg h4).trans rfl)))) (rfl) (rfl)⟩
    · exact h.elim
def f_X6_isLast (S : z_MI) (P : z_ML) (x0 : Int32) (x1 : Int32) (x2 : Int32) : Bool :=
  if x1 = (nI 1) then
    if x0 < x2 then
      false
    else
      if (nI 5000) < x0 then
        false
      else
        true
  else
    if x0 = (-1) then
      true
    else
      false
def sp_X6_isLast : z_SP := fun as S P k => match as with
  | [.int x0, .int x1, .int x2] => k (some (.int (z_b (f_X6_isLast S P x0 x1 x2)))) S P
  | _ => False
def G_X6_isLast : z_G := ([(0, .iload_n 1, 1, 0), (1, .iconst 1, 2, 0), (2, .if_icmp .ne 23, 5, 25), (5, .iload_n 0, 6, 0), (6, .iload_n 2, 7, 0), (7, .if_icmp .lt 14, 10, 21), (10, .iload_n 0, 11, 0), (11, .sipush 5000, 14, 0), (14, .if_icmp .gt 7, 17, 21), (17, .iconst 1, 18, 0), (18, .goto 17, 21, 35), (21, .iconst 0, 22, 0), (22, .goto 13, 25, 35), (25, .iload_n 0, 26, 0), (26, .iconst (-1), 27, 0), (27, .if_icmp .ne 7, 30, 34), (30, .iconst 1, 31, 0), (31, .goto 4, 34, 35), (34, .iconst 0, 35, 0), (35, .ireturn, 36, 0)], [], [], [], [], [], [], some .boolean)
set_option maxRecDepth 20000 in
set_option maxHeartbeats 4000000 in
theorem ct_X6_isLast (l : Launch) : z_CT l yX6_isLast cX6_isLast 3 (some .boolean) sp_X6_isLast 0 := by
  refine z_CT_of G_X6_isLast (by decide) (by decide +kernel) (z_pok_of ft_X6 ci_X6 cL_X6_L fo_X6 co_X6 lo_X6 (by decide +kernel)) rfl rfl ?_ ?_ ?_
  · intro as S P Po h
    unfold sp_X6_isLast at h
    split at h
    · exact Nat.le_of_ble_eq_true rfl
    · exact h.elim
  · exact fun _ h => absurd h List.not_mem_nil
  · intro as S P Po h V hV hW
    unfold sp_X6_isLast at h
    split at h
    · rename_i x0 x1 x2
      have hpo := h
      refine hV [] 25 0 _ _ _ _ ?_
      refine ⟨fun (h1 : ¬ (x1 = (nI 1))) => ?_, fun (h1 : x1 = (nI 1)) => ?_⟩
      · refine ⟨fun (h2 : ¬ (x0 = (-1))) => ?_, fun (h2 : x0 = (-1)) => ?_⟩
        · exact ⟨(by first | rfl | exact z_nb _), z_pb hpo ((if_neg h1).trans ((if_neg h2).trans rfl)) (rfl) (rfl)⟩
        · exact ⟨(by first | rfl | exact z_nb _), z_pb hpo ((if_neg h1).trans ((if_pos h2).trans rfl)) (rfl) (rfl)⟩
      · refine ⟨fun (h3 : x0 < x2) => ?_, fun (h3 : ¬ (x0 < x2)) => ?_⟩
        · exact ⟨(by first | rfl | exact z_nb _), z_pb hpo ((if_pos h1).trans ((if_pos h3).trans rfl)) (rfl) (rfl)⟩
        · refine ⟨fun (h4 : (nI 5000) < x0) => ?_, fun (h4 : ¬ ((nI 5000) < x0)) => ?_⟩
          · exact ⟨(by first | rfl | exact z_nb _), z_pb hpo ((if_pos h1).trans ((if_neg h3).trans ((if_pos h4).trans rfl))) (rfl) (rfl)⟩
          · exact ⟨(by first | rfl | exact z_nb _), z_pb hpo ((if_pos h1).trans ((if_neg h3).trans ((if_neg h4).trans rfl))) (rfl) (rfl)⟩
    · exact h.elim
def f_X6_levelHeard (S : z_MI) (P : z_ML) (x1 : Int32) (x2 : Int32) : Int32 :=
  if (f_X6_isIn S P (f_X2_membersOf S P (S 32849 x2.toNatClampNeg)) x1) = true then
    S 30961 x1.toNatClampNeg
  else
    nI 0
def sp_X6_levelHeard : z_SP := fun as S P k => match as with
  | [.int x1, .int x2] => vp_in x2 10 ∧ vp_in (S 32849 x2.toNatClampNeg) 6 ∧ z_le (S 4112 7) 30 ∧ vp_in x1 30 ∧ k (some (.int (f_X6_levelHeard S P x1 x2))) S P
  | _ => False
def G_X6_levelHeard : z_G := ([(0, .aload_n 0, 1, 0), (1, .getfield 10, 4, 0), (4, .aload_n 0, 5, 0), (5, .getfield 19, 8, 0), (8, .getfield 181, 11, 0), (11, .iload_n 2, 12, 0), (12, .iaload, 13, 0), (13, .invokevirtual 117, 16, 0), (16, .iload_n 1, 17, 0), (17, .invokestatic 184, 20, 0), (20, .ifCond .eq 15, 23, 35), (23, .aload_n 0, 24, 0), (24, .getfield 10, 27, 0), (27, .getfield 132, 30, 0), (30, .iload_n 1, 31, 0), (31, .iaload, 32, 0), (32, .goto 4, 35, 36), (35, .iconst 0, 36, 0), (36, .ireturn, 37, 0)], [(10, 2096, 0, some 4112), (19, 2096, 1, some 6184), (132, 4112, 5, some 30961), (181, 6184, 0, some 32849)], [(100184, 2, sp_X6_isIn), (117, 2, (z_rc 4112 sp_X2_membersOf))], [], [], [], [], some .int)
set_option maxRecDepth 20000 in
set_option maxHeartbeats 4000000 in
theorem ct_X6_levelHeard (l : Launch) : z_CT l yX6_levelHeard cX6_levelHeard 3 (some .int) (z_rc 2096 sp_X6_levelHeard) 4 := by
  refine z_CT_of G_X6_levelHeard (by decide) (by decide +kernel) (z_pok_of ft_X6 ci_X6 cL_X6_L fo_X6 co_X6 lo_X6 (by decide +kernel)) rfl rfl ?_ ?_ ?_
  · intro as S P Po h0
    obtain ⟨as, rfl, h⟩ := z_rc_of h0
    unfold sp_X6_levelHeard at h
    split at h
    · exact Nat.le_of_ble_eq_true rfl
    · exact h.elim
  · exact List.forall_mem_cons.mpr ⟨z_coS (ct_X6_isIn l) kb_X6_isIn ks_X6_184 (by decide) (by decide), List.forall_mem_cons.mpr ⟨z_coV (ct_X2_membersOf l) kb_X2_membersOf kv_X6_117 ko_X2 (by decide) (by decide) (by decide), fun _ h => absurd h List.not_mem_nil⟩⟩
  · intro as S P Po h0 V hV hW
    obtain ⟨as, rfl, h⟩ := z_rc_of h0
    unfold sp_X6_levelHeard at h
    split at h
    · rename_i x1 x2
      obtain ⟨hp0, hp1, hp2, hp3, hpo⟩ := h
      refine hV [] 24 0 _ _ _ _ ?_
      refine ⟨(show vp_in x2 10 by assumption), ?_⟩
      refine ⟨(show vp_in (S 32849 x2.toNatClampNeg) 6 by assumption), (show z_le (S 4112 7) 30 by assumption), ?_⟩
      refine z_br (fun (h1 : (f_X6_isIn S P (f_X2_membersOf S P (S 32849 x2.toNatClampNeg)) x1) = false) => ?_) (fun (h1 : (f_X6_isIn S P (f_X2_membersOf S P (S 32849 x2.toNatClampNeg)) x1) = true) => ?_)
      · exact z_pi hpo ((if_neg (z_nt h1)).trans rfl) (rfl) (rfl)
      · refine ⟨(show vp_in x1 30 by assumption), ?_⟩
        exact z_pi hpo ((if_pos h1).trans rfl) (rfl) (rfl)
    · exact h.elim
def f_X6_isVotedFor (S : z_MI) (P : z_ML) (x1 : Int32) : Bool :=
  if ((f_J6_bitCount_0f7a4 S P ((S 86113 x1.toNatClampNeg) &&& (f_X2_membersOf S P (S 71777 x1.toNatClampNeg)))) * (nI 2)) ≤ (f_J6_bitCount_0f7a4 S P ((S 84065 x1.toNatClampNeg) &&& (f_X2_membersOf S P (S 71777 x1.toNatClampNeg)))) then
    false
  else
    true
def sp_X6_isVotedFor : z_SP := fun as S P k => match as with
  | [.int x1] => vp_in x1 12 ∧ vp_in (S 71777 x1.toNatClampNeg) 6 ∧ z_le (S 4112 7) 30 ∧ k (some (.int (z_b (f_X6_isVotedFor S P x1)))) S P
  | _ => False
def G_X6_isVotedFor : z_G := ([(0, .aload_n 0, 1, 0), (1, .getfield 10, 4, 0), (4, .aload_n 0, 5, 0), (5, .getfield 40, 8, 0), (8, .getfield 276, 11, 0), (11, .iload_n 1, 12, 0), (12, .iaload, 13, 0), (13, .invokevirtual 117, 16, 0), (16, .istore_n 2, 17, 0), (17, .aload_n 0, 18, 0), (18, .getfield 40, 21, 0), (21, .getfield 279, 24, 0), (24, .iload_n 1, 25, 0), (25, .iaload, 26, 0), (26, .iload_n 2, 27, 0), (27, .iand, 28, 0), (28, .invokestatic 120, 31, 0), (31, .istore_n 3, 32, 0), (32, .aload_n 0, 33, 0), (33, .getfield 40, 36, 0), (36, .getfield 282, 39, 0), (39, .iload_n 1, 40, 0), (40, .iaload, 41, 0), (41, .iload_n 2, 42, 0), (42, .iand, 43, 0), (43, .invokestatic 120, 46, 0), (46, .iconst 2, 47, 0), (47, .imul, 48, 0), (48, .iload_n 3, 49, 0), (49, .if_icmp .le 7, 52, 56), (52, .iconst 1, 53, 0), (53, .goto 4, 56, 57), (56, .iconst 0, 57, 0), (57, .ireturn, 58, 0)], [(10, 2096, 0, some 4112), (40, 2096, 4, some 12296), (276, 12296, 0, some 71777), (279, 12296, 6, some 84065), (282, 12296, 7, some 86113)], [(100120, 1, sp_J6_bitCount_0f7a4), (117, 2, (z_rc 4112 sp_X2_membersOf))], [], [], [], [], some .boolean)
set_option maxRecDepth 20000 in
set_option maxHeartbeats 4000000 in
theorem ct_X6_isVotedFor (l : Launch) : z_CT l yX6_isVotedFor cX6_isVotedFor 4 (some .boolean) (z_rc 2096 sp_X6_isVotedFor) 4 := by
  refine z_CT_of G_X6_isVotedFor (by decide) (by decide +kernel) (z_pok_of ft_X6 ci_X6 cL_X6_L fo_X6 co_X6 lo_X6 (by decide +kernel)) rfl rfl ?_ ?_ ?_
  · intro as S P Po h0
    obtain ⟨as, rfl, h⟩ := z_rc_of h0
    unfold sp_X6_isVotedFor at h
    split at h
    · exact Nat.le_of_ble_eq_true rfl
    · exact h.elim
  · exact List.forall_mem_cons.mpr ⟨z_coS (ct_J6_bitCount_0f7a4 l) kb_J6_bitCount_0f7a4 ks_X6_120 (by decide) (by decide), List.forall_mem_cons.mpr ⟨z_coV (ct_X2_membersOf l) kb_X2_membersOf kv_X6_117 ko_X2 (by decide) (by decide) (by decide), fun _ h => absurd h List.not_mem_nil⟩⟩
  · intro as S P Po h0 V hV hW
    obtain ⟨as, rfl, h⟩ := z_rc_of h0
    unfold sp_X6_isVotedFor at h
    split at h
    · rename_i x1
      obtain ⟨hp0, hp1, hp2, hpo⟩ := h
      refine hV [] 39 0 _ _ _ _ ?_
      refine ⟨(show vp_in x1 12 by assumption), ?_⟩
      refine ⟨(show vp_in (S 71777 x1.toNatClampNeg) 6 by assumption), (show z_le (S 4112 7) 30 by assumption), ?_⟩
      refine ⟨(show vp_in x1 12 by assumption), ?_⟩
      refine ⟨(show vp_in x1 12 by assumption), ?_⟩
      refine ⟨fun (h1 : ((f_J6_bitCount_0f7a4 S P ((S 86113 x1.toNatClampNeg) &&& (f_X2_membersOf S P (S 71777 x1.toNatClampNeg)))) * (nI 2)) ≤ (f_J6_bitCount_0f7a4 S P ((S 84065 x1.toNatClampNeg) &&& (f_X2_membersOf S P (S 71777 x1.toNatClampNeg))))) => ?_, fun (h1 : ¬ (((f_J6_bitCount_0f7a4 S P ((S 86113 x1.toNatClampNeg) &&& (f_X2_membersOf S P (S 71777 x1.toNatClampNeg)))) * (nI 2)) ≤ (f_J6_bitCount_0f7a4 S P ((S 84065 x1.toNatClampNeg) &&& (f_X2_membersOf S P (S 71777 x1.toNatClampNeg)))))) => ?_⟩
      · exact ⟨(by first | rfl | exact z_nb _), z_pb hpo ((if_pos h1).trans rfl) (rfl) (rfl)⟩
      · exact ⟨(by first | rfl | exact z_nb _), z_pb hpo ((if_neg h1).trans rfl) (rfl) (rfl)⟩
    · exact h.elim
def l_X6_provedOf_4 (S : z_MI) (P : z_ML) (x1 : Int32) (k4 : Nat) (a4 : Int32) : Int32 :=
  if (f_X6_isIn S P (S 73825 x1.toNatClampNeg) (nI k4)) = true then
    if (f_X3_prove S P (S 71777 x1.toNatClampNeg) (nI k4) (S 2096 8)) = true then
      f_X6_with S P a4 (nI k4) (nI 1)
    else
      a4
  else
    a4
def f_X6_provedOf (S : z_MI) (P : z_ML) (x1 : Int32) : Int32 :=
  (z_fo (fun k4 a4 => l_X6_provedOf_4 S P x1 k4 a4) (nI 0) 16)
def sp_X6_provedOf : z_SP := fun as S P k => match as with
  | [.int x1] => vp_in x1 12 ∧ z_le (S 8216 7) 60 ∧ z_le (S 49201 (S 71777 x1.toNatClampNeg).toNatClampNeg) 8 ∧ vp_in (S 71777 x1.toNatClampNeg) 6 ∧ k (some (.int (f_X6_provedOf S P x1))) S P
  | _ => False
def G_X6_provedOf : z_G := ([(0, .iconst 0, 1, 0), (1, .istore_n 2, 2, 0), (2, .iconst 0, 3, 0), (3, .istore_n 3, 4, 0), (4, .iload_n 3, 5, 0), (5, .bipush 16, 7, 0), (7, .if_icmp .ge 56, 10, 63), (10, .aload_n 0, 11, 0), (11, .getfield 40, 14, 0), (14, .getfield 329, 17, 0), (17, .iload_n 1, 18, 0), (18, .iaload, 19, 0), (19, .iload_n 3, 20, 0), (20, .invokestatic 184, 23, 0), (23, .ifCond .eq 34, 26, 57), (26, .aload_n 0, 27, 0), (27, .getfield 26, 30, 0), (30, .aload_n 0, 31, 0), (31, .getfield 40, 34, 0), (34, .getfield 276, 37, 0), (37, .iload_n 1, 38, 0), (38, .iaload, 39, 0), (39, .iload_n 3, 40, 0), (40, .aload_n 0, 41, 0), (41, .getfield 59, 44, 0), (44, .invokevirtual 207, 47, 0), (47, .ifCond .eq 10, 50, 57), (50, .iload_n 2, 51, 0), (51, .iload_n 3, 52, 0), (52, .iconst 1, 53, 0), (53, .invokestatic 113, 56, 0), (56, .istore_n 2, 57, 0), (57, .iinc 3 1, 60, 0), (60, .goto (-56), 63, 4), (63, .iload_n 2, 64, 0), (64, .ireturn, 65, 0)], [(26, 2096, 2, some 8216), (40, 2096, 4, some 12296), (59, 2096, 8, none), (276, 12296, 0, some 71777), (329, 12296, 1, some 73825)], [(100113, 3, sp_X6_with), (100184, 2, sp_X6_isIn), (207, 4, (z_rc 8216 sp_X3_prove))], [], [], [], [], some .int)
set_option maxRecDepth 20000 in
set_option maxHeartbeats 4000000 in
theorem ct_X6_provedOf (l : Launch) : z_CT l yX6_provedOf cX6_provedOf 4 (some .int) (z_rc 2096 sp_X6_provedOf) 3 := by
  refine z_CT_of G_X6_provedOf (by decide) (by decide +kernel) (z_pok_of ft_X6 ci_X6 cL_X6_L fo_X6 co_X6 lo_X6 (by decide +kernel)) rfl rfl ?_ ?_ ?_
  · intro as S P Po h0
    obtain ⟨as, rfl, h⟩ := z_rc_of h0
    unfold sp_X6_provedOf at h
    split at h
    · exact Nat.le_of_ble_eq_true rfl
    · exact h.elim
  · exact List.forall_mem_cons.mpr ⟨z_coS (ct_X6_with l) kb_X6_with ks_X6_113 (by decide) (by decide), List.forall_mem_cons.mpr ⟨z_coS (ct_X6_isIn l) kb_X6_isIn ks_X6_184 (by decide) (by decide), List.forall_mem_cons.mpr ⟨z_coV (ct_X3_prove l) kb_X3_prove kv_X6_207 ko_X3 (by decide) (by decide) (by decide), fun _ h => absurd h List.not_mem_nil⟩⟩⟩
  · intro as S P Po h0 V hV hW
    obtain ⟨as, rfl, h⟩ := z_rc_of h0
    unfold sp_X6_provedOf at h
    split at h
    · rename_i x1
      obtain ⟨hp0, hp1, hp2, hp3, hpo⟩ := h
      refine hV [4] 41 0 _ _ _ _ ?_
      have hb4 : ((nI 16) : Int32) = (nI 16) := rfl
      have hL4 : ∀ (j k4 : Nat) (x900 : Int32) (a4 : Int32), k4 + j = 16 → x900 = nI k4 → a4 = z_fo (fun k4 a4 => l_X6_provedOf_4 S P x1 k4 a4) (nI 0) k4 → V 4 [(0, .ref 2096), (1, .int x1), (2, .int a4), (3, .int x900)] [] S P := by
        intro j
        induction j with
        | zero =>
          intro k4 x900 a4 hk4 hx4 ha4
          subst hx4
          have hk9 : k4 = 16 := by omega
          subst hk9
          subst ha4
          refine hV [4] 41 4 _ _ _ _ ?_
          refine ⟨fun _ => ?_, fun h => absurd ((z_brge hb4 (by omega) (by omega)).mpr (Nat.le_refl _)) h⟩
          exact z_pi hpo (rfl) (rfl) (rfl)
        | succ j ih =>
          intro k4 x900 a4 hk4 hx4 ha4
          subst hx4
          have hk9 : k4 < 16 := by omega
          subst ha4
          refine hV [4] 41 4 _ _ _ _ ?_
          refine ⟨fun h => absurd ((z_brge hb4 (by omega) (by omega)).mp h) (by omega), fun _ => ?_⟩
          refine ⟨(show vp_in x1 12 by assumption), ?_⟩
          refine z_br (fun (h2 : (f_X6_isIn S P (S 73825 x1.toNatClampNeg) (nI k4)) = false) => ?_) (fun (h2 : (f_X6_isIn S P (S 73825 x1.toNatClampNeg) (nI k4)) = true) => ?_)
          · exact hW [0, 1, 2, 3] _ _ _ _ _ (ih (k4 + 1) _ (z_fo (fun k4 a4 => l_X6_provedOf_4 S P x1 k4 a4) (nI 0) k4) (by omega) (nI_add k4 1) (((if_neg (z_nt h2)).trans rfl).symm))
          · refine ⟨(show vp_in x1 12 by assumption), ?_⟩
            refine ⟨(show z_le (S 8216 7) 60 by assumption), (show z_le (S 49201 (S 71777 x1.toNatClampNeg).toNatClampNeg) 8 by assumption), (show vp_in (S 71777 x1.toNatClampNeg) 6 by assumption), ?_⟩
            refine z_br (fun (h3 : (f_X3_prove S P (S 71777 x1.toNatClampNeg) (nI k4) (S 2096 8)) = false) => ?_) (fun (h3 : (f_X3_prove S P (S 71777 x1.toNatClampNeg) (nI k4) (S 2096 8)) = true) => ?_)
            · exact hW [0, 1, 2, 3] _ _ _ _ _ (ih (k4 + 1) _ (z_fo (fun k4 a4 => l_X6_provedOf_4 S P x1 k4 a4) (nI 0) k4) (by omega) (nI_add k4 1) (((if_pos h2).trans ((if_neg (z_nt h3)).trans rfl)).symm))
            · exact hW [0, 1, 2, 3] _ _ _ _ _ (ih (k4 + 1) _ (f_X6_with S P (z_fo (fun k4 a4 => l_X6_provedOf_4 S P x1 k4 a4) (nI 0) k4) (nI k4) (nI 1)) (by omega) (nI_add k4 1) (((if_pos h2).trans ((if_pos h3).trans rfl)).symm))
      exact hW [0, 1, 2, 3] _ _ _ _ _ (hL4 16 0 _ (nI 0) (Nat.zero_add _) rfl rfl)
    · exact h.elim
def f_X6_firstFailed (S : z_MI) (P : z_ML) (x1 : Int32) : Int32 :=
  if (f_X6_isVotedFor S P x1) = true then
    if (f_X6_provedOf S P x1) = 0 then
      nI 2
    else
      if (f_X1_isBarred S P x1) = true then
        nI 3
      else
        nI 0
  else
    nI 1
def sp_X6_firstFailed : z_SP := fun as S P k => match as with
  | [.int x1] => vp_in x1 12 ∧ vp_in (S 71777 x1.toNatClampNeg) 6 ∧ z_le (S 4112 7) 30 ∧ z_le (S 8216 7) 60 ∧ z_le (S 49201 (S 71777 x1.toNatClampNeg).toNatClampNeg) 8 ∧ z_le (S 12296 8) 12 ∧ k (some (.int (f_X6_firstFailed S P x1))) S P
  | _ => False
def G_X6_firstFailed : z_G := ([(0, .aload_n 0, 1, 0), (1, .iload_n 1, 2, 0), (2, .invokevirtual 323, 5, 0), (5, .ifCond .ne 5, 8, 10), (8, .iconst 1, 9, 0), (9, .ireturn, 10, 0), (10, .aload_n 0, 11, 0), (11, .iload_n 1, 12, 0), (12, .invokevirtual 295, 15, 0), (15, .ifCond .ne 5, 18, 20), (18, .iconst 2, 19, 0), (19, .ireturn, 20, 0), (20, .aload_n 0, 21, 0), (21, .getfield 40, 24, 0), (24, .iload_n 1, 25, 0), (25, .invokevirtual 326, 28, 0), (28, .ifCond .eq 7, 31, 35), (31, .iconst 3, 32, 0), (32, .goto 4, 35, 36), (35, .iconst 0, 36, 0), (36, .ireturn, 37, 0)], [(40, 2096, 4, some 12296)], [(295, 2, (z_rc 2096 sp_X6_provedOf)), (323, 2, (z_rc 2096 sp_X6_isVotedFor)), (326, 2, (z_rc 12296 sp_X1_isBarred))], [], [], [], [], some .int)
set_option maxRecDepth 20000 in
set_option maxHeartbeats 4000000 in
theorem ct_X6_firstFailed (l : Launch) : z_CT l yX6_firstFailed cX6_firstFailed 2 (some .int) (z_rc 2096 sp_X6_firstFailed) 5 := by
  refine z_CT_of G_X6_firstFailed (by decide) (by decide +kernel) (z_pok_of ft_X6 ci_X6 cL_X6_L fo_X6 co_X6 lo_X6 (by decide +kernel)) rfl rfl ?_ ?_ ?_
  · intro as S P Po h0
    obtain ⟨as, rfl, h⟩ := z_rc_of h0
    unfold sp_X6_firstFailed at h
    split at h
    · exact Nat.le_of_ble_eq_true rfl
    · exact h.elim
  · exact List.forall_mem_cons.mpr ⟨z_coV (ct_X6_provedOf l) kb_X6_provedOf kv_X6_295 ko_X6 (by decide) (by decide) (by decide), List.forall_mem_cons.mpr ⟨z_coV (ct_X6_isVotedFor l) kb_X6_isVotedFor kv_X6_323 ko_X6 (by decide) (by decide) (by decide), List.forall_mem_cons.mpr ⟨z_coV (ct_X1_isBarred l) kb_X1_isBarred kv_X6_326 ko_X1 (by decide) (by decide) (by decide), fun _ h => absurd h List.not_mem_nil⟩⟩⟩
  · intro as S P Po h0 V hV hW
    obtain ⟨as, rfl, h⟩ := z_rc_of h0
    unfold sp_X6_firstFailed at h
    split at h
    · rename_i x1
      obtain ⟨hp0, hp1, hp2, hp3, hp4, hp5, hpo⟩ := h
      refine hV [] 26 0 _ _ _ _ ?_
      refine ⟨(show vp_in x1 12 by assumption), (show vp_in (S 71777 x1.toNatClampNeg) 6 by assumption), (show z_le (S 4112 7) 30 by assumption), ?_⟩
      refine z_brn (fun (h1 : (f_X6_isVotedFor S P x1) = true) => ?_) (fun (h1 : (f_X6_isVotedFor S P x1) = false) => ?_)
      · refine ⟨(show vp_in x1 12 by assumption), (show z_le (S 8216 7) 60 by assumption), (show z_le (S 49201 (S 71777 x1.toNatClampNeg).toNatClampNeg) 8 by assumption), (show vp_in (S 71777 x1.toNatClampNeg) 6 by assumption), ?_⟩
        refine ⟨fun (h2 : ¬ ((f_X6_provedOf S P x1) = 0)) => ?_, fun (h2 : (f_X6_provedOf S P x1) = 0) => ?_⟩
        · refine ⟨(show z_le (S 12296 8) 12 by assumption), (show vp_in x1 12 by assumption), ?_⟩
          refine z_br (fun (h3 : (f_X1_isBarred S P x1) = false) => ?_) (fun (h3 : (f_X1_isBarred S P x1) = true) => ?_)
          · exact z_pi hpo ((if_pos h1).trans ((if_neg h2).trans ((if_neg (z_nt h3)).trans rfl))) (rfl) (rfl)
          · exact z_pi hpo ((if_pos h1).trans ((if_neg h2).trans ((if_pos h3).trans rfl))) (rfl) (rfl)
        · exact z_pi hpo ((if_pos h1).trans ((if_pos h2).trans rfl)) (rfl) (rfl)
      · exact z_pi hpo ((if_neg (z_nt h1)).trans rfl) (rfl) (rfl)
    · exact h.elim
def f_X6_rightsOf (S : z_MI) (P : z_ML) (x1 : Int32) (x2 : Int32) : Int32 :=
  if (f_X6_with S P (f_X1_holdersOf S P x2) x1 (nI 0)) = 0 then
    (f_X1_grantedTo S P x1 x2) &&& (f_X0_leftAt S P x2 (S 2096 8))
  else
    f_X6_with S P ((f_X1_grantedTo S P x1 x2) &&& (f_X0_leftAt S P x2 (S 2096 8))) (nI 4) (nI 0)
def sp_X6_rightsOf : z_SP := fun as S P k => match as with
  | [.int x1, .int x2] => z_le (S 12296 8) 12 ∧ z_le (S 10240 8) 40 ∧ k (some (.int (f_X6_rightsOf S P x1 x2))) S P
  | _ => False
def G_X6_rightsOf : z_G := ([(0, .aload_n 0, 1, 0), (1, .getfield 40, 4, 0), (4, .iload_n 1, 5, 0), (5, .iload_n 2, 6, 0), (6, .invokevirtual 332, 9, 0), (9, .aload_n 0, 10, 0), (10, .getfield 33, 13, 0), (13, .iload_n 2, 14, 0), (14, .aload_n 0, 15, 0), (15, .getfield 59, 18, 0), (18, .invokevirtual 249, 21, 0), (21, .iand, 22, 0), (22, .istore_n 3, 23, 0), (23, .aload_n 0, 24, 0), (24, .getfield 40, 27, 0), (27, .iload_n 2, 28, 0), (28, .invokevirtual 312, 31, 0), (31, .iload_n 1, 32, 0), (32, .iconst 0, 33, 0), (33, .invokestatic 113, 36, 0), (36, .ifCond .eq 7, 39, 43), (39, .iconst 1, 40, 0), (40, .goto 4, 43, 44), (43, .iconst 0, 44, 0), (44, .istore 4, 46, 0), (46, .iload 4, 48, 0), (48, .ifCond .eq 12, 51, 60), (51, .iload_n 3, 52, 0), (52, .iconst 4, 53, 0), (53, .iconst 0, 54, 0), (54, .invokestatic 113, 57, 0), (57, .goto 4, 60, 61), (60, .iload_n 3, 61, 0), (61, .ireturn, 62, 0)], [(33, 2096, 3, some 10240), (40, 2096, 4, some 12296), (59, 2096, 8, none)], [(100113, 3, sp_X6_with), (249, 3, (z_rc 10240 sp_X0_leftAt)), (312, 2, (z_rc 12296 sp_X1_holdersOf)), (332, 3, (z_rc 12296 sp_X1_grantedTo))], [], [], [], [], some .int)
set_option maxRecDepth 20000 in
set_option maxHeartbeats 4000000 in
theorem ct_X6_rightsOf (l : Launch) : z_CT l yX6_rightsOf cX6_rightsOf 5 (some .int) (z_rc 2096 sp_X6_rightsOf) 3 := by
  refine z_CT_of G_X6_rightsOf (by decide) (by decide +kernel) (z_pok_of ft_X6 ci_X6 cL_X6_L fo_X6 co_X6 lo_X6 (by decide +kernel)) rfl rfl ?_ ?_ ?_
  · intro as S P Po h0
    obtain ⟨as, rfl, h⟩ := z_rc_of h0
    unfold sp_X6_rightsOf at h
    split at h
    · exact Nat.le_of_ble_eq_true rfl
    · exact h.elim
  · exact List.forall_mem_cons.mpr ⟨z_coS (ct_X6_with l) kb_X6_with ks_X6_113 (by decide) (by decide), List.forall_mem_cons.mpr ⟨z_coV (ct_X0_leftAt l) kb_X0_leftAt kv_X6_249 ko_X0 (by decide) (by decide) (by decide), List.forall_mem_cons.mpr ⟨z_coV (ct_X1_holdersOf l) kb_X1_holdersOf kv_X6_312 ko_X1 (by decide) (by decide) (by decide), List.forall_mem_cons.mpr ⟨z_coV (ct_X1_grantedTo l) kb_X1_grantedTo kv_X6_332 ko_X1 (by decide) (by decide) (by decide), fun _ h => absurd h List.not_mem_nil⟩⟩⟩⟩
  · intro as S P Po h0 V hV hW
    obtain ⟨as, rfl, h⟩ := z_rc_of h0
    unfold sp_X6_rightsOf at h
    split at h
    · rename_i x1 x2
      obtain ⟨hp0, hp1, hpo⟩ := h
      refine hV [] 39 0 _ _ _ _ ?_
      refine ⟨(show z_le (S 12296 8) 12 by assumption), ?_⟩
      refine ⟨(show z_le (S 10240 8) 40 by assumption), ?_⟩
      refine ⟨(show z_le (S 12296 8) 12 by assumption), ?_⟩
      refine ⟨fun (h1 : (f_X6_with S P (f_X1_holdersOf S P x2) x1 (nI 0)) = 0) => ?_, fun (h1 : ¬ ((f_X6_with S P (f_X1_holdersOf S P x2) x1 (nI 0)) = 0)) => ?_⟩
      · refine ⟨fun _ => ?_, fun h => absurd (by decide) h⟩
        exact z_pi hpo ((if_pos h1).trans rfl) (rfl) (rfl)
      · refine ⟨fun h => absurd h (by decide), fun _ => ?_⟩
        exact z_pi hpo ((if_neg h1).trans rfl) (rfl) (rfl)
    · exact h.elim
def f_X6_partiesOf (S : z_MI) (P : z_ML) (x1 : Int32) : Int32 :=
  f_X1_partiesAt S P (S 90209 x1.toNatClampNeg) ((S 88161 x1.toNatClampNeg) + (nI 3))
def sp_X6_partiesOf : z_SP := fun as S P k => match as with
  | [.int x1] => vp_in x1 12 ∧ z_le (S 12296 8) 12 ∧ k (some (.int (f_X6_partiesOf S P x1))) S P
  | _ => False
def G_X6_partiesOf : z_G := ([(0, .aload_n 0, 1, 0), (1, .getfield 40, 4, 0), (4, .aload_n 0, 5, 0), (5, .getfield 47, 8, 0), (8, .getfield 389, 11, 0), (11, .iload_n 1, 12, 0), (12, .iaload, 13, 0), (13, .aload_n 0, 14, 0), (14, .getfield 47, 17, 0), (17, .getfield 402, 20, 0), (20, .iload_n 1, 21, 0), (21, .iaload, 22, 0), (22, .iconst 3, 23, 0), (23, .iadd, 24, 0), (24, .invokevirtual 403, 27, 0), (27, .ireturn, 28, 0)], [(40, 2096, 4, some 12296), (47, 2096, 5, some 14368), (389, 14368, 1, some 90209), (402, 14368, 0, some 88161)], [(403, 3, (z_rc 12296 sp_X1_partiesAt))], [], [], [], [], some .int)
set_option maxRecDepth 20000 in
set_option maxHeartbeats 4000000 in
theorem ct_X6_partiesOf (l : Launch) : z_CT l yX6_partiesOf cX6_partiesOf 2 (some .int) (z_rc 2096 sp_X6_partiesOf) 2 := by
  refine z_CT_of G_X6_partiesOf (by decide) (by decide +kernel) (z_pok_of ft_X6 ci_X6 cL_X6_L fo_X6 co_X6 lo_X6 (by decide +kernel)) rfl rfl ?_ ?_ ?_
  · intro as S P Po h0
    obtain ⟨as, rfl, h⟩ := z_rc_of h0
    unfold sp_X6_partiesOf at h
    split at h
    · exact Nat.le_of_ble_eq_true rfl
    · exact h.elim
  · exact List.forall_mem_cons.mpr ⟨z_coV (ct_X1_partiesAt l) kb_X1_partiesAt kv_X6_403 ko_X1 (by decide) (by decide) (by decide), fun _ h => absurd h List.not_mem_nil⟩
  · intro as S P Po h0 V hV hW
    obtain ⟨as, rfl, h⟩ := z_rc_of h0
    unfold sp_X6_partiesOf at h
    split at h
    · rename_i x1
      obtain ⟨hp0, hp1, hpo⟩ := h
      refine hV [] 21 0 _ _ _ _ ?_
      refine ⟨(show vp_in x1 12 by assumption), ?_⟩
      refine ⟨(show vp_in x1 12 by assumption), ?_⟩
      refine ⟨(show z_le (S 12296 8) 12 by assumption), ?_⟩
      exact z_pi hpo (rfl) (rfl) (rfl)
    · exact h.elim
def l_X6_weightOf_4 (S : z_MI) (P : z_ML) (x0 : Int32) (k4 : Nat) (a4 : Int32) : Int32 :=
  if (f_X6_isIn S P x0 (nI k4)) = true then
    a4 + (z_wt (nI k4).toNatClampNeg)
  else
    a4 + (nI 0)
def f_X6_weightOf (S : z_MI) (P : z_ML) (x0 : Int32) : Int32 :=
  (z_fo (fun k4 a4 => l_X6_weightOf_4 S P x0 k4 a4) (nI 0) 5)
def sp_X6_weightOf : z_SP := fun as S P k => match as with
  | [.int x0] => k (some (.int (f_X6_weightOf S P x0))) S P
  | _ => False
def G_X6_weightOf : z_G := ([(0, .iconst 0, 1, 0), (1, .istore_n 1, 2, 0), (2, .iconst 0, 3, 0), (3, .istore_n 2, 4, 0), (4, .iload_n 2, 5, 0), (5, .getstatic 446, 8, 0), (8, .arraylength, 9, 0), (9, .if_icmp .ge 29, 12, 38), (12, .iload_n 1, 13, 0), (13, .iload_n 0, 14, 0), (14, .iload_n 2, 15, 0), (15, .invokestatic 184, 18, 0), (18, .ifCond .eq 11, 21, 29), (21, .getstatic 446, 24, 0), (24, .iload_n 2, 25, 0), (25, .iaload, 26, 0), (26, .goto 4, 29, 30), (29, .iconst 0, 30, 0), (30, .iadd, 31, 0), (31, .istore_n 1, 32, 0), (32, .iinc 2 1, 35, 0), (35, .goto (-31), 38, 4), (38, .iload_n 1, 39, 0), (39, .ireturn, 40, 0)], [(446, 2050093, 0, none)], [(100184, 2, sp_X6_isIn)], [], [], [], [], some .int)
set_option maxRecDepth 20000 in
set_option maxHeartbeats 4000000 in
theorem ct_X6_weightOf (l : Launch) : z_CT l yX6_weightOf cX6_weightOf 3 (some .int) sp_X6_weightOf 1 := by
  refine z_CT_of G_X6_weightOf (by decide) (by decide +kernel) (z_pok_of ft_X6 ci_X6 cL_X6_L fo_X6 co_X6 lo_X6 (by decide +kernel)) rfl rfl ?_ ?_ ?_
  · intro as S P Po h
    unfold sp_X6_weightOf at h
    split at h
    · exact Nat.le_of_ble_eq_true rfl
    · exact h.elim
  · exact List.forall_mem_cons.mpr ⟨z_coS (ct_X6_isIn l) kb_X6_isIn ks_X6_184 (by decide) (by decide), fun _ h => absurd h List.not_mem_nil⟩
  · intro as S P Po h V hV hW
    unfold sp_X6_weightOf at h
    split at h
    · rename_i x0
      have hpo := h
      refine hV [4] 29 0 _ _ _ _ ?_
      have hb4 : ((nI 5) : Int32) = (nI 5) := rfl
      have hL4 : ∀ (j k4 : Nat) (x900 : Int32) (a4 : Int32), k4 + j = 5 → x900 = nI k4 → a4 = z_fo (fun k4 a4 => l_X6_weightOf_4 S P x0 k4 a4) (nI 0) k4 → V 4 [(0, .int x0), (1, .int a4), (2, .int x900)] [] S P := by
        intro j
        induction j with
        | zero =>
          intro k4 x900 a4 hk4 hx4 ha4
          subst hx4
          have hk9 : k4 = 5 := by omega
          subst hk9
          subst ha4
          refine hV [4] 29 4 _ _ _ _ ?_
          refine ⟨fun _ => ?_, fun h => absurd ((z_brge hb4 (by omega) (by omega)).mpr (Nat.le_refl _)) h⟩
          exact z_pi hpo (rfl) (rfl) (rfl)
        | succ j ih =>
          intro k4 x900 a4 hk4 hx4 ha4
          subst hx4
          have hk9 : k4 < 5 := by omega
          subst ha4
          refine hV [4] 29 4 _ _ _ _ ?_
          refine ⟨fun h => absurd ((z_brge hb4 (by omega) (by omega)).mp h) (by omega), fun _ => ?_⟩
          refine z_br (fun (h2 : (f_X6_isIn S P x0 (nI k4)) = false) => ?_) (fun (h2 : (f_X6_isIn S P x0 (nI k4)) = true) => ?_)
          · exact hW [0, 1, 2] _ _ _ _ _ (ih (k4 + 1) _ ((z_fo (fun k4 a4 => l_X6_weightOf_4 S P x0 k4 a4) (nI 0) k4) + (nI 0)) (by omega) (nI_add k4 1) (((if_neg (z_nt h2)).trans rfl).symm))
          · refine ⟨(show vp_in (nI k4) 5 by exact vp_in_nI (by omega) (by omega)), ?_⟩
            exact hW [0, 1, 2] _ _ _ _ _ (ih (k4 + 1) _ ((z_fo (fun k4 a4 => l_X6_weightOf_4 S P x0 k4 a4) (nI 0) k4) + (z_wt (nI k4).toNatClampNeg)) (by omega) (nI_add k4 1) (((if_pos h2).trans rfl).symm))
      exact hW [0, 1, 2] _ _ _ _ _ (hL4 5 0 _ (nI 0) (Nat.zero_add _) rfl rfl)
    · exact h.elim
def f_X6_owedAt (S : z_MI) (P : z_ML) (x1 : Int32) (x2 : Int32) : Int64 :=
  if (f_X6_isIn S P (S 57665 x1.toNatClampNeg) x2) = true then
    if (f_X1_holdersOf S P x2) = 0 then
      lN 0
    else
      (((((S 16513 x2.toNatClampNeg).toInt64) * ((f_X6_weightOf S P (f_X0_takenBy S P x1 x2)).toInt64)) / (lN 100)) + (((((((S 16513 x2.toNatClampNeg).toInt64) * ((f_X6_weightOf S P (f_X0_takenBy S P x1 x2)).toInt64)) / (lN 100)) * (lN 2)) * (((S 2096 8) - (S 55617 x1.toNatClampNeg)).toInt64)) / (lN 1000))) + (((((S 16513 x2.toNatClampNeg).toInt64) * ((f_X6_weightOf S P (f_X0_takenBy S P x1 x2)).toInt64)) / (lN 100)) / (lN 2))
  else
    lN 0
def sp_X6_owedAt : z_SP := fun as S P k => match as with
  | [.int x1, .int x2] => vp_in x1 40 ∧ z_le (S 12296 8) 12 ∧ vp_in x2 16 ∧ z_le (S 10240 8) 40 ∧ k (some (.long (f_X6_owedAt S P x1 x2))) S P
  | _ => False
def G_X6_owedAt : z_G := ([(0, .aload_n 0, 1, 0), (1, .getfield 33, 4, 0), (4, .getfield 433, 7, 0), (7, .iload_n 1, 8, 0), (8, .iaload, 9, 0), (9, .iload_n 2, 10, 0), (10, .invokestatic 184, 13, 0), (13, .ifCond .eq 14, 16, 27), (16, .aload_n 0, 17, 0), (17, .getfield 40, 20, 0), (20, .iload_n 2, 21, 0), (21, .invokevirtual 312, 24, 0), (24, .ifCond .ne 5, 27, 29), (27, .lconst 0, 28, 0), (28, .lreturn, 29, 0), (29, .aload_n 0, 30, 0), (30, .getfield 51, 33, 0), (33, .iload_n 2, 34, 0), (34, .iaload, 35, 0), (35, .i2l, 36, 0), (36, .aload_n 0, 37, 0), (37, .getfield 33, 40, 0), (40, .iload_n 1, 41, 0), (41, .iload_n 2, 42, 0), (42, .invokevirtual 434, 45, 0), (45, .invokestatic 437, 48, 0), (48, .i2l, 49, 0), (49, .lmul, 50, 0), (50, .ldc2_w 440, 53, 0), (53, .ldiv, 54, 0), (54, .lstore_n 3, 55, 0), (55, .aload_n 0, 56, 0), (56, .getfield 59, 59, 0), (59, .aload_n 0, 60, 0), (60, .getfield 33, 63, 0), (63, .getfield 239, 66, 0), (66, .iload_n 1, 67, 0), (67, .iaload, 68, 0), (68, .isub, 69, 0), (69, .i2l, 70, 0), (70, .lstore 5, 72, 0), (72, .lload_n 3, 73, 0), (73, .lload_n 3, 74, 0), (74, .ldc2_w 442, 77, 0), (77, .lmul, 78, 0), (78, .lload 5, 80, 0), (80, .lmul, 81, 0), (81, .ldc2_w 444, 84, 0), (84, .ldiv, 85, 0), (85, .ladd, 86, 0), (86, .lload_n 3, 87, 0), (87, .ldc2_w 442, 90, 0), (90, .ldiv, 91, 0), (91, .ladd, 92, 0), (92, .lreturn, 93, 0)], [(33, 2096, 3, some 10240), (40, 2096, 4, some 12296), (51, 2096, 6, some 16513), (59, 2096, 8, none), (239, 10240, 0, some 55617), (433, 10240, 1, some 57665)], [(100184, 2, sp_X6_isIn), (100437, 1, sp_X6_weightOf), (312, 2, (z_rc 12296 sp_X1_holdersOf)), (434, 3, (z_rc 10240 sp_X0_takenBy))], [], [(440, 100), (442, 2), (444, 1000)], [], [], some .long)
set_option maxRecDepth 20000 in
set_option maxHeartbeats 4000000 in
theorem ct_X6_owedAt (l : Launch) : z_CT l yX6_owedAt cX6_owedAt 7 (some .long) (z_rc 2096 sp_X6_owedAt) 3 := by
  refine z_CT_of G_X6_owedAt (by decide) (by decide +kernel) (z_pok_of ft_X6 ci_X6 cL_X6_L fo_X6 co_X6 lo_X6 (by decide +kernel)) rfl rfl ?_ ?_ ?_
  · intro as S P Po h0
    obtain ⟨as, rfl, h⟩ := z_rc_of h0
    unfold sp_X6_owedAt at h
    split at h
    · exact Nat.le_of_ble_eq_true rfl
    · exact h.elim
  · exact List.forall_mem_cons.mpr ⟨z_coS (ct_X6_isIn l) kb_X6_isIn ks_X6_184 (by decide) (by decide), List.forall_mem_cons.mpr ⟨z_coS (ct_X6_weightOf l) kb_X6_weightOf ks_X6_437 (by decide) (by decide), List.forall_mem_cons.mpr ⟨z_coV (ct_X1_holdersOf l) kb_X1_holdersOf kv_X6_312 ko_X1 (by decide) (by decide) (by decide), List.forall_mem_cons.mpr ⟨z_coV (ct_X0_takenBy l) kb_X0_takenBy kv_X6_434 ko_X0 (by decide) (by decide) (by decide), fun _ h => absurd h List.not_mem_nil⟩⟩⟩⟩
  · intro as S P Po h0 V hV hW
    obtain ⟨as, rfl, h⟩ := z_rc_of h0
    unfold sp_X6_owedAt at h
    split at h
    · rename_i x1 x2
      obtain ⟨hp0, hp1, hp2, hp3, hpo⟩ := h
      refine hV [] 60 0 _ _ _ _ ?_
      refine ⟨(show vp_in x1 40 by assumption), ?_⟩
      refine z_br (fun (h1 : (f_X6_isIn S P (S 57665 x1.toNatClampNeg) x2) = false) => ?_) (fun (h1 : (f_X6_isIn S P (S 57665 x1.toNatClampNeg) x2) = true) => ?_)
      · exact z_pl hpo ((if_neg (z_nt h1)).trans rfl) (rfl) (rfl)
      · refine ⟨(show z_le (S 12296 8) 12 by assumption), ?_⟩
        refine ⟨fun (h2 : ¬ ((f_X1_holdersOf S P x2) = 0)) => ?_, fun (h2 : (f_X1_holdersOf S P x2) = 0) => ?_⟩
        · refine ⟨(show vp_in x2 16 by assumption), ?_⟩
          refine ⟨(show vp_in x1 40 by assumption), (show z_le (S 10240 8) 40 by assumption), ?_⟩
          refine ⟨(show ¬ (lN 100) = 0 by decide), ?_⟩
          refine ⟨(show vp_in x1 40 by assumption), ?_⟩
          refine ⟨(show ¬ (lN 1000) = 0 by decide), ?_⟩
          refine ⟨(show ¬ (lN 2) = 0 by decide), ?_⟩
          exact z_pl hpo ((if_pos h1).trans ((if_neg h2).trans rfl)) (rfl) (rfl)
        · exact z_pl hpo ((if_pos h1).trans ((if_pos h2).trans rfl)) (rfl) (rfl)
    · exact h.elim
def l_X6_owedFor_18 (S : z_MI) (P : z_ML) (x1 : Int32) (k18 : Nat) (a18 : Int64) : Int64 :=
  a18 + (f_X6_owedAt S P x1 (nI k18))
def f_X6_owedFor (S : z_MI) (P : z_ML) (x1 : Int32) : Int64 :=
  if (f_X0_isPayable S P x1) = true then
    (z_fo (fun k18 a18 => l_X6_owedFor_18 S P x1 k18 a18) (lN 0) 16)
  else
    lN 0
def sp_X6_owedFor : z_SP := fun as S P k => match as with
  | [.int x1] => vp_in x1 40 ∧ z_le (S 12296 8) 12 ∧ z_le (S 10240 8) 40 ∧ k (some (.long (f_X6_owedFor S P x1))) S P
  | _ => False
def G_X6_owedFor : z_G := ([(0, .aload_n 0, 1, 0), (1, .getfield 33, 4, 0), (4, .iload_n 1, 5, 0), (5, .invokevirtual 430, 8, 0), (8, .ifCond .ne 5, 11, 13), (11, .lconst 0, 12, 0), (12, .lreturn, 13, 0), (13, .lconst 0, 14, 0), (14, .lstore_n 2, 15, 0), (15, .iconst 0, 16, 0), (16, .istore 4, 18, 0), (18, .iload 4, 20, 0), (20, .bipush 16, 22, 0), (22, .if_icmp .ge 19, 25, 41), (25, .lload_n 2, 26, 0), (26, .aload_n 0, 27, 0), (27, .iload_n 1, 28, 0), (28, .iload 4, 30, 0), (30, .invokevirtual 415, 33, 0), (33, .ladd, 34, 0), (34, .lstore_n 2, 35, 0), (35, .iinc 4 1, 38, 0), (38, .goto (-20), 41, 18), (41, .lload_n 2, 42, 0), (42, .lreturn, 43, 0)], [(33, 2096, 3, some 10240)], [(415, 3, (z_rc 2096 sp_X6_owedAt)), (430, 2, (z_rc 10240 sp_X0_isPayable))], [], [], [], [], some .long)
set_option maxRecDepth 20000 in
set_option maxHeartbeats 4000000 in
theorem ct_X6_owedFor (l : Launch) : z_CT l yX6_owedFor cX6_owedFor 5 (some .long) (z_rc 2096 sp_X6_owedFor) 4 := by
  refine z_CT_of G_X6_owedFor (by decide) (by decide +kernel) (z_pok_of ft_X6 ci_X6 cL_X6_L fo_X6 co_X6 lo_X6 (by decide +kernel)) rfl rfl ?_ ?_ ?_
  · intro as S P Po h0
    obtain ⟨as, rfl, h⟩ := z_rc_of h0
    unfold sp_X6_owedFor at h
    split at h
    · exact Nat.le_of_ble_eq_true rfl
    · exact h.elim
  · exact List.forall_mem_cons.mpr ⟨z_coV (ct_X6_owedAt l) kb_X6_owedAt kv_X6_415 ko_X6 (by decide) (by decide) (by decide), List.forall_mem_cons.mpr ⟨z_coV (ct_X0_isPayable l) kb_X0_isPayable kv_X6_430 ko_X0 (by decide) (by decide) (by decide), fun _ h => absurd h List.not_mem_nil⟩⟩
  · intro as S P Po h0 V hV hW
    obtain ⟨as, rfl, h⟩ := z_rc_of h0
    unfold sp_X6_owedFor at h
    split at h
    · rename_i x1
      obtain ⟨hp0, hp1, hp2, hpo⟩ := h
      refine hV [18] 30 0 _ _ _ _ ?_
      refine ⟨(show vp_in x1 40 by assumption), ?_⟩
      refine z_brn (fun (h1 : (f_X0_isPayable S P x1) = true) => ?_) (fun (h1 : (f_X0_isPayable S P x1) = false) => ?_)
      · have hb18 : ((nI 16) : Int32) = (nI 16) := rfl
        have hL18 : ∀ (j k18 : Nat) (x900 : Int32) (a18 : Int64), k18 + j = 16 → x900 = nI k18 → a18 = z_fo (fun k18 a18 => l_X6_owedFor_18 S P x1 k18 a18) (lN 0) k18 → V 18 [(0, .ref 2096), (1, .int x1), (2, .long a18), (4, .int x900)] [] S P := by
          intro j
          induction j with
          | zero =>
            intro k18 x900 a18 hk18 hx18 ha18
            subst hx18
            have hk9 : k18 = 16 := by omega
            subst hk9
            subst ha18
            refine hV [18] 30 18 _ _ _ _ ?_
            refine ⟨fun _ => ?_, fun h => absurd ((z_brge hb18 (by omega) (by omega)).mpr (Nat.le_refl _)) h⟩
            exact z_pl hpo ((if_pos h1).trans rfl) (rfl) (rfl)
          | succ j ih =>
            intro k18 x900 a18 hk18 hx18 ha18
            subst hx18
            have hk9 : k18 < 16 := by omega
            subst ha18
            refine hV [18] 30 18 _ _ _ _ ?_
            refine ⟨fun h => absurd ((z_brge hb18 (by omega) (by omega)).mp h) (by omega), fun _ => ?_⟩
            refine ⟨(show vp_in x1 40 by assumption), (show z_le (S 12296 8) 12 by assumption), (show vp_in (nI k18) 16 by exact vp_in_nI (by omega) (by omega)), (show z_le (S 10240 8) 40 by assumption), ?_⟩
            exact hW [0, 1, 2, 4] _ _ _ _ _ (ih (k18 + 1) _ ((z_fo (fun k18 a18 => l_X6_owedFor_18 S P x1 k18 a18) (lN 0) k18) + (f_X6_owedAt S P x1 (nI k18))) (by omega) (nI_add k18 1) ((rfl).symm))
        exact hW [0, 1, 2, 4] _ _ _ _ _ (hL18 16 0 _ (lN 0) (Nat.zero_add _) rfl rfl)
      · exact z_pl hpo ((if_neg (z_nt h1)).trans rfl) (rfl) (rfl)
    · exact h.elim
def l_X6_share_22 (S : z_MI) (P : z_ML) (x1 : Int64) (x3 : Int32) (k22 : Nat) (a22 : Int64 × z_ML) : Int64 × z_ML :=
  if (f_X6_isIn S a22.2 x3 (nI k22)) = true then
    (lN 0, va_up a22.2 18483 (vp_updL (a22.2 18483) ((nI k22).toNatClampNeg) ((a22.2 18483 ((nI k22).toNatClampNeg)) + ((x1 / ((f_J6_bitCount_0f7a4 S P x3).toInt64)) + a22.1))))
  else
    (a22.1, a22.2)
def v_X6_share (S : z_MI) (P : z_ML) (x1 : Int64) (x3 : Int32) : z_ML :=
  if (f_J6_bitCount_0f7a4 S P x3) = 0 then
    P
  else
    (z_fo (fun k22 a22 => l_X6_share_22 S P x1 x3 k22 a22) (x1 - x1 / ((f_J6_bitCount_0f7a4 S P x3).toInt64) * ((f_J6_bitCount_0f7a4 S P x3).toInt64), P) 6).2
def sp_X6_share : z_SP := fun as S P k => match as with
  | [.long x1, .int x3] => k (none) S (v_X6_share S P x1 x3)
  | _ => False
def G_X6_share : z_G := ([(0, .iload_n 3, 1, 0), (1, .invokestatic 120, 4, 0), (4, .istore 4, 6, 0), (6, .iload 4, 8, 0), (8, .ifCond .ne 4, 11, 12), (11, .return_, 12, 0), (12, .lload_n 1, 13, 0), (13, .iload 4, 15, 0), (15, .i2l, 16, 0), (16, .lrem, 17, 0), (17, .lstore 5, 19, 0), (19, .iconst 0, 20, 0), (20, .istore 7, 22, 0), (22, .iload 7, 24, 0), (24, .aload_n 0, 25, 0), (25, .getfield 55, 28, 0), (28, .arraylength, 29, 0), (29, .if_icmp .ge 39, 32, 68), (32, .iload_n 3, 33, 0), (33, .iload 7, 35, 0), (35, .invokestatic 184, 38, 0), (38, .ifCond .eq 24, 41, 62), (41, .aload_n 0, 42, 0), (42, .getfield 55, 45, 0), (45, .iload 7, 47, 0), (47, .dup2, 48, 0), (48, .laload, 49, 0), (49, .lload_n 1, 50, 0), (50, .iload 4, 52, 0), (52, .i2l, 53, 0), (53, .ldiv, 54, 0), (54, .lload 5, 56, 0), (56, .ladd, 57, 0), (57, .ladd, 58, 0), (58, .lastore, 59, 0), (59, .lconst 0, 60, 0), (60, .lstore 5, 62, 0), (62, .iinc 7 1, 65, 0), (65, .goto (-43), 68, 22), (68, .return_, 69, 0)], [(55, 2096, 7, some 18483)], [(100120, 1, sp_J6_bitCount_0f7a4), (100184, 2, sp_X6_isIn)], [], [], [], [], none)
set_option maxRecDepth 20000 in
set_option maxHeartbeats 4000000 in
theorem ct_X6_share (l : Launch) : z_CT l yX6_share cX6_share 8 (none) (z_rc 2096 sp_X6_share) 1 := by
  refine z_CT_of G_X6_share (by decide) (by decide +kernel) (z_pok_of ft_X6 ci_X6 cL_X6_L fo_X6 co_X6 lo_X6 (by decide +kernel)) rfl rfl ?_ ?_ ?_
  · intro as S P Po h0
    obtain ⟨as, rfl, h⟩ := z_rc_of h0
    unfold sp_X6_share at h
    split at h
    · exact Nat.le_of_ble_eq_true rfl
    · exact h.elim
  · exact List.forall_mem_cons.mpr ⟨z_coS (ct_J6_bitCount_0f7a4 l) kb_J6_bitCount_0f7a4 ks_X6_120 (by decide) (by decide), List.forall_mem_cons.mpr ⟨z_coS (ct_X6_isIn l) kb_X6_isIn ks_X6_184 (by decide) (by decide), fun _ h => absurd h List.not_mem_nil⟩⟩
  · intro as S P Po h0 V hV hW
    obtain ⟨as, rfl, h⟩ := z_rc_of h0
    unfold sp_X6_share at h
    split at h
    · rename_i x1 x3
      have hpo := h
      refine hV [22] 45 0 _ _ _ _ ?_
      refine ⟨fun (h1 : ¬ ((f_J6_bitCount_0f7a4 S P x3) = 0)) => ?_, fun (h1 : (f_J6_bitCount_0f7a4 S P x3) = 0) => ?_⟩
      · refine ⟨(show ¬ ((f_J6_bitCount_0f7a4 S P x3).toInt64) = 0 by exact z_i64 (by assumption)), ?_⟩
        have hb22 : ((nI 6) : Int32) = (nI 6) := rfl
        have hL22 : ∀ (j k22 : Nat) (x900 : Int32) (a22 : Int64 × z_ML), k22 + j = 6 → x900 = nI k22 → a22 = z_fo (fun k22 a22 => l_X6_share_22 S P x1 x3 k22 a22) (x1 - x1 / ((f_J6_bitCount_0f7a4 S P x3).toInt64) * ((f_J6_bitCount_0f7a4 S P x3).toInt64), P) k22 → V 22 [(0, .ref 2096), (1, .long x1), (3, .int x3), (4, .int (f_J6_bitCount_0f7a4 S P x3)), (5, .long a22.1), (7, .int x900)] [] S a22.2 := by
          intro j
          induction j with
          | zero =>
            intro k22 x900 a22 hk22 hx22 ha22
            subst hx22
            have hk9 : k22 = 6 := by omega
            subst hk9
            subst ha22
            refine hV [22] 45 22 _ _ _ _ ?_
            refine ⟨fun _ => ?_, fun h => absurd ((z_brge hb22 (by omega) (by omega)).mpr (Nat.le_refl _)) h⟩
            exact z_pv hpo (rfl) ((if_neg h1).trans rfl)
          | succ j ih =>
            intro k22 x900 a22 hk22 hx22 ha22
            subst hx22
            have hk9 : k22 < 6 := by omega
            subst ha22
            refine hV [22] 45 22 _ _ _ _ ?_
            refine ⟨fun h => absurd ((z_brge hb22 (by omega) (by omega)).mp h) (by omega), fun _ => ?_⟩
            refine z_br (fun (h3 : (f_X6_isIn S (z_fo (fun k22 a22 => l_X6_share_22 S P x1 x3 k22 a22) (x1 - x1 / ((f_J6_bitCount_0f7a4 S P x3).toInt64) * ((f_J6_bitCount_0f7a4 S P x3).toInt64), P) k22).2 x3 (nI k22)) = false) => ?_) (fun (h3 : (f_X6_isIn S (z_fo (fun k22 a22 => l_X6_share_22 S P x1 x3 k22 a22) (x1 - x1 / ((f_J6_bitCount_0f7a4 S P x3).toInt64) * ((f_J6_bitCount_0f7a4 S P x3).toInt64), P) k22).2 x3 (nI k22)) = true) => ?_)
            · exact hW [0, 1, 3, 4, 5, 7] _ _ _ _ _ (ih (k22 + 1) _ ((z_fo (fun k22 a22 => l_X6_share_22 S P x1 x3 k22 a22) (x1 - x1 / ((f_J6_bitCount_0f7a4 S P x3).toInt64) * ((f_J6_bitCount_0f7a4 S P x3).toInt64), P) k22).1, (z_fo (fun k22 a22 => l_X6_share_22 S P x1 x3 k22 a22) (x1 - x1 / ((f_J6_bitCount_0f7a4 S P x3).toInt64) * ((f_J6_bitCount_0f7a4 S P x3).toInt64), P) k22).2) (by omega) (nI_add k22 1) (((if_neg (z_nt h3)).trans rfl).symm))
            · refine ⟨(show vp_in (nI k22) 6 by exact vp_in_nI (by omega) (by omega)), ?_⟩
              refine ⟨(show ¬ ((f_J6_bitCount_0f7a4 S P x3).toInt64) = 0 by exact z_i64 (by assumption)), ?_⟩
              refine ⟨(show vp_in (nI k22) 6 by exact vp_in_nI (by omega) (by omega)), ?_⟩
              exact hW [0, 1, 3, 4, 5, 7] _ _ _ _ _ (ih (k22 + 1) _ (lN 0, va_up (z_fo (fun k22 a22 => l_X6_share_22 S P x1 x3 k22 a22) (x1 - x1 / ((f_J6_bitCount_0f7a4 S P x3).toInt64) * ((f_J6_bitCount_0f7a4 S P x3).toInt64), P) k22).2 18483 (vp_updL ((z_fo (fun k22 a22 => l_X6_share_22 S P x1 x3 k22 a22) (x1 - x1 / ((f_J6_bitCount_0f7a4 S P x3).toInt64) * ((f_J6_bitCount_0f7a4 S P x3).toInt64), P) k22).2 18483) ((nI k22).toNatClampNeg) (((z_fo (fun k22 a22 => l_X6_share_22 S P x1 x3 k22 a22) (x1 - x1 / ((f_J6_bitCount_0f7a4 S P x3).toInt64) * ((f_J6_bitCount_0f7a4 S P x3).toInt64), P) k22).2 18483 ((nI k22).toNatClampNeg)) + ((x1 / ((f_J6_bitCount_0f7a4 S P x3).toInt64)) + (z_fo (fun k22 a22 => l_X6_share_22 S P x1 x3 k22 a22) (x1 - x1 / ((f_J6_bitCount_0f7a4 S P x3).toInt64) * ((f_J6_bitCount_0f7a4 S P x3).toInt64), P) k22).1)))) (by omega) (nI_add k22 1) (((if_pos h3).trans rfl).symm))
        exact hW [0, 1, 3, 4, 5, 7] _ _ _ _ _ (hL22 6 0 _ (x1 - x1 / ((f_J6_bitCount_0f7a4 S P x3).toInt64) * ((f_J6_bitCount_0f7a4 S P x3).toInt64), P) (Nat.zero_add _) rfl rfl)
      · exact z_pv hpo (rfl) ((if_pos h1).trans rfl)
    · exact h.elim
end
section
theorem t_isPlace {S : z_MI} {P : z_ML} {x : Int32} (h : f_X6_isPlace S P x = true) : vp_in x 16 := by
  unfold f_X6_isPlace at h
  split at h
  · cases h
  · split at h
    · cases h
    · exact z_ck ‹_› ‹_› ⟨16, Nat.le_refl _, rfl⟩ (by decide)
end
section
def f_X6_people (S : z_MI) (P : z_ML) (x1 : Int32) : Int32 :=
  if x1 < 0 then
    0
  else
    if x1 ≤ (nI 2) then
      if (S 4112 6) < (nI 6) then
        f_X2_addPeople S P x1
      else
        0
    else
      0
def u_X6_people (S : z_MI) (P : z_ML) (x1 : Int32) : z_MI :=
  if x1 < 0 then
    S
  else
    if x1 ≤ (nI 2) then
      if (S 4112 6) < (nI 6) then
        u_X2_addPeople S P x1
      else
        S
    else
      S
def e_X6_people (S : z_MI) (P : z_ML) (x1 : Int32) : Nat :=
  if x1 < 0 then
    2
  else
    if x1 ≤ (nI 2) then
      if (S 4112 6) < (nI 6) then
        0
      else
        3
    else
      2
def sp_X6_people : z_SX := fun as S P k kx => match as with
  | [.ref 2096, .int x1] => z_J S ∧ (match e_X6_people S P x1 with
      | 0 => k (some (.int (f_X6_people S P x1))) (u_X6_people S P x1) P
      | 1 => kx "java/lang/IndexOutOfBoundsException" S P
      | 2 => kx "java/lang/IllegalArgumentException" S P
      | _ => kx "java/lang/IllegalStateException" S P)
  | _ => False
def G_X6_people : z_G := ([(0, .iload_n 1, 1, 0), (1, .ifCond .lt 8, 4, 9), (4, .iload_n 1, 5, 0), (5, .iconst 2, 6, 0), (6, .if_icmp .le 13, 9, 19), (9, .new 63, 12, 0), (12, .dup, 13, 0), (13, .ldc 65, 15, 0), (15, .invokespecial 67, 18, 0), (18, .athrow, 19, 0), (19, .aload_n 0, 20, 0), (20, .getfield 10, 23, 0), (23, .getfield 70, 26, 0), (26, .bipush 6, 28, 0), (28, .if_icmp .lt 13, 31, 41), (31, .new 73, 34, 0), (34, .dup, 35, 0), (35, .ldc 75, 37, 0), (37, .invokespecial 77, 40, 0), (40, .athrow, 41, 0), (41, .aload_n 0, 42, 0), (42, .getfield 10, 45, 0), (45, .iload_n 1, 46, 0), (46, .invokevirtual 78, 49, 0), (49, .ireturn, 50, 0)], [(10, 2096, 0, some 4112), (70, 4112, 6, none)], [(78, 2, (z_rc 4112 sp_X2_addPeople))], [], [], [(9, "java/lang/IllegalArgumentException"), (31, "java/lang/IllegalStateException")], [], some .int)
def ss_X6_people : List z_ST := [(9, "java/lang/IllegalArgumentException", 63, 65, 67, "rule is out of range", false), (31, "java/lang/IllegalStateException", 73, 75, 77, "there are 6 peoples", false)]
set_option maxRecDepth 20000 in
set_option maxHeartbeats 4000000 in
theorem ct_X6_people (l : Launch) (hl9 : l.stackTraces = false) : z_CX l yX6_people cX6_people 2 (some .int) sp_X6_people 6 := by
  refine z_CX_of G_X6_people ss_X6_people hl9 (by decide) (by decide) (by decide +kernel) (z_pok_of ft_X6 ci_X6 cL_X6_L fo_X6 co_X6 lo_X6 (by decide +kernel)) rfl rfl (by decide +kernel) ?_ ?_ ?_
  · intro as S P Po Px h
    unfold sp_X6_people at h
    split at h
    · exact Nat.le_of_ble_eq_true rfl
    · exact h.elim
  · exact List.forall_mem_cons.mpr ⟨z_coV (ct_X2_addPeople l) kb_X2_addPeople kv_X6_78 ko_X2 (by decide) (by decide) (by decide), fun _ h => absurd h List.not_mem_nil⟩
  · intro as S P Po Px h V hV hW
    unfold sp_X6_people at h
    split at h
    · rename_i x1
      obtain ⟨hp0, hpo⟩ := h
      refine hV [] 30 0 _ _ _ _ ?_
      refine ⟨fun (h1 : x1 < 0) => ?_, fun (h1 : ¬ (x1 < 0)) => ?_⟩
      · have he : e_X6_people S P x1 = 2 := (if_pos h1).trans rfl
        rw [he] at hpo
        exact hpo
      · refine ⟨fun (h2 : x1 ≤ (nI 2)) => ?_, fun (h2 : ¬ (x1 ≤ (nI 2))) => ?_⟩
        · refine ⟨fun (h3 : (S 4112 6) < (nI 6)) => ?_, fun (h3 : ¬ ((S 4112 6) < (nI 6))) => ?_⟩
          · refine ⟨(show vp_in (S 4112 6) 6 by first | exact z_room (by assumption) (z_J_peoples hp0) (by decide) (by decide) | exact z_roomL (by assumption) (z_J_peoples hp0) (by decide) (by decide)), ?_⟩
            have he : e_X6_people S P x1 = 0 := (if_neg h1).trans ((if_pos h2).trans ((if_pos h3).trans rfl))
            rw [he] at hpo
            exact z_pi hpo ((if_neg h1).trans ((if_pos h2).trans ((if_pos h3).trans rfl))) ((if_neg h1).trans ((if_pos h2).trans ((if_pos h3).trans rfl))) (rfl)
          · have he : e_X6_people S P x1 = 3 := (if_neg h1).trans ((if_pos h2).trans ((if_neg h3).trans rfl))
            rw [he] at hpo
            exact hpo
        · have he : e_X6_people S P x1 = 2 := (if_neg h1).trans ((if_neg h2).trans rfl)
          rw [he] at hpo
          exact hpo
    · exact h.elim
def f_X6_person (S : z_MI) (P : z_ML) (x1 : Int32) (x2 : Int32) : Int32 :=
  if (f_X2_isPersonOrNone S P x1) = true then
    if (f_X2_isPersonOrNone S P x2) = true then
      if x1 = x2 then
        if x1 = (-1) then
          if (S 4112 7) < (nI 30) then
            f_X2_addPerson S P x1 x2
          else
            0
        else
          0
      else
        if (S 4112 7) < (nI 30) then
          f_X2_addPerson S P x1 x2
        else
          0
    else
      0
  else
    0
def u_X6_person (S : z_MI) (P : z_ML) (x1 : Int32) (x2 : Int32) : z_MI :=
  if (f_X2_isPersonOrNone S P x1) = true then
    if (f_X2_isPersonOrNone S P x2) = true then
      if x1 = x2 then
        if x1 = (-1) then
          if (S 4112 7) < (nI 30) then
            u_X2_addPerson S P x1 x2
          else
            S
        else
          S
      else
        if (S 4112 7) < (nI 30) then
          u_X2_addPerson S P x1 x2
        else
          S
    else
      S
  else
    S
def e_X6_person (S : z_MI) (P : z_ML) (x1 : Int32) (x2 : Int32) : Nat :=
  if (f_X2_isPersonOrNone S P x1) = true then
    if (f_X2_isPersonOrNone S P x2) = true then
      if x1 = x2 then
        if x1 = (-1) then
          if (S 4112 7) < (nI 30) then
            0
          else
            3
        else
          2
      else
        if (S 4112 7) < (nI 30) then
          0
        else
          3
    else
      1
  else
    1
def sp_X6_person : z_SX := fun as S P k kx => match as with
  | [.ref 2096, .int x1, .int x2] => z_J S ∧ (match e_X6_person S P x1 x2 with
      | 0 => k (some (.int (f_X6_person S P x1 x2))) (u_X6_person S P x1 x2) P
      | 1 => kx "java/lang/IndexOutOfBoundsException" S P
      | 2 => kx "java/lang/IllegalArgumentException" S P
      | _ => kx "java/lang/IllegalStateException" S P)
  | _ => False
def G_X6_person : z_G := ([(0, .aload_n 0, 1, 0), (1, .getfield 10, 4, 0), (4, .iload_n 1, 5, 0), (5, .invokevirtual 82, 8, 0), (8, .ifCond .eq 14, 11, 22), (11, .aload_n 0, 12, 0), (12, .getfield 10, 15, 0), (15, .iload_n 2, 16, 0), (16, .invokevirtual 82, 19, 0), (19, .ifCond .ne 13, 22, 32), (22, .new 86, 25, 0), (25, .dup, 26, 0), (26, .ldc 88, 28, 0), (28, .invokespecial 90, 31, 0), (31, .athrow, 32, 0), (32, .iload_n 1, 33, 0), (33, .iload_n 2, 34, 0), (34, .if_icmp .ne 18, 37, 52), (37, .iload_n 1, 38, 0), (38, .iconst (-1), 39, 0), (39, .if_icmp .eq 13, 42, 52), (42, .new 63, 45, 0), (45, .dup, 46, 0), (46, .ldc 91, 48, 0), (48, .invokespecial 67, 51, 0), (51, .athrow, 52, 0), (52, .aload_n 0, 53, 0), (53, .getfield 10, 56, 0), (56, .getfield 93, 59, 0), (59, .bipush 30, 61, 0), (61, .if_icmp .lt 13, 64, 74), (64, .new 73, 67, 0), (67, .dup, 68, 0), (68, .ldc 96, 70, 0), (70, .invokespecial 77, 73, 0), (73, .athrow, 74, 0), (74, .aload_n 0, 75, 0), (75, .getfield 10, 78, 0), (78, .iload_n 1, 79, 0), (79, .iload_n 2, 80, 0), (80, .invokevirtual 98, 83, 0), (83, .ireturn, 84, 0)], [(10, 2096, 0, some 4112), (93, 4112, 7, none)], [(82, 2, (z_rc 4112 sp_X2_isPersonOrNone)), (98, 3, (z_rc 4112 sp_X2_addPerson))], [], [], [(22, "java/lang/IndexOutOfBoundsException"), (42, "java/lang/IllegalArgumentException"), (64, "java/lang/IllegalStateException")], [], some .int)
def ss_X6_person : List z_ST := [(22, "java/lang/IndexOutOfBoundsException", 86, 88, 90, "no such mother or father", false), (42, "java/lang/IllegalArgumentException", 63, 91, 67, "mother and father are the same person", false), (64, "java/lang/IllegalStateException", 73, 96, 77, "there are 30 persons", false)]
set_option maxRecDepth 20000 in
set_option maxHeartbeats 4000000 in
theorem ct_X6_person (l : Launch) (hl9 : l.stackTraces = false) : z_CX l yX6_person cX6_person 3 (some .int) sp_X6_person 6 := by
  refine z_CX_of G_X6_person ss_X6_person hl9 (by decide) (by decide) (by decide +kernel) (z_pok_of ft_X6 ci_X6 cL_X6_L fo_X6 co_X6 lo_X6 (by decide +kernel)) rfl rfl (by decide +kernel) ?_ ?_ ?_
  · intro as S P Po Px h
    unfold sp_X6_person at h
    split at h
    · exact Nat.le_of_ble_eq_true rfl
    · exact h.elim
  · exact List.forall_mem_cons.mpr ⟨z_coV (ct_X2_isPersonOrNone l) kb_X2_isPersonOrNone kv_X6_82 ko_X2 (by decide) (by decide) (by decide), List.forall_mem_cons.mpr ⟨z_coV (ct_X2_addPerson l) kb_X2_addPerson kv_X6_98 ko_X2 (by decide) (by decide) (by decide), fun _ h => absurd h List.not_mem_nil⟩⟩
  · intro as S P Po Px h V hV hW
    unfold sp_X6_person at h
    split at h
    · rename_i x1 x2
      obtain ⟨hp0, hpo⟩ := h
      refine hV [] 47 0 _ _ _ _ ?_
      refine z_br (fun (h1 : (f_X2_isPersonOrNone S P x1) = false) => ?_) (fun (h1 : (f_X2_isPersonOrNone S P x1) = true) => ?_)
      · have he : e_X6_person S P x1 x2 = 1 := (if_neg (z_nt h1)).trans rfl
        rw [he] at hpo
        exact hpo
      · refine z_brn (fun (h2 : (f_X2_isPersonOrNone S P x2) = true) => ?_) (fun (h2 : (f_X2_isPersonOrNone S P x2) = false) => ?_)
        · refine ⟨fun (h3 : ¬ (x1 = x2)) => ?_, fun (h3 : x1 = x2) => ?_⟩
          · refine ⟨fun (h4 : (S 4112 7) < (nI 30)) => ?_, fun (h4 : ¬ ((S 4112 7) < (nI 30))) => ?_⟩
            · refine ⟨(show vp_in (S 4112 7) 30 by first | exact z_room (by assumption) (z_J_persons hp0) (by decide) (by decide) | exact z_roomL (by assumption) (z_J_persons hp0) (by decide) (by decide)), ?_⟩
              have he : e_X6_person S P x1 x2 = 0 := (if_pos h1).trans ((if_pos h2).trans ((if_neg h3).trans ((if_pos h4).trans rfl)))
              rw [he] at hpo
              exact z_pi hpo ((if_pos h1).trans ((if_pos h2).trans ((if_neg h3).trans ((if_pos h4).trans rfl)))) ((if_pos h1).trans ((if_pos h2).trans ((if_neg h3).trans ((if_pos h4).trans rfl)))) (rfl)
            · have he : e_X6_person S P x1 x2 = 3 := (if_pos h1).trans ((if_pos h2).trans ((if_neg h3).trans ((if_neg h4).trans rfl)))
              rw [he] at hpo
              exact hpo
          · refine ⟨fun (h5 : x1 = (-1)) => ?_, fun (h5 : ¬ (x1 = (-1))) => ?_⟩
            · refine ⟨fun (h6 : (S 4112 7) < (nI 30)) => ?_, fun (h6 : ¬ ((S 4112 7) < (nI 30))) => ?_⟩
              · refine ⟨(show vp_in (S 4112 7) 30 by first | exact z_room (by assumption) (z_J_persons hp0) (by decide) (by decide) | exact z_roomL (by assumption) (z_J_persons hp0) (by decide) (by decide)), ?_⟩
                have he : e_X6_person S P x1 x2 = 0 := (if_pos h1).trans ((if_pos h2).trans ((if_pos h3).trans ((if_pos h5).trans ((if_pos h6).trans rfl))))
                rw [he] at hpo
                exact z_pi hpo ((if_pos h1).trans ((if_pos h2).trans ((if_pos h3).trans ((if_pos h5).trans ((if_pos h6).trans rfl))))) ((if_pos h1).trans ((if_pos h2).trans ((if_pos h3).trans ((if_pos h5).trans ((if_pos h6).trans rfl))))) (rfl)
              · have he : e_X6_person S P x1 x2 = 3 := (if_pos h1).trans ((if_pos h2).trans ((if_pos h3).trans ((if_pos h5).trans ((if_neg h6).trans rfl))))
                rw [he] at hpo
                exact hpo
            · have he : e_X6_person S P x1 x2 = 2 := (if_pos h1).trans ((if_pos h2).trans ((if_pos h3).trans ((if_neg h5).trans rfl)))
              rw [he] at hpo
              exact hpo
        · have he : e_X6_person S P x1 x2 = 1 := (if_pos h1).trans ((if_neg (z_nt h2)).trans rfl)
          rw [he] at hpo
          exact hpo
    · exact h.elim
def f_X6_root (S : z_MI) (P : z_ML) (x1 : Int32) (x2 : Int32) (x3 : Int32) : Int32 :=
  if (f_X2_isPeople S P x1) = true then
    if (f_X2_isPerson S P x2) = true then
      f_J6_bitCount_0f7a4 (va_up S 22577 (upd (S 22577) x1.toNatClampNeg (f_X6_with S P (S 22577 x1.toNatClampNeg) x2 x3))) P (f_X2_membersOf (va_up S 22577 (upd (S 22577) x1.toNatClampNeg (f_X6_with S P (S 22577 x1.toNatClampNeg) x2 x3))) P x1)
    else
      0
  else
    0
def u_X6_root (S : z_MI) (P : z_ML) (x1 : Int32) (x2 : Int32) (x3 : Int32) : z_MI :=
  if (f_X2_isPeople S P x1) = true then
    if (f_X2_isPerson S P x2) = true then
      va_up S 22577 (upd (S 22577) x1.toNatClampNeg (f_X6_with S P (S 22577 x1.toNatClampNeg) x2 x3))
    else
      S
  else
    S
def e_X6_root (S : z_MI) (P : z_ML) (x1 : Int32) (x2 : Int32) (x3 : Int32) : Nat :=
  if (f_X2_isPeople S P x1) = true then
    if (f_X2_isPerson S P x2) = true then
      0
    else
      1
  else
    1
def sp_X6_root : z_SX := fun as S P k kx => match as with
  | [.ref 2096, .int x1, .int x2, .int x3] => z_J S ∧ (match e_X6_root S P x1 x2 x3 with
      | 0 => k (some (.int (f_X6_root S P x1 x2 x3))) (u_X6_root S P x1 x2 x3) P
      | 1 => kx "java/lang/IndexOutOfBoundsException" S P
      | 2 => kx "java/lang/IllegalArgumentException" S P
      | _ => kx "java/lang/IllegalStateException" S P)
  | _ => False
def G_X6_root : z_G := ([(0, .aload_n 0, 1, 0), (1, .getfield 10, 4, 0), (4, .iload_n 1, 5, 0), (5, .invokevirtual 102, 8, 0), (8, .ifCond .eq 14, 11, 22), (11, .aload_n 0, 12, 0), (12, .getfield 10, 15, 0), (15, .iload_n 2, 16, 0), (16, .invokevirtual 105, 19, 0), (19, .ifCond .ne 13, 22, 32), (22, .new 86, 25, 0), (25, .dup, 26, 0), (26, .ldc 108, 28, 0), (28, .invokespecial 90, 31, 0), (31, .athrow, 32, 0), (32, .aload_n 0, 33, 0), (33, .getfield 10, 36, 0), (36, .getfield 110, 39, 0), (39, .iload_n 1, 40, 0), (40, .aload_n 0, 41, 0), (41, .getfield 10, 44, 0), (44, .getfield 110, 47, 0), (47, .iload_n 1, 48, 0), (48, .iaload, 49, 0), (49, .iload_n 2, 50, 0), (50, .iload_n 3, 51, 0), (51, .invokestatic 113, 54, 0), (54, .iastore, 55, 0), (55, .aload_n 0, 56, 0), (56, .getfield 10, 59, 0), (59, .iload_n 1, 60, 0), (60, .invokevirtual 117, 63, 0), (63, .invokestatic 120, 66, 0), (66, .ireturn, 67, 0)], [(10, 2096, 0, some 4112), (110, 4112, 1, some 22577)], [(100113, 3, sp_X6_with), (100120, 1, sp_J6_bitCount_0f7a4), (102, 2, (z_rc 4112 sp_X2_isPeople)), (105, 2, (z_rc 4112 sp_X2_isPerson)), (117, 2, (z_rc 4112 sp_X2_membersOf))], [], [], [(22, "java/lang/IndexOutOfBoundsException")], [], some .int)
def ss_X6_root : List z_ST := [(22, "java/lang/IndexOutOfBoundsException", 86, 108, 90, "no such people or person", false)]
set_option maxRecDepth 20000 in
set_option maxHeartbeats 4000000 in
theorem ct_X6_root (l : Launch) (hl9 : l.stackTraces = false) : z_CX l yX6_root cX6_root 4 (some .int) sp_X6_root 6 := by
  refine z_CX_of G_X6_root ss_X6_root hl9 (by decide) (by decide) (by decide +kernel) (z_pok_of ft_X6 ci_X6 cL_X6_L fo_X6 co_X6 lo_X6 (by decide +kernel)) rfl rfl (by decide +kernel) ?_ ?_ ?_
  · intro as S P Po Px h
    unfold sp_X6_root at h
    split at h
    · exact Nat.le_of_ble_eq_true rfl
    · exact h.elim
  · exact List.forall_mem_cons.mpr ⟨z_coS (ct_X6_with l) kb_X6_with ks_X6_113 (by decide) (by decide), List.forall_mem_cons.mpr ⟨z_coS (ct_J6_bitCount_0f7a4 l) kb_J6_bitCount_0f7a4 ks_X6_120 (by decide) (by decide), List.forall_mem_cons.mpr ⟨z_coV (ct_X2_isPeople l) kb_X2_isPeople kv_X6_102 ko_X2 (by decide) (by decide) (by decide), List.forall_mem_cons.mpr ⟨z_coV (ct_X2_isPerson l) kb_X2_isPerson kv_X6_105 ko_X2 (by decide) (by decide) (by decide), List.forall_mem_cons.mpr ⟨z_coV (ct_X2_membersOf l) kb_X2_membersOf kv_X6_117 ko_X2 (by decide) (by decide) (by decide), fun _ h => absurd h List.not_mem_nil⟩⟩⟩⟩⟩
  · intro as S P Po Px h V hV hW
    unfold sp_X6_root at h
    split at h
    · rename_i x1 x2 x3
      obtain ⟨hp0, hpo⟩ := h
      refine hV [] 39 0 _ _ _ _ ?_
      refine z_br (fun (h1 : (f_X2_isPeople S P x1) = false) => ?_) (fun (h1 : (f_X2_isPeople S P x1) = true) => ?_)
      · have he : e_X6_root S P x1 x2 x3 = 1 := (if_neg (z_nt h1)).trans rfl
        rw [he] at hpo
        exact hpo
      · refine z_brn (fun (h2 : (f_X2_isPerson S P x2) = true) => ?_) (fun (h2 : (f_X2_isPerson S P x2) = false) => ?_)
        · refine ⟨(show vp_in x1 6 by first | exact t_isPeople hp0 (by assumption)), ?_⟩
          refine ⟨(show vp_in x1 6 by first | exact t_isPeople hp0 (by assumption)), ?_⟩
          refine ⟨(show vp_in x1 6 by first | exact t_isPeople hp0 (by assumption)), (show z_le ((va_up S 22577 (upd (S 22577) x1.toNatClampNeg (f_X6_with S P (S 22577 x1.toNatClampNeg) x2 x3))) 4112 7) 30 by exact z_J_persons hp0), ?_⟩
          have he : e_X6_root S P x1 x2 x3 = 0 := (if_pos h1).trans ((if_pos h2).trans rfl)
          rw [he] at hpo
          exact z_pi hpo ((if_pos h1).trans ((if_pos h2).trans rfl)) ((if_pos h1).trans ((if_pos h2).trans rfl)) (rfl)
        · have he : e_X6_root S P x1 x2 x3 = 1 := (if_pos h1).trans ((if_neg (z_nt h2)).trans rfl)
          rw [he] at hpo
          exact hpo
    · exact h.elim
def f_X6_adopt (S : z_MI) (P : z_ML) (x1 : Int32) (x2 : Int32) : Int32 :=
  if (f_X2_isPerson S P x1) = true then
    if (f_X2_isPersonOrNone S P x2) = true then
      if x1 = x2 then
        0
      else
        S 28913 x1.toNatClampNeg
    else
      0
  else
    0
def u_X6_adopt (S : z_MI) (P : z_ML) (x1 : Int32) (x2 : Int32) : z_MI :=
  if (f_X2_isPerson S P x1) = true then
    if (f_X2_isPersonOrNone S P x2) = true then
      if x1 = x2 then
        S
      else
        va_up S 28913 (upd (S 28913) x1.toNatClampNeg x2)
    else
      S
  else
    S
def e_X6_adopt (S : z_MI) (P : z_ML) (x1 : Int32) (x2 : Int32) : Nat :=
  if (f_X2_isPerson S P x1) = true then
    if (f_X2_isPersonOrNone S P x2) = true then
      if x1 = x2 then
        2
      else
        0
    else
      1
  else
    1
def sp_X6_adopt : z_SX := fun as S P k kx => match as with
  | [.ref 2096, .int x1, .int x2] => z_J S ∧ (match e_X6_adopt S P x1 x2 with
      | 0 => k (some (.int (f_X6_adopt S P x1 x2))) (u_X6_adopt S P x1 x2) P
      | 1 => kx "java/lang/IndexOutOfBoundsException" S P
      | 2 => kx "java/lang/IllegalArgumentException" S P
      | _ => kx "java/lang/IllegalStateException" S P)
  | _ => False
def G_X6_adopt : z_G := ([(0, .aload_n 0, 1, 0), (1, .getfield 10, 4, 0), (4, .iload_n 1, 5, 0), (5, .invokevirtual 105, 8, 0), (8, .ifCond .eq 14, 11, 22), (11, .aload_n 0, 12, 0), (12, .getfield 10, 15, 0), (15, .iload_n 2, 16, 0), (16, .invokevirtual 82, 19, 0), (19, .ifCond .ne 13, 22, 32), (22, .new 86, 25, 0), (25, .dup, 26, 0), (26, .ldc 125, 28, 0), (28, .invokespecial 90, 31, 0), (31, .athrow, 32, 0), (32, .iload_n 1, 33, 0), (33, .iload_n 2, 34, 0), (34, .if_icmp .ne 13, 37, 47), (37, .new 63, 40, 0), (40, .dup, 41, 0), (41, .ldc 127, 43, 0), (43, .invokespecial 67, 46, 0), (46, .athrow, 47, 0), (47, .aload_n 0, 48, 0), (48, .getfield 10, 51, 0), (51, .getfield 129, 54, 0), (54, .iload_n 1, 55, 0), (55, .iaload, 56, 0), (56, .istore_n 3, 57, 0), (57, .aload_n 0, 58, 0), (58, .getfield 10, 61, 0), (61, .getfield 129, 64, 0), (64, .iload_n 1, 65, 0), (65, .iload_n 2, 66, 0), (66, .iastore, 67, 0), (67, .iload_n 3, 68, 0), (68, .ireturn, 69, 0)], [(10, 2096, 0, some 4112), (129, 4112, 4, some 28913)], [(82, 2, (z_rc 4112 sp_X2_isPersonOrNone)), (105, 2, (z_rc 4112 sp_X2_isPerson))], [], [], [(22, "java/lang/IndexOutOfBoundsException"), (37, "java/lang/IllegalArgumentException")], [], some .int)
def ss_X6_adopt : List z_ST := [(22, "java/lang/IndexOutOfBoundsException", 86, 125, 90, "no such person", false), (37, "java/lang/IllegalArgumentException", 63, 127, 67, "nobody adopts oneself", false)]
set_option maxRecDepth 20000 in
set_option maxHeartbeats 4000000 in
theorem ct_X6_adopt (l : Launch) (hl9 : l.stackTraces = false) : z_CX l yX6_adopt cX6_adopt 4 (some .int) sp_X6_adopt 6 := by
  refine z_CX_of G_X6_adopt ss_X6_adopt hl9 (by decide) (by decide) (by decide +kernel) (z_pok_of ft_X6 ci_X6 cL_X6_L fo_X6 co_X6 lo_X6 (by decide +kernel)) rfl rfl (by decide +kernel) ?_ ?_ ?_
  · intro as S P Po Px h
    unfold sp_X6_adopt at h
    split at h
    · exact Nat.le_of_ble_eq_true rfl
    · exact h.elim
  · exact List.forall_mem_cons.mpr ⟨z_coV (ct_X2_isPersonOrNone l) kb_X2_isPersonOrNone kv_X6_82 ko_X2 (by decide) (by decide) (by decide), List.forall_mem_cons.mpr ⟨z_coV (ct_X2_isPerson l) kb_X2_isPerson kv_X6_105 ko_X2 (by decide) (by decide) (by decide), fun _ h => absurd h List.not_mem_nil⟩⟩
  · intro as S P Po Px h V hV hW
    unfold sp_X6_adopt at h
    split at h
    · rename_i x1 x2
      obtain ⟨hp0, hpo⟩ := h
      refine hV [] 42 0 _ _ _ _ ?_
      refine z_br (fun (h1 : (f_X2_isPerson S P x1) = false) => ?_) (fun (h1 : (f_X2_isPerson S P x1) = true) => ?_)
      · have he : e_X6_adopt S P x1 x2 = 1 := (if_neg (z_nt h1)).trans rfl
        rw [he] at hpo
        exact hpo
      · refine z_brn (fun (h2 : (f_X2_isPersonOrNone S P x2) = true) => ?_) (fun (h2 : (f_X2_isPersonOrNone S P x2) = false) => ?_)
        · refine ⟨fun (h3 : ¬ (x1 = x2)) => ?_, fun (h3 : x1 = x2) => ?_⟩
          · refine ⟨(show vp_in x1 30 by first | exact t_isPerson hp0 (by assumption)), ?_⟩
            refine ⟨(show vp_in x1 30 by first | exact t_isPerson hp0 (by assumption)), ?_⟩
            have he : e_X6_adopt S P x1 x2 = 0 := (if_pos h1).trans ((if_pos h2).trans ((if_neg h3).trans rfl))
            rw [he] at hpo
            exact z_pi hpo ((if_pos h1).trans ((if_pos h2).trans ((if_neg h3).trans rfl))) ((if_pos h1).trans ((if_pos h2).trans ((if_neg h3).trans rfl))) (rfl)
          · have he : e_X6_adopt S P x1 x2 = 2 := (if_pos h1).trans ((if_pos h2).trans ((if_pos h3).trans rfl))
            rw [he] at hpo
            exact hpo
        · have he : e_X6_adopt S P x1 x2 = 1 := (if_pos h1).trans ((if_neg (z_nt h2)).trans rfl)
          rw [he] at hpo
          exact hpo
    · exact h.elim
def f_X6_raise (S : z_MI) (P : z_ML) (x1 : Int32) : Int32 :=
  if (f_X2_isPerson S P x1) = true then
    if (S 30961 x1.toNatClampNeg) < (nI 3) then
      (upd (S 30961) x1.toNatClampNeg ((S 30961 x1.toNatClampNeg) + (nI 1))) x1.toNatClampNeg
    else
      0
  else
    0
def u_X6_raise (S : z_MI) (P : z_ML) (x1 : Int32) : z_MI :=
  if (f_X2_isPerson S P x1) = true then
    if (S 30961 x1.toNatClampNeg) < (nI 3) then
      va_up S 30961 (upd (S 30961) x1.toNatClampNeg ((S 30961 x1.toNatClampNeg) + (nI 1)))
    else
      S
  else
    S
def e_X6_raise (S : z_MI) (P : z_ML) (x1 : Int32) : Nat :=
  if (f_X2_isPerson S P x1) = true then
    if (S 30961 x1.toNatClampNeg) < (nI 3) then
      0
    else
      3
  else
    1
def sp_X6_raise : z_SX := fun as S P k kx => match as with
  | [.ref 2096, .int x1] => z_J S ∧ (match e_X6_raise S P x1 with
      | 0 => k (some (.int (f_X6_raise S P x1))) (u_X6_raise S P x1) P
      | 1 => kx "java/lang/IndexOutOfBoundsException" S P
      | 2 => kx "java/lang/IllegalArgumentException" S P
      | _ => kx "java/lang/IllegalStateException" S P)
  | _ => False
def G_X6_raise : z_G := ([(0, .aload_n 0, 1, 0), (1, .getfield 10, 4, 0), (4, .iload_n 1, 5, 0), (5, .invokevirtual 105, 8, 0), (8, .ifCond .ne 13, 11, 21), (11, .new 86, 14, 0), (14, .dup, 15, 0), (15, .ldc 125, 17, 0), (17, .invokespecial 90, 20, 0), (20, .athrow, 21, 0), (21, .aload_n 0, 22, 0), (22, .getfield 10, 25, 0), (25, .getfield 132, 28, 0), (28, .iload_n 1, 29, 0), (29, .iaload, 30, 0), (30, .iconst 3, 31, 0), (31, .if_icmp .lt 13, 34, 44), (34, .new 73, 37, 0), (37, .dup, 38, 0), (38, .ldc 135, 40, 0), (40, .invokespecial 77, 43, 0), (43, .athrow, 44, 0), (44, .aload_n 0, 45, 0), (45, .getfield 10, 48, 0), (48, .getfield 132, 51, 0), (51, .iload_n 1, 52, 0), (52, .dup2, 53, 0), (53, .iaload, 54, 0), (54, .iconst 1, 55, 0), (55, .iadd, 56, 0), (56, .iastore, 57, 0), (57, .aload_n 0, 58, 0), (58, .getfield 10, 61, 0), (61, .getfield 132, 64, 0), (64, .iload_n 1, 65, 0), (65, .iaload, 66, 0), (66, .ireturn, 67, 0)], [(10, 2096, 0, some 4112), (132, 4112, 5, some 30961)], [(105, 2, (z_rc 4112 sp_X2_isPerson))], [], [], [(11, "java/lang/IndexOutOfBoundsException"), (34, "java/lang/IllegalStateException")], [], some .int)
def ss_X6_raise : List z_ST := [(11, "java/lang/IndexOutOfBoundsException", 86, 125, 90, "no such person", false), (34, "java/lang/IllegalStateException", 73, 135, 77, "the rank is 3", false)]
set_option maxRecDepth 20000 in
set_option maxHeartbeats 4000000 in
theorem ct_X6_raise (l : Launch) (hl9 : l.stackTraces = false) : z_CX l yX6_raise cX6_raise 2 (some .int) sp_X6_raise 6 := by
  refine z_CX_of G_X6_raise ss_X6_raise hl9 (by decide) (by decide) (by decide +kernel) (z_pok_of ft_X6 ci_X6 cL_X6_L fo_X6 co_X6 lo_X6 (by decide +kernel)) rfl rfl (by decide +kernel) ?_ ?_ ?_
  · intro as S P Po Px h
    unfold sp_X6_raise at h
    split at h
    · exact Nat.le_of_ble_eq_true rfl
    · exact h.elim
  · exact List.forall_mem_cons.mpr ⟨z_coV (ct_X2_isPerson l) kb_X2_isPerson kv_X6_105 ko_X2 (by decide) (by decide) (by decide), fun _ h => absurd h List.not_mem_nil⟩
  · intro as S P Po Px h V hV hW
    unfold sp_X6_raise at h
    split at h
    · rename_i x1
      obtain ⟨hp0, hpo⟩ := h
      refine hV [] 42 0 _ _ _ _ ?_
      refine z_brn (fun (h1 : (f_X2_isPerson S P x1) = true) => ?_) (fun (h1 : (f_X2_isPerson S P x1) = false) => ?_)
      · refine ⟨(show vp_in x1 30 by first | exact t_isPerson hp0 (by assumption)), ?_⟩
        refine ⟨fun (h2 : (S 30961 x1.toNatClampNeg) < (nI 3)) => ?_, fun (h2 : ¬ ((S 30961 x1.toNatClampNeg) < (nI 3))) => ?_⟩
        · refine ⟨(show vp_in x1 30 by first | exact t_isPerson hp0 (by assumption)), ?_⟩
          refine ⟨(show vp_in x1 30 by first | exact t_isPerson hp0 (by assumption)), ?_⟩
          refine ⟨(show vp_in x1 30 by first | exact t_isPerson hp0 (by assumption)), ?_⟩
          have he : e_X6_raise S P x1 = 0 := (if_pos h1).trans ((if_pos h2).trans rfl)
          rw [he] at hpo
          exact z_pi hpo ((if_pos h1).trans ((if_pos h2).trans rfl)) ((if_pos h1).trans ((if_pos h2).trans rfl)) (rfl)
        · have he : e_X6_raise S P x1 = 3 := (if_pos h1).trans ((if_neg h2).trans rfl)
          rw [he] at hpo
          exact hpo
      · have he : e_X6_raise S P x1 = 1 := (if_neg (z_nt h1)).trans rfl
        rw [he] at hpo
        exact hpo
    · exact h.elim
def f_X6_members (S : z_MI) (P : z_ML) (x1 : Int32) : Int32 :=
  if (f_X2_isPeople S P x1) = true then
    f_X2_membersOf S P x1
  else
    0
def e_X6_members (S : z_MI) (P : z_ML) (x1 : Int32) : Nat :=
  if (f_X2_isPeople S P x1) = true then
    0
  else
    1
def sp_X6_members : z_SX := fun as S P k kx => match as with
  | [.ref 2096, .int x1] => z_J S ∧ (match e_X6_members S P x1 with
      | 0 => k (some (.int (f_X6_members S P x1))) S P
      | 1 => kx "java/lang/IndexOutOfBoundsException" S P
      | 2 => kx "java/lang/IllegalArgumentException" S P
      | _ => kx "java/lang/IllegalStateException" S P)
  | _ => False
def G_X6_members : z_G := ([(0, .aload_n 0, 1, 0), (1, .getfield 10, 4, 0), (4, .iload_n 1, 5, 0), (5, .invokevirtual 102, 8, 0), (8, .ifCond .ne 13, 11, 21), (11, .new 86, 14, 0), (14, .dup, 15, 0), (15, .ldc 137, 17, 0), (17, .invokespecial 90, 20, 0), (20, .athrow, 21, 0), (21, .aload_n 0, 22, 0), (22, .getfield 10, 25, 0), (25, .iload_n 1, 26, 0), (26, .invokevirtual 117, 29, 0), (29, .ireturn, 30, 0)], [(10, 2096, 0, some 4112)], [(102, 2, (z_rc 4112 sp_X2_isPeople)), (117, 2, (z_rc 4112 sp_X2_membersOf))], [], [], [(11, "java/lang/IndexOutOfBoundsException")], [], some .int)
def ss_X6_members : List z_ST := [(11, "java/lang/IndexOutOfBoundsException", 86, 137, 90, "no such people", false)]
set_option maxRecDepth 20000 in
set_option maxHeartbeats 4000000 in
theorem ct_X6_members (l : Launch) (hl9 : l.stackTraces = false) : z_CX l yX6_members cX6_members 2 (some .int) sp_X6_members 6 := by
  refine z_CX_of G_X6_members ss_X6_members hl9 (by decide) (by decide) (by decide +kernel) (z_pok_of ft_X6 ci_X6 cL_X6_L fo_X6 co_X6 lo_X6 (by decide +kernel)) rfl rfl (by decide +kernel) ?_ ?_ ?_
  · intro as S P Po Px h
    unfold sp_X6_members at h
    split at h
    · exact Nat.le_of_ble_eq_true rfl
    · exact h.elim
  · exact List.forall_mem_cons.mpr ⟨z_coV (ct_X2_isPeople l) kb_X2_isPeople kv_X6_102 ko_X2 (by decide) (by decide) (by decide), List.forall_mem_cons.mpr ⟨z_coV (ct_X2_membersOf l) kb_X2_membersOf kv_X6_117 ko_X2 (by decide) (by decide) (by decide), fun _ h => absurd h List.not_mem_nil⟩⟩
  · intro as S P Po Px h V hV hW
    unfold sp_X6_members at h
    split at h
    · rename_i x1
      obtain ⟨hp0, hpo⟩ := h
      refine hV [] 20 0 _ _ _ _ ?_
      refine z_brn (fun (h1 : (f_X2_isPeople S P x1) = true) => ?_) (fun (h1 : (f_X2_isPeople S P x1) = false) => ?_)
      · refine ⟨(show vp_in x1 6 by first | exact t_isPeople hp0 (by assumption)), (show z_le (S 4112 7) 30 by exact z_J_persons hp0), ?_⟩
        have he : e_X6_members S P x1 = 0 := (if_pos h1).trans rfl
        rw [he] at hpo
        exact z_pi hpo ((if_pos h1).trans rfl) (rfl) (rfl)
      · have he : e_X6_members S P x1 = 1 := (if_neg (z_nt h1)).trans rfl
        rw [he] at hpo
        exact hpo
    · exact h.elim
def f_X6_story (S : z_MI) (P : z_ML) (x1 : Int32) : Int32 :=
  if (f_X2_isPeople S P x1) = true then
    if (S 6184 4) < (nI 10) then
      f_X5_add S P x1
    else
      0
  else
    0
def u_X6_story (S : z_MI) (P : z_ML) (x1 : Int32) : z_MI :=
  if (f_X2_isPeople S P x1) = true then
    if (S 6184 4) < (nI 10) then
      u_X5_add S P x1
    else
      S
  else
    S
def e_X6_story (S : z_MI) (P : z_ML) (x1 : Int32) : Nat :=
  if (f_X2_isPeople S P x1) = true then
    if (S 6184 4) < (nI 10) then
      0
    else
      3
  else
    1
def sp_X6_story : z_SX := fun as S P k kx => match as with
  | [.ref 2096, .int x1] => z_J S ∧ (match e_X6_story S P x1 with
      | 0 => k (some (.int (f_X6_story S P x1))) (u_X6_story S P x1) P
      | 1 => kx "java/lang/IndexOutOfBoundsException" S P
      | 2 => kx "java/lang/IllegalArgumentException" S P
      | _ => kx "java/lang/IllegalStateException" S P)
  | _ => False
def G_X6_story : z_G := ([(0, .aload_n 0, 1, 0), (1, .getfield 10, 4, 0), (4, .iload_n 1, 5, 0), (5, .invokevirtual 102, 8, 0), (8, .ifCond .ne 13, 11, 21), (11, .new 86, 14, 0), (14, .dup, 15, 0), (15, .ldc 137, 17, 0), (17, .invokespecial 90, 20, 0), (20, .athrow, 21, 0), (21, .aload_n 0, 22, 0), (22, .getfield 19, 25, 0), (25, .getfield 139, 28, 0), (28, .bipush 10, 30, 0), (30, .if_icmp .lt 13, 33, 43), (33, .new 73, 36, 0), (36, .dup, 37, 0), (37, .ldc 142, 39, 0), (39, .invokespecial 77, 42, 0), (42, .athrow, 43, 0), (43, .aload_n 0, 44, 0), (44, .getfield 19, 47, 0), (47, .iload_n 1, 48, 0), (48, .invokevirtual 144, 51, 0), (51, .ireturn, 52, 0)], [(10, 2096, 0, some 4112), (19, 2096, 1, some 6184), (139, 6184, 4, none)], [(102, 2, (z_rc 4112 sp_X2_isPeople)), (144, 2, (z_rc 6184 sp_X5_add))], [], [], [(11, "java/lang/IndexOutOfBoundsException"), (33, "java/lang/IllegalStateException")], [], some .int)
def ss_X6_story : List z_ST := [(11, "java/lang/IndexOutOfBoundsException", 86, 137, 90, "no such people", false), (33, "java/lang/IllegalStateException", 73, 142, 77, "there are 10 stories", false)]
set_option maxRecDepth 20000 in
set_option maxHeartbeats 4000000 in
theorem ct_X6_story (l : Launch) (hl9 : l.stackTraces = false) : z_CX l yX6_story cX6_story 2 (some .int) sp_X6_story 6 := by
  refine z_CX_of G_X6_story ss_X6_story hl9 (by decide) (by decide) (by decide +kernel) (z_pok_of ft_X6 ci_X6 cL_X6_L fo_X6 co_X6 lo_X6 (by decide +kernel)) rfl rfl (by decide +kernel) ?_ ?_ ?_
  · intro as S P Po Px h
    unfold sp_X6_story at h
    split at h
    · exact Nat.le_of_ble_eq_true rfl
    · exact h.elim
  · exact List.forall_mem_cons.mpr ⟨z_coV (ct_X2_isPeople l) kb_X2_isPeople kv_X6_102 ko_X2 (by decide) (by decide) (by decide), List.forall_mem_cons.mpr ⟨z_coV (ct_X5_add l) kb_X5_add kv_X6_144 ko_X5 (by decide) (by decide) (by decide), fun _ h => absurd h List.not_mem_nil⟩⟩
  · intro as S P Po Px h V hV hW
    unfold sp_X6_story at h
    split at h
    · rename_i x1
      obtain ⟨hp0, hpo⟩ := h
      refine hV [] 30 0 _ _ _ _ ?_
      refine z_brn (fun (h1 : (f_X2_isPeople S P x1) = true) => ?_) (fun (h1 : (f_X2_isPeople S P x1) = false) => ?_)
      · refine ⟨fun (h2 : (S 6184 4) < (nI 10)) => ?_, fun (h2 : ¬ ((S 6184 4) < (nI 10))) => ?_⟩
        · refine ⟨(show vp_in (S 6184 4) 10 by first | exact z_room (by assumption) (z_J_stories hp0) (by decide) (by decide) | exact z_roomL (by assumption) (z_J_stories hp0) (by decide) (by decide)), ?_⟩
          have he : e_X6_story S P x1 = 0 := (if_pos h1).trans ((if_pos h2).trans rfl)
          rw [he] at hpo
          exact z_pi hpo ((if_pos h1).trans ((if_pos h2).trans rfl)) ((if_pos h1).trans ((if_pos h2).trans rfl)) (rfl)
        · have he : e_X6_story S P x1 = 3 := (if_pos h1).trans ((if_neg h2).trans rfl)
          rw [he] at hpo
          exact hpo
      · have he : e_X6_story S P x1 = 1 := (if_neg (z_nt h1)).trans rfl
        rw [he] at hpo
        exact hpo
    · exact h.elim
def f_X6_part (S : z_MI) (P : z_ML) (x1 : Int32) (x2 : Int32) (x3 : Int32) : Int32 :=
  if (f_X5_isStory S P x1) = true then
    if (f_X6_isPlace S P x2) = true then
      if x3 < 0 then
        0
      else
        if x3 ≤ (nI 3) then
          if (S 34897 x1.toNatClampNeg) < (nI 12) then
            f_X5_addPart S P x1 x2 x3
          else
            0
        else
          0
    else
      0
  else
    0
def u_X6_part (S : z_MI) (P : z_ML) (x1 : Int32) (x2 : Int32) (x3 : Int32) : z_MI :=
  if (f_X5_isStory S P x1) = true then
    if (f_X6_isPlace S P x2) = true then
      if x3 < 0 then
        S
      else
        if x3 ≤ (nI 3) then
          if (S 34897 x1.toNatClampNeg) < (nI 12) then
            u_X5_addPart S P x1 x2 x3
          else
            S
        else
          S
    else
      S
  else
    S
def e_X6_part (S : z_MI) (P : z_ML) (x1 : Int32) (x2 : Int32) (x3 : Int32) : Nat :=
  if (f_X5_isStory S P x1) = true then
    if (f_X6_isPlace S P x2) = true then
      if x3 < 0 then
        2
      else
        if x3 ≤ (nI 3) then
          if (S 34897 x1.toNatClampNeg) < (nI 12) then
            0
          else
            3
        else
          2
    else
      1
  else
    1
def sp_X6_part : z_SX := fun as S P k kx => match as with
  | [.ref 2096, .int x1, .int x2, .int x3] => z_J S ∧ (match e_X6_part S P x1 x2 x3 with
      | 0 => k (some (.int (f_X6_part S P x1 x2 x3))) (u_X6_part S P x1 x2 x3) P
      | 1 => kx "java/lang/IndexOutOfBoundsException" S P
      | 2 => kx "java/lang/IllegalArgumentException" S P
      | _ => kx "java/lang/IllegalStateException" S P)
  | _ => False
def G_X6_part : z_G := ([(0, .aload_n 0, 1, 0), (1, .getfield 19, 4, 0), (4, .iload_n 1, 5, 0), (5, .invokevirtual 147, 8, 0), (8, .ifCond .eq 10, 11, 18), (11, .iload_n 2, 12, 0), (12, .invokestatic 150, 15, 0), (15, .ifCond .ne 13, 18, 28), (18, .new 86, 21, 0), (21, .dup, 22, 0), (22, .ldc 153, 24, 0), (24, .invokespecial 90, 27, 0), (27, .athrow, 28, 0), (28, .iload_n 3, 29, 0), (29, .ifCond .lt 8, 32, 37), (32, .iload_n 3, 33, 0), (33, .iconst 3, 34, 0), (34, .if_icmp .le 13, 37, 47), (37, .new 63, 40, 0), (40, .dup, 41, 0), (41, .ldc 155, 43, 0), (43, .invokespecial 67, 46, 0), (46, .athrow, 47, 0), (47, .aload_n 0, 48, 0), (48, .getfield 19, 51, 0), (51, .getfield 157, 54, 0), (54, .iload_n 1, 55, 0), (55, .iaload, 56, 0), (56, .bipush 12, 58, 0), (58, .if_icmp .lt 13, 61, 71), (61, .new 73, 64, 0), (64, .dup, 65, 0), (65, .ldc 160, 67, 0), (67, .invokespecial 77, 70, 0), (70, .athrow, 71, 0), (71, .aload_n 0, 72, 0), (72, .getfield 19, 75, 0), (75, .iload_n 1, 76, 0), (76, .iload_n 2, 77, 0), (77, .iload_n 3, 78, 0), (78, .invokevirtual 162, 81, 0), (81, .ireturn, 82, 0)], [(19, 2096, 1, some 6184), (157, 6184, 1, some 34897)], [(100150, 1, sp_X6_isPlace), (147, 2, (z_rc 6184 sp_X5_isStory)), (162, 4, (z_rc 6184 sp_X5_addPart))], [], [], [(18, "java/lang/IndexOutOfBoundsException"), (37, "java/lang/IllegalArgumentException"), (61, "java/lang/IllegalStateException")], [], some .int)
def ss_X6_part : List z_ST := [(18, "java/lang/IndexOutOfBoundsException", 86, 153, 90, "no such story or place", false), (37, "java/lang/IllegalArgumentException", 63, 155, 67, "level is out of range", false), (61, "java/lang/IllegalStateException", 73, 160, 77, "the story has 12 parts", false)]
set_option maxRecDepth 20000 in
set_option maxHeartbeats 4000000 in
theorem ct_X6_part (l : Launch) (hl9 : l.stackTraces = false) : z_CX l yX6_part cX6_part 4 (some .int) sp_X6_part 6 := by
  refine z_CX_of G_X6_part ss_X6_part hl9 (by decide) (by decide) (by decide +kernel) (z_pok_of ft_X6 ci_X6 cL_X6_L fo_X6 co_X6 lo_X6 (by decide +kernel)) rfl rfl (by decide +kernel) ?_ ?_ ?_
  · intro as S P Po Px h
    unfold sp_X6_part at h
    split at h
    · exact Nat.le_of_ble_eq_true rfl
    · exact h.elim
  · exact List.forall_mem_cons.mpr ⟨z_coS (ct_X6_isPlace l) kb_X6_isPlace ks_X6_150 (by decide) (by decide), List.forall_mem_cons.mpr ⟨z_coV (ct_X5_isStory l) kb_X5_isStory kv_X6_147 ko_X5 (by decide) (by decide) (by decide), List.forall_mem_cons.mpr ⟨z_coV (ct_X5_addPart l) kb_X5_addPart kv_X6_162 ko_X5 (by decide) (by decide) (by decide), fun _ h => absurd h List.not_mem_nil⟩⟩⟩
  · intro as S P Po Px h V hV hW
    unfold sp_X6_part at h
    split at h
    · rename_i x1 x2 x3
      obtain ⟨hp0, hpo⟩ := h
      refine hV [] 47 0 _ _ _ _ ?_
      refine z_br (fun (h1 : (f_X5_isStory S P x1) = false) => ?_) (fun (h1 : (f_X5_isStory S P x1) = true) => ?_)
      · have he : e_X6_part S P x1 x2 x3 = 1 := (if_neg (z_nt h1)).trans rfl
        rw [he] at hpo
        exact hpo
      · refine z_brn (fun (h2 : (f_X6_isPlace S P x2) = true) => ?_) (fun (h2 : (f_X6_isPlace S P x2) = false) => ?_)
        · refine ⟨fun (h3 : x3 < 0) => ?_, fun (h3 : ¬ (x3 < 0)) => ?_⟩
          · have he : e_X6_part S P x1 x2 x3 = 2 := (if_pos h1).trans ((if_pos h2).trans ((if_pos h3).trans rfl))
            rw [he] at hpo
            exact hpo
          · refine ⟨fun (h4 : x3 ≤ (nI 3)) => ?_, fun (h4 : ¬ (x3 ≤ (nI 3))) => ?_⟩
            · refine ⟨(show vp_in x1 10 by first | exact t_isStory hp0 (by assumption) | exact t_isPartS hp0 (by assumption)), ?_⟩
              refine ⟨fun (h5 : (S 34897 x1.toNatClampNeg) < (nI 12)) => ?_, fun (h5 : ¬ ((S 34897 x1.toNatClampNeg) < (nI 12))) => ?_⟩
              · refine ⟨(show vp_in x1 10 by first | exact t_isStory hp0 (by assumption) | exact t_isPartS hp0 (by assumption)), (show vp_in ((x1 * (nI 12)) + (S 34897 x1.toNatClampNeg)) 120 by first | exact z_room1 (by assumption) (z_J_parts hp0 _) (t_isStory hp0 (by assumption)) | exact z_room1L (by assumption) (z_J_parts hp0 _) (t_isStory hp0 (by assumption))), ?_⟩
                have he : e_X6_part S P x1 x2 x3 = 0 := (if_pos h1).trans ((if_pos h2).trans ((if_neg h3).trans ((if_pos h4).trans ((if_pos h5).trans rfl))))
                rw [he] at hpo
                exact z_pi hpo ((if_pos h1).trans ((if_pos h2).trans ((if_neg h3).trans ((if_pos h4).trans ((if_pos h5).trans rfl))))) ((if_pos h1).trans ((if_pos h2).trans ((if_neg h3).trans ((if_pos h4).trans ((if_pos h5).trans rfl))))) (rfl)
              · have he : e_X6_part S P x1 x2 x3 = 3 := (if_pos h1).trans ((if_pos h2).trans ((if_neg h3).trans ((if_pos h4).trans ((if_neg h5).trans rfl))))
                rw [he] at hpo
                exact hpo
            · have he : e_X6_part S P x1 x2 x3 = 2 := (if_pos h1).trans ((if_pos h2).trans ((if_neg h3).trans ((if_neg h4).trans rfl)))
              rw [he] at hpo
              exact hpo
        · have he : e_X6_part S P x1 x2 x3 = 1 := (if_pos h1).trans ((if_neg (z_nt h2)).trans rfl)
          rw [he] at hpo
          exact hpo
    · exact h.elim
def f_X6_hears (S : z_MI) (P : z_ML) (x1 : Int32) (x2 : Int32) (x3 : Int32) : Int32 :=
  if (f_X2_isPerson S P x1) = true then
    if (f_X5_isPart S P x2 x3) = true then
      f_X5_placeUpTo S P x2 x3 (f_X6_levelHeard S P x1 x2)
    else
      0
  else
    0
def e_X6_hears (S : z_MI) (P : z_ML) (x1 : Int32) (x2 : Int32) (x3 : Int32) : Nat :=
  if (f_X2_isPerson S P x1) = true then
    if (f_X5_isPart S P x2 x3) = true then
      0
    else
      1
  else
    1
def sp_X6_hears : z_SX := fun as S P k kx => match as with
  | [.ref 2096, .int x1, .int x2, .int x3] => z_J S ∧ (match e_X6_hears S P x1 x2 x3 with
      | 0 => k (some (.int (f_X6_hears S P x1 x2 x3))) S P
      | 1 => kx "java/lang/IndexOutOfBoundsException" S P
      | 2 => kx "java/lang/IllegalArgumentException" S P
      | _ => kx "java/lang/IllegalStateException" S P)
  | _ => False
def G_X6_hears : z_G := ([(0, .aload_n 0, 1, 0), (1, .getfield 10, 4, 0), (4, .iload_n 1, 5, 0), (5, .invokevirtual 105, 8, 0), (8, .ifCond .eq 15, 11, 23), (11, .aload_n 0, 12, 0), (12, .getfield 19, 15, 0), (15, .iload_n 2, 16, 0), (16, .iload_n 3, 17, 0), (17, .invokevirtual 166, 20, 0), (20, .ifCond .ne 13, 23, 33), (23, .new 86, 26, 0), (26, .dup, 27, 0), (27, .ldc 170, 29, 0), (29, .invokespecial 90, 32, 0), (32, .athrow, 33, 0), (33, .aload_n 0, 34, 0), (34, .getfield 19, 37, 0), (37, .iload_n 2, 38, 0), (38, .iload_n 3, 39, 0), (39, .aload_n 0, 40, 0), (40, .iload_n 1, 41, 0), (41, .iload_n 2, 42, 0), (42, .invokevirtual 172, 45, 0), (45, .invokevirtual 175, 48, 0), (48, .ireturn, 49, 0)], [(10, 2096, 0, some 4112), (19, 2096, 1, some 6184)], [(105, 2, (z_rc 4112 sp_X2_isPerson)), (166, 3, (z_rc 6184 sp_X5_isPart)), (172, 3, (z_rc 2096 sp_X6_levelHeard)), (175, 4, (z_rc 6184 sp_X5_placeUpTo))], [], [], [(23, "java/lang/IndexOutOfBoundsException")], [], some .int)
def ss_X6_hears : List z_ST := [(23, "java/lang/IndexOutOfBoundsException", 86, 170, 90, "no such person, story or part", false)]
set_option maxRecDepth 20000 in
set_option maxHeartbeats 4000000 in
theorem ct_X6_hears (l : Launch) (hl9 : l.stackTraces = false) : z_CX l yX6_hears cX6_hears 4 (some .int) sp_X6_hears 6 := by
  refine z_CX_of G_X6_hears ss_X6_hears hl9 (by decide) (by decide) (by decide +kernel) (z_pok_of ft_X6 ci_X6 cL_X6_L fo_X6 co_X6 lo_X6 (by decide +kernel)) rfl rfl (by decide +kernel) ?_ ?_ ?_
  · intro as S P Po Px h
    unfold sp_X6_hears at h
    split at h
    · exact Nat.le_of_ble_eq_true rfl
    · exact h.elim
  · exact List.forall_mem_cons.mpr ⟨z_coV (ct_X2_isPerson l) kb_X2_isPerson kv_X6_105 ko_X2 (by decide) (by decide) (by decide), List.forall_mem_cons.mpr ⟨z_coV (ct_X5_isPart l) kb_X5_isPart kv_X6_166 ko_X5 (by decide) (by decide) (by decide), List.forall_mem_cons.mpr ⟨z_coV (ct_X6_levelHeard l) kb_X6_levelHeard kv_X6_172 ko_X6 (by decide) (by decide) (by decide), List.forall_mem_cons.mpr ⟨z_coV (ct_X5_placeUpTo l) kb_X5_placeUpTo kv_X6_175 ko_X5 (by decide) (by decide) (by decide), fun _ h => absurd h List.not_mem_nil⟩⟩⟩⟩
  · intro as S P Po Px h V hV hW
    unfold sp_X6_hears at h
    split at h
    · rename_i x1 x2 x3
      obtain ⟨hp0, hpo⟩ := h
      refine hV [] 31 0 _ _ _ _ ?_
      refine z_br (fun (h1 : (f_X2_isPerson S P x1) = false) => ?_) (fun (h1 : (f_X2_isPerson S P x1) = true) => ?_)
      · have he : e_X6_hears S P x1 x2 x3 = 1 := (if_neg (z_nt h1)).trans rfl
        rw [he] at hpo
        exact hpo
      · refine ⟨(show z_le (S 6184 4) 10 by exact z_J_stories hp0), ?_⟩
        refine z_brn (fun (h2 : (f_X5_isPart S P x2 x3) = true) => ?_) (fun (h2 : (f_X5_isPart S P x2 x3) = false) => ?_)
        · refine ⟨(show vp_in x2 10 by first | exact t_isStory hp0 (by assumption) | exact t_isPartS hp0 (by assumption)), (show vp_in (S 32849 x2.toNatClampNeg) 6 by exact z_J_stp hp0 _), (show z_le (S 4112 7) 30 by exact z_J_persons hp0), (show vp_in x1 30 by first | exact t_isPerson hp0 (by assumption)), ?_⟩
          refine ⟨(show vp_in ((x2 * (nI 12)) + x3) 120 by exact t_isPart hp0 (by assumption)), ?_⟩
          have he : e_X6_hears S P x1 x2 x3 = 0 := (if_pos h1).trans ((if_pos h2).trans rfl)
          rw [he] at hpo
          exact z_pi hpo ((if_pos h1).trans ((if_pos h2).trans rfl)) (rfl) (rfl)
        · have he : e_X6_hears S P x1 x2 x3 = 1 := (if_pos h1).trans ((if_neg (z_nt h2)).trans rfl)
          rw [he] at hpo
          exact hpo
    · exact h.elim
def l_X6_told_25 (S : z_MI) (P : z_ML) (x1 : Int32) (k25 : Nat) (a25 : Int32) : Int32 :=
  a25 ||| (f_X5_placesUpTo S P (nI k25) (f_X6_levelHeard S P x1 (nI k25)))
def f_X6_told (S : z_MI) (P : z_ML) (x1 : Int32) : Int32 :=
  if (f_X2_isPerson S P x1) = true then
    (z_fo (fun k25 a25 => l_X6_told_25 S P x1 k25 a25) (nI 0) (S 6184 4).toNatClampNeg)
  else
    0
def e_X6_told (S : z_MI) (P : z_ML) (x1 : Int32) : Nat :=
  if (f_X2_isPerson S P x1) = true then
    0
  else
    1
def sp_X6_told : z_SX := fun as S P k kx => match as with
  | [.ref 2096, .int x1] => z_J S ∧ (match e_X6_told S P x1 with
      | 0 => k (some (.int (f_X6_told S P x1))) S P
      | 1 => kx "java/lang/IndexOutOfBoundsException" S P
      | 2 => kx "java/lang/IllegalArgumentException" S P
      | _ => kx "java/lang/IllegalStateException" S P)
  | _ => False
def G_X6_told : z_G := ([(0, .aload_n 0, 1, 0), (1, .getfield 10, 4, 0), (4, .iload_n 1, 5, 0), (5, .invokevirtual 105, 8, 0), (8, .ifCond .ne 13, 11, 21), (11, .new 86, 14, 0), (14, .dup, 15, 0), (15, .ldc 125, 17, 0), (17, .invokespecial 90, 20, 0), (20, .athrow, 21, 0), (21, .iconst 0, 22, 0), (22, .istore_n 2, 23, 0), (23, .iconst 0, 24, 0), (24, .istore_n 3, 25, 0), (25, .iload_n 3, 26, 0), (26, .aload_n 0, 27, 0), (27, .getfield 19, 30, 0), (30, .getfield 139, 33, 0), (33, .if_icmp .ge 26, 36, 59), (36, .iload_n 2, 37, 0), (37, .aload_n 0, 38, 0), (38, .getfield 19, 41, 0), (41, .iload_n 3, 42, 0), (42, .aload_n 0, 43, 0), (43, .iload_n 1, 44, 0), (44, .iload_n 3, 45, 0), (45, .invokevirtual 172, 48, 0), (48, .invokevirtual 178, 51, 0), (51, .ior, 52, 0), (52, .istore_n 2, 53, 0), (53, .iinc 3 1, 56, 0), (56, .goto (-31), 59, 25), (59, .iload_n 2, 60, 0), (60, .ireturn, 61, 0)], [(10, 2096, 0, some 4112), (19, 2096, 1, some 6184), (139, 6184, 4, none)], [(105, 2, (z_rc 4112 sp_X2_isPerson)), (172, 3, (z_rc 2096 sp_X6_levelHeard)), (178, 3, (z_rc 6184 sp_X5_placesUpTo))], [], [], [(11, "java/lang/IndexOutOfBoundsException")], [], some .int)
def ss_X6_told : List z_ST := [(11, "java/lang/IndexOutOfBoundsException", 86, 125, 90, "no such person", false)]
set_option maxRecDepth 20000 in
set_option maxHeartbeats 4000000 in
theorem ct_X6_told (l : Launch) (hl9 : l.stackTraces = false) : z_CX l yX6_told cX6_told 4 (some .int) sp_X6_told 6 := by
  refine z_CX_of G_X6_told ss_X6_told hl9 (by decide) (by decide) (by decide +kernel) (z_pok_of ft_X6 ci_X6 cL_X6_L fo_X6 co_X6 lo_X6 (by decide +kernel)) rfl rfl (by decide +kernel) ?_ ?_ ?_
  · intro as S P Po Px h
    unfold sp_X6_told at h
    split at h
    · exact Nat.le_of_ble_eq_true rfl
    · exact h.elim
  · exact List.forall_mem_cons.mpr ⟨z_coV (ct_X2_isPerson l) kb_X2_isPerson kv_X6_105 ko_X2 (by decide) (by decide) (by decide), List.forall_mem_cons.mpr ⟨z_coV (ct_X6_levelHeard l) kb_X6_levelHeard kv_X6_172 ko_X6 (by decide) (by decide) (by decide), List.forall_mem_cons.mpr ⟨z_coV (ct_X5_placesUpTo l) kb_X5_placesUpTo kv_X6_178 ko_X5 (by decide) (by decide) (by decide), fun _ h => absurd h List.not_mem_nil⟩⟩⟩
  · intro as S P Po Px h V hV hW
    unfold sp_X6_told at h
    split at h
    · rename_i x1
      obtain ⟨hp0, hpo⟩ := h
      refine hV [25] 39 0 _ _ _ _ ?_
      refine z_brn (fun (h1 : (f_X2_isPerson S P x1) = true) => ?_) (fun (h1 : (f_X2_isPerson S P x1) = false) => ?_)
      · obtain ⟨hb25, hN25⟩ := z_le_cl (show z_le (S 6184 4) 10 by exact z_J_stories hp0) (by decide)
        have hL25 : ∀ (j k25 : Nat) (x900 : Int32) (a25 : Int32), k25 + j = (S 6184 4).toNatClampNeg → x900 = nI k25 → a25 = z_fo (fun k25 a25 => l_X6_told_25 S P x1 k25 a25) (nI 0) k25 → V 25 [(0, .ref 2096), (1, .int x1), (2, .int a25), (3, .int x900)] [] S P := by
          intro j
          induction j with
          | zero =>
            intro k25 x900 a25 hk25 hx25 ha25
            subst hx25
            have hk9 : k25 = (S 6184 4).toNatClampNeg := by omega
            subst hk9
            subst ha25
            refine hV [25] 39 25 _ _ _ _ ?_
            refine ⟨fun _ => ?_, fun h => absurd ((z_brge hb25 (by omega) (by omega)).mpr (Nat.le_refl _)) h⟩
            have he : e_X6_told S P x1 = 0 := (if_pos h1).trans rfl
            rw [he] at hpo
            exact z_pi hpo ((if_pos h1).trans rfl) (rfl) (rfl)
          | succ j ih =>
            intro k25 x900 a25 hk25 hx25 ha25
            subst hx25
            have hk9 : k25 < (S 6184 4).toNatClampNeg := by omega
            subst ha25
            refine hV [25] 39 25 _ _ _ _ ?_
            refine ⟨fun h => absurd ((z_brge hb25 (by omega) (by omega)).mp h) (by omega), fun _ => ?_⟩
            refine ⟨(show vp_in (nI k25) 10 by exact vp_in_nI (by omega) (by omega)), (show vp_in (S 32849 (nI k25).toNatClampNeg) 6 by exact z_J_stp hp0 _), (show z_le (S 4112 7) 30 by exact z_J_persons hp0), (show vp_in x1 30 by first | exact t_isPerson hp0 (by assumption)), ?_⟩
            refine ⟨(show z_le (S 34897 (nI k25).toNatClampNeg) 12 by exact z_J_parts hp0 _), (show vp_in (nI k25) 10 by exact vp_in_nI (by omega) (by omega)), ?_⟩
            exact hW [0, 1, 2, 3] _ _ _ _ _ (ih (k25 + 1) _ ((z_fo (fun k25 a25 => l_X6_told_25 S P x1 k25 a25) (nI 0) k25) ||| (f_X5_placesUpTo S P (nI k25) (f_X6_levelHeard S P x1 (nI k25)))) (by omega) (nI_add k25 1) ((rfl).symm))
        exact hW [0, 1, 2, 3] _ _ _ _ _ (hL25 (S 6184 4).toNatClampNeg 0 _ (nI 0) (Nat.zero_add _) rfl rfl)
      · have he : e_X6_told S P x1 = 1 := (if_neg (z_nt h1)).trans rfl
        rw [he] at hpo
        exact hpo
    · exact h.elim
def f_X6_explain (S : z_MI) (P : z_ML) (x1 : Int32) (x2 : Int32) (x3 : Int32) : Int32 :=
  if (f_X2_isPeople S P x1) = true then
    if x2 < 0 then
      0
    else
      if x3 < x2 then
        0
      else
        if x3 ≤ (nI 5000) then
          if (S 49201 x1.toNatClampNeg) < (nI 8) then
            f_X3_addExplained S P x1 x2 x3
          else
            0
        else
          0
  else
    0
def u_X6_explain (S : z_MI) (P : z_ML) (x1 : Int32) (x2 : Int32) (x3 : Int32) : z_MI :=
  if (f_X2_isPeople S P x1) = true then
    if x2 < 0 then
      S
    else
      if x3 < x2 then
        S
      else
        if x3 ≤ (nI 5000) then
          if (S 49201 x1.toNatClampNeg) < (nI 8) then
            u_X3_addExplained S P x1 x2 x3
          else
            S
        else
          S
  else
    S
def e_X6_explain (S : z_MI) (P : z_ML) (x1 : Int32) (x2 : Int32) (x3 : Int32) : Nat :=
  if (f_X2_isPeople S P x1) = true then
    if x2 < 0 then
      2
    else
      if x3 < x2 then
        2
      else
        if x3 ≤ (nI 5000) then
          if (S 49201 x1.toNatClampNeg) < (nI 8) then
            0
          else
            3
        else
          2
  else
    1
def sp_X6_explain : z_SX := fun as S P k kx => match as with
  | [.ref 2096, .int x1, .int x2, .int x3] => z_J S ∧ (match e_X6_explain S P x1 x2 x3 with
      | 0 => k (some (.int (f_X6_explain S P x1 x2 x3))) (u_X6_explain S P x1 x2 x3) P
      | 1 => kx "java/lang/IndexOutOfBoundsException" S P
      | 2 => kx "java/lang/IllegalArgumentException" S P
      | _ => kx "java/lang/IllegalStateException" S P)
  | _ => False
def G_X6_explain : z_G := ([(0, .aload_n 0, 1, 0), (1, .getfield 10, 4, 0), (4, .iload_n 1, 5, 0), (5, .invokevirtual 102, 8, 0), (8, .ifCond .ne 13, 11, 21), (11, .new 86, 14, 0), (14, .dup, 15, 0), (15, .ldc 137, 17, 0), (17, .invokespecial 90, 20, 0), (20, .athrow, 21, 0), (21, .iload_n 2, 22, 0), (22, .ifCond .lt 15, 25, 37), (25, .iload_n 3, 26, 0), (26, .iload_n 2, 27, 0), (27, .if_icmp .lt 10, 30, 37), (30, .iload_n 3, 31, 0), (31, .sipush 5000, 34, 0), (34, .if_icmp .le 13, 37, 47), (37, .new 63, 40, 0), (40, .dup, 41, 0), (41, .ldc 197, 43, 0), (43, .invokespecial 67, 46, 0), (46, .athrow, 47, 0), (47, .aload_n 0, 48, 0), (48, .getfield 26, 51, 0), (51, .getfield 199, 54, 0), (54, .iload_n 1, 55, 0), (55, .iaload, 56, 0), (56, .bipush 8, 58, 0), (58, .if_icmp .lt 13, 61, 71), (61, .new 73, 64, 0), (64, .dup, 65, 0), (65, .ldc 202, 67, 0), (67, .invokespecial 77, 70, 0), (70, .athrow, 71, 0), (71, .aload_n 0, 72, 0), (72, .getfield 26, 75, 0), (75, .iload_n 1, 76, 0), (76, .iload_n 2, 77, 0), (77, .iload_n 3, 78, 0), (78, .invokevirtual 204, 81, 0), (81, .ireturn, 82, 0)], [(10, 2096, 0, some 4112), (26, 2096, 2, some 8216), (199, 8216, 4, some 49201)], [(102, 2, (z_rc 4112 sp_X2_isPeople)), (204, 4, (z_rc 8216 sp_X3_addExplained))], [], [], [(11, "java/lang/IndexOutOfBoundsException"), (37, "java/lang/IllegalArgumentException"), (61, "java/lang/IllegalStateException")], [], some .int)
def ss_X6_explain : List z_ST := [(11, "java/lang/IndexOutOfBoundsException", 86, 137, 90, "no such people", false), (37, "java/lang/IllegalArgumentException", 63, 197, 67, "from or to is out of range", false), (61, "java/lang/IllegalStateException", 73, 202, 77, "the people has explained months 8 times", false)]
set_option maxRecDepth 20000 in
set_option maxHeartbeats 4000000 in
theorem ct_X6_explain (l : Launch) (hl9 : l.stackTraces = false) : z_CX l yX6_explain cX6_explain 4 (some .int) sp_X6_explain 6 := by
  refine z_CX_of G_X6_explain ss_X6_explain hl9 (by decide) (by decide) (by decide +kernel) (z_pok_of ft_X6 ci_X6 cL_X6_L fo_X6 co_X6 lo_X6 (by decide +kernel)) rfl rfl (by decide +kernel) ?_ ?_ ?_
  · intro as S P Po Px h
    unfold sp_X6_explain at h
    split at h
    · exact Nat.le_of_ble_eq_true rfl
    · exact h.elim
  · exact List.forall_mem_cons.mpr ⟨z_coV (ct_X2_isPeople l) kb_X2_isPeople kv_X6_102 ko_X2 (by decide) (by decide) (by decide), List.forall_mem_cons.mpr ⟨z_coV (ct_X3_addExplained l) kb_X3_addExplained kv_X6_204 ko_X3 (by decide) (by decide) (by decide), fun _ h => absurd h List.not_mem_nil⟩⟩
  · intro as S P Po Px h V hV hW
    unfold sp_X6_explain at h
    split at h
    · rename_i x1 x2 x3
      obtain ⟨hp0, hpo⟩ := h
      refine hV [] 47 0 _ _ _ _ ?_
      refine z_brn (fun (h1 : (f_X2_isPeople S P x1) = true) => ?_) (fun (h1 : (f_X2_isPeople S P x1) = false) => ?_)
      · refine ⟨fun (h2 : x2 < 0) => ?_, fun (h2 : ¬ (x2 < 0)) => ?_⟩
        · have he : e_X6_explain S P x1 x2 x3 = 2 := (if_pos h1).trans ((if_pos h2).trans rfl)
          rw [he] at hpo
          exact hpo
        · refine ⟨fun (h3 : x3 < x2) => ?_, fun (h3 : ¬ (x3 < x2)) => ?_⟩
          · have he : e_X6_explain S P x1 x2 x3 = 2 := (if_pos h1).trans ((if_neg h2).trans ((if_pos h3).trans rfl))
            rw [he] at hpo
            exact hpo
          · refine ⟨fun (h4 : x3 ≤ (nI 5000)) => ?_, fun (h4 : ¬ (x3 ≤ (nI 5000))) => ?_⟩
            · refine ⟨(show vp_in x1 6 by first | exact t_isPeople hp0 (by assumption)), ?_⟩
              refine ⟨fun (h5 : (S 49201 x1.toNatClampNeg) < (nI 8)) => ?_, fun (h5 : ¬ ((S 49201 x1.toNatClampNeg) < (nI 8))) => ?_⟩
              · refine ⟨(show vp_in x1 6 by first | exact t_isPeople hp0 (by assumption)), (show vp_in ((x1 * (nI 8)) + (S 49201 x1.toNatClampNeg)) 48 by first | exact z_room2 (by assumption) (z_J_expl hp0 _) (t_isPeople hp0 (by assumption)) | exact z_room2L (by assumption) (z_J_expl hp0 _) (t_isPeople hp0 (by assumption))), ?_⟩
                have he : e_X6_explain S P x1 x2 x3 = 0 := (if_pos h1).trans ((if_neg h2).trans ((if_neg h3).trans ((if_pos h4).trans ((if_pos h5).trans rfl))))
                rw [he] at hpo
                exact z_pi hpo ((if_pos h1).trans ((if_neg h2).trans ((if_neg h3).trans ((if_pos h4).trans ((if_pos h5).trans rfl))))) ((if_pos h1).trans ((if_neg h2).trans ((if_neg h3).trans ((if_pos h4).trans ((if_pos h5).trans rfl))))) (rfl)
              · have he : e_X6_explain S P x1 x2 x3 = 3 := (if_pos h1).trans ((if_neg h2).trans ((if_neg h3).trans ((if_pos h4).trans ((if_neg h5).trans rfl))))
                rw [he] at hpo
                exact hpo
            · have he : e_X6_explain S P x1 x2 x3 = 2 := (if_pos h1).trans ((if_neg h2).trans ((if_neg h3).trans ((if_neg h4).trans rfl)))
              rw [he] at hpo
              exact hpo
      · have he : e_X6_explain S P x1 x2 x3 = 1 := (if_neg (z_nt h1)).trans rfl
        rw [he] at hpo
        exact hpo
    · exact h.elim
def f_X6_isProved (S : z_MI) (P : z_ML) (x1 : Int32) (x2 : Int32) : Bool :=
  if (f_X2_isPeople S P x1) = true then
    if (f_X6_isPlace S P x2) = true then
      f_X3_prove S P x1 x2 (S 2096 8)
    else
      false
  else
    false
def e_X6_isProved (S : z_MI) (P : z_ML) (x1 : Int32) (x2 : Int32) : Nat :=
  if (f_X2_isPeople S P x1) = true then
    if (f_X6_isPlace S P x2) = true then
      0
    else
      1
  else
    1
def sp_X6_isProved : z_SX := fun as S P k kx => match as with
  | [.ref 2096, .int x1, .int x2] => z_J S ∧ (match e_X6_isProved S P x1 x2 with
      | 0 => k (some (.int (z_b (f_X6_isProved S P x1 x2)))) S P
      | 1 => kx "java/lang/IndexOutOfBoundsException" S P
      | 2 => kx "java/lang/IllegalArgumentException" S P
      | _ => kx "java/lang/IllegalStateException" S P)
  | _ => False
def G_X6_isProved : z_G := ([(0, .aload_n 0, 1, 0), (1, .getfield 10, 4, 0), (4, .iload_n 1, 5, 0), (5, .invokevirtual 102, 8, 0), (8, .ifCond .eq 10, 11, 18), (11, .iload_n 2, 12, 0), (12, .invokestatic 150, 15, 0), (15, .ifCond .ne 13, 18, 28), (18, .new 86, 21, 0), (21, .dup, 22, 0), (22, .ldc 187, 24, 0), (24, .invokespecial 90, 27, 0), (27, .athrow, 28, 0), (28, .aload_n 0, 29, 0), (29, .getfield 26, 32, 0), (32, .iload_n 1, 33, 0), (33, .iload_n 2, 34, 0), (34, .aload_n 0, 35, 0), (35, .getfield 59, 38, 0), (38, .invokevirtual 207, 41, 0), (41, .ireturn, 42, 0)], [(10, 2096, 0, some 4112), (26, 2096, 2, some 8216), (59, 2096, 8, none)], [(100150, 1, sp_X6_isPlace), (102, 2, (z_rc 4112 sp_X2_isPeople)), (207, 4, (z_rc 8216 sp_X3_prove))], [], [], [(18, "java/lang/IndexOutOfBoundsException")], [], some .boolean)
def ss_X6_isProved : List z_ST := [(18, "java/lang/IndexOutOfBoundsException", 86, 187, 90, "no such people or place", false)]
set_option maxRecDepth 20000 in
set_option maxHeartbeats 4000000 in
theorem ct_X6_isProved (l : Launch) (hl9 : l.stackTraces = false) : z_CX l yX6_isProved cX6_isProved 3 (some .boolean) sp_X6_isProved 6 := by
  refine z_CX_of G_X6_isProved ss_X6_isProved hl9 (by decide) (by decide) (by decide +kernel) (z_pok_of ft_X6 ci_X6 cL_X6_L fo_X6 co_X6 lo_X6 (by decide +kernel)) rfl rfl (by decide +kernel) ?_ ?_ ?_
  · intro as S P Po Px h
    unfold sp_X6_isProved at h
    split at h
    · exact Nat.le_of_ble_eq_true rfl
    · exact h.elim
  · exact List.forall_mem_cons.mpr ⟨z_coS (ct_X6_isPlace l) kb_X6_isPlace ks_X6_150 (by decide) (by decide), List.forall_mem_cons.mpr ⟨z_coV (ct_X2_isPeople l) kb_X2_isPeople kv_X6_102 ko_X2 (by decide) (by decide) (by decide), List.forall_mem_cons.mpr ⟨z_coV (ct_X3_prove l) kb_X3_prove kv_X6_207 ko_X3 (by decide) (by decide) (by decide), fun _ h => absurd h List.not_mem_nil⟩⟩⟩
  · intro as S P Po Px h V hV hW
    unfold sp_X6_isProved at h
    split at h
    · rename_i x1 x2
      obtain ⟨hp0, hpo⟩ := h
      refine hV [] 26 0 _ _ _ _ ?_
      refine z_br (fun (h1 : (f_X2_isPeople S P x1) = false) => ?_) (fun (h1 : (f_X2_isPeople S P x1) = true) => ?_)
      · have he : e_X6_isProved S P x1 x2 = 1 := (if_neg (z_nt h1)).trans rfl
        rw [he] at hpo
        exact hpo
      · refine z_brn (fun (h2 : (f_X6_isPlace S P x2) = true) => ?_) (fun (h2 : (f_X6_isPlace S P x2) = false) => ?_)
        · refine ⟨(show z_le (S 8216 7) 60 by exact z_J_marks hp0), (show z_le (S 49201 x1.toNatClampNeg) 8 by exact z_J_expl hp0 _), (show vp_in x1 6 by first | exact t_isPeople hp0 (by assumption)), ?_⟩
          have he : e_X6_isProved S P x1 x2 = 0 := (if_pos h1).trans ((if_pos h2).trans rfl)
          rw [he] at hpo
          exact ⟨(by first | rfl | exact z_nb _), z_pb hpo ((if_pos h1).trans ((if_pos h2).trans rfl)) (rfl) (rfl)⟩
        · have he : e_X6_isProved S P x1 x2 = 1 := (if_pos h1).trans ((if_neg (z_nt h2)).trans rfl)
          rw [he] at hpo
          exact hpo
    · exact h.elim
end
section
def f_X6_act (S : z_MI) (P : z_ML) (x1 : Int32) (x2 : Int32) (x3 : Int32) (x4 : Int32) (x5 : Int32) : Int32 :=
  if x1 < 0 then
    0
  else
    if (S 2096 8) < x1 then
      0
    else
      if (f_X6_isDeed S P x2 x3 x4) = true then
        if (f_X6_isLast S P x5 x4 x1) = true then
          if (S 10240 8) < (nI 40) then
            f_X0_add S P x1 x2 x3 x4 x5
          else
            0
        else
          0
      else
        0
def u_X6_act (S : z_MI) (P : z_ML) (x1 : Int32) (x2 : Int32) (x3 : Int32) (x4 : Int32) (x5 : Int32) : z_MI :=
  if x1 < 0 then
    S
  else
    if (S 2096 8) < x1 then
      S
    else
      if (f_X6_isDeed S P x2 x3 x4) = true then
        if (f_X6_isLast S P x5 x4 x1) = true then
          if (S 10240 8) < (nI 40) then
            u_X0_add S P x1 x2 x3 x4 x5
          else
            S
        else
          S
      else
        S
def e_X6_act (S : z_MI) (P : z_ML) (x1 : Int32) (x2 : Int32) (x3 : Int32) (x4 : Int32) (x5 : Int32) : Nat :=
  if x1 < 0 then
    2
  else
    if (S 2096 8) < x1 then
      2
    else
      if (f_X6_isDeed S P x2 x3 x4) = true then
        if (f_X6_isLast S P x5 x4 x1) = true then
          if (S 10240 8) < (nI 40) then
            0
          else
            3
        else
          2
      else
        2
def sp_X6_act : z_SX := fun as S P k kx => match as with
  | [.ref 2096, .int x1, .int x2, .int x3, .int x4, .int x5] => z_J S ∧ (match e_X6_act S P x1 x2 x3 x4 x5 with
      | 0 => k (some (.int (f_X6_act S P x1 x2 x3 x4 x5))) (u_X6_act S P x1 x2 x3 x4 x5) P
      | 1 => kx "java/lang/IndexOutOfBoundsException" S P
      | 2 => kx "java/lang/IllegalArgumentException" S P
      | _ => kx "java/lang/IllegalStateException" S P)
  | _ => False
def G_X6_act : z_G := ([(0, .iload_n 1, 1, 0), (1, .ifCond .lt 32, 4, 33), (4, .iload_n 1, 5, 0), (5, .aload_n 0, 6, 0), (6, .getfield 59, 9, 0), (9, .if_icmp .gt 24, 12, 33), (12, .iload_n 2, 13, 0), (13, .iload_n 3, 14, 0), (14, .iload 4, 16, 0), (16, .invokestatic 211, 19, 0), (19, .ifCond .eq 14, 22, 33), (22, .iload 5, 24, 0), (24, .iload 4, 26, 0), (26, .iload_n 1, 27, 0), (27, .invokestatic 214, 30, 0), (30, .ifCond .ne 13, 33, 43), (33, .new 63, 36, 0), (36, .dup, 37, 0), (37, .ldc 217, 39, 0), (39, .invokespecial 67, 42, 0), (42, .athrow, 43, 0), (43, .aload_n 0, 44, 0), (44, .getfield 33, 47, 0), (47, .getfield 219, 50, 0), (50, .bipush 40, 52, 0), (52, .if_icmp .lt 13, 55, 65), (55, .new 73, 58, 0), (58, .dup, 59, 0), (59, .ldc 220, 61, 0), (61, .invokespecial 77, 64, 0), (64, .athrow, 65, 0), (65, .aload_n 0, 66, 0), (66, .getfield 33, 69, 0), (69, .iload_n 1, 70, 0), (70, .iload_n 2, 71, 0), (71, .iload_n 3, 72, 0), (72, .iload 4, 74, 0), (74, .iload 5, 76, 0), (76, .invokevirtual 222, 79, 0), (79, .ireturn, 80, 0)], [(33, 2096, 3, some 10240), (59, 2096, 8, none), (219, 10240, 8, none)], [(100211, 3, sp_X6_isDeed), (100214, 3, sp_X6_isLast), (222, 6, (z_rc 10240 sp_X0_add))], [], [], [(33, "java/lang/IllegalArgumentException"), (55, "java/lang/IllegalStateException")], [], some .int)
def ss_X6_act : List z_ST := [(33, "java/lang/IllegalArgumentException", 63, 217, 67, "an argument is out of range", false), (55, "java/lang/IllegalStateException", 73, 220, 77, "there are 40 acts", false)]
set_option maxRecDepth 20000 in
set_option maxHeartbeats 4000000 in
theorem ct_X6_act (l : Launch) (hl9 : l.stackTraces = false) : z_CX l yX6_act cX6_act 6 (some .int) sp_X6_act 6 := by
  refine z_CX_of G_X6_act ss_X6_act hl9 (by decide) (by decide) (by decide +kernel) (z_pok_of ft_X6 ci_X6 cL_X6_L fo_X6 co_X6 lo_X6 (by decide +kernel)) rfl rfl (by decide +kernel) ?_ ?_ ?_
  · intro as S P Po Px h
    unfold sp_X6_act at h
    split at h
    · exact Nat.le_of_ble_eq_true rfl
    · exact h.elim
  · exact List.forall_mem_cons.mpr ⟨z_coS (ct_X6_isDeed l) kb_X6_isDeed ks_X6_211 (by decide) (by decide), List.forall_mem_cons.mpr ⟨z_coS (ct_X6_isLast l) kb_X6_isLast ks_X6_214 (by decide) (by decide), List.forall_mem_cons.mpr ⟨z_coV (ct_X0_add l) kb_X0_add kv_X6_222 ko_X0 (by decide) (by decide) (by decide), fun _ h => absurd h List.not_mem_nil⟩⟩⟩
  · intro as S P Po Px h V hV hW
    unfold sp_X6_act at h
    split at h
    · rename_i x1 x2 x3 x4 x5
      obtain ⟨hp0, hpo⟩ := h
      refine hV [] 45 0 _ _ _ _ ?_
      refine ⟨fun (h1 : x1 < 0) => ?_, fun (h1 : ¬ (x1 < 0)) => ?_⟩
      · have he : e_X6_act S P x1 x2 x3 x4 x5 = 2 := (if_pos h1).trans rfl
        rw [he] at hpo
        exact hpo
      · refine ⟨fun (h2 : (S 2096 8) < x1) => ?_, fun (h2 : ¬ ((S 2096 8) < x1)) => ?_⟩
        · have he : e_X6_act S P x1 x2 x3 x4 x5 = 2 := (if_neg h1).trans ((if_pos h2).trans rfl)
          rw [he] at hpo
          exact hpo
        · refine z_br (fun (h3 : (f_X6_isDeed S P x2 x3 x4) = false) => ?_) (fun (h3 : (f_X6_isDeed S P x2 x3 x4) = true) => ?_)
          · have he : e_X6_act S P x1 x2 x3 x4 x5 = 2 := (if_neg h1).trans ((if_neg h2).trans ((if_neg (z_nt h3)).trans rfl))
            rw [he] at hpo
            exact hpo
          · refine z_brn (fun (h4 : (f_X6_isLast S P x5 x4 x1) = true) => ?_) (fun (h4 : (f_X6_isLast S P x5 x4 x1) = false) => ?_)
            · refine ⟨fun (h5 : (S 10240 8) < (nI 40)) => ?_, fun (h5 : ¬ ((S 10240 8) < (nI 40))) => ?_⟩
              · refine ⟨(show vp_in (S 10240 8) 40 by first | exact z_room (by assumption) (z_J_acts hp0) (by decide) (by decide) | exact z_roomL (by assumption) (z_J_acts hp0) (by decide) (by decide)), ?_⟩
                have he : e_X6_act S P x1 x2 x3 x4 x5 = 0 := (if_neg h1).trans ((if_neg h2).trans ((if_pos h3).trans ((if_pos h4).trans ((if_pos h5).trans rfl))))
                rw [he] at hpo
                exact z_pi hpo ((if_neg h1).trans ((if_neg h2).trans ((if_pos h3).trans ((if_pos h4).trans ((if_pos h5).trans rfl))))) ((if_neg h1).trans ((if_neg h2).trans ((if_pos h3).trans ((if_pos h4).trans ((if_pos h5).trans rfl))))) (rfl)
              · have he : e_X6_act S P x1 x2 x3 x4 x5 = 3 := (if_neg h1).trans ((if_neg h2).trans ((if_pos h3).trans ((if_pos h4).trans ((if_neg h5).trans rfl))))
                rw [he] at hpo
                exact hpo
            · have he : e_X6_act S P x1 x2 x3 x4 x5 = 2 := (if_neg h1).trans ((if_neg h2).trans ((if_pos h3).trans ((if_neg (z_nt h4)).trans rfl)))
              rw [he] at hpo
              exact hpo
    · exact h.elim
def f_X6_voids (S : z_MI) (P : z_ML) (x1 : Int32) (x2 : Int32) : Bool :=
  if (f_X0_isAct S P x1) = true then
    if (S 67906 x1.toNatClampNeg) = x2 then
      false
    else
      true
  else
    false
def u_X6_voids (S : z_MI) (P : z_ML) (x1 : Int32) (x2 : Int32) : z_MI :=
  if (f_X0_isAct S P x1) = true then
    if (S 67906 x1.toNatClampNeg) = x2 then
      va_up S 67906 (upd (S 67906) x1.toNatClampNeg (vp_nar .boolean x2))
    else
      va_up S 67906 (upd (S 67906) x1.toNatClampNeg (vp_nar .boolean x2))
  else
    S
def e_X6_voids (S : z_MI) (P : z_ML) (x1 : Int32) (x2 : Int32) : Nat :=
  if (f_X0_isAct S P x1) = true then
    if (S 67906 x1.toNatClampNeg) = x2 then
      0
    else
      0
  else
    1
def sp_X6_voids : z_SX := fun as S P k kx => match as with
  | [.ref 2096, .int x1, .int x2] => z_J S ∧ (match e_X6_voids S P x1 x2 with
      | 0 => k (some (.int (z_b (f_X6_voids S P x1 x2)))) (u_X6_voids S P x1 x2) P
      | 1 => kx "java/lang/IndexOutOfBoundsException" S P
      | 2 => kx "java/lang/IllegalArgumentException" S P
      | _ => kx "java/lang/IllegalStateException" S P)
  | _ => False
def G_X6_voids : z_G := ([(0, .aload_n 0, 1, 0), (1, .getfield 33, 4, 0), (4, .iload_n 1, 5, 0), (5, .invokevirtual 225, 8, 0), (8, .ifCond .ne 13, 11, 21), (11, .new 86, 14, 0), (14, .dup, 15, 0), (15, .ldc 228, 17, 0), (17, .invokespecial 90, 20, 0), (20, .athrow, 21, 0), (21, .aload_n 0, 22, 0), (22, .getfield 33, 25, 0), (25, .getfield 230, 28, 0), (28, .iload_n 1, 29, 0), (29, .baload, 30, 0), (30, .iload_n 2, 31, 0), (31, .if_icmp .eq 7, 34, 38), (34, .iconst 1, 35, 0), (35, .goto 4, 38, 39), (38, .iconst 0, 39, 0), (39, .istore_n 3, 40, 0), (40, .aload_n 0, 41, 0), (41, .getfield 33, 44, 0), (44, .getfield 230, 47, 0), (47, .iload_n 1, 48, 0), (48, .iload_n 2, 49, 0), (49, .bastore, 50, 0), (50, .iload_n 3, 51, 0), (51, .ireturn, 52, 0)], [(33, 2096, 3, some 10240), (230, 10240, 6, some 67906)], [(225, 2, (z_rc 10240 sp_X0_isAct))], [], [], [(11, "java/lang/IndexOutOfBoundsException")], [], some .boolean)
def ss_X6_voids : List z_ST := [(11, "java/lang/IndexOutOfBoundsException", 86, 228, 90, "no such act", false)]
set_option maxRecDepth 20000 in
set_option maxHeartbeats 4000000 in
theorem ct_X6_voids (l : Launch) (hl9 : l.stackTraces = false) : z_CX l yX6_voids cX6_voids 4 (some .boolean) sp_X6_voids 6 := by
  refine z_CX_of G_X6_voids ss_X6_voids hl9 (by decide) (by decide) (by decide +kernel) (z_pok_of ft_X6 ci_X6 cL_X6_L fo_X6 co_X6 lo_X6 (by decide +kernel)) rfl rfl (by decide +kernel) ?_ ?_ ?_
  · intro as S P Po Px h
    unfold sp_X6_voids at h
    split at h
    · exact Nat.le_of_ble_eq_true rfl
    · exact h.elim
  · exact List.forall_mem_cons.mpr ⟨z_coV (ct_X0_isAct l) kb_X0_isAct kv_X6_225 ko_X0 (by decide) (by decide) (by decide), fun _ h => absurd h List.not_mem_nil⟩
  · intro as S P Po Px h V hV hW
    unfold sp_X6_voids at h
    split at h
    · rename_i x1 x2
      obtain ⟨hp0, hpo⟩ := h
      refine hV [] 34 0 _ _ _ _ ?_
      refine z_brn (fun (h1 : (f_X0_isAct S P x1) = true) => ?_) (fun (h1 : (f_X0_isAct S P x1) = false) => ?_)
      · refine ⟨(show vp_in x1 40 by first | exact t_isAct hp0 (by assumption)), ?_⟩
        refine ⟨fun (h2 : (S 67906 x1.toNatClampNeg) = x2) => ?_, fun (h2 : ¬ ((S 67906 x1.toNatClampNeg) = x2)) => ?_⟩
        · refine ⟨(show vp_in x1 40 by first | exact t_isAct hp0 (by assumption)), ?_⟩
          have he : e_X6_voids S P x1 x2 = 0 := (if_pos h1).trans ((if_pos h2).trans rfl)
          rw [he] at hpo
          exact ⟨(by first | rfl | exact z_nb _), z_pb hpo ((if_pos h1).trans ((if_pos h2).trans rfl)) ((if_pos h1).trans ((if_pos h2).trans rfl)) (rfl)⟩
        · refine ⟨(show vp_in x1 40 by first | exact t_isAct hp0 (by assumption)), ?_⟩
          have he : e_X6_voids S P x1 x2 = 0 := (if_pos h1).trans ((if_neg h2).trans rfl)
          rw [he] at hpo
          exact ⟨(by first | rfl | exact z_nb _), z_pb hpo ((if_pos h1).trans ((if_neg h2).trans rfl)) ((if_pos h1).trans ((if_neg h2).trans rfl)) (rfl)⟩
      · have he : e_X6_voids S P x1 x2 = 1 := (if_neg (z_nt h1)).trans rfl
        rw [he] at hpo
        exact hpo
    · exact h.elim
def f_X6_giveUp (S : z_MI) (P : z_ML) (x1 : Int32) : Int32 :=
  if (f_X0_isAct S P x1) = true then
    if (S 65857 x1.toNatClampNeg) = (-1) then
      (S 2096 8) - (S 55617 x1.toNatClampNeg)
    else
      0
  else
    0
def u_X6_giveUp (S : z_MI) (P : z_ML) (x1 : Int32) : z_MI :=
  if (f_X0_isAct S P x1) = true then
    if (S 65857 x1.toNatClampNeg) = (-1) then
      va_up S 65857 (upd (S 65857) x1.toNatClampNeg (S 2096 8))
    else
      S
  else
    S
def e_X6_giveUp (S : z_MI) (P : z_ML) (x1 : Int32) : Nat :=
  if (f_X0_isAct S P x1) = true then
    if (S 65857 x1.toNatClampNeg) = (-1) then
      0
    else
      3
  else
    1
def sp_X6_giveUp : z_SX := fun as S P k kx => match as with
  | [.ref 2096, .int x1] => z_J S ∧ (match e_X6_giveUp S P x1 with
      | 0 => k (some (.int (f_X6_giveUp S P x1))) (u_X6_giveUp S P x1) P
      | 1 => kx "java/lang/IndexOutOfBoundsException" S P
      | 2 => kx "java/lang/IllegalArgumentException" S P
      | _ => kx "java/lang/IllegalStateException" S P)
  | _ => False
def G_X6_giveUp : z_G := ([(0, .aload_n 0, 1, 0), (1, .getfield 33, 4, 0), (4, .iload_n 1, 5, 0), (5, .invokevirtual 225, 8, 0), (8, .ifCond .ne 13, 11, 21), (11, .new 86, 14, 0), (14, .dup, 15, 0), (15, .ldc 228, 17, 0), (17, .invokespecial 90, 20, 0), (20, .athrow, 21, 0), (21, .aload_n 0, 22, 0), (22, .getfield 33, 25, 0), (25, .getfield 234, 28, 0), (28, .iload_n 1, 29, 0), (29, .iaload, 30, 0), (30, .iconst (-1), 31, 0), (31, .if_icmp .eq 13, 34, 44), (34, .new 73, 37, 0), (37, .dup, 38, 0), (38, .ldc 237, 40, 0), (40, .invokespecial 77, 43, 0), (43, .athrow, 44, 0), (44, .aload_n 0, 45, 0), (45, .getfield 33, 48, 0), (48, .getfield 234, 51, 0), (51, .iload_n 1, 52, 0), (52, .aload_n 0, 53, 0), (53, .getfield 59, 56, 0), (56, .iastore, 57, 0), (57, .aload_n 0, 58, 0), (58, .getfield 59, 61, 0), (61, .aload_n 0, 62, 0), (62, .getfield 33, 65, 0), (65, .getfield 239, 68, 0), (68, .iload_n 1, 69, 0), (69, .iaload, 70, 0), (70, .isub, 71, 0), (71, .ireturn, 72, 0)], [(33, 2096, 3, some 10240), (59, 2096, 8, none), (234, 10240, 5, some 65857), (239, 10240, 0, some 55617)], [(225, 2, (z_rc 10240 sp_X0_isAct))], [], [], [(11, "java/lang/IndexOutOfBoundsException"), (34, "java/lang/IllegalStateException")], [], some .int)
def ss_X6_giveUp : List z_ST := [(11, "java/lang/IndexOutOfBoundsException", 86, 228, 90, "no such act", false), (34, "java/lang/IllegalStateException", 73, 237, 77, "the act was given up", false)]
set_option maxRecDepth 20000 in
set_option maxHeartbeats 4000000 in
theorem ct_X6_giveUp (l : Launch) (hl9 : l.stackTraces = false) : z_CX l yX6_giveUp cX6_giveUp 2 (some .int) sp_X6_giveUp 6 := by
  refine z_CX_of G_X6_giveUp ss_X6_giveUp hl9 (by decide) (by decide) (by decide +kernel) (z_pok_of ft_X6 ci_X6 cL_X6_L fo_X6 co_X6 lo_X6 (by decide +kernel)) rfl rfl (by decide +kernel) ?_ ?_ ?_
  · intro as S P Po Px h
    unfold sp_X6_giveUp at h
    split at h
    · exact Nat.le_of_ble_eq_true rfl
    · exact h.elim
  · exact List.forall_mem_cons.mpr ⟨z_coV (ct_X0_isAct l) kb_X0_isAct kv_X6_225 ko_X0 (by decide) (by decide) (by decide), fun _ h => absurd h List.not_mem_nil⟩
  · intro as S P Po Px h V hV hW
    unfold sp_X6_giveUp at h
    split at h
    · rename_i x1
      obtain ⟨hp0, hpo⟩ := h
      refine hV [] 43 0 _ _ _ _ ?_
      refine z_brn (fun (h1 : (f_X0_isAct S P x1) = true) => ?_) (fun (h1 : (f_X0_isAct S P x1) = false) => ?_)
      · refine ⟨(show vp_in x1 40 by first | exact t_isAct hp0 (by assumption)), ?_⟩
        refine ⟨fun (h2 : (S 65857 x1.toNatClampNeg) = (-1)) => ?_, fun (h2 : ¬ ((S 65857 x1.toNatClampNeg) = (-1))) => ?_⟩
        · refine ⟨(show vp_in x1 40 by first | exact t_isAct hp0 (by assumption)), ?_⟩
          refine ⟨(show vp_in x1 40 by first | exact t_isAct hp0 (by assumption)), ?_⟩
          have he : e_X6_giveUp S P x1 = 0 := (if_pos h1).trans ((if_pos h2).trans rfl)
          rw [he] at hpo
          exact z_pi hpo ((if_pos h1).trans ((if_pos h2).trans rfl)) ((if_pos h1).trans ((if_pos h2).trans rfl)) (rfl)
        · have he : e_X6_giveUp S P x1 = 3 := (if_pos h1).trans ((if_neg h2).trans rfl)
          rw [he] at hpo
          exact hpo
      · have he : e_X6_giveUp S P x1 = 1 := (if_neg (z_nt h1)).trans rfl
        rw [he] at hpo
        exact hpo
    · exact h.elim
def f_X6_left (S : z_MI) (P : z_ML) (x1 : Int32) (x2 : Int32) : Int32 :=
  if (f_X6_isPlace S P x1) = true then
    if (f_X6_isMonth S P x2) = true then
      f_X0_leftAt S P x1 x2
    else
      0
  else
    0
def e_X6_left (S : z_MI) (P : z_ML) (x1 : Int32) (x2 : Int32) : Nat :=
  if (f_X6_isPlace S P x1) = true then
    if (f_X6_isMonth S P x2) = true then
      0
    else
      2
  else
    1
def sp_X6_left : z_SX := fun as S P k kx => match as with
  | [.ref 2096, .int x1, .int x2] => z_J S ∧ (match e_X6_left S P x1 x2 with
      | 0 => k (some (.int (f_X6_left S P x1 x2))) S P
      | 1 => kx "java/lang/IndexOutOfBoundsException" S P
      | 2 => kx "java/lang/IllegalArgumentException" S P
      | _ => kx "java/lang/IllegalStateException" S P)
  | _ => False
def G_X6_left : z_G := ([(0, .iload_n 1, 1, 0), (1, .invokestatic 150, 4, 0), (4, .ifCond .ne 13, 7, 17), (7, .new 86, 10, 0), (10, .dup, 11, 0), (11, .ldc 242, 13, 0), (13, .invokespecial 90, 16, 0), (16, .athrow, 17, 0), (17, .iload_n 2, 18, 0), (18, .invokestatic 244, 21, 0), (21, .ifCond .ne 13, 24, 34), (24, .new 63, 27, 0), (27, .dup, 28, 0), (28, .ldc 247, 30, 0), (30, .invokespecial 67, 33, 0), (33, .athrow, 34, 0), (34, .aload_n 0, 35, 0), (35, .getfield 33, 38, 0), (38, .iload_n 1, 39, 0), (39, .iload_n 2, 40, 0), (40, .invokevirtual 249, 43, 0), (43, .ireturn, 44, 0)], [(33, 2096, 3, some 10240)], [(100150, 1, sp_X6_isPlace), (100244, 1, sp_X6_isMonth), (249, 3, (z_rc 10240 sp_X0_leftAt))], [], [], [(7, "java/lang/IndexOutOfBoundsException"), (24, "java/lang/IllegalArgumentException")], [], some .int)
def ss_X6_left : List z_ST := [(7, "java/lang/IndexOutOfBoundsException", 86, 242, 90, "no such place", false), (24, "java/lang/IllegalArgumentException", 63, 247, 67, "month is out of range", false)]
set_option maxRecDepth 20000 in
set_option maxHeartbeats 4000000 in
theorem ct_X6_left (l : Launch) (hl9 : l.stackTraces = false) : z_CX l yX6_left cX6_left 3 (some .int) sp_X6_left 6 := by
  refine z_CX_of G_X6_left ss_X6_left hl9 (by decide) (by decide) (by decide +kernel) (z_pok_of ft_X6 ci_X6 cL_X6_L fo_X6 co_X6 lo_X6 (by decide +kernel)) rfl rfl (by decide +kernel) ?_ ?_ ?_
  · intro as S P Po Px h
    unfold sp_X6_left at h
    split at h
    · exact Nat.le_of_ble_eq_true rfl
    · exact h.elim
  · exact List.forall_mem_cons.mpr ⟨z_coS (ct_X6_isPlace l) kb_X6_isPlace ks_X6_150 (by decide) (by decide), List.forall_mem_cons.mpr ⟨z_coS (ct_X6_isMonth l) kb_X6_isMonth ks_X6_244 (by decide) (by decide), List.forall_mem_cons.mpr ⟨z_coV (ct_X0_leftAt l) kb_X0_leftAt kv_X6_249 ko_X0 (by decide) (by decide) (by decide), fun _ h => absurd h List.not_mem_nil⟩⟩⟩
  · intro as S P Po Px h V hV hW
    unfold sp_X6_left at h
    split at h
    · rename_i x1 x2
      obtain ⟨hp0, hpo⟩ := h
      refine hV [] 27 0 _ _ _ _ ?_
      refine z_brn (fun (h1 : (f_X6_isPlace S P x1) = true) => ?_) (fun (h1 : (f_X6_isPlace S P x1) = false) => ?_)
      · refine z_brn (fun (h2 : (f_X6_isMonth S P x2) = true) => ?_) (fun (h2 : (f_X6_isMonth S P x2) = false) => ?_)
        · refine ⟨(show z_le (S 10240 8) 40 by exact z_J_acts hp0), ?_⟩
          have he : e_X6_left S P x1 x2 = 0 := (if_pos h1).trans ((if_pos h2).trans rfl)
          rw [he] at hpo
          exact z_pi hpo ((if_pos h1).trans ((if_pos h2).trans rfl)) (rfl) (rfl)
        · have he : e_X6_left S P x1 x2 = 2 := (if_pos h1).trans ((if_neg (z_nt h2)).trans rfl)
          rw [he] at hpo
          exact hpo
      · have he : e_X6_left S P x1 x2 = 1 := (if_neg (z_nt h1)).trans rfl
        rw [he] at hpo
        exact hpo
    · exact h.elim
def l_X6_leftAnew_39 (S : z_MI) (P : z_ML) (x1 : Int32) (x2 : Int32) (k39 : Nat) (a39 : Int32) : Int32 :=
  if (f_X0_isTaken S P (nI k39) x1 x2) = true then
    f_X6_with S P a39 (nI k39) (nI 0)
  else
    f_X6_with S P a39 (nI k39) (nI 1)
def f_X6_leftAnew (S : z_MI) (P : z_ML) (x1 : Int32) (x2 : Int32) : Int32 :=
  if (f_X6_isPlace S P x1) = true then
    if (f_X6_isMonth S P x2) = true then
      (z_fo (fun k39 a39 => l_X6_leftAnew_39 S P x1 x2 k39 a39) (nI 0) 5)
    else
      0
  else
    0
def e_X6_leftAnew (S : z_MI) (P : z_ML) (x1 : Int32) (x2 : Int32) : Nat :=
  if (f_X6_isPlace S P x1) = true then
    if (f_X6_isMonth S P x2) = true then
      0
    else
      2
  else
    1
def sp_X6_leftAnew : z_SX := fun as S P k kx => match as with
  | [.ref 2096, .int x1, .int x2] => z_J S ∧ (match e_X6_leftAnew S P x1 x2 with
      | 0 => k (some (.int (f_X6_leftAnew S P x1 x2))) S P
      | 1 => kx "java/lang/IndexOutOfBoundsException" S P
      | 2 => kx "java/lang/IllegalArgumentException" S P
      | _ => kx "java/lang/IllegalStateException" S P)
  | _ => False
def G_X6_leftAnew : z_G := ([(0, .iload_n 1, 1, 0), (1, .invokestatic 150, 4, 0), (4, .ifCond .ne 13, 7, 17), (7, .new 86, 10, 0), (10, .dup, 11, 0), (11, .ldc 242, 13, 0), (13, .invokespecial 90, 16, 0), (16, .athrow, 17, 0), (17, .iload_n 2, 18, 0), (18, .invokestatic 244, 21, 0), (21, .ifCond .ne 13, 24, 34), (24, .new 63, 27, 0), (27, .dup, 28, 0), (28, .ldc 247, 30, 0), (30, .invokespecial 67, 33, 0), (33, .athrow, 34, 0), (34, .iconst 0, 35, 0), (35, .istore_n 3, 36, 0), (36, .iconst 0, 37, 0), (37, .istore 4, 39, 0), (39, .iload 4, 41, 0), (41, .iconst 4, 42, 0), (42, .if_icmp .gt 35, 45, 77), (45, .iload_n 3, 46, 0), (46, .iload 4, 48, 0), (48, .aload_n 0, 49, 0), (49, .getfield 33, 52, 0), (52, .iload 4, 54, 0), (54, .iload_n 1, 55, 0), (55, .iload_n 2, 56, 0), (56, .invokevirtual 252, 59, 0), (59, .ifCond .ne 7, 62, 66), (62, .iconst 1, 63, 0), (63, .goto 4, 66, 67), (66, .iconst 0, 67, 0), (67, .invokestatic 113, 70, 0), (70, .istore_n 3, 71, 0), (71, .iinc 4 1, 74, 0), (74, .goto (-35), 77, 39), (77, .iload_n 3, 78, 0), (78, .ireturn, 79, 0)], [(33, 2096, 3, some 10240)], [(100113, 3, sp_X6_with), (100150, 1, sp_X6_isPlace), (100244, 1, sp_X6_isMonth), (252, 4, (z_rc 10240 sp_X0_isTaken))], [], [], [(7, "java/lang/IndexOutOfBoundsException"), (24, "java/lang/IllegalArgumentException")], [], some .int)
def ss_X6_leftAnew : List z_ST := [(7, "java/lang/IndexOutOfBoundsException", 86, 242, 90, "no such place", false), (24, "java/lang/IllegalArgumentException", 63, 247, 67, "month is out of range", false)]
set_option maxRecDepth 20000 in
set_option maxHeartbeats 4000000 in
theorem ct_X6_leftAnew (l : Launch) (hl9 : l.stackTraces = false) : z_CX l yX6_leftAnew cX6_leftAnew 5 (some .int) sp_X6_leftAnew 6 := by
  refine z_CX_of G_X6_leftAnew ss_X6_leftAnew hl9 (by decide) (by decide) (by decide +kernel) (z_pok_of ft_X6 ci_X6 cL_X6_L fo_X6 co_X6 lo_X6 (by decide +kernel)) rfl rfl (by decide +kernel) ?_ ?_ ?_
  · intro as S P Po Px h
    unfold sp_X6_leftAnew at h
    split at h
    · exact Nat.le_of_ble_eq_true rfl
    · exact h.elim
  · exact List.forall_mem_cons.mpr ⟨z_coS (ct_X6_with l) kb_X6_with ks_X6_113 (by decide) (by decide), List.forall_mem_cons.mpr ⟨z_coS (ct_X6_isPlace l) kb_X6_isPlace ks_X6_150 (by decide) (by decide), List.forall_mem_cons.mpr ⟨z_coS (ct_X6_isMonth l) kb_X6_isMonth ks_X6_244 (by decide) (by decide), List.forall_mem_cons.mpr ⟨z_coV (ct_X0_isTaken l) kb_X0_isTaken kv_X6_252 ko_X0 (by decide) (by decide) (by decide), fun _ h => absurd h List.not_mem_nil⟩⟩⟩⟩
  · intro as S P Po Px h V hV hW
    unfold sp_X6_leftAnew at h
    split at h
    · rename_i x1 x2
      obtain ⟨hp0, hpo⟩ := h
      refine hV [39] 46 0 _ _ _ _ ?_
      refine z_brn (fun (h1 : (f_X6_isPlace S P x1) = true) => ?_) (fun (h1 : (f_X6_isPlace S P x1) = false) => ?_)
      · refine z_brn (fun (h2 : (f_X6_isMonth S P x2) = true) => ?_) (fun (h2 : (f_X6_isMonth S P x2) = false) => ?_)
        · have hb39 : ((nI 5) : Int32) = (nI 5) := rfl
          have hL39 : ∀ (j k39 : Nat) (x900 : Int32) (a39 : Int32), k39 + j = 5 → x900 = nI k39 → a39 = z_fo (fun k39 a39 => l_X6_leftAnew_39 S P x1 x2 k39 a39) (nI 0) k39 → V 39 [(0, .ref 2096), (1, .int x1), (2, .int x2), (3, .int a39), (4, .int x900)] [] S P := by
            intro j
            induction j with
            | zero =>
              intro k39 x900 a39 hk39 hx39 ha39
              subst hx39
              have hk9 : k39 = 5 := by omega
              subst hk9
              subst ha39
              refine hV [39] 46 39 _ _ _ _ ?_
              refine ⟨fun _ => ?_, fun h => absurd ((z_brgt hb39 (by omega) (by omega)).mpr (Nat.le_refl _)) h⟩
              have he : e_X6_leftAnew S P x1 x2 = 0 := (if_pos h1).trans ((if_pos h2).trans rfl)
              rw [he] at hpo
              exact z_pi hpo ((if_pos h1).trans ((if_pos h2).trans rfl)) (rfl) (rfl)
            | succ j ih =>
              intro k39 x900 a39 hk39 hx39 ha39
              subst hx39
              have hk9 : k39 < 5 := by omega
              subst ha39
              refine hV [39] 46 39 _ _ _ _ ?_
              refine ⟨fun h => absurd ((z_brgt hb39 (by omega) (by omega)).mp h) (by omega), fun _ => ?_⟩
              refine ⟨(show z_le (S 10240 8) 40 by exact z_J_acts hp0), ?_⟩
              refine z_brn (fun (h4 : (f_X0_isTaken S P (nI k39) x1 x2) = true) => ?_) (fun (h4 : (f_X0_isTaken S P (nI k39) x1 x2) = false) => ?_)
              · exact hW [0, 1, 2, 3, 4] _ _ _ _ _ (ih (k39 + 1) _ (f_X6_with S P (z_fo (fun k39 a39 => l_X6_leftAnew_39 S P x1 x2 k39 a39) (nI 0) k39) (nI k39) (nI 0)) (by omega) (nI_add k39 1) (((if_pos h4).trans rfl).symm))
              · exact hW [0, 1, 2, 3, 4] _ _ _ _ _ (ih (k39 + 1) _ (f_X6_with S P (z_fo (fun k39 a39 => l_X6_leftAnew_39 S P x1 x2 k39 a39) (nI 0) k39) (nI k39) (nI 1)) (by omega) (nI_add k39 1) (((if_neg (z_nt h4)).trans rfl).symm))
          exact hW [0, 1, 2, 3, 4] _ _ _ _ _ (hL39 5 0 _ (nI 0) (Nat.zero_add _) rfl rfl)
        · have he : e_X6_leftAnew S P x1 x2 = 2 := (if_pos h1).trans ((if_neg (z_nt h2)).trans rfl)
          rw [he] at hpo
          exact hpo
      · have he : e_X6_leftAnew S P x1 x2 = 1 := (if_neg (z_nt h1)).trans rfl
        rw [he] at hpo
        exact hpo
    · exact h.elim
def f_X6_claim (S : z_MI) (P : z_ML) (x1 : Int32) (x2 : Int32) (x3 : Int32) : Int32 :=
  if (f_X2_isPeople S P x1) = true then
    if (f_X6_isSomePlaces S P x2) = true then
      if (f_X6_isSomeRights S P x3) = true then
        if (S 12296 8) < (nI 12) then
          f_X1_add S P x1 x2 x3
        else
          0
      else
        0
    else
      0
  else
    0
def u_X6_claim (S : z_MI) (P : z_ML) (x1 : Int32) (x2 : Int32) (x3 : Int32) : z_MI :=
  if (f_X2_isPeople S P x1) = true then
    if (f_X6_isSomePlaces S P x2) = true then
      if (f_X6_isSomeRights S P x3) = true then
        if (S 12296 8) < (nI 12) then
          u_X1_add S P x1 x2 x3
        else
          S
      else
        S
    else
      S
  else
    S
def e_X6_claim (S : z_MI) (P : z_ML) (x1 : Int32) (x2 : Int32) (x3 : Int32) : Nat :=
  if (f_X2_isPeople S P x1) = true then
    if (f_X6_isSomePlaces S P x2) = true then
      if (f_X6_isSomeRights S P x3) = true then
        if (S 12296 8) < (nI 12) then
          0
        else
          3
      else
        2
    else
      2
  else
    1
def sp_X6_claim : z_SX := fun as S P k kx => match as with
  | [.ref 2096, .int x1, .int x2, .int x3] => z_J S ∧ (match e_X6_claim S P x1 x2 x3 with
      | 0 => k (some (.int (f_X6_claim S P x1 x2 x3))) (u_X6_claim S P x1 x2 x3) P
      | 1 => kx "java/lang/IndexOutOfBoundsException" S P
      | 2 => kx "java/lang/IllegalArgumentException" S P
      | _ => kx "java/lang/IllegalStateException" S P)
  | _ => False
def G_X6_claim : z_G := ([(0, .aload_n 0, 1, 0), (1, .getfield 10, 4, 0), (4, .iload_n 1, 5, 0), (5, .invokevirtual 102, 8, 0), (8, .ifCond .ne 13, 11, 21), (11, .new 86, 14, 0), (14, .dup, 15, 0), (15, .ldc 137, 17, 0), (17, .invokespecial 90, 20, 0), (20, .athrow, 21, 0), (21, .iload_n 2, 22, 0), (22, .invokestatic 255, 25, 0), (25, .ifCond .eq 10, 28, 35), (28, .iload_n 3, 29, 0), (29, .invokestatic 258, 32, 0), (32, .ifCond .ne 14, 35, 46), (35, .new 63, 38, 0), (38, .dup, 39, 0), (39, .ldc_w 261, 42, 0), (42, .invokespecial 67, 45, 0), (45, .athrow, 46, 0), (46, .aload_n 0, 47, 0), (47, .getfield 40, 50, 0), (50, .getfield 263, 53, 0), (53, .bipush 12, 55, 0), (55, .if_icmp .lt 14, 58, 69), (58, .new 73, 61, 0), (61, .dup, 62, 0), (62, .ldc_w 264, 65, 0), (65, .invokespecial 77, 68, 0), (68, .athrow, 69, 0), (69, .aload_n 0, 70, 0), (70, .getfield 40, 73, 0), (73, .iload_n 1, 74, 0), (74, .iload_n 2, 75, 0), (75, .iload_n 3, 76, 0), (76, .invokevirtual 266, 79, 0), (79, .ireturn, 80, 0)], [(10, 2096, 0, some 4112), (40, 2096, 4, some 12296), (263, 12296, 8, none)], [(100255, 1, sp_X6_isSomePlaces), (100258, 1, sp_X6_isSomeRights), (102, 2, (z_rc 4112 sp_X2_isPeople)), (266, 4, (z_rc 12296 sp_X1_add))], [], [], [(11, "java/lang/IndexOutOfBoundsException"), (35, "java/lang/IllegalArgumentException"), (58, "java/lang/IllegalStateException")], [], some .int)
def ss_X6_claim : List z_ST := [(11, "java/lang/IndexOutOfBoundsException", 86, 137, 90, "no such people", false), (35, "java/lang/IllegalArgumentException", 63, 261, 67, "places or rights is out of range", true), (58, "java/lang/IllegalStateException", 73, 264, 77, "there are 12 claims", true)]
set_option maxRecDepth 20000 in
set_option maxHeartbeats 4000000 in
theorem ct_X6_claim (l : Launch) (hl9 : l.stackTraces = false) : z_CX l yX6_claim cX6_claim 4 (some .int) sp_X6_claim 6 := by
  refine z_CX_of G_X6_claim ss_X6_claim hl9 (by decide) (by decide) (by decide +kernel) (z_pok_of ft_X6 ci_X6 cL_X6_L fo_X6 co_X6 lo_X6 (by decide +kernel)) rfl rfl (by decide +kernel) ?_ ?_ ?_
  · intro as S P Po Px h
    unfold sp_X6_claim at h
    split at h
    · exact Nat.le_of_ble_eq_true rfl
    · exact h.elim
  · exact List.forall_mem_cons.mpr ⟨z_coS (ct_X6_isSomePlaces l) kb_X6_isSomePlaces ks_X6_255 (by decide) (by decide), List.forall_mem_cons.mpr ⟨z_coS (ct_X6_isSomeRights l) kb_X6_isSomeRights ks_X6_258 (by decide) (by decide), List.forall_mem_cons.mpr ⟨z_coV (ct_X2_isPeople l) kb_X2_isPeople kv_X6_102 ko_X2 (by decide) (by decide) (by decide), List.forall_mem_cons.mpr ⟨z_coV (ct_X1_add l) kb_X1_add kv_X6_266 ko_X1 (by decide) (by decide) (by decide), fun _ h => absurd h List.not_mem_nil⟩⟩⟩⟩
  · intro as S P Po Px h V hV hW
    unfold sp_X6_claim at h
    split at h
    · rename_i x1 x2 x3
      obtain ⟨hp0, hpo⟩ := h
      refine hV [] 43 0 _ _ _ _ ?_
      refine z_brn (fun (h1 : (f_X2_isPeople S P x1) = true) => ?_) (fun (h1 : (f_X2_isPeople S P x1) = false) => ?_)
      · refine z_br (fun (h2 : (f_X6_isSomePlaces S P x2) = false) => ?_) (fun (h2 : (f_X6_isSomePlaces S P x2) = true) => ?_)
        · have he : e_X6_claim S P x1 x2 x3 = 2 := (if_pos h1).trans ((if_neg (z_nt h2)).trans rfl)
          rw [he] at hpo
          exact hpo
        · refine z_brn (fun (h3 : (f_X6_isSomeRights S P x3) = true) => ?_) (fun (h3 : (f_X6_isSomeRights S P x3) = false) => ?_)
          · refine ⟨fun (h4 : (S 12296 8) < (nI 12)) => ?_, fun (h4 : ¬ ((S 12296 8) < (nI 12))) => ?_⟩
            · refine ⟨(show vp_in (S 12296 8) 12 by first | exact z_room (by assumption) (z_J_claims hp0) (by decide) (by decide) | exact z_roomL (by assumption) (z_J_claims hp0) (by decide) (by decide)), ?_⟩
              have he : e_X6_claim S P x1 x2 x3 = 0 := (if_pos h1).trans ((if_pos h2).trans ((if_pos h3).trans ((if_pos h4).trans rfl)))
              rw [he] at hpo
              exact z_pi hpo ((if_pos h1).trans ((if_pos h2).trans ((if_pos h3).trans ((if_pos h4).trans rfl)))) ((if_pos h1).trans ((if_pos h2).trans ((if_pos h3).trans ((if_pos h4).trans rfl)))) (rfl)
            · have he : e_X6_claim S P x1 x2 x3 = 3 := (if_pos h1).trans ((if_pos h2).trans ((if_pos h3).trans ((if_neg h4).trans rfl)))
              rw [he] at hpo
              exact hpo
          · have he : e_X6_claim S P x1 x2 x3 = 2 := (if_pos h1).trans ((if_pos h2).trans ((if_neg (z_nt h3)).trans rfl))
            rw [he] at hpo
            exact hpo
      · have he : e_X6_claim S P x1 x2 x3 = 1 := (if_neg (z_nt h1)).trans rfl
        rw [he] at hpo
        exact hpo
    · exact h.elim
def u_X6_vote (S : z_MI) (P : z_ML) (x1 : Int32) (x2 : Int32) (x3 : Int32) : z_MI :=
  if (f_X2_isPerson S P x1) = true then
    if (f_X1_isClaim S P x2) = true then
      if (S 77921 x2.toNatClampNeg) = 0 then
        if (f_X6_isIn S P (f_X2_membersOf S P (S 71777 x2.toNatClampNeg)) x1) = true then
          va_up (va_up S 84065 (upd (S 84065) x2.toNatClampNeg (f_X6_with S P (S 84065 x2.toNatClampNeg) x1 (nI 1)))) 86113 (upd ((va_up S 84065 (upd (S 84065) x2.toNatClampNeg (f_X6_with S P (S 84065 x2.toNatClampNeg) x1 (nI 1)))) 86113) x2.toNatClampNeg (f_X6_with (va_up S 84065 (upd (S 84065) x2.toNatClampNeg (f_X6_with S P (S 84065 x2.toNatClampNeg) x1 (nI 1)))) P (S 86113 x2.toNatClampNeg) x1 x3))
        else
          S
      else
        S
    else
      S
  else
    S
def e_X6_vote (S : z_MI) (P : z_ML) (x1 : Int32) (x2 : Int32) (x3 : Int32) : Nat :=
  if (f_X2_isPerson S P x1) = true then
    if (f_X1_isClaim S P x2) = true then
      if (S 77921 x2.toNatClampNeg) = 0 then
        if (f_X6_isIn S P (f_X2_membersOf S P (S 71777 x2.toNatClampNeg)) x1) = true then
          0
        else
          3
      else
        3
    else
      1
  else
    1
def sp_X6_vote : z_SX := fun as S P k kx => match as with
  | [.ref 2096, .int x1, .int x2, .int x3] => z_J S ∧ (match e_X6_vote S P x1 x2 x3 with
      | 0 => k (none) (u_X6_vote S P x1 x2 x3) P
      | 1 => kx "java/lang/IndexOutOfBoundsException" S P
      | 2 => kx "java/lang/IllegalArgumentException" S P
      | _ => kx "java/lang/IllegalStateException" S P)
  | _ => False
def G_X6_vote : z_G := ([(0, .aload_n 0, 1, 0), (1, .getfield 10, 4, 0), (4, .iload_n 1, 5, 0), (5, .invokevirtual 105, 8, 0), (8, .ifCond .eq 14, 11, 22), (11, .aload_n 0, 12, 0), (12, .getfield 40, 15, 0), (15, .iload_n 2, 16, 0), (16, .invokevirtual 268, 19, 0), (19, .ifCond .ne 14, 22, 33), (22, .new 86, 25, 0), (25, .dup, 26, 0), (26, .ldc_w 271, 29, 0), (29, .invokespecial 90, 32, 0), (32, .athrow, 33, 0), (33, .aload_n 0, 34, 0), (34, .getfield 40, 37, 0), (37, .getfield 273, 40, 0), (40, .iload_n 2, 41, 0), (41, .iaload, 42, 0), (42, .ifCond .ne 26, 45, 68), (45, .aload_n 0, 46, 0), (46, .getfield 10, 49, 0), (49, .aload_n 0, 50, 0), (50, .getfield 40, 53, 0), (53, .getfield 276, 56, 0), (56, .iload_n 2, 57, 0), (57, .iaload, 58, 0), (58, .invokevirtual 117, 61, 0), (61, .iload_n 1, 62, 0), (62, .invokestatic 184, 65, 0), (65, .ifCond .ne 14, 68, 79), (68, .new 73, 71, 0), (71, .dup, 72, 0), (72, .ldc_w 277, 75, 0), (75, .invokespecial 77, 78, 0), (78, .athrow, 79, 0), (79, .aload_n 0, 80, 0), (80, .getfield 40, 83, 0), (83, .getfield 279, 86, 0), (86, .iload_n 2, 87, 0), (87, .aload_n 0, 88, 0), (88, .getfield 40, 91, 0), (91, .getfield 279, 94, 0), (94, .iload_n 2, 95, 0), (95, .iaload, 96, 0), (96, .iload_n 1, 97, 0), (97, .iconst 1, 98, 0), (98, .invokestatic 113, 101, 0), (101, .iastore, 102, 0), (102, .aload_n 0, 103, 0), (103, .getfield 40, 106, 0), (106, .getfield 282, 109, 0), (109, .iload_n 2, 110, 0), (110, .aload_n 0, 111, 0), (111, .getfield 40, 114, 0), (114, .getfield 282, 117, 0), (117, .iload_n 2, 118, 0), (118, .iaload, 119, 0), (119, .iload_n 1, 120, 0), (120, .iload_n 3, 121, 0), (121, .invokestatic 113, 124, 0), (124, .iastore, 125, 0), (125, .return_, 126, 0)], [(10, 2096, 0, some 4112), (40, 2096, 4, some 12296), (273, 12296, 3, some 77921), (276, 12296, 0, some 71777), (279, 12296, 6, some 84065), (282, 12296, 7, some 86113)], [(100113, 3, sp_X6_with), (100184, 2, sp_X6_isIn), (105, 2, (z_rc 4112 sp_X2_isPerson)), (117, 2, (z_rc 4112 sp_X2_membersOf)), (268, 2, (z_rc 12296 sp_X1_isClaim))], [], [], [(22, "java/lang/IndexOutOfBoundsException"), (68, "java/lang/IllegalStateException")], [], none)
def ss_X6_vote : List z_ST := [(22, "java/lang/IndexOutOfBoundsException", 86, 271, 90, "no such person or claim", true), (68, "java/lang/IllegalStateException", 73, 277, 77, "the claim is not FILED, or the person does not belong", true)]
set_option maxRecDepth 20000 in
set_option maxHeartbeats 4000000 in
theorem ct_X6_vote (l : Launch) (hl9 : l.stackTraces = false) : z_CX l yX6_vote cX6_vote 4 (none) sp_X6_vote 6 := by
  refine z_CX_of G_X6_vote ss_X6_vote hl9 (by decide) (by decide) (by decide +kernel) (z_pok_of ft_X6 ci_X6 cL_X6_L fo_X6 co_X6 lo_X6 (by decide +kernel)) rfl rfl (by decide +kernel) ?_ ?_ ?_
  · intro as S P Po Px h
    unfold sp_X6_vote at h
    split at h
    · exact Nat.le_of_ble_eq_true rfl
    · exact h.elim
  · exact List.forall_mem_cons.mpr ⟨z_coS (ct_X6_with l) kb_X6_with ks_X6_113 (by decide) (by decide), List.forall_mem_cons.mpr ⟨z_coS (ct_X6_isIn l) kb_X6_isIn ks_X6_184 (by decide) (by decide), List.forall_mem_cons.mpr ⟨z_coV (ct_X2_isPerson l) kb_X2_isPerson kv_X6_105 ko_X2 (by decide) (by decide) (by decide), List.forall_mem_cons.mpr ⟨z_coV (ct_X2_membersOf l) kb_X2_membersOf kv_X6_117 ko_X2 (by decide) (by decide) (by decide), List.forall_mem_cons.mpr ⟨z_coV (ct_X1_isClaim l) kb_X1_isClaim kv_X6_268 ko_X1 (by decide) (by decide) (by decide), fun _ h => absurd h List.not_mem_nil⟩⟩⟩⟩⟩
  · intro as S P Po Px h V hV hW
    unfold sp_X6_vote at h
    split at h
    · rename_i x1 x2 x3
      obtain ⟨hp0, hpo⟩ := h
      refine hV [] 69 0 _ _ _ _ ?_
      refine z_br (fun (h1 : (f_X2_isPerson S P x1) = false) => ?_) (fun (h1 : (f_X2_isPerson S P x1) = true) => ?_)
      · have he : e_X6_vote S P x1 x2 x3 = 1 := (if_neg (z_nt h1)).trans rfl
        rw [he] at hpo
        exact hpo
      · refine z_brn (fun (h2 : (f_X1_isClaim S P x2) = true) => ?_) (fun (h2 : (f_X1_isClaim S P x2) = false) => ?_)
        · refine ⟨(show vp_in x2 12 by first | exact t_isClaim hp0 (by assumption) | exact t_isNotice hp0 (by assumption)), ?_⟩
          refine ⟨fun (h3 : ¬ ((S 77921 x2.toNatClampNeg) = 0)) => ?_, fun (h3 : (S 77921 x2.toNatClampNeg) = 0) => ?_⟩
          · have he : e_X6_vote S P x1 x2 x3 = 3 := (if_pos h1).trans ((if_pos h2).trans ((if_neg h3).trans rfl))
            rw [he] at hpo
            exact hpo
          · refine ⟨(show vp_in x2 12 by first | exact t_isClaim hp0 (by assumption) | exact t_isNotice hp0 (by assumption)), ?_⟩
            refine ⟨(show vp_in (S 71777 x2.toNatClampNeg) 6 by exact z_J_clp hp0 _), (show z_le (S 4112 7) 30 by exact z_J_persons hp0), ?_⟩
            refine z_brn (fun (h4 : (f_X6_isIn S P (f_X2_membersOf S P (S 71777 x2.toNatClampNeg)) x1) = true) => ?_) (fun (h4 : (f_X6_isIn S P (f_X2_membersOf S P (S 71777 x2.toNatClampNeg)) x1) = false) => ?_)
            · refine ⟨(show vp_in x2 12 by first | exact t_isClaim hp0 (by assumption) | exact t_isNotice hp0 (by assumption)), ?_⟩
              refine ⟨(show vp_in x2 12 by first | exact t_isClaim hp0 (by assumption) | exact t_isNotice hp0 (by assumption)), ?_⟩
              refine ⟨(show vp_in x2 12 by first | exact t_isClaim hp0 (by assumption) | exact t_isNotice hp0 (by assumption)), ?_⟩
              refine ⟨(show vp_in x2 12 by first | exact t_isClaim hp0 (by assumption) | exact t_isNotice hp0 (by assumption)), ?_⟩
              have he : e_X6_vote S P x1 x2 x3 = 0 := (if_pos h1).trans ((if_pos h2).trans ((if_pos h3).trans ((if_pos h4).trans rfl)))
              rw [he] at hpo
              exact z_pv hpo ((if_pos h1).trans ((if_pos h2).trans ((if_pos h3).trans ((if_pos h4).trans rfl)))) (rfl)
            · have he : e_X6_vote S P x1 x2 x3 = 3 := (if_pos h1).trans ((if_pos h2).trans ((if_pos h3).trans ((if_neg (z_nt h4)).trans rfl)))
              rw [he] at hpo
              exact hpo
        · have he : e_X6_vote S P x1 x2 x3 = 1 := (if_pos h1).trans ((if_neg (z_nt h2)).trans rfl)
          rw [he] at hpo
          exact hpo
    · exact h.elim
def f_X6_register (S : z_MI) (P : z_ML) (x1 : Int32) : Int32 :=
  if (f_X1_isClaim S P x1) = true then
    if (S 77921 x1.toNatClampNeg) = 0 then
      if (f_X6_firstFailed S P x1) = 0 then
        f_X6_firstFailed S P x1
      else
        f_X6_firstFailed S P x1
    else
      0
  else
    0
def u_X6_register (S : z_MI) (P : z_ML) (x1 : Int32) : z_MI :=
  if (f_X1_isClaim S P x1) = true then
    if (S 77921 x1.toNatClampNeg) = 0 then
      if (f_X6_firstFailed S P x1) = 0 then
        va_up (va_up S 77921 (upd (S 77921) x1.toNatClampNeg (nI 1))) 82017 (upd ((va_up S 77921 (upd (S 77921) x1.toNatClampNeg (nI 1))) 82017) x1.toNatClampNeg (S 2096 8))
      else
        S
    else
      S
  else
    S
def e_X6_register (S : z_MI) (P : z_ML) (x1 : Int32) : Nat :=
  if (f_X1_isClaim S P x1) = true then
    if (S 77921 x1.toNatClampNeg) = 0 then
      if (f_X6_firstFailed S P x1) = 0 then
        0
      else
        0
    else
      3
  else
    1
def sp_X6_register : z_SX := fun as S P k kx => match as with
  | [.ref 2096, .int x1] => z_J S ∧ (match e_X6_register S P x1 with
      | 0 => k (some (.int (f_X6_register S P x1))) (u_X6_register S P x1) P
      | 1 => kx "java/lang/IndexOutOfBoundsException" S P
      | 2 => kx "java/lang/IllegalArgumentException" S P
      | _ => kx "java/lang/IllegalStateException" S P)
  | _ => False
def G_X6_register : z_G := ([(0, .aload_n 0, 1, 0), (1, .getfield 40, 4, 0), (4, .iload_n 1, 5, 0), (5, .invokevirtual 268, 8, 0), (8, .ifCond .ne 14, 11, 22), (11, .new 86, 14, 0), (14, .dup, 15, 0), (15, .ldc_w 285, 18, 0), (18, .invokespecial 90, 21, 0), (21, .athrow, 22, 0), (22, .aload_n 0, 23, 0), (23, .getfield 40, 26, 0), (26, .getfield 273, 29, 0), (29, .iload_n 1, 30, 0), (30, .iaload, 31, 0), (31, .ifCond .eq 14, 34, 45), (34, .new 73, 37, 0), (37, .dup, 38, 0), (38, .ldc_w 287, 41, 0), (41, .invokespecial 77, 44, 0), (44, .athrow, 45, 0), (45, .aload_n 0, 46, 0), (46, .iload_n 1, 47, 0), (47, .invokevirtual 289, 50, 0), (50, .istore_n 2, 51, 0), (51, .iload_n 2, 52, 0), (52, .ifCond .ne 26, 55, 78), (55, .aload_n 0, 56, 0), (56, .getfield 40, 59, 0), (59, .getfield 273, 62, 0), (62, .iload_n 1, 63, 0), (63, .iconst 1, 64, 0), (64, .iastore, 65, 0), (65, .aload_n 0, 66, 0), (66, .getfield 40, 69, 0), (69, .getfield 292, 72, 0), (72, .iload_n 1, 73, 0), (73, .aload_n 0, 74, 0), (74, .getfield 59, 77, 0), (77, .iastore, 78, 0), (78, .iload_n 2, 79, 0), (79, .ireturn, 80, 0)], [(40, 2096, 4, some 12296), (59, 2096, 8, none), (273, 12296, 3, some 77921), (292, 12296, 5, some 82017)], [(268, 2, (z_rc 12296 sp_X1_isClaim)), (289, 2, (z_rc 2096 sp_X6_firstFailed))], [], [], [(11, "java/lang/IndexOutOfBoundsException"), (34, "java/lang/IllegalStateException")], [], some .int)
def ss_X6_register : List z_ST := [(11, "java/lang/IndexOutOfBoundsException", 86, 285, 90, "no such claim", true), (34, "java/lang/IllegalStateException", 73, 287, 77, "the claim is not FILED", true)]
set_option maxRecDepth 20000 in
set_option maxHeartbeats 4000000 in
theorem ct_X6_register (l : Launch) (hl9 : l.stackTraces = false) : z_CX l yX6_register cX6_register 3 (some .int) sp_X6_register 6 := by
  refine z_CX_of G_X6_register ss_X6_register hl9 (by decide) (by decide) (by decide +kernel) (z_pok_of ft_X6 ci_X6 cL_X6_L fo_X6 co_X6 lo_X6 (by decide +kernel)) rfl rfl (by decide +kernel) ?_ ?_ ?_
  · intro as S P Po Px h
    unfold sp_X6_register at h
    split at h
    · exact Nat.le_of_ble_eq_true rfl
    · exact h.elim
  · exact List.forall_mem_cons.mpr ⟨z_coV (ct_X1_isClaim l) kb_X1_isClaim kv_X6_268 ko_X1 (by decide) (by decide) (by decide), List.forall_mem_cons.mpr ⟨z_coV (ct_X6_firstFailed l) kb_X6_firstFailed kv_X6_289 ko_X6 (by decide) (by decide) (by decide), fun _ h => absurd h List.not_mem_nil⟩⟩
  · intro as S P Po Px h V hV hW
    unfold sp_X6_register at h
    split at h
    · rename_i x1
      obtain ⟨hp0, hpo⟩ := h
      refine hV [] 47 0 _ _ _ _ ?_
      refine z_brn (fun (h1 : (f_X1_isClaim S P x1) = true) => ?_) (fun (h1 : (f_X1_isClaim S P x1) = false) => ?_)
      · refine ⟨(show vp_in x1 12 by first | exact t_isClaim hp0 (by assumption) | exact t_isNotice hp0 (by assumption)), ?_⟩
        refine ⟨fun (h2 : (S 77921 x1.toNatClampNeg) = 0) => ?_, fun (h2 : ¬ ((S 77921 x1.toNatClampNeg) = 0)) => ?_⟩
        · refine ⟨(show vp_in x1 12 by first | exact t_isClaim hp0 (by assumption) | exact t_isNotice hp0 (by assumption)), (show vp_in (S 71777 x1.toNatClampNeg) 6 by exact z_J_clp hp0 _), (show z_le (S 4112 7) 30 by exact z_J_persons hp0), (show z_le (S 8216 7) 60 by exact z_J_marks hp0), (show z_le (S 49201 (S 71777 x1.toNatClampNeg).toNatClampNeg) 8 by exact z_J_expl hp0 _), (show z_le (S 12296 8) 12 by exact z_J_claims hp0), ?_⟩
          refine ⟨fun (h3 : ¬ ((f_X6_firstFailed S P x1) = 0)) => ?_, fun (h3 : (f_X6_firstFailed S P x1) = 0) => ?_⟩
          · have he : e_X6_register S P x1 = 0 := (if_pos h1).trans ((if_pos h2).trans ((if_neg h3).trans rfl))
            rw [he] at hpo
            exact z_pi hpo ((if_pos h1).trans ((if_pos h2).trans ((if_neg h3).trans rfl))) ((if_pos h1).trans ((if_pos h2).trans ((if_neg h3).trans rfl))) (rfl)
          · refine ⟨(show vp_in x1 12 by first | exact t_isClaim hp0 (by assumption) | exact t_isNotice hp0 (by assumption)), ?_⟩
            refine ⟨(show vp_in x1 12 by first | exact t_isClaim hp0 (by assumption) | exact t_isNotice hp0 (by assumption)), ?_⟩
            have he : e_X6_register S P x1 = 0 := (if_pos h1).trans ((if_pos h2).trans ((if_pos h3).trans rfl))
            rw [he] at hpo
            exact z_pi hpo ((if_pos h1).trans ((if_pos h2).trans ((if_pos h3).trans rfl))) ((if_pos h1).trans ((if_pos h2).trans ((if_pos h3).trans rfl))) (rfl)
        · have he : e_X6_register S P x1 = 3 := (if_pos h1).trans ((if_neg h2).trans rfl)
          rw [he] at hpo
          exact hpo
      · have he : e_X6_register S P x1 = 1 := (if_neg (z_nt h1)).trans rfl
        rw [he] at hpo
        exact hpo
    · exact h.elim
def f_X6_determine (S : z_MI) (P : z_ML) (x1 : Int32) : Int32 :=
  if (f_X1_isClaim S P x1) = true then
    if (S 77921 x1.toNatClampNeg) = (nI 1) then
      (u_X1_grant S P x1 (f_X6_provedOf S P x1)) 79969 x1.toNatClampNeg
    else
      0
  else
    0
def u_X6_determine (S : z_MI) (P : z_ML) (x1 : Int32) : z_MI :=
  if (f_X1_isClaim S P x1) = true then
    if (S 77921 x1.toNatClampNeg) = (nI 1) then
      u_X1_grant S P x1 (f_X6_provedOf S P x1)
    else
      S
  else
    S
def e_X6_determine (S : z_MI) (P : z_ML) (x1 : Int32) : Nat :=
  if (f_X1_isClaim S P x1) = true then
    if (S 77921 x1.toNatClampNeg) = (nI 1) then
      0
    else
      3
  else
    1
def sp_X6_determine : z_SX := fun as S P k kx => match as with
  | [.ref 2096, .int x1] => z_J S ∧ (match e_X6_determine S P x1 with
      | 0 => k (some (.int (f_X6_determine S P x1))) (u_X6_determine S P x1) P
      | 1 => kx "java/lang/IndexOutOfBoundsException" S P
      | 2 => kx "java/lang/IllegalArgumentException" S P
      | _ => kx "java/lang/IllegalStateException" S P)
  | _ => False
def G_X6_determine : z_G := ([(0, .aload_n 0, 1, 0), (1, .getfield 40, 4, 0), (4, .iload_n 1, 5, 0), (5, .invokevirtual 268, 8, 0), (8, .ifCond .ne 14, 11, 22), (11, .new 86, 14, 0), (14, .dup, 15, 0), (15, .ldc_w 285, 18, 0), (18, .invokespecial 90, 21, 0), (21, .athrow, 22, 0), (22, .aload_n 0, 23, 0), (23, .getfield 40, 26, 0), (26, .getfield 273, 29, 0), (29, .iload_n 1, 30, 0), (30, .iaload, 31, 0), (31, .iconst 1, 32, 0), (32, .if_icmp .eq 14, 35, 46), (35, .new 73, 38, 0), (38, .dup, 39, 0), (39, .ldc_w 293, 42, 0), (42, .invokespecial 77, 45, 0), (45, .athrow, 46, 0), (46, .aload_n 0, 47, 0), (47, .getfield 40, 50, 0), (50, .iload_n 1, 51, 0), (51, .aload_n 0, 52, 0), (52, .iload_n 1, 53, 0), (53, .invokevirtual 295, 56, 0), (56, .invokevirtual 298, 59, 0), (59, .aload_n 0, 60, 0), (60, .getfield 40, 63, 0), (63, .getfield 302, 66, 0), (66, .iload_n 1, 67, 0), (67, .iaload, 68, 0), (68, .ireturn, 69, 0)], [(40, 2096, 4, some 12296), (273, 12296, 3, some 77921), (302, 12296, 4, some 79969)], [(268, 2, (z_rc 12296 sp_X1_isClaim)), (295, 2, (z_rc 2096 sp_X6_provedOf)), (298, 3, (z_rc 12296 sp_X1_grant))], [], [], [(11, "java/lang/IndexOutOfBoundsException"), (35, "java/lang/IllegalStateException")], [], some .int)
def ss_X6_determine : List z_ST := [(11, "java/lang/IndexOutOfBoundsException", 86, 285, 90, "no such claim", true), (35, "java/lang/IllegalStateException", 73, 293, 77, "the claim is not REGISTERED", true)]
set_option maxRecDepth 20000 in
set_option maxHeartbeats 4000000 in
theorem ct_X6_determine (l : Launch) (hl9 : l.stackTraces = false) : z_CX l yX6_determine cX6_determine 2 (some .int) sp_X6_determine 6 := by
  refine z_CX_of G_X6_determine ss_X6_determine hl9 (by decide) (by decide) (by decide +kernel) (z_pok_of ft_X6 ci_X6 cL_X6_L fo_X6 co_X6 lo_X6 (by decide +kernel)) rfl rfl (by decide +kernel) ?_ ?_ ?_
  · intro as S P Po Px h
    unfold sp_X6_determine at h
    split at h
    · exact Nat.le_of_ble_eq_true rfl
    · exact h.elim
  · exact List.forall_mem_cons.mpr ⟨z_coV (ct_X1_isClaim l) kb_X1_isClaim kv_X6_268 ko_X1 (by decide) (by decide) (by decide), List.forall_mem_cons.mpr ⟨z_coV (ct_X6_provedOf l) kb_X6_provedOf kv_X6_295 ko_X6 (by decide) (by decide) (by decide), List.forall_mem_cons.mpr ⟨z_coV (ct_X1_grant l) kb_X1_grant kv_X6_298 ko_X1 (by decide) (by decide) (by decide), fun _ h => absurd h List.not_mem_nil⟩⟩⟩
  · intro as S P Po Px h V hV hW
    unfold sp_X6_determine at h
    split at h
    · rename_i x1
      obtain ⟨hp0, hpo⟩ := h
      refine hV [] 40 0 _ _ _ _ ?_
      refine z_brn (fun (h1 : (f_X1_isClaim S P x1) = true) => ?_) (fun (h1 : (f_X1_isClaim S P x1) = false) => ?_)
      · refine ⟨(show vp_in x1 12 by first | exact t_isClaim hp0 (by assumption) | exact t_isNotice hp0 (by assumption)), ?_⟩
        refine ⟨fun (h2 : (S 77921 x1.toNatClampNeg) = (nI 1)) => ?_, fun (h2 : ¬ ((S 77921 x1.toNatClampNeg) = (nI 1))) => ?_⟩
        · refine ⟨(show vp_in x1 12 by first | exact t_isClaim hp0 (by assumption) | exact t_isNotice hp0 (by assumption)), (show z_le (S 8216 7) 60 by exact z_J_marks hp0), (show z_le (S 49201 (S 71777 x1.toNatClampNeg).toNatClampNeg) 8 by exact z_J_expl hp0 _), (show vp_in (S 71777 x1.toNatClampNeg) 6 by exact z_J_clp hp0 _), ?_⟩
          refine ⟨(show vp_in x1 12 by first | exact t_isClaim hp0 (by assumption) | exact t_isNotice hp0 (by assumption)), ?_⟩
          refine ⟨(show vp_in x1 12 by first | exact t_isClaim hp0 (by assumption) | exact t_isNotice hp0 (by assumption)), ?_⟩
          have he : e_X6_determine S P x1 = 0 := (if_pos h1).trans ((if_pos h2).trans rfl)
          rw [he] at hpo
          exact z_pi hpo ((if_pos h1).trans ((if_pos h2).trans rfl)) ((if_pos h1).trans ((if_pos h2).trans rfl)) (rfl)
        · have he : e_X6_determine S P x1 = 3 := (if_pos h1).trans ((if_neg h2).trans rfl)
          rw [he] at hpo
          exact hpo
      · have he : e_X6_determine S P x1 = 1 := (if_neg (z_nt h1)).trans rfl
        rw [he] at hpo
        exact hpo
    · exact h.elim
def f_X6_revise (S : z_MI) (P : z_ML) (x1 : Int32) : Int32 :=
  if (f_X1_isClaim S P x1) = true then
    if (S 77921 x1.toNatClampNeg) = (nI 2) then
      f_J6_bitCount_0f7a4 (u_X1_grant S P x1 (f_X6_provedOf S P x1)) P ((S 79969 x1.toNatClampNeg) ^^^ ((u_X1_grant S P x1 (f_X6_provedOf S P x1)) 79969 x1.toNatClampNeg))
    else
      0
  else
    0
def u_X6_revise (S : z_MI) (P : z_ML) (x1 : Int32) : z_MI :=
  if (f_X1_isClaim S P x1) = true then
    if (S 77921 x1.toNatClampNeg) = (nI 2) then
      u_X1_grant S P x1 (f_X6_provedOf S P x1)
    else
      S
  else
    S
def e_X6_revise (S : z_MI) (P : z_ML) (x1 : Int32) : Nat :=
  if (f_X1_isClaim S P x1) = true then
    if (S 77921 x1.toNatClampNeg) = (nI 2) then
      0
    else
      3
  else
    1
def sp_X6_revise : z_SX := fun as S P k kx => match as with
  | [.ref 2096, .int x1] => z_J S ∧ (match e_X6_revise S P x1 with
      | 0 => k (some (.int (f_X6_revise S P x1))) (u_X6_revise S P x1) P
      | 1 => kx "java/lang/IndexOutOfBoundsException" S P
      | 2 => kx "java/lang/IllegalArgumentException" S P
      | _ => kx "java/lang/IllegalStateException" S P)
  | _ => False
def G_X6_revise : z_G := ([(0, .aload_n 0, 1, 0), (1, .getfield 40, 4, 0), (4, .iload_n 1, 5, 0), (5, .invokevirtual 268, 8, 0), (8, .ifCond .ne 14, 11, 22), (11, .new 86, 14, 0), (14, .dup, 15, 0), (15, .ldc_w 285, 18, 0), (18, .invokespecial 90, 21, 0), (21, .athrow, 22, 0), (22, .aload_n 0, 23, 0), (23, .getfield 40, 26, 0), (26, .getfield 273, 29, 0), (29, .iload_n 1, 30, 0), (30, .iaload, 31, 0), (31, .iconst 2, 32, 0), (32, .if_icmp .eq 14, 35, 46), (35, .new 73, 38, 0), (38, .dup, 39, 0), (39, .ldc_w 305, 42, 0), (42, .invokespecial 77, 45, 0), (45, .athrow, 46, 0), (46, .aload_n 0, 47, 0), (47, .getfield 40, 50, 0), (50, .getfield 302, 53, 0), (53, .iload_n 1, 54, 0), (54, .iaload, 55, 0), (55, .istore_n 2, 56, 0), (56, .aload_n 0, 57, 0), (57, .getfield 40, 60, 0), (60, .iload_n 1, 61, 0), (61, .aload_n 0, 62, 0), (62, .iload_n 1, 63, 0), (63, .invokevirtual 295, 66, 0), (66, .invokevirtual 298, 69, 0), (69, .iload_n 2, 70, 0), (70, .aload_n 0, 71, 0), (71, .getfield 40, 74, 0), (74, .getfield 302, 77, 0), (77, .iload_n 1, 78, 0), (78, .iaload, 79, 0), (79, .ixor, 80, 0), (80, .invokestatic 120, 83, 0), (83, .ireturn, 84, 0)], [(40, 2096, 4, some 12296), (273, 12296, 3, some 77921), (302, 12296, 4, some 79969)], [(100120, 1, sp_J6_bitCount_0f7a4), (268, 2, (z_rc 12296 sp_X1_isClaim)), (295, 2, (z_rc 2096 sp_X6_provedOf)), (298, 3, (z_rc 12296 sp_X1_grant))], [], [], [(11, "java/lang/IndexOutOfBoundsException"), (35, "java/lang/IllegalStateException")], [], some .int)
def ss_X6_revise : List z_ST := [(11, "java/lang/IndexOutOfBoundsException", 86, 285, 90, "no such claim", true), (35, "java/lang/IllegalStateException", 73, 305, 77, "the claim is not DETERMINED", true)]
set_option maxRecDepth 20000 in
set_option maxHeartbeats 4000000 in
theorem ct_X6_revise (l : Launch) (hl9 : l.stackTraces = false) : z_CX l yX6_revise cX6_revise 3 (some .int) sp_X6_revise 6 := by
  refine z_CX_of G_X6_revise ss_X6_revise hl9 (by decide) (by decide) (by decide +kernel) (z_pok_of ft_X6 ci_X6 cL_X6_L fo_X6 co_X6 lo_X6 (by decide +kernel)) rfl rfl (by decide +kernel) ?_ ?_ ?_
  · intro as S P Po Px h
    unfold sp_X6_revise at h
    split at h
    · exact Nat.le_of_ble_eq_true rfl
    · exact h.elim
  · exact List.forall_mem_cons.mpr ⟨z_coS (ct_J6_bitCount_0f7a4 l) kb_J6_bitCount_0f7a4 ks_X6_120 (by decide) (by decide), List.forall_mem_cons.mpr ⟨z_coV (ct_X1_isClaim l) kb_X1_isClaim kv_X6_268 ko_X1 (by decide) (by decide) (by decide), List.forall_mem_cons.mpr ⟨z_coV (ct_X6_provedOf l) kb_X6_provedOf kv_X6_295 ko_X6 (by decide) (by decide) (by decide), List.forall_mem_cons.mpr ⟨z_coV (ct_X1_grant l) kb_X1_grant kv_X6_298 ko_X1 (by decide) (by decide) (by decide), fun _ h => absurd h List.not_mem_nil⟩⟩⟩⟩
  · intro as S P Po Px h V hV hW
    unfold sp_X6_revise at h
    split at h
    · rename_i x1
      obtain ⟨hp0, hpo⟩ := h
      refine hV [] 49 0 _ _ _ _ ?_
      refine z_brn (fun (h1 : (f_X1_isClaim S P x1) = true) => ?_) (fun (h1 : (f_X1_isClaim S P x1) = false) => ?_)
      · refine ⟨(show vp_in x1 12 by first | exact t_isClaim hp0 (by assumption) | exact t_isNotice hp0 (by assumption)), ?_⟩
        refine ⟨fun (h2 : (S 77921 x1.toNatClampNeg) = (nI 2)) => ?_, fun (h2 : ¬ ((S 77921 x1.toNatClampNeg) = (nI 2))) => ?_⟩
        · refine ⟨(show vp_in x1 12 by first | exact t_isClaim hp0 (by assumption) | exact t_isNotice hp0 (by assumption)), ?_⟩
          refine ⟨(show vp_in x1 12 by first | exact t_isClaim hp0 (by assumption) | exact t_isNotice hp0 (by assumption)), (show z_le (S 8216 7) 60 by exact z_J_marks hp0), (show z_le (S 49201 (S 71777 x1.toNatClampNeg).toNatClampNeg) 8 by exact z_J_expl hp0 _), (show vp_in (S 71777 x1.toNatClampNeg) 6 by exact z_J_clp hp0 _), ?_⟩
          refine ⟨(show vp_in x1 12 by first | exact t_isClaim hp0 (by assumption) | exact t_isNotice hp0 (by assumption)), ?_⟩
          refine ⟨(show vp_in x1 12 by first | exact t_isClaim hp0 (by assumption) | exact t_isNotice hp0 (by assumption)), ?_⟩
          have he : e_X6_revise S P x1 = 0 := (if_pos h1).trans ((if_pos h2).trans rfl)
          rw [he] at hpo
          exact z_pi hpo ((if_pos h1).trans ((if_pos h2).trans rfl)) ((if_pos h1).trans ((if_pos h2).trans rfl)) (rfl)
        · have he : e_X6_revise S P x1 = 3 := (if_pos h1).trans ((if_neg h2).trans rfl)
          rw [he] at hpo
          exact hpo
      · have he : e_X6_revise S P x1 = 1 := (if_neg (z_nt h1)).trans rfl
        rw [he] at hpo
        exact hpo
    · exact h.elim
def f_X6_ofClaim (S : z_MI) (P : z_ML) (x1 : Int32) (x2 : Int32) : Int32 :=
  if (f_X1_isClaim S P x1) = true then
    if x2 < 0 then
      0
    else
      if x2 ≤ (nI 3) then
        if x2 = nI 0 then
          S 77921 x1.toNatClampNeg
        else
        if x2 = nI 1 then
          S 79969 x1.toNatClampNeg
        else
        if x2 = nI 2 then
          f_X1_rivalsOf S P x1
        else
          S 82017 x1.toNatClampNeg
      else
        0
  else
    0
def e_X6_ofClaim (S : z_MI) (P : z_ML) (x1 : Int32) (x2 : Int32) : Nat :=
  if (f_X1_isClaim S P x1) = true then
    if x2 < 0 then
      2
    else
      if x2 ≤ (nI 3) then
        if x2 = nI 0 then
          0
        else
        if x2 = nI 1 then
          0
        else
        if x2 = nI 2 then
          0
        else
          0
      else
        2
  else
    1
def sp_X6_ofClaim : z_SX := fun as S P k kx => match as with
  | [.ref 2096, .int x1, .int x2] => z_J S ∧ (match e_X6_ofClaim S P x1 x2 with
      | 0 => k (some (.int (f_X6_ofClaim S P x1 x2))) S P
      | 1 => kx "java/lang/IndexOutOfBoundsException" S P
      | 2 => kx "java/lang/IllegalArgumentException" S P
      | _ => kx "java/lang/IllegalStateException" S P)
  | _ => False
def G_X6_ofClaim : z_G := ([(0, .aload_n 0, 1, 0), (1, .getfield 40, 4, 0), (4, .iload_n 1, 5, 0), (5, .invokevirtual 268, 8, 0), (8, .ifCond .ne 14, 11, 22), (11, .new 86, 14, 0), (14, .dup, 15, 0), (15, .ldc_w 285, 18, 0), (18, .invokespecial 90, 21, 0), (21, .athrow, 22, 0), (22, .iload_n 2, 23, 0), (23, .ifCond .lt 8, 26, 31), (26, .iload_n 2, 27, 0), (27, .iconst 3, 28, 0), (28, .if_icmp .le 14, 31, 42), (31, .new 63, 34, 0), (34, .dup, 35, 0), (35, .ldc_w 307, 38, 0), (38, .invokespecial 67, 41, 0), (41, .athrow, 42, 0), (42, .iload_n 2, 43, 0), (43, .tableswitch 54 0 2 #[25, 35, 45], 68, 97), (68, .aload_n 0, 69, 0), (69, .getfield 40, 72, 0), (72, .getfield 273, 75, 0), (75, .iload_n 1, 76, 0), (76, .iaload, 77, 0), (77, .ireturn, 78, 0), (78, .aload_n 0, 79, 0), (79, .getfield 40, 82, 0), (82, .getfield 302, 85, 0), (85, .iload_n 1, 86, 0), (86, .iaload, 87, 0), (87, .ireturn, 88, 0), (88, .aload_n 0, 89, 0), (89, .getfield 40, 92, 0), (92, .iload_n 1, 93, 0), (93, .invokevirtual 309, 96, 0), (96, .ireturn, 97, 0), (97, .aload_n 0, 98, 0), (98, .getfield 40, 101, 0), (101, .getfield 292, 104, 0), (104, .iload_n 1, 105, 0), (105, .iaload, 106, 0), (106, .ireturn, 107, 0)], [(40, 2096, 4, some 12296), (273, 12296, 3, some 77921), (292, 12296, 5, some 82017), (302, 12296, 4, some 79969)], [(268, 2, (z_rc 12296 sp_X1_isClaim)), (309, 2, (z_rc 12296 sp_X1_rivalsOf))], [], [], [(11, "java/lang/IndexOutOfBoundsException"), (31, "java/lang/IllegalArgumentException")], [68, 78, 88], some .int)
def ss_X6_ofClaim : List z_ST := [(11, "java/lang/IndexOutOfBoundsException", 86, 285, 90, "no such claim", true), (31, "java/lang/IllegalArgumentException", 63, 307, 67, "what is out of range", true)]
set_option maxRecDepth 20000 in
set_option maxHeartbeats 4000000 in
theorem ct_X6_ofClaim (l : Launch) (hl9 : l.stackTraces = false) : z_CX l yX6_ofClaim cX6_ofClaim 3 (some .int) sp_X6_ofClaim 6 := by
  refine z_CX_of G_X6_ofClaim ss_X6_ofClaim hl9 (by decide) (by decide) (by decide +kernel) (z_pok_of ft_X6 ci_X6 cL_X6_L fo_X6 co_X6 lo_X6 (by decide +kernel)) rfl rfl (by decide +kernel) ?_ ?_ ?_
  · intro as S P Po Px h
    unfold sp_X6_ofClaim at h
    split at h
    · exact Nat.le_of_ble_eq_true rfl
    · exact h.elim
  · exact List.forall_mem_cons.mpr ⟨z_coV (ct_X1_isClaim l) kb_X1_isClaim kv_X6_268 ko_X1 (by decide) (by decide) (by decide), List.forall_mem_cons.mpr ⟨z_coV (ct_X1_rivalsOf l) kb_X1_rivalsOf kv_X6_309 ko_X1 (by decide) (by decide) (by decide), fun _ h => absurd h List.not_mem_nil⟩⟩
  · intro as S P Po Px h V hV hW
    unfold sp_X6_ofClaim at h
    split at h
    · rename_i x1 x2
      obtain ⟨hp0, hpo⟩ := h
      refine hV [] 50 0 _ _ _ _ ?_
      refine z_brn (fun (h1 : (f_X1_isClaim S P x1) = true) => ?_) (fun (h1 : (f_X1_isClaim S P x1) = false) => ?_)
      · refine ⟨fun (h2 : x2 < 0) => ?_, fun (h2 : ¬ (x2 < 0)) => ?_⟩
        · have he : e_X6_ofClaim S P x1 x2 = 2 := (if_pos h1).trans ((if_pos h2).trans rfl)
          rw [he] at hpo
          exact hpo
        · refine ⟨fun (h3 : x2 ≤ (nI 3)) => ?_, fun (h3 : ¬ (x2 ≤ (nI 3))) => ?_⟩
          · refine ⟨fun (h4 : x2 = nI 0) => ?_, fun (h5 : x2 = nI 1) => ?_, fun (h6 : x2 = nI 2) => ?_, fun h7 => ?_⟩
            · refine ⟨(show vp_in x1 12 by first | exact t_isClaim hp0 (by assumption) | exact t_isNotice hp0 (by assumption)), ?_⟩
              have he : e_X6_ofClaim S P x1 x2 = 0 := (if_pos h1).trans ((if_neg h2).trans ((if_pos h3).trans ((if_pos h4).trans rfl)))
              rw [he] at hpo
              exact z_pi hpo ((if_pos h1).trans ((if_neg h2).trans ((if_pos h3).trans ((if_pos h4).trans rfl)))) (rfl) (rfl)
            · refine ⟨(show vp_in x1 12 by first | exact t_isClaim hp0 (by assumption) | exact t_isNotice hp0 (by assumption)), ?_⟩
              have he : e_X6_ofClaim S P x1 x2 = 0 := (if_pos h1).trans ((if_neg h2).trans ((if_pos h3).trans ((if_neg (show ¬ x2 = nI 0 by rw [h5]; decide)).trans ((if_pos h5).trans rfl))))
              rw [he] at hpo
              exact z_pi hpo ((if_pos h1).trans ((if_neg h2).trans ((if_pos h3).trans ((if_neg (show ¬ x2 = nI 0 by rw [h5]; decide)).trans ((if_pos h5).trans rfl))))) (rfl) (rfl)
            · refine ⟨(show z_le (S 12296 8) 12 by exact z_J_claims hp0), (show vp_in x1 12 by first | exact t_isClaim hp0 (by assumption) | exact t_isNotice hp0 (by assumption)), ?_⟩
              have he : e_X6_ofClaim S P x1 x2 = 0 := (if_pos h1).trans ((if_neg h2).trans ((if_pos h3).trans ((if_neg (show ¬ x2 = nI 0 by rw [h6]; decide)).trans ((if_neg (show ¬ x2 = nI 1 by rw [h6]; decide)).trans ((if_pos h6).trans rfl)))))
              rw [he] at hpo
              exact z_pi hpo ((if_pos h1).trans ((if_neg h2).trans ((if_pos h3).trans ((if_neg (show ¬ x2 = nI 0 by rw [h6]; decide)).trans ((if_neg (show ¬ x2 = nI 1 by rw [h6]; decide)).trans ((if_pos h6).trans rfl)))))) (rfl) (rfl)
            · refine ⟨(show vp_in x1 12 by first | exact t_isClaim hp0 (by assumption) | exact t_isNotice hp0 (by assumption)), ?_⟩
              have he : e_X6_ofClaim S P x1 x2 = 0 := (if_pos h1).trans ((if_neg h2).trans ((if_pos h3).trans ((if_neg (h7 0 (by decide))).trans ((if_neg (h7 1 (by decide))).trans ((if_neg (h7 2 (by decide))).trans rfl)))))
              rw [he] at hpo
              exact z_pi hpo ((if_pos h1).trans ((if_neg h2).trans ((if_pos h3).trans ((if_neg (h7 0 (by decide))).trans ((if_neg (h7 1 (by decide))).trans ((if_neg (h7 2 (by decide))).trans rfl)))))) (rfl) (rfl)
          · have he : e_X6_ofClaim S P x1 x2 = 2 := (if_pos h1).trans ((if_neg h2).trans ((if_neg h3).trans rfl))
            rw [he] at hpo
            exact hpo
      · have he : e_X6_ofClaim S P x1 x2 = 1 := (if_neg (z_nt h1)).trans rfl
        rw [he] at hpo
        exact hpo
    · exact h.elim
def f_X6_holders (S : z_MI) (P : z_ML) (x1 : Int32) : Int32 :=
  if (f_X6_isPlace S P x1) = true then
    f_X1_holdersOf S P x1
  else
    0
def e_X6_holders (S : z_MI) (P : z_ML) (x1 : Int32) : Nat :=
  if (f_X6_isPlace S P x1) = true then
    0
  else
    1
def sp_X6_holders : z_SX := fun as S P k kx => match as with
  | [.ref 2096, .int x1] => z_J S ∧ (match e_X6_holders S P x1 with
      | 0 => k (some (.int (f_X6_holders S P x1))) S P
      | 1 => kx "java/lang/IndexOutOfBoundsException" S P
      | 2 => kx "java/lang/IllegalArgumentException" S P
      | _ => kx "java/lang/IllegalStateException" S P)
  | _ => False
def G_X6_holders : z_G := ([(0, .iload_n 1, 1, 0), (1, .invokestatic 150, 4, 0), (4, .ifCond .ne 13, 7, 17), (7, .new 86, 10, 0), (10, .dup, 11, 0), (11, .ldc 242, 13, 0), (13, .invokespecial 90, 16, 0), (16, .athrow, 17, 0), (17, .aload_n 0, 18, 0), (18, .getfield 40, 21, 0), (21, .iload_n 1, 22, 0), (22, .invokevirtual 312, 25, 0), (25, .ireturn, 26, 0)], [(40, 2096, 4, some 12296)], [(100150, 1, sp_X6_isPlace), (312, 2, (z_rc 12296 sp_X1_holdersOf))], [], [], [(7, "java/lang/IndexOutOfBoundsException")], [], some .int)
def ss_X6_holders : List z_ST := [(7, "java/lang/IndexOutOfBoundsException", 86, 242, 90, "no such place", false)]
set_option maxRecDepth 20000 in
set_option maxHeartbeats 4000000 in
theorem ct_X6_holders (l : Launch) (hl9 : l.stackTraces = false) : z_CX l yX6_holders cX6_holders 2 (some .int) sp_X6_holders 6 := by
  refine z_CX_of G_X6_holders ss_X6_holders hl9 (by decide) (by decide) (by decide +kernel) (z_pok_of ft_X6 ci_X6 cL_X6_L fo_X6 co_X6 lo_X6 (by decide +kernel)) rfl rfl (by decide +kernel) ?_ ?_ ?_
  · intro as S P Po Px h
    unfold sp_X6_holders at h
    split at h
    · exact Nat.le_of_ble_eq_true rfl
    · exact h.elim
  · exact List.forall_mem_cons.mpr ⟨z_coS (ct_X6_isPlace l) kb_X6_isPlace ks_X6_150 (by decide) (by decide), List.forall_mem_cons.mpr ⟨z_coV (ct_X1_holdersOf l) kb_X1_holdersOf kv_X6_312 ko_X1 (by decide) (by decide) (by decide), fun _ h => absurd h List.not_mem_nil⟩⟩
  · intro as S P Po Px h V hV hW
    unfold sp_X6_holders at h
    split at h
    · rename_i x1
      obtain ⟨hp0, hpo⟩ := h
      refine hV [] 18 0 _ _ _ _ ?_
      refine z_brn (fun (h1 : (f_X6_isPlace S P x1) = true) => ?_) (fun (h1 : (f_X6_isPlace S P x1) = false) => ?_)
      · refine ⟨(show z_le (S 12296 8) 12 by exact z_J_claims hp0), ?_⟩
        have he : e_X6_holders S P x1 = 0 := (if_pos h1).trans rfl
        rw [he] at hpo
        exact z_pi hpo ((if_pos h1).trans rfl) (rfl) (rfl)
      · have he : e_X6_holders S P x1 = 1 := (if_neg (z_nt h1)).trans rfl
        rw [he] at hpo
        exact hpo
    · exact h.elim
def f_X6_may (S : z_MI) (P : z_ML) (x1 : Int32) (x2 : Int32) (x3 : Int32) : Int32 :=
  if (f_X2_isPeople S P x1) = true then
    if (f_X6_isPlace S P x2) = true then
      if x3 < 0 then
        0
      else
        if x3 ≤ (nI 4) then
          if (f_X6_isIn S P (f_X6_rightsOf S P x1 x2) x3) = true then
            if (f_X6_isIn S P (f_X0_yieldingAt S P x2 (S 2096 8)) x3) = true then
              nI 1
            else
              nI 2
          else
            nI 0
        else
          0
    else
      0
  else
    0
def e_X6_may (S : z_MI) (P : z_ML) (x1 : Int32) (x2 : Int32) (x3 : Int32) : Nat :=
  if (f_X2_isPeople S P x1) = true then
    if (f_X6_isPlace S P x2) = true then
      if x3 < 0 then
        1
      else
        if x3 ≤ (nI 4) then
          if (f_X6_isIn S P (f_X6_rightsOf S P x1 x2) x3) = true then
            if (f_X6_isIn S P (f_X0_yieldingAt S P x2 (S 2096 8)) x3) = true then
              0
            else
              0
          else
            0
        else
          1
    else
      1
  else
    1
def sp_X6_may : z_SX := fun as S P k kx => match as with
  | [.ref 2096, .int x1, .int x2, .int x3] => z_J S ∧ (match e_X6_may S P x1 x2 x3 with
      | 0 => k (some (.int (f_X6_may S P x1 x2 x3))) S P
      | 1 => kx "java/lang/IndexOutOfBoundsException" S P
      | 2 => kx "java/lang/IllegalArgumentException" S P
      | _ => kx "java/lang/IllegalStateException" S P)
  | _ => False
def G_X6_may : z_G := ([(0, .aload_n 0, 1, 0), (1, .getfield 10, 4, 0), (4, .iload_n 1, 5, 0), (5, .invokevirtual 102, 8, 0), (8, .ifCond .eq 19, 11, 27), (11, .iload_n 2, 12, 0), (12, .invokestatic 150, 15, 0), (15, .ifCond .eq 12, 18, 27), (18, .iload_n 3, 19, 0), (19, .ifCond .lt 8, 22, 27), (22, .iload_n 3, 23, 0), (23, .iconst 4, 24, 0), (24, .if_icmp .le 14, 27, 38), (27, .new 86, 30, 0), (30, .dup, 31, 0), (31, .ldc_w 315, 34, 0), (34, .invokespecial 90, 37, 0), (37, .athrow, 38, 0), (38, .aload_n 0, 39, 0), (39, .iload_n 1, 40, 0), (40, .iload_n 2, 41, 0), (41, .invokevirtual 317, 44, 0), (44, .iload_n 3, 45, 0), (45, .invokestatic 184, 48, 0), (48, .ifCond .ne 5, 51, 53), (51, .iconst 0, 52, 0), (52, .ireturn, 53, 0), (53, .aload_n 0, 54, 0), (54, .getfield 33, 57, 0), (57, .iload_n 2, 58, 0), (58, .aload_n 0, 59, 0), (59, .getfield 59, 62, 0), (62, .invokevirtual 320, 65, 0), (65, .iload_n 3, 66, 0), (66, .invokestatic 184, 69, 0), (69, .ifCond .eq 7, 72, 76), (72, .iconst 1, 73, 0), (73, .goto 4, 76, 77), (76, .iconst 2, 77, 0), (77, .ireturn, 78, 0)], [(10, 2096, 0, some 4112), (33, 2096, 3, some 10240), (59, 2096, 8, none)], [(100150, 1, sp_X6_isPlace), (100184, 2, sp_X6_isIn), (102, 2, (z_rc 4112 sp_X2_isPeople)), (317, 3, (z_rc 2096 sp_X6_rightsOf)), (320, 3, (z_rc 10240 sp_X0_yieldingAt))], [], [], [(27, "java/lang/IndexOutOfBoundsException")], [], some .int)
def ss_X6_may : List z_ST := [(27, "java/lang/IndexOutOfBoundsException", 86, 315, 90, "no such people, place or right", true)]
set_option maxRecDepth 20000 in
set_option maxHeartbeats 4000000 in
theorem ct_X6_may (l : Launch) (hl9 : l.stackTraces = false) : z_CX l yX6_may cX6_may 4 (some .int) sp_X6_may 6 := by
  refine z_CX_of G_X6_may ss_X6_may hl9 (by decide) (by decide) (by decide +kernel) (z_pok_of ft_X6 ci_X6 cL_X6_L fo_X6 co_X6 lo_X6 (by decide +kernel)) rfl rfl (by decide +kernel) ?_ ?_ ?_
  · intro as S P Po Px h
    unfold sp_X6_may at h
    split at h
    · exact Nat.le_of_ble_eq_true rfl
    · exact h.elim
  · exact List.forall_mem_cons.mpr ⟨z_coS (ct_X6_isPlace l) kb_X6_isPlace ks_X6_150 (by decide) (by decide), List.forall_mem_cons.mpr ⟨z_coS (ct_X6_isIn l) kb_X6_isIn ks_X6_184 (by decide) (by decide), List.forall_mem_cons.mpr ⟨z_coV (ct_X2_isPeople l) kb_X2_isPeople kv_X6_102 ko_X2 (by decide) (by decide) (by decide), List.forall_mem_cons.mpr ⟨z_coV (ct_X6_rightsOf l) kb_X6_rightsOf kv_X6_317 ko_X6 (by decide) (by decide) (by decide), List.forall_mem_cons.mpr ⟨z_coV (ct_X0_yieldingAt l) kb_X0_yieldingAt kv_X6_320 ko_X0 (by decide) (by decide) (by decide), fun _ h => absurd h List.not_mem_nil⟩⟩⟩⟩⟩
  · intro as S P Po Px h V hV hW
    unfold sp_X6_may at h
    split at h
    · rename_i x1 x2 x3
      obtain ⟨hp0, hpo⟩ := h
      refine hV [] 45 0 _ _ _ _ ?_
      refine z_br (fun (h1 : (f_X2_isPeople S P x1) = false) => ?_) (fun (h1 : (f_X2_isPeople S P x1) = true) => ?_)
      · have he : e_X6_may S P x1 x2 x3 = 1 := (if_neg (z_nt h1)).trans rfl
        rw [he] at hpo
        exact hpo
      · refine z_br (fun (h2 : (f_X6_isPlace S P x2) = false) => ?_) (fun (h2 : (f_X6_isPlace S P x2) = true) => ?_)
        · have he : e_X6_may S P x1 x2 x3 = 1 := (if_pos h1).trans ((if_neg (z_nt h2)).trans rfl)
          rw [he] at hpo
          exact hpo
        · refine ⟨fun (h3 : x3 < 0) => ?_, fun (h3 : ¬ (x3 < 0)) => ?_⟩
          · have he : e_X6_may S P x1 x2 x3 = 1 := (if_pos h1).trans ((if_pos h2).trans ((if_pos h3).trans rfl))
            rw [he] at hpo
            exact hpo
          · refine ⟨fun (h4 : x3 ≤ (nI 4)) => ?_, fun (h4 : ¬ (x3 ≤ (nI 4))) => ?_⟩
            · refine ⟨(show z_le (S 12296 8) 12 by exact z_J_claims hp0), (show z_le (S 10240 8) 40 by exact z_J_acts hp0), ?_⟩
              refine z_brn (fun (h5 : (f_X6_isIn S P (f_X6_rightsOf S P x1 x2) x3) = true) => ?_) (fun (h5 : (f_X6_isIn S P (f_X6_rightsOf S P x1 x2) x3) = false) => ?_)
              · refine ⟨(show z_le (S 10240 8) 40 by exact z_J_acts hp0), ?_⟩
                refine z_br (fun (h6 : (f_X6_isIn S P (f_X0_yieldingAt S P x2 (S 2096 8)) x3) = false) => ?_) (fun (h6 : (f_X6_isIn S P (f_X0_yieldingAt S P x2 (S 2096 8)) x3) = true) => ?_)
                · have he : e_X6_may S P x1 x2 x3 = 0 := (if_pos h1).trans ((if_pos h2).trans ((if_neg h3).trans ((if_pos h4).trans ((if_pos h5).trans ((if_neg (z_nt h6)).trans rfl)))))
                  rw [he] at hpo
                  exact z_pi hpo ((if_pos h1).trans ((if_pos h2).trans ((if_neg h3).trans ((if_pos h4).trans ((if_pos h5).trans ((if_neg (z_nt h6)).trans rfl)))))) (rfl) (rfl)
                · have he : e_X6_may S P x1 x2 x3 = 0 := (if_pos h1).trans ((if_pos h2).trans ((if_neg h3).trans ((if_pos h4).trans ((if_pos h5).trans ((if_pos h6).trans rfl)))))
                  rw [he] at hpo
                  exact z_pi hpo ((if_pos h1).trans ((if_pos h2).trans ((if_neg h3).trans ((if_pos h4).trans ((if_pos h5).trans ((if_pos h6).trans rfl)))))) (rfl) (rfl)
              · have he : e_X6_may S P x1 x2 x3 = 0 := (if_pos h1).trans ((if_pos h2).trans ((if_neg h3).trans ((if_pos h4).trans ((if_neg (z_nt h5)).trans rfl))))
                rw [he] at hpo
                exact z_pi hpo ((if_pos h1).trans ((if_pos h2).trans ((if_neg h3).trans ((if_pos h4).trans ((if_neg (z_nt h5)).trans rfl))))) (rfl) (rfl)
            · have he : e_X6_may S P x1 x2 x3 = 1 := (if_pos h1).trans ((if_pos h2).trans ((if_neg h3).trans ((if_neg h4).trans rfl)))
              rw [he] at hpo
              exact hpo
    · exact h.elim
end
section
def f_X6_notice (S : z_MI) (P : z_ML) (x1 : Int32) (x2 : Int32) (x3 : Int32) (x4 : Int32) (x5 : Int32) : Int32 :=
  if (f_X6_isDeed S P x1 x2 x3) = true then
    if (f_X6_isLast S P x4 x3 (S 2096 8)) = true then
      if (S 14368 11) < (nI 12) then
        f_X4_add S P (S 2096 8) x5
      else
        0
    else
      0
  else
    0
def u_X6_notice (S : z_MI) (P : z_ML) (x1 : Int32) (x2 : Int32) (x3 : Int32) (x4 : Int32) (x5 : Int32) : z_MI :=
  if (f_X6_isDeed S P x1 x2 x3) = true then
    if (f_X6_isLast S P x4 x3 (S 2096 8)) = true then
      if (S 14368 11) < (nI 12) then
        u_X4_tell (u_X4_add S P (S 2096 8) x5) P (f_X4_add S P (S 2096 8) x5) x1 x2 x3 x4
      else
        S
    else
      S
  else
    S
def e_X6_notice (S : z_MI) (P : z_ML) (x1 : Int32) (x2 : Int32) (x3 : Int32) (x4 : Int32) (x5 : Int32) : Nat :=
  if (f_X6_isDeed S P x1 x2 x3) = true then
    if (f_X6_isLast S P x4 x3 (S 2096 8)) = true then
      if (S 14368 11) < (nI 12) then
        0
      else
        3
    else
      2
  else
    2
def sp_X6_notice : z_SX := fun as S P k kx => match as with
  | [.ref 2096, .int x1, .int x2, .int x3, .int x4, .int x5] => z_J S ∧ (match e_X6_notice S P x1 x2 x3 x4 x5 with
      | 0 => k (some (.int (f_X6_notice S P x1 x2 x3 x4 x5))) (u_X6_notice S P x1 x2 x3 x4 x5) P
      | 1 => kx "java/lang/IndexOutOfBoundsException" S P
      | 2 => kx "java/lang/IllegalArgumentException" S P
      | _ => kx "java/lang/IllegalStateException" S P)
  | _ => False
def G_X6_notice : z_G := ([(0, .iload_n 1, 1, 0), (1, .iload_n 2, 2, 0), (2, .iload_n 3, 3, 0), (3, .invokestatic 211, 6, 0), (6, .ifCond .eq 16, 9, 22), (9, .iload 4, 11, 0), (11, .iload_n 3, 12, 0), (12, .aload_n 0, 13, 0), (13, .getfield 59, 16, 0), (16, .invokestatic 214, 19, 0), (19, .ifCond .ne 13, 22, 32), (22, .new 63, 25, 0), (25, .dup, 26, 0), (26, .ldc 217, 28, 0), (28, .invokespecial 67, 31, 0), (31, .athrow, 32, 0), (32, .aload_n 0, 33, 0), (33, .getfield 47, 36, 0), (36, .getfield 335, 39, 0), (39, .bipush 12, 41, 0), (41, .if_icmp .lt 14, 44, 55), (44, .new 73, 47, 0), (47, .dup, 48, 0), (48, .ldc_w 336, 51, 0), (51, .invokespecial 77, 54, 0), (54, .athrow, 55, 0), (55, .aload_n 0, 56, 0), (56, .getfield 47, 59, 0), (59, .aload_n 0, 60, 0), (60, .getfield 59, 63, 0), (63, .iload 5, 65, 0), (65, .invokevirtual 338, 68, 0), (68, .istore 6, 70, 0), (70, .aload_n 0, 71, 0), (71, .getfield 47, 74, 0), (74, .iload 6, 76, 0), (76, .iload_n 1, 77, 0), (77, .iload_n 2, 78, 0), (78, .iload_n 3, 79, 0), (79, .iload 4, 81, 0), (81, .invokevirtual 341, 84, 0), (84, .iload 6, 86, 0), (86, .ireturn, 87, 0)], [(47, 2096, 5, some 14368), (59, 2096, 8, none), (335, 14368, 11, none)], [(100211, 3, sp_X6_isDeed), (100214, 3, sp_X6_isLast), (338, 3, (z_rc 14368 sp_X4_add)), (341, 6, (z_rc 14368 sp_X4_tell))], [], [], [(22, "java/lang/IllegalArgumentException"), (44, "java/lang/IllegalStateException")], [], some .int)
def ss_X6_notice : List z_ST := [(22, "java/lang/IllegalArgumentException", 63, 217, 67, "an argument is out of range", false), (44, "java/lang/IllegalStateException", 73, 336, 77, "there are 12 notices", true)]
set_option maxRecDepth 20000 in
set_option maxHeartbeats 4000000 in
theorem ct_X6_notice (l : Launch) (hl9 : l.stackTraces = false) : z_CX l yX6_notice cX6_notice 7 (some .int) sp_X6_notice 6 := by
  refine z_CX_of G_X6_notice ss_X6_notice hl9 (by decide) (by decide) (by decide +kernel) (z_pok_of ft_X6 ci_X6 cL_X6_L fo_X6 co_X6 lo_X6 (by decide +kernel)) rfl rfl (by decide +kernel) ?_ ?_ ?_
  · intro as S P Po Px h
    unfold sp_X6_notice at h
    split at h
    · exact Nat.le_of_ble_eq_true rfl
    · exact h.elim
  · exact List.forall_mem_cons.mpr ⟨z_coS (ct_X6_isDeed l) kb_X6_isDeed ks_X6_211 (by decide) (by decide), List.forall_mem_cons.mpr ⟨z_coS (ct_X6_isLast l) kb_X6_isLast ks_X6_214 (by decide) (by decide), List.forall_mem_cons.mpr ⟨z_coV (ct_X4_add l) kb_X4_add kv_X6_338 ko_X4 (by decide) (by decide) (by decide), List.forall_mem_cons.mpr ⟨z_coV (ct_X4_tell l) kb_X4_tell kv_X6_341 ko_X4 (by decide) (by decide) (by decide), fun _ h => absurd h List.not_mem_nil⟩⟩⟩⟩
  · intro as S P Po Px h V hV hW
    unfold sp_X6_notice at h
    split at h
    · rename_i x1 x2 x3 x4 x5
      obtain ⟨hp0, hpo⟩ := h
      refine hV [] 48 0 _ _ _ _ ?_
      refine z_br (fun (h1 : (f_X6_isDeed S P x1 x2 x3) = false) => ?_) (fun (h1 : (f_X6_isDeed S P x1 x2 x3) = true) => ?_)
      · have he : e_X6_notice S P x1 x2 x3 x4 x5 = 2 := (if_neg (z_nt h1)).trans rfl
        rw [he] at hpo
        exact hpo
      · refine z_brn (fun (h2 : (f_X6_isLast S P x4 x3 (S 2096 8)) = true) => ?_) (fun (h2 : (f_X6_isLast S P x4 x3 (S 2096 8)) = false) => ?_)
        · refine ⟨fun (h3 : (S 14368 11) < (nI 12)) => ?_, fun (h3 : ¬ ((S 14368 11) < (nI 12))) => ?_⟩
          · refine ⟨(show vp_in (S 14368 11) 12 by first | exact z_room (by assumption) (z_J_notices hp0) (by decide) (by decide) | exact z_roomL (by assumption) (z_J_notices hp0) (by decide) (by decide)), ?_⟩
            refine ⟨(show vp_in (f_X4_add S P (S 2096 8) x5) 12 by exact z_roomL (c := S 14368 11) (by assumption) (z_J_notices hp0) (by decide) (by decide)), ?_⟩
            have he : e_X6_notice S P x1 x2 x3 x4 x5 = 0 := (if_pos h1).trans ((if_pos h2).trans ((if_pos h3).trans rfl))
            rw [he] at hpo
            exact z_pi hpo ((if_pos h1).trans ((if_pos h2).trans ((if_pos h3).trans rfl))) ((if_pos h1).trans ((if_pos h2).trans ((if_pos h3).trans rfl))) (rfl)
          · have he : e_X6_notice S P x1 x2 x3 x4 x5 = 3 := (if_pos h1).trans ((if_pos h2).trans ((if_neg h3).trans rfl))
            rw [he] at hpo
            exact hpo
        · have he : e_X6_notice S P x1 x2 x3 x4 x5 = 2 := (if_pos h1).trans ((if_neg (z_nt h2)).trans rfl)
          rw [he] at hpo
          exact hpo
    · exact h.elim
def f_X6_agree (S : z_MI) (P : z_ML) (x1 : Int32) (x2 : Int32) : Int32 :=
  if (f_X2_isPeople S P x1) = true then
    if (f_X4_isNotice S P x2) = true then
      if (S 98401 x2.toNatClampNeg) = 0 then
        if (f_X6_isIn S P (f_X6_partiesOf S P x2) x1) = true then
          if (f_X6_isIn S P (S 100449 x2.toNatClampNeg) x1) = true then
            0
          else
            f_J6_bitCount_0f7a4 (va_up S 100449 (upd (S 100449) x2.toNatClampNeg (f_X6_with S P (S 100449 x2.toNatClampNeg) x1 (nI 1)))) P ((f_X6_partiesOf S P x2) &&& (((upd (S 100449) x2.toNatClampNeg (f_X6_with S P (S 100449 x2.toNatClampNeg) x1 (nI 1))) x2.toNatClampNeg) ^^^ (-1)))
        else
          0
      else
        0
    else
      0
  else
    0
def u_X6_agree (S : z_MI) (P : z_ML) (x1 : Int32) (x2 : Int32) : z_MI :=
  if (f_X2_isPeople S P x1) = true then
    if (f_X4_isNotice S P x2) = true then
      if (S 98401 x2.toNatClampNeg) = 0 then
        if (f_X6_isIn S P (f_X6_partiesOf S P x2) x1) = true then
          if (f_X6_isIn S P (S 100449 x2.toNatClampNeg) x1) = true then
            S
          else
            va_up S 100449 (upd (S 100449) x2.toNatClampNeg (f_X6_with S P (S 100449 x2.toNatClampNeg) x1 (nI 1)))
        else
          S
      else
        S
    else
      S
  else
    S
def e_X6_agree (S : z_MI) (P : z_ML) (x1 : Int32) (x2 : Int32) : Nat :=
  if (f_X2_isPeople S P x1) = true then
    if (f_X4_isNotice S P x2) = true then
      if (S 98401 x2.toNatClampNeg) = 0 then
        if (f_X6_isIn S P (f_X6_partiesOf S P x2) x1) = true then
          if (f_X6_isIn S P (S 100449 x2.toNatClampNeg) x1) = true then
            3
          else
            0
        else
          3
      else
        3
    else
      1
  else
    1
def sp_X6_agree : z_SX := fun as S P k kx => match as with
  | [.ref 2096, .int x1, .int x2] => z_J S ∧ (match e_X6_agree S P x1 x2 with
      | 0 => k (some (.int (f_X6_agree S P x1 x2))) (u_X6_agree S P x1 x2) P
      | 1 => kx "java/lang/IndexOutOfBoundsException" S P
      | 2 => kx "java/lang/IllegalArgumentException" S P
      | _ => kx "java/lang/IllegalStateException" S P)
  | _ => False
def G_X6_agree : z_G := ([(0, .aload_n 0, 1, 0), (1, .getfield 10, 4, 0), (4, .iload_n 1, 5, 0), (5, .invokevirtual 102, 8, 0), (8, .ifCond .eq 14, 11, 22), (11, .aload_n 0, 12, 0), (12, .getfield 47, 15, 0), (15, .iload_n 2, 16, 0), (16, .invokevirtual 345, 19, 0), (19, .ifCond .ne 14, 22, 33), (22, .new 86, 25, 0), (25, .dup, 26, 0), (26, .ldc_w 348, 29, 0), (29, .invokespecial 90, 32, 0), (32, .athrow, 33, 0), (33, .aload_n 0, 34, 0), (34, .iload_n 2, 35, 0), (35, .invokevirtual 350, 38, 0), (38, .istore_n 3, 39, 0), (39, .aload_n 0, 40, 0), (40, .getfield 47, 43, 0), (43, .getfield 353, 46, 0), (46, .iload_n 2, 47, 0), (47, .iaload, 48, 0), (48, .ifCond .ne 27, 51, 75), (51, .iload_n 3, 52, 0), (52, .iload_n 1, 53, 0), (53, .invokestatic 184, 56, 0), (56, .ifCond .eq 19, 59, 75), (59, .aload_n 0, 60, 0), (60, .getfield 47, 63, 0), (63, .getfield 354, 66, 0), (66, .iload_n 2, 67, 0), (67, .iaload, 68, 0), (68, .iload_n 1, 69, 0), (69, .invokestatic 184, 72, 0), (72, .ifCond .eq 14, 75, 86), (75, .new 73, 78, 0), (78, .dup, 79, 0), (79, .ldc_w 357, 82, 0), (82, .invokespecial 77, 85, 0), (85, .athrow, 86, 0), (86, .aload_n 0, 87, 0), (87, .getfield 47, 90, 0), (90, .getfield 354, 93, 0), (93, .iload_n 2, 94, 0), (94, .aload_n 0, 95, 0), (95, .getfield 47, 98, 0), (98, .getfield 354, 101, 0), (101, .iload_n 2, 102, 0), (102, .iaload, 103, 0), (103, .iload_n 1, 104, 0), (104, .iconst 1, 105, 0), (105, .invokestatic 113, 108, 0), (108, .iastore, 109, 0), (109, .iload_n 3, 110, 0), (110, .aload_n 0, 111, 0), (111, .getfield 47, 114, 0), (114, .getfield 354, 117, 0), (117, .iload_n 2, 118, 0), (118, .iaload, 119, 0), (119, .iconst (-1), 120, 0), (120, .ixor, 121, 0), (121, .iand, 122, 0), (122, .invokestatic 120, 125, 0), (125, .ireturn, 126, 0)], [(10, 2096, 0, some 4112), (47, 2096, 5, some 14368), (353, 14368, 5, some 98401), (354, 14368, 6, some 100449)], [(100113, 3, sp_X6_with), (100120, 1, sp_J6_bitCount_0f7a4), (100184, 2, sp_X6_isIn), (102, 2, (z_rc 4112 sp_X2_isPeople)), (345, 2, (z_rc 14368 sp_X4_isNotice)), (350, 2, (z_rc 2096 sp_X6_partiesOf))], [], [], [(22, "java/lang/IndexOutOfBoundsException"), (75, "java/lang/IllegalStateException")], [], some .int)
def ss_X6_agree : List z_ST := [(22, "java/lang/IndexOutOfBoundsException", 86, 348, 90, "no such people or notice", true), (75, "java/lang/IllegalStateException", 73, 357, 77, "the notice does not WAIT, or the people is no party, or agreed", true)]
set_option maxRecDepth 20000 in
set_option maxHeartbeats 4000000 in
theorem ct_X6_agree (l : Launch) (hl9 : l.stackTraces = false) : z_CX l yX6_agree cX6_agree 4 (some .int) sp_X6_agree 6 := by
  refine z_CX_of G_X6_agree ss_X6_agree hl9 (by decide) (by decide) (by decide +kernel) (z_pok_of ft_X6 ci_X6 cL_X6_L fo_X6 co_X6 lo_X6 (by decide +kernel)) rfl rfl (by decide +kernel) ?_ ?_ ?_
  · intro as S P Po Px h
    unfold sp_X6_agree at h
    split at h
    · exact Nat.le_of_ble_eq_true rfl
    · exact h.elim
  · exact List.forall_mem_cons.mpr ⟨z_coS (ct_X6_with l) kb_X6_with ks_X6_113 (by decide) (by decide), List.forall_mem_cons.mpr ⟨z_coS (ct_J6_bitCount_0f7a4 l) kb_J6_bitCount_0f7a4 ks_X6_120 (by decide) (by decide), List.forall_mem_cons.mpr ⟨z_coS (ct_X6_isIn l) kb_X6_isIn ks_X6_184 (by decide) (by decide), List.forall_mem_cons.mpr ⟨z_coV (ct_X2_isPeople l) kb_X2_isPeople kv_X6_102 ko_X2 (by decide) (by decide) (by decide), List.forall_mem_cons.mpr ⟨z_coV (ct_X4_isNotice l) kb_X4_isNotice kv_X6_345 ko_X4 (by decide) (by decide) (by decide), List.forall_mem_cons.mpr ⟨z_coV (ct_X6_partiesOf l) kb_X6_partiesOf kv_X6_350 ko_X6 (by decide) (by decide) (by decide), fun _ h => absurd h List.not_mem_nil⟩⟩⟩⟩⟩⟩
  · intro as S P Po Px h V hV hW
    unfold sp_X6_agree at h
    split at h
    · rename_i x1 x2
      obtain ⟨hp0, hpo⟩ := h
      refine hV [] 71 0 _ _ _ _ ?_
      refine z_br (fun (h1 : (f_X2_isPeople S P x1) = false) => ?_) (fun (h1 : (f_X2_isPeople S P x1) = true) => ?_)
      · have he : e_X6_agree S P x1 x2 = 1 := (if_neg (z_nt h1)).trans rfl
        rw [he] at hpo
        exact hpo
      · refine z_brn (fun (h2 : (f_X4_isNotice S P x2) = true) => ?_) (fun (h2 : (f_X4_isNotice S P x2) = false) => ?_)
        · refine ⟨(show vp_in x2 12 by first | exact t_isClaim hp0 (by assumption) | exact t_isNotice hp0 (by assumption)), (show z_le (S 12296 8) 12 by exact z_J_claims hp0), ?_⟩
          refine ⟨(show vp_in x2 12 by first | exact t_isClaim hp0 (by assumption) | exact t_isNotice hp0 (by assumption)), ?_⟩
          refine ⟨fun (h3 : ¬ ((S 98401 x2.toNatClampNeg) = 0)) => ?_, fun (h3 : (S 98401 x2.toNatClampNeg) = 0) => ?_⟩
          · have he : e_X6_agree S P x1 x2 = 3 := (if_pos h1).trans ((if_pos h2).trans ((if_neg h3).trans rfl))
            rw [he] at hpo
            exact hpo
          · refine z_br (fun (h4 : (f_X6_isIn S P (f_X6_partiesOf S P x2) x1) = false) => ?_) (fun (h4 : (f_X6_isIn S P (f_X6_partiesOf S P x2) x1) = true) => ?_)
            · have he : e_X6_agree S P x1 x2 = 3 := (if_pos h1).trans ((if_pos h2).trans ((if_pos h3).trans ((if_neg (z_nt h4)).trans rfl)))
              rw [he] at hpo
              exact hpo
            · refine ⟨(show vp_in x2 12 by first | exact t_isClaim hp0 (by assumption) | exact t_isNotice hp0 (by assumption)), ?_⟩
              refine z_br (fun (h5 : (f_X6_isIn S P (S 100449 x2.toNatClampNeg) x1) = false) => ?_) (fun (h5 : (f_X6_isIn S P (S 100449 x2.toNatClampNeg) x1) = true) => ?_)
              · refine ⟨(show vp_in x2 12 by first | exact t_isClaim hp0 (by assumption) | exact t_isNotice hp0 (by assumption)), ?_⟩
                refine ⟨(show vp_in x2 12 by first | exact t_isClaim hp0 (by assumption) | exact t_isNotice hp0 (by assumption)), ?_⟩
                refine ⟨(show vp_in x2 12 by first | exact t_isClaim hp0 (by assumption) | exact t_isNotice hp0 (by assumption)), ?_⟩
                have he : e_X6_agree S P x1 x2 = 0 := (if_pos h1).trans ((if_pos h2).trans ((if_pos h3).trans ((if_pos h4).trans ((if_neg (z_nt h5)).trans rfl))))
                rw [he] at hpo
                exact z_pi hpo ((if_pos h1).trans ((if_pos h2).trans ((if_pos h3).trans ((if_pos h4).trans ((if_neg (z_nt h5)).trans rfl))))) ((if_pos h1).trans ((if_pos h2).trans ((if_pos h3).trans ((if_pos h4).trans ((if_neg (z_nt h5)).trans rfl))))) (rfl)
              · have he : e_X6_agree S P x1 x2 = 3 := (if_pos h1).trans ((if_pos h2).trans ((if_pos h3).trans ((if_pos h4).trans ((if_pos h5).trans rfl))))
                rw [he] at hpo
                exact hpo
        · have he : e_X6_agree S P x1 x2 = 1 := (if_pos h1).trans ((if_neg (z_nt h2)).trans rfl)
          rw [he] at hpo
          exact hpo
    · exact h.elim
def u_X6_object (S : z_MI) (P : z_ML) (x1 : Int32) (x2 : Int32) : z_MI :=
  if (f_X2_isPeople S P x1) = true then
    if (f_X4_isNotice S P x2) = true then
      if (f_X4_isOpenToObject S P x2 (S 2096 8)) = true then
        if (f_X6_isIn S P (f_X6_partiesOf S P x2) x1) = true then
          if (f_X6_isIn S P (S 102497 x2.toNatClampNeg) x1) = true then
            S
          else
            va_up S 102497 (upd (S 102497) x2.toNatClampNeg (f_X6_with S P (S 102497 x2.toNatClampNeg) x1 (nI 1)))
        else
          S
      else
        S
    else
      S
  else
    S
def e_X6_object (S : z_MI) (P : z_ML) (x1 : Int32) (x2 : Int32) : Nat :=
  if (f_X2_isPeople S P x1) = true then
    if (f_X4_isNotice S P x2) = true then
      if (f_X4_isOpenToObject S P x2 (S 2096 8)) = true then
        if (f_X6_isIn S P (f_X6_partiesOf S P x2) x1) = true then
          if (f_X6_isIn S P (S 102497 x2.toNatClampNeg) x1) = true then
            3
          else
            0
        else
          3
      else
        3
    else
      1
  else
    1
def sp_X6_object : z_SX := fun as S P k kx => match as with
  | [.ref 2096, .int x1, .int x2] => z_J S ∧ (match e_X6_object S P x1 x2 with
      | 0 => k (none) (u_X6_object S P x1 x2) P
      | 1 => kx "java/lang/IndexOutOfBoundsException" S P
      | 2 => kx "java/lang/IllegalArgumentException" S P
      | _ => kx "java/lang/IllegalStateException" S P)
  | _ => False
def G_X6_object : z_G := ([(0, .aload_n 0, 1, 0), (1, .getfield 10, 4, 0), (4, .iload_n 1, 5, 0), (5, .invokevirtual 102, 8, 0), (8, .ifCond .eq 14, 11, 22), (11, .aload_n 0, 12, 0), (12, .getfield 47, 15, 0), (15, .iload_n 2, 16, 0), (16, .invokevirtual 345, 19, 0), (19, .ifCond .ne 14, 22, 33), (22, .new 86, 25, 0), (25, .dup, 26, 0), (26, .ldc_w 348, 29, 0), (29, .invokespecial 90, 32, 0), (32, .athrow, 33, 0), (33, .aload_n 0, 34, 0), (34, .getfield 47, 37, 0), (37, .iload_n 2, 38, 0), (38, .aload_n 0, 39, 0), (39, .getfield 59, 42, 0), (42, .invokevirtual 359, 45, 0), (45, .ifCond .ne 14, 48, 59), (48, .new 73, 51, 0), (51, .dup, 52, 0), (52, .ldc_w 362, 55, 0), (55, .invokespecial 77, 58, 0), (58, .athrow, 59, 0), (59, .aload_n 0, 60, 0), (60, .iload_n 2, 61, 0), (61, .invokevirtual 350, 64, 0), (64, .iload_n 1, 65, 0), (65, .invokestatic 184, 68, 0), (68, .ifCond .eq 19, 71, 87), (71, .aload_n 0, 72, 0), (72, .getfield 47, 75, 0), (75, .getfield 364, 78, 0), (78, .iload_n 2, 79, 0), (79, .iaload, 80, 0), (80, .iload_n 1, 81, 0), (81, .invokestatic 184, 84, 0), (84, .ifCond .eq 14, 87, 98), (87, .new 73, 90, 0), (90, .dup, 91, 0), (91, .ldc_w 367, 94, 0), (94, .invokespecial 77, 97, 0), (97, .athrow, 98, 0), (98, .aload_n 0, 99, 0), (99, .getfield 47, 102, 0), (102, .getfield 364, 105, 0), (105, .iload_n 2, 106, 0), (106, .aload_n 0, 107, 0), (107, .getfield 47, 110, 0), (110, .getfield 364, 113, 0), (113, .iload_n 2, 114, 0), (114, .iaload, 115, 0), (115, .iload_n 1, 116, 0), (116, .iconst 1, 117, 0), (117, .invokestatic 113, 120, 0), (120, .iastore, 121, 0), (121, .return_, 122, 0)], [(10, 2096, 0, some 4112), (47, 2096, 5, some 14368), (59, 2096, 8, none), (364, 14368, 7, some 102497)], [(100113, 3, sp_X6_with), (100184, 2, sp_X6_isIn), (102, 2, (z_rc 4112 sp_X2_isPeople)), (345, 2, (z_rc 14368 sp_X4_isNotice)), (350, 2, (z_rc 2096 sp_X6_partiesOf)), (359, 3, (z_rc 14368 sp_X4_isOpenToObject))], [], [], [(22, "java/lang/IndexOutOfBoundsException"), (48, "java/lang/IllegalStateException"), (87, "java/lang/IllegalStateException")], [], none)
def ss_X6_object : List z_ST := [(22, "java/lang/IndexOutOfBoundsException", 86, 348, 90, "no such people or notice", true), (48, "java/lang/IllegalStateException", 73, 362, 77, "the notice does not WAIT, is not quick, or is too old", true), (87, "java/lang/IllegalStateException", 73, 367, 77, "the people is no party, or objected", true)]
set_option maxRecDepth 20000 in
set_option maxHeartbeats 4000000 in
theorem ct_X6_object (l : Launch) (hl9 : l.stackTraces = false) : z_CX l yX6_object cX6_object 3 (none) sp_X6_object 6 := by
  refine z_CX_of G_X6_object ss_X6_object hl9 (by decide) (by decide) (by decide +kernel) (z_pok_of ft_X6 ci_X6 cL_X6_L fo_X6 co_X6 lo_X6 (by decide +kernel)) rfl rfl (by decide +kernel) ?_ ?_ ?_
  · intro as S P Po Px h
    unfold sp_X6_object at h
    split at h
    · exact Nat.le_of_ble_eq_true rfl
    · exact h.elim
  · exact List.forall_mem_cons.mpr ⟨z_coS (ct_X6_with l) kb_X6_with ks_X6_113 (by decide) (by decide), List.forall_mem_cons.mpr ⟨z_coS (ct_X6_isIn l) kb_X6_isIn ks_X6_184 (by decide) (by decide), List.forall_mem_cons.mpr ⟨z_coV (ct_X2_isPeople l) kb_X2_isPeople kv_X6_102 ko_X2 (by decide) (by decide) (by decide), List.forall_mem_cons.mpr ⟨z_coV (ct_X4_isNotice l) kb_X4_isNotice kv_X6_345 ko_X4 (by decide) (by decide) (by decide), List.forall_mem_cons.mpr ⟨z_coV (ct_X6_partiesOf l) kb_X6_partiesOf kv_X6_350 ko_X6 (by decide) (by decide) (by decide), List.forall_mem_cons.mpr ⟨z_coV (ct_X4_isOpenToObject l) kb_X4_isOpenToObject kv_X6_359 ko_X4 (by decide) (by decide) (by decide), fun _ h => absurd h List.not_mem_nil⟩⟩⟩⟩⟩⟩
  · intro as S P Po Px h V hV hW
    unfold sp_X6_object at h
    split at h
    · rename_i x1 x2
      obtain ⟨hp0, hpo⟩ := h
      refine hV [] 65 0 _ _ _ _ ?_
      refine z_br (fun (h1 : (f_X2_isPeople S P x1) = false) => ?_) (fun (h1 : (f_X2_isPeople S P x1) = true) => ?_)
      · have he : e_X6_object S P x1 x2 = 1 := (if_neg (z_nt h1)).trans rfl
        rw [he] at hpo
        exact hpo
      · refine z_brn (fun (h2 : (f_X4_isNotice S P x2) = true) => ?_) (fun (h2 : (f_X4_isNotice S P x2) = false) => ?_)
        · refine ⟨(show vp_in x2 12 by first | exact t_isClaim hp0 (by assumption) | exact t_isNotice hp0 (by assumption)), ?_⟩
          refine z_brn (fun (h3 : (f_X4_isOpenToObject S P x2 (S 2096 8)) = true) => ?_) (fun (h3 : (f_X4_isOpenToObject S P x2 (S 2096 8)) = false) => ?_)
          · refine ⟨(show vp_in x2 12 by first | exact t_isClaim hp0 (by assumption) | exact t_isNotice hp0 (by assumption)), (show z_le (S 12296 8) 12 by exact z_J_claims hp0), ?_⟩
            refine z_br (fun (h4 : (f_X6_isIn S P (f_X6_partiesOf S P x2) x1) = false) => ?_) (fun (h4 : (f_X6_isIn S P (f_X6_partiesOf S P x2) x1) = true) => ?_)
            · have he : e_X6_object S P x1 x2 = 3 := (if_pos h1).trans ((if_pos h2).trans ((if_pos h3).trans ((if_neg (z_nt h4)).trans rfl)))
              rw [he] at hpo
              exact hpo
            · refine ⟨(show vp_in x2 12 by first | exact t_isClaim hp0 (by assumption) | exact t_isNotice hp0 (by assumption)), ?_⟩
              refine z_br (fun (h5 : (f_X6_isIn S P (S 102497 x2.toNatClampNeg) x1) = false) => ?_) (fun (h5 : (f_X6_isIn S P (S 102497 x2.toNatClampNeg) x1) = true) => ?_)
              · refine ⟨(show vp_in x2 12 by first | exact t_isClaim hp0 (by assumption) | exact t_isNotice hp0 (by assumption)), ?_⟩
                refine ⟨(show vp_in x2 12 by first | exact t_isClaim hp0 (by assumption) | exact t_isNotice hp0 (by assumption)), ?_⟩
                have he : e_X6_object S P x1 x2 = 0 := (if_pos h1).trans ((if_pos h2).trans ((if_pos h3).trans ((if_pos h4).trans ((if_neg (z_nt h5)).trans rfl))))
                rw [he] at hpo
                exact z_pv hpo ((if_pos h1).trans ((if_pos h2).trans ((if_pos h3).trans ((if_pos h4).trans ((if_neg (z_nt h5)).trans rfl))))) (rfl)
              · have he : e_X6_object S P x1 x2 = 3 := (if_pos h1).trans ((if_pos h2).trans ((if_pos h3).trans ((if_pos h4).trans ((if_pos h5).trans rfl))))
                rw [he] at hpo
                exact hpo
          · have he : e_X6_object S P x1 x2 = 3 := (if_pos h1).trans ((if_pos h2).trans ((if_neg (z_nt h3)).trans rfl))
            rw [he] at hpo
            exact hpo
        · have he : e_X6_object S P x1 x2 = 1 := (if_pos h1).trans ((if_neg (z_nt h2)).trans rfl)
          rw [he] at hpo
          exact hpo
    · exact h.elim
def f_X6_decide (S : z_MI) (P : z_ML) (x1 : Int32) (x2 : Int32) : Int32 :=
  if (f_X4_isNotice S P x1) = true then
    if (f_X4_isOpenToDecide S P x1 (S 2096 8)) = true then
      if x2 = 0 then
        (upd (S 98401) x1.toNatClampNeg (nI 2)) x1.toNatClampNeg
      else
        (upd (S 98401) x1.toNatClampNeg (nI 0)) x1.toNatClampNeg
    else
      0
  else
    0
def u_X6_decide (S : z_MI) (P : z_ML) (x1 : Int32) (x2 : Int32) : z_MI :=
  if (f_X4_isNotice S P x1) = true then
    if (f_X4_isOpenToDecide S P x1 (S 2096 8)) = true then
      if x2 = 0 then
        va_up (va_up S 108642 (upd (S 108642) x1.toNatClampNeg (vp_nar .boolean x2))) 98401 (upd ((va_up S 108642 (upd (S 108642) x1.toNatClampNeg (vp_nar .boolean x2))) 98401) x1.toNatClampNeg (nI 2))
      else
        va_up (va_up S 108642 (upd (S 108642) x1.toNatClampNeg (vp_nar .boolean x2))) 98401 (upd ((va_up S 108642 (upd (S 108642) x1.toNatClampNeg (vp_nar .boolean x2))) 98401) x1.toNatClampNeg (nI 0))
    else
      S
  else
    S
def e_X6_decide (S : z_MI) (P : z_ML) (x1 : Int32) (x2 : Int32) : Nat :=
  if (f_X4_isNotice S P x1) = true then
    if (f_X4_isOpenToDecide S P x1 (S 2096 8)) = true then
      if x2 = 0 then
        0
      else
        0
    else
      3
  else
    1
def sp_X6_decide : z_SX := fun as S P k kx => match as with
  | [.ref 2096, .int x1, .int x2] => z_J S ∧ (match e_X6_decide S P x1 x2 with
      | 0 => k (some (.int (f_X6_decide S P x1 x2))) (u_X6_decide S P x1 x2) P
      | 1 => kx "java/lang/IndexOutOfBoundsException" S P
      | 2 => kx "java/lang/IllegalArgumentException" S P
      | _ => kx "java/lang/IllegalStateException" S P)
  | _ => False
def G_X6_decide : z_G := ([(0, .aload_n 0, 1, 0), (1, .getfield 47, 4, 0), (4, .iload_n 1, 5, 0), (5, .invokevirtual 345, 8, 0), (8, .ifCond .ne 14, 11, 22), (11, .new 86, 14, 0), (14, .dup, 15, 0), (15, .ldc_w 369, 18, 0), (18, .invokespecial 90, 21, 0), (21, .athrow, 22, 0), (22, .aload_n 0, 23, 0), (23, .getfield 47, 26, 0), (26, .iload_n 1, 27, 0), (27, .aload_n 0, 28, 0), (28, .getfield 59, 31, 0), (31, .invokevirtual 371, 34, 0), (34, .ifCond .ne 14, 37, 48), (37, .new 73, 40, 0), (40, .dup, 41, 0), (41, .ldc_w 374, 44, 0), (44, .invokespecial 77, 47, 0), (47, .athrow, 48, 0), (48, .aload_n 0, 49, 0), (49, .getfield 47, 52, 0), (52, .getfield 376, 55, 0), (55, .iload_n 1, 56, 0), (56, .iload_n 2, 57, 0), (57, .bastore, 58, 0), (58, .aload_n 0, 59, 0), (59, .getfield 47, 62, 0), (62, .getfield 353, 65, 0), (65, .iload_n 1, 66, 0), (66, .iload_n 2, 67, 0), (67, .ifCond .eq 7, 70, 74), (70, .iconst 0, 71, 0), (71, .goto 4, 74, 75), (74, .iconst 2, 75, 0), (75, .iastore, 76, 0), (76, .aload_n 0, 77, 0), (77, .getfield 47, 80, 0), (80, .getfield 353, 83, 0), (83, .iload_n 1, 84, 0), (84, .iaload, 85, 0), (85, .ireturn, 86, 0)], [(47, 2096, 5, some 14368), (59, 2096, 8, none), (353, 14368, 5, some 98401), (376, 14368, 10, some 108642)], [(345, 2, (z_rc 14368 sp_X4_isNotice)), (371, 3, (z_rc 14368 sp_X4_isOpenToDecide))], [], [], [(11, "java/lang/IndexOutOfBoundsException"), (37, "java/lang/IllegalStateException")], [], some .int)
def ss_X6_decide : List z_ST := [(11, "java/lang/IndexOutOfBoundsException", 86, 369, 90, "no such notice", true), (37, "java/lang/IllegalStateException", 73, 374, 77, "the notice does not WAIT, is not old enough, or was allowed", true)]
set_option maxRecDepth 20000 in
set_option maxHeartbeats 4000000 in
theorem ct_X6_decide (l : Launch) (hl9 : l.stackTraces = false) : z_CX l yX6_decide cX6_decide 3 (some .int) sp_X6_decide 6 := by
  refine z_CX_of G_X6_decide ss_X6_decide hl9 (by decide) (by decide) (by decide +kernel) (z_pok_of ft_X6 ci_X6 cL_X6_L fo_X6 co_X6 lo_X6 (by decide +kernel)) rfl rfl (by decide +kernel) ?_ ?_ ?_
  · intro as S P Po Px h
    unfold sp_X6_decide at h
    split at h
    · exact Nat.le_of_ble_eq_true rfl
    · exact h.elim
  · exact List.forall_mem_cons.mpr ⟨z_coV (ct_X4_isNotice l) kb_X4_isNotice kv_X6_345 ko_X4 (by decide) (by decide) (by decide), List.forall_mem_cons.mpr ⟨z_coV (ct_X4_isOpenToDecide l) kb_X4_isOpenToDecide kv_X6_371 ko_X4 (by decide) (by decide) (by decide), fun _ h => absurd h List.not_mem_nil⟩⟩
  · intro as S P Po Px h V hV hW
    unfold sp_X6_decide at h
    split at h
    · rename_i x1 x2
      obtain ⟨hp0, hpo⟩ := h
      refine hV [] 49 0 _ _ _ _ ?_
      refine z_brn (fun (h1 : (f_X4_isNotice S P x1) = true) => ?_) (fun (h1 : (f_X4_isNotice S P x1) = false) => ?_)
      · refine ⟨(show vp_in x1 12 by first | exact t_isClaim hp0 (by assumption) | exact t_isNotice hp0 (by assumption)), ?_⟩
        refine z_brn (fun (h2 : (f_X4_isOpenToDecide S P x1 (S 2096 8)) = true) => ?_) (fun (h2 : (f_X4_isOpenToDecide S P x1 (S 2096 8)) = false) => ?_)
        · refine ⟨(show vp_in x1 12 by first | exact t_isClaim hp0 (by assumption) | exact t_isNotice hp0 (by assumption)), ?_⟩
          refine ⟨fun (h3 : x2 = 0) => ?_, fun (h3 : ¬ (x2 = 0)) => ?_⟩
          · refine ⟨(show vp_in x1 12 by first | exact t_isClaim hp0 (by assumption) | exact t_isNotice hp0 (by assumption)), ?_⟩
            refine ⟨(show vp_in x1 12 by first | exact t_isClaim hp0 (by assumption) | exact t_isNotice hp0 (by assumption)), ?_⟩
            have he : e_X6_decide S P x1 x2 = 0 := (if_pos h1).trans ((if_pos h2).trans ((if_pos h3).trans rfl))
            rw [he] at hpo
            exact z_pi hpo ((if_pos h1).trans ((if_pos h2).trans ((if_pos h3).trans rfl))) ((if_pos h1).trans ((if_pos h2).trans ((if_pos h3).trans rfl))) (rfl)
          · refine ⟨(show vp_in x1 12 by first | exact t_isClaim hp0 (by assumption) | exact t_isNotice hp0 (by assumption)), ?_⟩
            refine ⟨(show vp_in x1 12 by first | exact t_isClaim hp0 (by assumption) | exact t_isNotice hp0 (by assumption)), ?_⟩
            have he : e_X6_decide S P x1 x2 = 0 := (if_pos h1).trans ((if_pos h2).trans ((if_neg h3).trans rfl))
            rw [he] at hpo
            exact z_pi hpo ((if_pos h1).trans ((if_pos h2).trans ((if_neg h3).trans rfl))) ((if_pos h1).trans ((if_pos h2).trans ((if_neg h3).trans rfl))) (rfl)
        · have he : e_X6_decide S P x1 x2 = 3 := (if_pos h1).trans ((if_neg (z_nt h2)).trans rfl)
          rw [he] at hpo
          exact hpo
      · have he : e_X6_decide S P x1 x2 = 1 := (if_neg (z_nt h1)).trans rfl
        rw [he] at hpo
        exact hpo
    · exact h.elim
def f_X6_proceed (S : z_MI) (P : z_ML) (x1 : Int32) : Int32 :=
  if (f_X4_isNotice S P x1) = true then
    if (f_X4_isRipe S P x1 (S 2096 8) (f_X6_partiesOf S P x1)) = true then
      if (f_X4_isPast S P x1 (S 2096 8)) = true then
        0
      else
        if (S 10240 8) < (nI 40) then
          f_X0_add S P (S 2096 8) (S 90209 x1.toNatClampNeg) (S 92257 x1.toNatClampNeg) (S 94305 x1.toNatClampNeg) (S 96353 x1.toNatClampNeg)
        else
          0
    else
      0
  else
    0
def u_X6_proceed (S : z_MI) (P : z_ML) (x1 : Int32) : z_MI :=
  if (f_X4_isNotice S P x1) = true then
    if (f_X4_isRipe S P x1 (S 2096 8) (f_X6_partiesOf S P x1)) = true then
      if (f_X4_isPast S P x1 (S 2096 8)) = true then
        S
      else
        if (S 10240 8) < (nI 40) then
          va_up (va_up (u_X0_add S P (S 2096 8) (S 90209 x1.toNatClampNeg) (S 92257 x1.toNatClampNeg) (S 94305 x1.toNatClampNeg) (S 96353 x1.toNatClampNeg)) 98401 (upd ((u_X0_add S P (S 2096 8) (S 90209 x1.toNatClampNeg) (S 92257 x1.toNatClampNeg) (S 94305 x1.toNatClampNeg) (S 96353 x1.toNatClampNeg)) 98401) x1.toNatClampNeg (nI 1))) 104545 (upd ((va_up (u_X0_add S P (S 2096 8) (S 90209 x1.toNatClampNeg) (S 92257 x1.toNatClampNeg) (S 94305 x1.toNatClampNeg) (S 96353 x1.toNatClampNeg)) 98401 (upd ((u_X0_add S P (S 2096 8) (S 90209 x1.toNatClampNeg) (S 92257 x1.toNatClampNeg) (S 94305 x1.toNatClampNeg) (S 96353 x1.toNatClampNeg)) 98401) x1.toNatClampNeg (nI 1))) 104545) x1.toNatClampNeg (f_X0_add S P (S 2096 8) (S 90209 x1.toNatClampNeg) (S 92257 x1.toNatClampNeg) (S 94305 x1.toNatClampNeg) (S 96353 x1.toNatClampNeg)))
        else
          S
    else
      S
  else
    S
def e_X6_proceed (S : z_MI) (P : z_ML) (x1 : Int32) : Nat :=
  if (f_X4_isNotice S P x1) = true then
    if (f_X4_isRipe S P x1 (S 2096 8) (f_X6_partiesOf S P x1)) = true then
      if (f_X4_isPast S P x1 (S 2096 8)) = true then
        3
      else
        if (S 10240 8) < (nI 40) then
          0
        else
          3
    else
      3
  else
    1
def sp_X6_proceed : z_SX := fun as S P k kx => match as with
  | [.ref 2096, .int x1] => z_J S ∧ (match e_X6_proceed S P x1 with
      | 0 => k (some (.int (f_X6_proceed S P x1))) (u_X6_proceed S P x1) P
      | 1 => kx "java/lang/IndexOutOfBoundsException" S P
      | 2 => kx "java/lang/IllegalArgumentException" S P
      | _ => kx "java/lang/IllegalStateException" S P)
  | _ => False
def G_X6_proceed : z_G := ([(0, .aload_n 0, 1, 0), (1, .getfield 47, 4, 0), (4, .iload_n 1, 5, 0), (5, .invokevirtual 345, 8, 0), (8, .ifCond .ne 14, 11, 22), (11, .new 86, 14, 0), (14, .dup, 15, 0), (15, .ldc_w 369, 18, 0), (18, .invokespecial 90, 21, 0), (21, .athrow, 22, 0), (22, .aload_n 0, 23, 0), (23, .getfield 47, 26, 0), (26, .iload_n 1, 27, 0), (27, .aload_n 0, 28, 0), (28, .getfield 59, 31, 0), (31, .aload_n 0, 32, 0), (32, .iload_n 1, 33, 0), (33, .invokevirtual 350, 36, 0), (36, .invokevirtual 379, 39, 0), (39, .ifCond .ne 14, 42, 53), (42, .new 73, 45, 0), (45, .dup, 46, 0), (46, .ldc_w 382, 49, 0), (49, .invokespecial 77, 52, 0), (52, .athrow, 53, 0), (53, .aload_n 0, 54, 0), (54, .getfield 47, 57, 0), (57, .iload_n 1, 58, 0), (58, .aload_n 0, 59, 0), (59, .getfield 59, 62, 0), (62, .invokevirtual 384, 65, 0), (65, .ifCond .eq 14, 68, 79), (68, .new 73, 71, 0), (71, .dup, 72, 0), (72, .ldc_w 387, 75, 0), (75, .invokespecial 77, 78, 0), (78, .athrow, 79, 0), (79, .aload_n 0, 80, 0), (80, .getfield 33, 83, 0), (83, .getfield 219, 86, 0), (86, .bipush 40, 88, 0), (88, .if_icmp .lt 13, 91, 101), (91, .new 73, 94, 0), (94, .dup, 95, 0), (95, .ldc 220, 97, 0), (97, .invokespecial 77, 100, 0), (100, .athrow, 101, 0), (101, .aload_n 0, 102, 0), (102, .getfield 33, 105, 0), (105, .aload_n 0, 106, 0), (106, .getfield 59, 109, 0), (109, .aload_n 0, 110, 0), (110, .getfield 47, 113, 0), (113, .getfield 389, 116, 0), (116, .iload_n 1, 117, 0), (117, .iaload, 118, 0), (118, .aload_n 0, 119, 0), (119, .getfield 47, 122, 0), (122, .getfield 390, 125, 0), (125, .iload_n 1, 126, 0), (126, .iaload, 127, 0), (127, .aload_n 0, 128, 0), (128, .getfield 47, 131, 0), (131, .getfield 393, 134, 0), (134, .iload_n 1, 135, 0), (135, .iaload, 136, 0), (136, .aload_n 0, 137, 0), (137, .getfield 47, 140, 0), (140, .getfield 396, 143, 0), (143, .iload_n 1, 144, 0), (144, .iaload, 145, 0), (145, .invokevirtual 222, 148, 0), (148, .istore_n 2, 149, 0), (149, .aload_n 0, 150, 0), (150, .getfield 47, 153, 0), (153, .getfield 353, 156, 0), (156, .iload_n 1, 157, 0), (157, .iconst 1, 158, 0), (158, .iastore, 159, 0), (159, .aload_n 0, 160, 0), (160, .getfield 47, 163, 0), (163, .getfield 399, 166, 0), (166, .iload_n 1, 167, 0), (167, .iload_n 2, 168, 0), (168, .iastore, 169, 0), (169, .iload_n 2, 170, 0), (170, .ireturn, 171, 0)], [(33, 2096, 3, some 10240), (47, 2096, 5, some 14368), (59, 2096, 8, none), (219, 10240, 8, none), (353, 14368, 5, some 98401), (389, 14368, 1, some 90209), (390, 14368, 2, some 92257), (393, 14368, 3, some 94305), (396, 14368, 4, some 96353), (399, 14368, 8, some 104545)], [(222, 6, (z_rc 10240 sp_X0_add)), (345, 2, (z_rc 14368 sp_X4_isNotice)), (350, 2, (z_rc 2096 sp_X6_partiesOf)), (379, 4, (z_rc 14368 sp_X4_isRipe)), (384, 3, (z_rc 14368 sp_X4_isPast))], [], [], [(11, "java/lang/IndexOutOfBoundsException"), (42, "java/lang/IllegalStateException"), (68, "java/lang/IllegalStateException"), (91, "java/lang/IllegalStateException")], [], some .int)
def ss_X6_proceed : List z_ST := [(11, "java/lang/IndexOutOfBoundsException", 86, 369, 90, "no such notice", true), (42, "java/lang/IllegalStateException", 73, 382, 77, "the notice cannot be done now", true), (68, "java/lang/IllegalStateException", 73, 387, 77, "the last month is gone", true), (91, "java/lang/IllegalStateException", 73, 220, 77, "there are 40 acts", false)]
set_option maxRecDepth 20000 in
set_option maxHeartbeats 4000000 in
theorem ct_X6_proceed (l : Launch) (hl9 : l.stackTraces = false) : z_CX l yX6_proceed cX6_proceed 3 (some .int) sp_X6_proceed 6 := by
  refine z_CX_of G_X6_proceed ss_X6_proceed hl9 (by decide) (by decide) (by decide +kernel) (z_pok_of ft_X6 ci_X6 cL_X6_L fo_X6 co_X6 lo_X6 (by decide +kernel)) rfl rfl (by decide +kernel) ?_ ?_ ?_
  · intro as S P Po Px h
    unfold sp_X6_proceed at h
    split at h
    · exact Nat.le_of_ble_eq_true rfl
    · exact h.elim
  · exact List.forall_mem_cons.mpr ⟨z_coV (ct_X0_add l) kb_X0_add kv_X6_222 ko_X0 (by decide) (by decide) (by decide), List.forall_mem_cons.mpr ⟨z_coV (ct_X4_isNotice l) kb_X4_isNotice kv_X6_345 ko_X4 (by decide) (by decide) (by decide), List.forall_mem_cons.mpr ⟨z_coV (ct_X6_partiesOf l) kb_X6_partiesOf kv_X6_350 ko_X6 (by decide) (by decide) (by decide), List.forall_mem_cons.mpr ⟨z_coV (ct_X4_isRipe l) kb_X4_isRipe kv_X6_379 ko_X4 (by decide) (by decide) (by decide), List.forall_mem_cons.mpr ⟨z_coV (ct_X4_isPast l) kb_X4_isPast kv_X6_384 ko_X4 (by decide) (by decide) (by decide), fun _ h => absurd h List.not_mem_nil⟩⟩⟩⟩⟩
  · intro as S P Po Px h V hV hW
    unfold sp_X6_proceed at h
    split at h
    · rename_i x1
      obtain ⟨hp0, hpo⟩ := h
      refine hV [] 92 0 _ _ _ _ ?_
      refine z_brn (fun (h1 : (f_X4_isNotice S P x1) = true) => ?_) (fun (h1 : (f_X4_isNotice S P x1) = false) => ?_)
      · refine ⟨(show vp_in x1 12 by first | exact t_isClaim hp0 (by assumption) | exact t_isNotice hp0 (by assumption)), (show z_le (S 12296 8) 12 by exact z_J_claims hp0), ?_⟩
        refine ⟨(show vp_in x1 12 by first | exact t_isClaim hp0 (by assumption) | exact t_isNotice hp0 (by assumption)), ?_⟩
        refine z_brn (fun (h2 : (f_X4_isRipe S P x1 (S 2096 8) (f_X6_partiesOf S P x1)) = true) => ?_) (fun (h2 : (f_X4_isRipe S P x1 (S 2096 8) (f_X6_partiesOf S P x1)) = false) => ?_)
        · refine ⟨(show vp_in x1 12 by first | exact t_isClaim hp0 (by assumption) | exact t_isNotice hp0 (by assumption)), ?_⟩
          refine z_br (fun (h3 : (f_X4_isPast S P x1 (S 2096 8)) = false) => ?_) (fun (h3 : (f_X4_isPast S P x1 (S 2096 8)) = true) => ?_)
          · refine ⟨fun (h4 : (S 10240 8) < (nI 40)) => ?_, fun (h4 : ¬ ((S 10240 8) < (nI 40))) => ?_⟩
            · refine ⟨(show vp_in x1 12 by first | exact t_isClaim hp0 (by assumption) | exact t_isNotice hp0 (by assumption)), ?_⟩
              refine ⟨(show vp_in x1 12 by first | exact t_isClaim hp0 (by assumption) | exact t_isNotice hp0 (by assumption)), ?_⟩
              refine ⟨(show vp_in x1 12 by first | exact t_isClaim hp0 (by assumption) | exact t_isNotice hp0 (by assumption)), ?_⟩
              refine ⟨(show vp_in x1 12 by first | exact t_isClaim hp0 (by assumption) | exact t_isNotice hp0 (by assumption)), ?_⟩
              refine ⟨(show vp_in (S 10240 8) 40 by first | exact z_room (by assumption) (z_J_acts hp0) (by decide) (by decide) | exact z_roomL (by assumption) (z_J_acts hp0) (by decide) (by decide)), ?_⟩
              refine ⟨(show vp_in x1 12 by first | exact t_isClaim hp0 (by assumption) | exact t_isNotice hp0 (by assumption)), ?_⟩
              refine ⟨(show vp_in x1 12 by first | exact t_isClaim hp0 (by assumption) | exact t_isNotice hp0 (by assumption)), ?_⟩
              have he : e_X6_proceed S P x1 = 0 := (if_pos h1).trans ((if_pos h2).trans ((if_neg (z_nt h3)).trans ((if_pos h4).trans rfl)))
              rw [he] at hpo
              exact z_pi hpo ((if_pos h1).trans ((if_pos h2).trans ((if_neg (z_nt h3)).trans ((if_pos h4).trans rfl)))) ((if_pos h1).trans ((if_pos h2).trans ((if_neg (z_nt h3)).trans ((if_pos h4).trans rfl)))) (rfl)
            · have he : e_X6_proceed S P x1 = 3 := (if_pos h1).trans ((if_pos h2).trans ((if_neg (z_nt h3)).trans ((if_neg h4).trans rfl)))
              rw [he] at hpo
              exact hpo
          · have he : e_X6_proceed S P x1 = 3 := (if_pos h1).trans ((if_pos h2).trans ((if_pos h3).trans rfl))
            rw [he] at hpo
            exact hpo
        · have he : e_X6_proceed S P x1 = 3 := (if_pos h1).trans ((if_neg (z_nt h2)).trans rfl)
          rw [he] at hpo
          exact hpo
      · have he : e_X6_proceed S P x1 = 1 := (if_neg (z_nt h1)).trans rfl
        rw [he] at hpo
        exact hpo
    · exact h.elim
def f_X6_ofNotice (S : z_MI) (P : z_ML) (x1 : Int32) (x2 : Int32) : Int32 :=
  if (f_X4_isNotice S P x1) = true then
    if x2 < 0 then
      0
    else
      if x2 ≤ (nI 5) then
        if x2 = nI 0 then
          S 98401 x1.toNatClampNeg
        else
        if x2 = nI 1 then
          f_X6_partiesOf S P x1
        else
        if x2 = nI 2 then
          S 100449 x1.toNatClampNeg
        else
        if x2 = nI 3 then
          S 102497 x1.toNatClampNeg
        else
        if x2 = nI 4 then
          S 88161 x1.toNatClampNeg
        else
          S 104545 x1.toNatClampNeg
      else
        0
  else
    0
def e_X6_ofNotice (S : z_MI) (P : z_ML) (x1 : Int32) (x2 : Int32) : Nat :=
  if (f_X4_isNotice S P x1) = true then
    if x2 < 0 then
      2
    else
      if x2 ≤ (nI 5) then
        if x2 = nI 0 then
          0
        else
        if x2 = nI 1 then
          0
        else
        if x2 = nI 2 then
          0
        else
        if x2 = nI 3 then
          0
        else
        if x2 = nI 4 then
          0
        else
          0
      else
        2
  else
    1
def sp_X6_ofNotice : z_SX := fun as S P k kx => match as with
  | [.ref 2096, .int x1, .int x2] => z_J S ∧ (match e_X6_ofNotice S P x1 x2 with
      | 0 => k (some (.int (f_X6_ofNotice S P x1 x2))) S P
      | 1 => kx "java/lang/IndexOutOfBoundsException" S P
      | 2 => kx "java/lang/IllegalArgumentException" S P
      | _ => kx "java/lang/IllegalStateException" S P)
  | _ => False
def G_X6_ofNotice : z_G := ([(0, .aload_n 0, 1, 0), (1, .getfield 47, 4, 0), (4, .iload_n 1, 5, 0), (5, .invokevirtual 345, 8, 0), (8, .ifCond .ne 14, 11, 22), (11, .new 86, 14, 0), (14, .dup, 15, 0), (15, .ldc_w 369, 18, 0), (18, .invokespecial 90, 21, 0), (21, .athrow, 22, 0), (22, .iload_n 2, 23, 0), (23, .ifCond .lt 8, 26, 31), (26, .iload_n 2, 27, 0), (27, .iconst 5, 28, 0), (28, .if_icmp .le 14, 31, 42), (31, .new 63, 34, 0), (34, .dup, 35, 0), (35, .ldc_w 307, 38, 0), (38, .invokespecial 67, 41, 0), (41, .athrow, 42, 0), (42, .iload_n 2, 43, 0), (43, .tableswitch 79 0 4 #[33, 43, 49, 59, 69], 76, 122), (76, .aload_n 0, 77, 0), (77, .getfield 47, 80, 0), (80, .getfield 353, 83, 0), (83, .iload_n 1, 84, 0), (84, .iaload, 85, 0), (85, .ireturn, 86, 0), (86, .aload_n 0, 87, 0), (87, .iload_n 1, 88, 0), (88, .invokevirtual 350, 91, 0), (91, .ireturn, 92, 0), (92, .aload_n 0, 93, 0), (93, .getfield 47, 96, 0), (96, .getfield 354, 99, 0), (99, .iload_n 1, 100, 0), (100, .iaload, 101, 0), (101, .ireturn, 102, 0), (102, .aload_n 0, 103, 0), (103, .getfield 47, 106, 0), (106, .getfield 364, 109, 0), (109, .iload_n 1, 110, 0), (110, .iaload, 111, 0), (111, .ireturn, 112, 0), (112, .aload_n 0, 113, 0), (113, .getfield 47, 116, 0), (116, .getfield 402, 119, 0), (119, .iload_n 1, 120, 0), (120, .iaload, 121, 0), (121, .ireturn, 122, 0), (122, .aload_n 0, 123, 0), (123, .getfield 47, 126, 0), (126, .getfield 399, 129, 0), (129, .iload_n 1, 130, 0), (130, .iaload, 131, 0), (131, .ireturn, 132, 0)], [(47, 2096, 5, some 14368), (353, 14368, 5, some 98401), (354, 14368, 6, some 100449), (364, 14368, 7, some 102497), (399, 14368, 8, some 104545), (402, 14368, 0, some 88161)], [(345, 2, (z_rc 14368 sp_X4_isNotice)), (350, 2, (z_rc 2096 sp_X6_partiesOf))], [], [], [(11, "java/lang/IndexOutOfBoundsException"), (31, "java/lang/IllegalArgumentException")], [76, 86, 92, 102, 112], some .int)
def ss_X6_ofNotice : List z_ST := [(11, "java/lang/IndexOutOfBoundsException", 86, 369, 90, "no such notice", true), (31, "java/lang/IllegalArgumentException", 63, 307, 67, "what is out of range", true)]
set_option maxRecDepth 20000 in
set_option maxHeartbeats 4000000 in
theorem ct_X6_ofNotice (l : Launch) (hl9 : l.stackTraces = false) : z_CX l yX6_ofNotice cX6_ofNotice 3 (some .int) sp_X6_ofNotice 6 := by
  refine z_CX_of G_X6_ofNotice ss_X6_ofNotice hl9 (by decide) (by decide) (by decide +kernel) (z_pok_of ft_X6 ci_X6 cL_X6_L fo_X6 co_X6 lo_X6 (by decide +kernel)) rfl rfl (by decide +kernel) ?_ ?_ ?_
  · intro as S P Po Px h
    unfold sp_X6_ofNotice at h
    split at h
    · exact Nat.le_of_ble_eq_true rfl
    · exact h.elim
  · exact List.forall_mem_cons.mpr ⟨z_coV (ct_X4_isNotice l) kb_X4_isNotice kv_X6_345 ko_X4 (by decide) (by decide) (by decide), List.forall_mem_cons.mpr ⟨z_coV (ct_X6_partiesOf l) kb_X6_partiesOf kv_X6_350 ko_X6 (by decide) (by decide) (by decide), fun _ h => absurd h List.not_mem_nil⟩⟩
  · intro as S P Po Px h V hV hW
    unfold sp_X6_ofNotice at h
    split at h
    · rename_i x1 x2
      obtain ⟨hp0, hpo⟩ := h
      refine hV [] 61 0 _ _ _ _ ?_
      refine z_brn (fun (h1 : (f_X4_isNotice S P x1) = true) => ?_) (fun (h1 : (f_X4_isNotice S P x1) = false) => ?_)
      · refine ⟨fun (h2 : x2 < 0) => ?_, fun (h2 : ¬ (x2 < 0)) => ?_⟩
        · have he : e_X6_ofNotice S P x1 x2 = 2 := (if_pos h1).trans ((if_pos h2).trans rfl)
          rw [he] at hpo
          exact hpo
        · refine ⟨fun (h3 : x2 ≤ (nI 5)) => ?_, fun (h3 : ¬ (x2 ≤ (nI 5))) => ?_⟩
          · refine ⟨fun (h4 : x2 = nI 0) => ?_, fun (h5 : x2 = nI 1) => ?_, fun (h6 : x2 = nI 2) => ?_, fun (h7 : x2 = nI 3) => ?_, fun (h8 : x2 = nI 4) => ?_, fun h9 => ?_⟩
            · refine ⟨(show vp_in x1 12 by first | exact t_isClaim hp0 (by assumption) | exact t_isNotice hp0 (by assumption)), ?_⟩
              have he : e_X6_ofNotice S P x1 x2 = 0 := (if_pos h1).trans ((if_neg h2).trans ((if_pos h3).trans ((if_pos h4).trans rfl)))
              rw [he] at hpo
              exact z_pi hpo ((if_pos h1).trans ((if_neg h2).trans ((if_pos h3).trans ((if_pos h4).trans rfl)))) (rfl) (rfl)
            · refine ⟨(show vp_in x1 12 by first | exact t_isClaim hp0 (by assumption) | exact t_isNotice hp0 (by assumption)), (show z_le (S 12296 8) 12 by exact z_J_claims hp0), ?_⟩
              have he : e_X6_ofNotice S P x1 x2 = 0 := (if_pos h1).trans ((if_neg h2).trans ((if_pos h3).trans ((if_neg (show ¬ x2 = nI 0 by rw [h5]; decide)).trans ((if_pos h5).trans rfl))))
              rw [he] at hpo
              exact z_pi hpo ((if_pos h1).trans ((if_neg h2).trans ((if_pos h3).trans ((if_neg (show ¬ x2 = nI 0 by rw [h5]; decide)).trans ((if_pos h5).trans rfl))))) (rfl) (rfl)
            · refine ⟨(show vp_in x1 12 by first | exact t_isClaim hp0 (by assumption) | exact t_isNotice hp0 (by assumption)), ?_⟩
              have he : e_X6_ofNotice S P x1 x2 = 0 := (if_pos h1).trans ((if_neg h2).trans ((if_pos h3).trans ((if_neg (show ¬ x2 = nI 0 by rw [h6]; decide)).trans ((if_neg (show ¬ x2 = nI 1 by rw [h6]; decide)).trans ((if_pos h6).trans rfl)))))
              rw [he] at hpo
              exact z_pi hpo ((if_pos h1).trans ((if_neg h2).trans ((if_pos h3).trans ((if_neg (show ¬ x2 = nI 0 by rw [h6]; decide)).trans ((if_neg (show ¬ x2 = nI 1 by rw [h6]; decide)).trans ((if_pos h6).trans rfl)))))) (rfl) (rfl)
            · refine ⟨(show vp_in x1 12 by first | exact t_isClaim hp0 (by assumption) | exact t_isNotice hp0 (by assumption)), ?_⟩
              have he : e_X6_ofNotice S P x1 x2 = 0 := (if_pos h1).trans ((if_neg h2).trans ((if_pos h3).trans ((if_neg (show ¬ x2 = nI 0 by rw [h7]; decide)).trans ((if_neg (show ¬ x2 = nI 1 by rw [h7]; decide)).trans ((if_neg (show ¬ x2 = nI 2 by rw [h7]; decide)).trans ((if_pos h7).trans rfl))))))
              rw [he] at hpo
              exact z_pi hpo ((if_pos h1).trans ((if_neg h2).trans ((if_pos h3).trans ((if_neg (show ¬ x2 = nI 0 by rw [h7]; decide)).trans ((if_neg (show ¬ x2 = nI 1 by rw [h7]; decide)).trans ((if_neg (show ¬ x2 = nI 2 by rw [h7]; decide)).trans ((if_pos h7).trans rfl))))))) (rfl) (rfl)
            · refine ⟨(show vp_in x1 12 by first | exact t_isClaim hp0 (by assumption) | exact t_isNotice hp0 (by assumption)), ?_⟩
              have he : e_X6_ofNotice S P x1 x2 = 0 := (if_pos h1).trans ((if_neg h2).trans ((if_pos h3).trans ((if_neg (show ¬ x2 = nI 0 by rw [h8]; decide)).trans ((if_neg (show ¬ x2 = nI 1 by rw [h8]; decide)).trans ((if_neg (show ¬ x2 = nI 2 by rw [h8]; decide)).trans ((if_neg (show ¬ x2 = nI 3 by rw [h8]; decide)).trans ((if_pos h8).trans rfl)))))))
              rw [he] at hpo
              exact z_pi hpo ((if_pos h1).trans ((if_neg h2).trans ((if_pos h3).trans ((if_neg (show ¬ x2 = nI 0 by rw [h8]; decide)).trans ((if_neg (show ¬ x2 = nI 1 by rw [h8]; decide)).trans ((if_neg (show ¬ x2 = nI 2 by rw [h8]; decide)).trans ((if_neg (show ¬ x2 = nI 3 by rw [h8]; decide)).trans ((if_pos h8).trans rfl)))))))) (rfl) (rfl)
            · refine ⟨(show vp_in x1 12 by first | exact t_isClaim hp0 (by assumption) | exact t_isNotice hp0 (by assumption)), ?_⟩
              have he : e_X6_ofNotice S P x1 x2 = 0 := (if_pos h1).trans ((if_neg h2).trans ((if_pos h3).trans ((if_neg (h9 0 (by decide))).trans ((if_neg (h9 1 (by decide))).trans ((if_neg (h9 2 (by decide))).trans ((if_neg (h9 3 (by decide))).trans ((if_neg (h9 4 (by decide))).trans rfl)))))))
              rw [he] at hpo
              exact z_pi hpo ((if_pos h1).trans ((if_neg h2).trans ((if_pos h3).trans ((if_neg (h9 0 (by decide))).trans ((if_neg (h9 1 (by decide))).trans ((if_neg (h9 2 (by decide))).trans ((if_neg (h9 3 (by decide))).trans ((if_neg (h9 4 (by decide))).trans rfl)))))))) (rfl) (rfl)
          · have he : e_X6_ofNotice S P x1 x2 = 2 := (if_pos h1).trans ((if_neg h2).trans ((if_neg h3).trans rfl))
            rw [he] at hpo
            exact hpo
      · have he : e_X6_ofNotice S P x1 x2 = 1 := (if_neg (z_nt h1)).trans rfl
        rw [he] at hpo
        exact hpo
    · exact h.elim
def f_X6_value (S : z_MI) (P : z_ML) (x1 : Int32) (x2 : Int32) : Int32 :=
  if (f_X6_isPlace S P x1) = true then
    if x2 < 0 then
      0
    else
      if x2 ≤ (nI 1000000) then
        S 16513 x1.toNatClampNeg
      else
        0
  else
    0
def u_X6_value (S : z_MI) (P : z_ML) (x1 : Int32) (x2 : Int32) : z_MI :=
  if (f_X6_isPlace S P x1) = true then
    if x2 < 0 then
      S
    else
      if x2 ≤ (nI 1000000) then
        va_up S 16513 (upd (S 16513) x1.toNatClampNeg x2)
      else
        S
  else
    S
def e_X6_value (S : z_MI) (P : z_ML) (x1 : Int32) (x2 : Int32) : Nat :=
  if (f_X6_isPlace S P x1) = true then
    if x2 < 0 then
      2
    else
      if x2 ≤ (nI 1000000) then
        0
      else
        2
  else
    1
def sp_X6_value : z_SX := fun as S P k kx => match as with
  | [.ref 2096, .int x1, .int x2] => z_J S ∧ (match e_X6_value S P x1 x2 with
      | 0 => k (some (.int (f_X6_value S P x1 x2))) (u_X6_value S P x1 x2) P
      | 1 => kx "java/lang/IndexOutOfBoundsException" S P
      | 2 => kx "java/lang/IllegalArgumentException" S P
      | _ => kx "java/lang/IllegalStateException" S P)
  | _ => False
def G_X6_value : z_G := ([(0, .iload_n 1, 1, 0), (1, .invokestatic 150, 4, 0), (4, .ifCond .ne 13, 7, 17), (7, .new 86, 10, 0), (10, .dup, 11, 0), (11, .ldc 242, 13, 0), (13, .invokespecial 90, 16, 0), (16, .athrow, 17, 0), (17, .iload_n 2, 18, 0), (18, .ifCond .lt 10, 21, 28), (21, .iload_n 2, 22, 0), (22, .ldc_w 406, 25, 0), (25, .if_icmp .le 14, 28, 39), (28, .new 63, 31, 0), (31, .dup, 32, 0), (32, .ldc_w 407, 35, 0), (35, .invokespecial 67, 38, 0), (38, .athrow, 39, 0), (39, .aload_n 0, 40, 0), (40, .getfield 51, 43, 0), (43, .iload_n 1, 44, 0), (44, .iaload, 45, 0), (45, .istore_n 3, 46, 0), (46, .aload_n 0, 47, 0), (47, .getfield 51, 50, 0), (50, .iload_n 1, 51, 0), (51, .iload_n 2, 52, 0), (52, .iastore, 53, 0), (53, .iload_n 3, 54, 0), (54, .ireturn, 55, 0)], [(51, 2096, 6, some 16513)], [(100150, 1, sp_X6_isPlace)], [(406, 1000000)], [], [(7, "java/lang/IndexOutOfBoundsException"), (28, "java/lang/IllegalArgumentException")], [], some .int)
def ss_X6_value : List z_ST := [(7, "java/lang/IndexOutOfBoundsException", 86, 242, 90, "no such place", false), (28, "java/lang/IllegalArgumentException", 63, 407, 67, "value is out of range", true)]
set_option maxRecDepth 20000 in
set_option maxHeartbeats 4000000 in
theorem ct_X6_value (l : Launch) (hl9 : l.stackTraces = false) : z_CX l yX6_value cX6_value 4 (some .int) sp_X6_value 6 := by
  refine z_CX_of G_X6_value ss_X6_value hl9 (by decide) (by decide) (by decide +kernel) (z_pok_of ft_X6 ci_X6 cL_X6_L fo_X6 co_X6 lo_X6 (by decide +kernel)) rfl rfl (by decide +kernel) ?_ ?_ ?_
  · intro as S P Po Px h
    unfold sp_X6_value at h
    split at h
    · exact Nat.le_of_ble_eq_true rfl
    · exact h.elim
  · exact List.forall_mem_cons.mpr ⟨z_coS (ct_X6_isPlace l) kb_X6_isPlace ks_X6_150 (by decide) (by decide), fun _ h => absurd h List.not_mem_nil⟩
  · intro as S P Po Px h V hV hW
    unfold sp_X6_value at h
    split at h
    · rename_i x1 x2
      obtain ⟨hp0, hpo⟩ := h
      refine hV [] 35 0 _ _ _ _ ?_
      refine z_brn (fun (h1 : (f_X6_isPlace S P x1) = true) => ?_) (fun (h1 : (f_X6_isPlace S P x1) = false) => ?_)
      · refine ⟨fun (h2 : x2 < 0) => ?_, fun (h2 : ¬ (x2 < 0)) => ?_⟩
        · have he : e_X6_value S P x1 x2 = 2 := (if_pos h1).trans ((if_pos h2).trans rfl)
          rw [he] at hpo
          exact hpo
        · refine ⟨fun (h3 : x2 ≤ (nI 1000000)) => ?_, fun (h3 : ¬ (x2 ≤ (nI 1000000))) => ?_⟩
          · refine ⟨(show vp_in x1 16 by first | exact t_isPlace (by assumption)), ?_⟩
            refine ⟨(show vp_in x1 16 by first | exact t_isPlace (by assumption)), ?_⟩
            have he : e_X6_value S P x1 x2 = 0 := (if_pos h1).trans ((if_neg h2).trans ((if_pos h3).trans rfl))
            rw [he] at hpo
            exact z_pi hpo ((if_pos h1).trans ((if_neg h2).trans ((if_pos h3).trans rfl))) ((if_pos h1).trans ((if_neg h2).trans ((if_pos h3).trans rfl))) (rfl)
          · have he : e_X6_value S P x1 x2 = 2 := (if_pos h1).trans ((if_neg h2).trans ((if_neg h3).trans rfl))
            rw [he] at hpo
            exact hpo
      · have he : e_X6_value S P x1 x2 = 1 := (if_neg (z_nt h1)).trans rfl
        rw [he] at hpo
        exact hpo
    · exact h.elim
def f_X6_owed (S : z_MI) (P : z_ML) (x1 : Int32) : Int64 :=
  if (f_X0_isAct S P x1) = true then
    f_X6_owedFor S P x1
  else
    0
def e_X6_owed (S : z_MI) (P : z_ML) (x1 : Int32) : Nat :=
  if (f_X0_isAct S P x1) = true then
    0
  else
    1
def sp_X6_owed : z_SX := fun as S P k kx => match as with
  | [.ref 2096, .int x1] => z_J S ∧ (match e_X6_owed S P x1 with
      | 0 => k (some (.long (f_X6_owed S P x1))) S P
      | 1 => kx "java/lang/IndexOutOfBoundsException" S P
      | 2 => kx "java/lang/IllegalArgumentException" S P
      | _ => kx "java/lang/IllegalStateException" S P)
  | _ => False
def G_X6_owed : z_G := ([(0, .aload_n 0, 1, 0), (1, .getfield 33, 4, 0), (4, .iload_n 1, 5, 0), (5, .invokevirtual 225, 8, 0), (8, .ifCond .ne 13, 11, 21), (11, .new 86, 14, 0), (14, .dup, 15, 0), (15, .ldc 228, 17, 0), (17, .invokespecial 90, 20, 0), (20, .athrow, 21, 0), (21, .aload_n 0, 22, 0), (22, .iload_n 1, 23, 0), (23, .invokevirtual 409, 26, 0), (26, .lreturn, 27, 0)], [(33, 2096, 3, some 10240)], [(225, 2, (z_rc 10240 sp_X0_isAct)), (409, 2, (z_rc 2096 sp_X6_owedFor))], [], [], [(11, "java/lang/IndexOutOfBoundsException")], [], some .long)
def ss_X6_owed : List z_ST := [(11, "java/lang/IndexOutOfBoundsException", 86, 228, 90, "no such act", false)]
set_option maxRecDepth 20000 in
set_option maxHeartbeats 4000000 in
theorem ct_X6_owed (l : Launch) (hl9 : l.stackTraces = false) : z_CX l yX6_owed cX6_owed 2 (some .long) sp_X6_owed 6 := by
  refine z_CX_of G_X6_owed ss_X6_owed hl9 (by decide) (by decide) (by decide +kernel) (z_pok_of ft_X6 ci_X6 cL_X6_L fo_X6 co_X6 lo_X6 (by decide +kernel)) rfl rfl (by decide +kernel) ?_ ?_ ?_
  · intro as S P Po Px h
    unfold sp_X6_owed at h
    split at h
    · exact Nat.le_of_ble_eq_true rfl
    · exact h.elim
  · exact List.forall_mem_cons.mpr ⟨z_coV (ct_X0_isAct l) kb_X0_isAct kv_X6_225 ko_X0 (by decide) (by decide) (by decide), List.forall_mem_cons.mpr ⟨z_coV (ct_X6_owedFor l) kb_X6_owedFor kv_X6_409 ko_X6 (by decide) (by decide) (by decide), fun _ h => absurd h List.not_mem_nil⟩⟩
  · intro as S P Po Px h V hV hW
    unfold sp_X6_owed at h
    split at h
    · rename_i x1
      obtain ⟨hp0, hpo⟩ := h
      refine hV [] 19 0 _ _ _ _ ?_
      refine z_brn (fun (h1 : (f_X0_isAct S P x1) = true) => ?_) (fun (h1 : (f_X0_isAct S P x1) = false) => ?_)
      · refine ⟨(show vp_in x1 40 by first | exact t_isAct hp0 (by assumption)), (show z_le (S 12296 8) 12 by exact z_J_claims hp0), (show z_le (S 10240 8) 40 by exact z_J_acts hp0), ?_⟩
        have he : e_X6_owed S P x1 = 0 := (if_pos h1).trans rfl
        rw [he] at hpo
        exact z_pl hpo ((if_pos h1).trans rfl) (rfl) (rfl)
      · have he : e_X6_owed S P x1 = 1 := (if_neg (z_nt h1)).trans rfl
        rw [he] at hpo
        exact hpo
    · exact h.elim
def f_X6_paid (S : z_MI) (P : z_ML) (x1 : Int32) : Int64 :=
  if (f_X2_isPeople S P x1) = true then
    P 18483 x1.toNatClampNeg
  else
    0
def e_X6_paid (S : z_MI) (P : z_ML) (x1 : Int32) : Nat :=
  if (f_X2_isPeople S P x1) = true then
    0
  else
    1
def sp_X6_paid : z_SX := fun as S P k kx => match as with
  | [.ref 2096, .int x1] => z_J S ∧ (match e_X6_paid S P x1 with
      | 0 => k (some (.long (f_X6_paid S P x1))) S P
      | 1 => kx "java/lang/IndexOutOfBoundsException" S P
      | 2 => kx "java/lang/IllegalArgumentException" S P
      | _ => kx "java/lang/IllegalStateException" S P)
  | _ => False
def G_X6_paid : z_G := ([(0, .aload_n 0, 1, 0), (1, .getfield 10, 4, 0), (4, .iload_n 1, 5, 0), (5, .invokevirtual 102, 8, 0), (8, .ifCond .ne 13, 11, 21), (11, .new 86, 14, 0), (14, .dup, 15, 0), (15, .ldc 137, 17, 0), (17, .invokespecial 90, 20, 0), (20, .athrow, 21, 0), (21, .aload_n 0, 22, 0), (22, .getfield 55, 25, 0), (25, .iload_n 1, 26, 0), (26, .laload, 27, 0), (27, .lreturn, 28, 0)], [(10, 2096, 0, some 4112), (55, 2096, 7, some 18483)], [(102, 2, (z_rc 4112 sp_X2_isPeople))], [], [], [(11, "java/lang/IndexOutOfBoundsException")], [], some .long)
def ss_X6_paid : List z_ST := [(11, "java/lang/IndexOutOfBoundsException", 86, 137, 90, "no such people", false)]
set_option maxRecDepth 20000 in
set_option maxHeartbeats 4000000 in
theorem ct_X6_paid (l : Launch) (hl9 : l.stackTraces = false) : z_CX l yX6_paid cX6_paid 2 (some .long) sp_X6_paid 6 := by
  refine z_CX_of G_X6_paid ss_X6_paid hl9 (by decide) (by decide) (by decide +kernel) (z_pok_of ft_X6 ci_X6 cL_X6_L fo_X6 co_X6 lo_X6 (by decide +kernel)) rfl rfl (by decide +kernel) ?_ ?_ ?_
  · intro as S P Po Px h
    unfold sp_X6_paid at h
    split at h
    · exact Nat.le_of_ble_eq_true rfl
    · exact h.elim
  · exact List.forall_mem_cons.mpr ⟨z_coV (ct_X2_isPeople l) kb_X2_isPeople kv_X6_102 ko_X2 (by decide) (by decide) (by decide), fun _ h => absurd h List.not_mem_nil⟩
  · intro as S P Po Px h V hV hW
    unfold sp_X6_paid at h
    split at h
    · rename_i x1
      obtain ⟨hp0, hpo⟩ := h
      refine hV [] 20 0 _ _ _ _ ?_
      refine z_brn (fun (h1 : (f_X2_isPeople S P x1) = true) => ?_) (fun (h1 : (f_X2_isPeople S P x1) = false) => ?_)
      · refine ⟨(show vp_in x1 6 by first | exact t_isPeople hp0 (by assumption)), ?_⟩
        have he : e_X6_paid S P x1 = 0 := (if_pos h1).trans rfl
        rw [he] at hpo
        exact z_pl hpo ((if_pos h1).trans rfl) (rfl) (rfl)
      · have he : e_X6_paid S P x1 = 1 := (if_neg (z_nt h1)).trans rfl
        rw [he] at hpo
        exact hpo
    · exact h.elim
def f_X6_pass (S : z_MI) (P : z_ML) (x1 : Int32) : Int32 :=
  if x1 < (nI 1) then
    0
  else
    if x1 ≤ (nI 600) then
      if ((S 2096 8) + x1) ≤ (nI 5000) then
        (upd (S 2096) 8 ((S 2096 8) + x1)) 8
      else
        0
    else
      0
def u_X6_pass (S : z_MI) (P : z_ML) (x1 : Int32) : z_MI :=
  if x1 < (nI 1) then
    S
  else
    if x1 ≤ (nI 600) then
      if ((S 2096 8) + x1) ≤ (nI 5000) then
        va_up S 2096 (upd (S 2096) 8 ((S 2096 8) + x1))
      else
        S
    else
      S
def e_X6_pass (S : z_MI) (P : z_ML) (x1 : Int32) : Nat :=
  if x1 < (nI 1) then
    2
  else
    if x1 ≤ (nI 600) then
      if ((S 2096 8) + x1) ≤ (nI 5000) then
        0
      else
        3
    else
      2
def sp_X6_pass : z_SX := fun as S P k kx => match as with
  | [.ref 2096, .int x1] => z_J S ∧ (match e_X6_pass S P x1 with
      | 0 => k (some (.int (f_X6_pass S P x1))) (u_X6_pass S P x1) P
      | 1 => kx "java/lang/IndexOutOfBoundsException" S P
      | 2 => kx "java/lang/IllegalArgumentException" S P
      | _ => kx "java/lang/IllegalStateException" S P)
  | _ => False
def G_X6_pass : z_G := ([(0, .iload_n 1, 1, 0), (1, .iconst 1, 2, 0), (2, .if_icmp .lt 10, 5, 12), (5, .iload_n 1, 6, 0), (6, .sipush 600, 9, 0), (9, .if_icmp .le 14, 12, 23), (12, .new 63, 15, 0), (15, .dup, 16, 0), (16, .ldc_w 426, 19, 0), (19, .invokespecial 67, 22, 0), (22, .athrow, 23, 0), (23, .aload_n 0, 24, 0), (24, .getfield 59, 27, 0), (27, .iload_n 1, 28, 0), (28, .iadd, 29, 0), (29, .sipush 5000, 32, 0), (32, .if_icmp .le 14, 35, 46), (35, .new 73, 38, 0), (38, .dup, 39, 0), (39, .ldc_w 428, 42, 0), (42, .invokespecial 77, 45, 0), (45, .athrow, 46, 0), (46, .aload_n 0, 47, 0), (47, .dup, 48, 0), (48, .getfield 59, 51, 0), (51, .iload_n 1, 52, 0), (52, .iadd, 53, 0), (53, .putfield 59, 56, 0), (56, .aload_n 0, 57, 0), (57, .getfield 59, 60, 0), (60, .ireturn, 61, 0)], [(59, 2096, 8, none)], [], [], [], [(12, "java/lang/IllegalArgumentException"), (35, "java/lang/IllegalStateException")], [], some .int)
def ss_X6_pass : List z_ST := [(12, "java/lang/IllegalArgumentException", 63, 426, 67, "months is out of range", true), (35, "java/lang/IllegalStateException", 73, 428, 77, "the month would be above 5000", true)]
set_option maxRecDepth 20000 in
set_option maxHeartbeats 4000000 in
theorem ct_X6_pass (l : Launch) (hl9 : l.stackTraces = false) : z_CX l yX6_pass cX6_pass 2 (some .int) sp_X6_pass 6 := by
  refine z_CX_of G_X6_pass ss_X6_pass hl9 (by decide) (by decide) (by decide +kernel) (z_pok_of ft_X6 ci_X6 cL_X6_L fo_X6 co_X6 lo_X6 (by decide +kernel)) rfl rfl (by decide +kernel) ?_ ?_ ?_
  · intro as S P Po Px h
    unfold sp_X6_pass at h
    split at h
    · exact Nat.le_of_ble_eq_true rfl
    · exact h.elim
  · exact fun _ h => absurd h List.not_mem_nil
  · intro as S P Po Px h V hV hW
    unfold sp_X6_pass at h
    split at h
    · rename_i x1
      obtain ⟨hp0, hpo⟩ := h
      refine hV [] 36 0 _ _ _ _ ?_
      refine ⟨fun (h1 : x1 < (nI 1)) => ?_, fun (h1 : ¬ (x1 < (nI 1))) => ?_⟩
      · have he : e_X6_pass S P x1 = 2 := (if_pos h1).trans rfl
        rw [he] at hpo
        exact hpo
      · refine ⟨fun (h2 : x1 ≤ (nI 600)) => ?_, fun (h2 : ¬ (x1 ≤ (nI 600))) => ?_⟩
        · refine ⟨fun (h3 : ((S 2096 8) + x1) ≤ (nI 5000)) => ?_, fun (h3 : ¬ (((S 2096 8) + x1) ≤ (nI 5000))) => ?_⟩
          · have he : e_X6_pass S P x1 = 0 := (if_neg h1).trans ((if_pos h2).trans ((if_pos h3).trans rfl))
            rw [he] at hpo
            exact z_pi hpo ((if_neg h1).trans ((if_pos h2).trans ((if_pos h3).trans rfl))) ((if_neg h1).trans ((if_pos h2).trans ((if_pos h3).trans rfl))) (rfl)
          · have he : e_X6_pass S P x1 = 3 := (if_neg h1).trans ((if_pos h2).trans ((if_neg h3).trans rfl))
            rw [he] at hpo
            exact hpo
        · have he : e_X6_pass S P x1 = 2 := (if_neg h1).trans ((if_neg h2).trans rfl)
          rw [he] at hpo
          exact hpo
    · exact h.elim
def l_X6_pay_47 (S : z_MI) (P : z_ML) (x1 : Int32) (k47 : Nat) (a47 : z_ML) : z_ML :=
  v_X6_share S a47 (f_X6_owedAt S a47 x1 (nI k47)) (f_X1_holdersOf S a47 (nI k47))
def f_X6_pay (S : z_MI) (P : z_ML) (x1 : Int32) : Int64 :=
  if (f_X0_isAct S P x1) = true then
    if (lg_cmp (f_X6_owedFor S P x1) (lN 0)) = 0 then
      0
    else
      f_X6_owedFor S P x1
  else
    0
def u_X6_pay (S : z_MI) (P : z_ML) (x1 : Int32) : z_MI :=
  if (f_X0_isAct S P x1) = true then
    if (lg_cmp (f_X6_owedFor S P x1) (lN 0)) = 0 then
      S
    else
      va_up S 69954 (upd (S 69954) x1.toNatClampNeg (vp_nar .boolean (nI 1)))
  else
    S
def v_X6_pay (S : z_MI) (P : z_ML) (x1 : Int32) : z_ML :=
  if (f_X0_isAct S P x1) = true then
    if (lg_cmp (f_X6_owedFor S P x1) (lN 0)) = 0 then
      P
    else
      (z_fo (fun k47 a47 => l_X6_pay_47 S P x1 k47 a47) P 16)
  else
    P
def e_X6_pay (S : z_MI) (P : z_ML) (x1 : Int32) : Nat :=
  if (f_X0_isAct S P x1) = true then
    if (lg_cmp (f_X6_owedFor S P x1) (lN 0)) = 0 then
      3
    else
      0
  else
    1
def sp_X6_pay : z_SX := fun as S P k kx => match as with
  | [.ref 2096, .int x1] => z_J S ∧ (match e_X6_pay S P x1 with
      | 0 => k (some (.long (f_X6_pay S P x1))) (u_X6_pay S P x1) (v_X6_pay S P x1)
      | 1 => kx "java/lang/IndexOutOfBoundsException" S P
      | 2 => kx "java/lang/IllegalArgumentException" S P
      | _ => kx "java/lang/IllegalStateException" S P)
  | _ => False
def G_X6_pay : z_G := ([(0, .aload_n 0, 1, 0), (1, .getfield 33, 4, 0), (4, .iload_n 1, 5, 0), (5, .invokevirtual 225, 8, 0), (8, .ifCond .ne 13, 11, 21), (11, .new 86, 14, 0), (14, .dup, 15, 0), (15, .ldc 228, 17, 0), (17, .invokespecial 90, 20, 0), (20, .athrow, 21, 0), (21, .aload_n 0, 22, 0), (22, .iload_n 1, 23, 0), (23, .invokevirtual 409, 26, 0), (26, .lstore_n 2, 27, 0), (27, .lload_n 2, 28, 0), (28, .lconst 0, 29, 0), (29, .lcmp, 30, 0), (30, .ifCond .ne 14, 33, 44), (33, .new 73, 36, 0), (36, .dup, 37, 0), (37, .ldc_w 413, 40, 0), (40, .invokespecial 77, 43, 0), (43, .athrow, 44, 0), (44, .iconst 0, 45, 0), (45, .istore 4, 47, 0), (47, .iload 4, 49, 0), (49, .bipush 16, 51, 0), (51, .if_icmp .ge 29, 54, 80), (54, .aload_n 0, 55, 0), (55, .aload_n 0, 56, 0), (56, .iload_n 1, 57, 0), (57, .iload 4, 59, 0), (59, .invokevirtual 415, 62, 0), (62, .aload_n 0, 63, 0), (63, .getfield 40, 66, 0), (66, .iload 4, 68, 0), (68, .invokevirtual 312, 71, 0), (71, .invokevirtual 419, 74, 0), (74, .iinc 4 1, 77, 0), (77, .goto (-30), 80, 47), (80, .aload_n 0, 81, 0), (81, .getfield 33, 84, 0), (84, .getfield 423, 87, 0), (87, .iload_n 1, 88, 0), (88, .iconst 1, 89, 0), (89, .bastore, 90, 0), (90, .lload_n 2, 91, 0), (91, .lreturn, 92, 0)], [(33, 2096, 3, some 10240), (40, 2096, 4, some 12296), (423, 10240, 7, some 69954)], [(225, 2, (z_rc 10240 sp_X0_isAct)), (312, 2, (z_rc 12296 sp_X1_holdersOf)), (409, 2, (z_rc 2096 sp_X6_owedFor)), (415, 3, (z_rc 2096 sp_X6_owedAt)), (419, 3, (z_rc 2096 sp_X6_share))], [], [], [(11, "java/lang/IndexOutOfBoundsException"), (33, "java/lang/IllegalStateException")], [], some .long)
def ss_X6_pay : List z_ST := [(11, "java/lang/IndexOutOfBoundsException", 86, 228, 90, "no such act", false), (33, "java/lang/IllegalStateException", 73, 413, 77, "the act cannot be paid for, or nothing is owed", true)]
set_option maxRecDepth 20000 in
set_option maxHeartbeats 4000000 in
theorem ct_X6_pay (l : Launch) (hl9 : l.stackTraces = false) : z_CX l yX6_pay cX6_pay 5 (some .long) sp_X6_pay 6 := by
  refine z_CX_of G_X6_pay ss_X6_pay hl9 (by decide) (by decide) (by decide +kernel) (z_pok_of ft_X6 ci_X6 cL_X6_L fo_X6 co_X6 lo_X6 (by decide +kernel)) rfl rfl (by decide +kernel) ?_ ?_ ?_
  · intro as S P Po Px h
    unfold sp_X6_pay at h
    split at h
    · exact Nat.le_of_ble_eq_true rfl
    · exact h.elim
  · exact List.forall_mem_cons.mpr ⟨z_coV (ct_X0_isAct l) kb_X0_isAct kv_X6_225 ko_X0 (by decide) (by decide) (by decide), List.forall_mem_cons.mpr ⟨z_coV (ct_X1_holdersOf l) kb_X1_holdersOf kv_X6_312 ko_X1 (by decide) (by decide) (by decide), List.forall_mem_cons.mpr ⟨z_coV (ct_X6_owedFor l) kb_X6_owedFor kv_X6_409 ko_X6 (by decide) (by decide) (by decide), List.forall_mem_cons.mpr ⟨z_coV (ct_X6_owedAt l) kb_X6_owedAt kv_X6_415 ko_X6 (by decide) (by decide) (by decide), List.forall_mem_cons.mpr ⟨z_coV (ct_X6_share l) kb_X6_share kv_X6_419 ko_X6 (by decide) (by decide) (by decide), fun _ h => absurd h List.not_mem_nil⟩⟩⟩⟩⟩
  · intro as S P Po Px h V hV hW
    unfold sp_X6_pay at h
    split at h
    · rename_i x1
      obtain ⟨hp0, hpo⟩ := h
      refine hV [47] 53 0 _ _ _ _ ?_
      refine z_brn (fun (h1 : (f_X0_isAct S P x1) = true) => ?_) (fun (h1 : (f_X0_isAct S P x1) = false) => ?_)
      · refine ⟨(show vp_in x1 40 by first | exact t_isAct hp0 (by assumption)), (show z_le (S 12296 8) 12 by exact z_J_claims hp0), (show z_le (S 10240 8) 40 by exact z_J_acts hp0), ?_⟩
        refine ⟨fun (h2 : ¬ ((lg_cmp (f_X6_owedFor S P x1) (lN 0)) = 0)) => ?_, fun (h2 : (lg_cmp (f_X6_owedFor S P x1) (lN 0)) = 0) => ?_⟩
        · have hb47 : ((nI 16) : Int32) = (nI 16) := rfl
          have hL47 : ∀ (j k47 : Nat) (x900 : Int32) (a47 : z_ML), k47 + j = 16 → x900 = nI k47 → a47 = z_fo (fun k47 a47 => l_X6_pay_47 S P x1 k47 a47) P k47 → V 47 [(0, .ref 2096), (1, .int x1), (2, .long (f_X6_owedFor S P x1)), (4, .int x900)] [] S a47 := by
            intro j
            induction j with
            | zero =>
              intro k47 x900 a47 hk47 hx47 ha47
              subst hx47
              have hk9 : k47 = 16 := by omega
              subst hk9
              subst ha47
              refine hV [47] 53 47 _ _ _ _ ?_
              refine ⟨fun _ => ?_, fun h => absurd ((z_brge hb47 (by omega) (by omega)).mpr (Nat.le_refl _)) h⟩
              refine ⟨(show vp_in x1 40 by first | exact t_isAct hp0 (by assumption)), ?_⟩
              have he : e_X6_pay S P x1 = 0 := (if_pos h1).trans ((if_neg h2).trans rfl)
              rw [he] at hpo
              exact z_pl hpo ((if_pos h1).trans ((if_neg h2).trans rfl)) ((if_pos h1).trans ((if_neg h2).trans rfl)) ((if_pos h1).trans ((if_neg h2).trans rfl))
            | succ j ih =>
              intro k47 x900 a47 hk47 hx47 ha47
              subst hx47
              have hk9 : k47 < 16 := by omega
              subst ha47
              refine hV [47] 53 47 _ _ _ _ ?_
              refine ⟨fun h => absurd ((z_brge hb47 (by omega) (by omega)).mp h) (by omega), fun _ => ?_⟩
              refine ⟨(show vp_in x1 40 by first | exact t_isAct hp0 (by assumption)), (show z_le (S 12296 8) 12 by exact z_J_claims hp0), (show vp_in (nI k47) 16 by exact vp_in_nI (by omega) (by omega)), (show z_le (S 10240 8) 40 by exact z_J_acts hp0), ?_⟩
              refine ⟨(show z_le (S 12296 8) 12 by exact z_J_claims hp0), ?_⟩
              exact hW [0, 1, 2, 4] _ _ _ _ _ (ih (k47 + 1) _ (v_X6_share S (z_fo (fun k47 a47 => l_X6_pay_47 S P x1 k47 a47) P k47) (f_X6_owedAt S (z_fo (fun k47 a47 => l_X6_pay_47 S P x1 k47 a47) P k47) x1 (nI k47)) (f_X1_holdersOf S (z_fo (fun k47 a47 => l_X6_pay_47 S P x1 k47 a47) P k47) (nI k47))) (by omega) (nI_add k47 1) ((rfl).symm))
          exact hW [0, 1, 2, 4] _ _ _ _ _ (hL47 16 0 _ P (Nat.zero_add _) rfl rfl)
        · have he : e_X6_pay S P x1 = 3 := (if_pos h1).trans ((if_pos h2).trans rfl)
          rw [he] at hpo
          exact hpo
      · have he : e_X6_pay S P x1 = 1 := (if_neg (z_nt h1)).trans rfl
        rw [he] at hpo
        exact hpo
    · exact h.elim
end
section
def m_sh (T : z_MI) (x5 : Int32) : z_MI :=
  va_up (va_up (va_up (va_up T 41441 (upd (T 41441) x5.toNatClampNeg (T 41441 ((x5 - (nI 1)).toNatClampNeg)))) 43489 (upd ((va_up T 41441 (upd (T 41441) x5.toNatClampNeg (T 41441 ((x5 - (nI 1)).toNatClampNeg)))) 43489) x5.toNatClampNeg (T 43489 ((x5 - (nI 1)).toNatClampNeg)))) 45537 (upd ((va_up (va_up T 41441 (upd (T 41441) x5.toNatClampNeg (T 41441 ((x5 - (nI 1)).toNatClampNeg)))) 43489 (upd ((va_up T 41441 (upd (T 41441) x5.toNatClampNeg (T 41441 ((x5 - (nI 1)).toNatClampNeg)))) 43489) x5.toNatClampNeg (T 43489 ((x5 - (nI 1)).toNatClampNeg)))) 45537) x5.toNatClampNeg (T 45537 ((x5 - (nI 1)).toNatClampNeg)))) 47585 (upd ((va_up (va_up (va_up T 41441 (upd (T 41441) x5.toNatClampNeg (T 41441 ((x5 - (nI 1)).toNatClampNeg)))) 43489 (upd ((va_up T 41441 (upd (T 41441) x5.toNatClampNeg (T 41441 ((x5 - (nI 1)).toNatClampNeg)))) 43489) x5.toNatClampNeg (T 43489 ((x5 - (nI 1)).toNatClampNeg)))) 45537 (upd ((va_up (va_up T 41441 (upd (T 41441) x5.toNatClampNeg (T 41441 ((x5 - (nI 1)).toNatClampNeg)))) 43489 (upd ((va_up T 41441 (upd (T 41441) x5.toNatClampNeg (T 41441 ((x5 - (nI 1)).toNatClampNeg)))) 43489) x5.toNatClampNeg (T 43489 ((x5 - (nI 1)).toNatClampNeg)))) 45537) x5.toNatClampNeg (T 45537 ((x5 - (nI 1)).toNatClampNeg)))) 47585) x5.toNatClampNeg (T 47585 ((x5 - (nI 1)).toNatClampNeg)))
def m_fin (x1 x2 x3 x4 : Int32) (T : z_MI) (x5 : Int32) : z_MI :=
  va_up (va_up (va_up (va_up (va_up T 41441 (upd (T 41441) x5.toNatClampNeg x1)) 43489 (upd ((va_up T 41441 (upd (T 41441) x5.toNatClampNeg x1)) 43489) x5.toNatClampNeg x2)) 45537 (upd ((va_up (va_up T 41441 (upd (T 41441) x5.toNatClampNeg x1)) 43489 (upd ((va_up T 41441 (upd (T 41441) x5.toNatClampNeg x1)) 43489) x5.toNatClampNeg x2)) 45537) x5.toNatClampNeg x3)) 47585 (upd ((va_up (va_up (va_up T 41441 (upd (T 41441) x5.toNatClampNeg x1)) 43489 (upd ((va_up T 41441 (upd (T 41441) x5.toNatClampNeg x1)) 43489) x5.toNatClampNeg x2)) 45537 (upd ((va_up (va_up T 41441 (upd (T 41441) x5.toNatClampNeg x1)) 43489 (upd ((va_up T 41441 (upd (T 41441) x5.toNatClampNeg x1)) 43489) x5.toNatClampNeg x2)) 45537) x5.toNatClampNeg x3)) 47585) x5.toNatClampNeg x4)) 8216 (upd ((va_up (va_up (va_up (va_up T 41441 (upd (T 41441) x5.toNatClampNeg x1)) 43489 (upd ((va_up T 41441 (upd (T 41441) x5.toNatClampNeg x1)) 43489) x5.toNatClampNeg x2)) 45537 (upd ((va_up (va_up T 41441 (upd (T 41441) x5.toNatClampNeg x1)) 43489 (upd ((va_up T 41441 (upd (T 41441) x5.toNatClampNeg x1)) 43489) x5.toNatClampNeg x2)) 45537) x5.toNatClampNeg x3)) 47585 (upd ((va_up (va_up (va_up T 41441 (upd (T 41441) x5.toNatClampNeg x1)) 43489 (upd ((va_up T 41441 (upd (T 41441) x5.toNatClampNeg x1)) 43489) x5.toNatClampNeg x2)) 45537 (upd ((va_up (va_up T 41441 (upd (T 41441) x5.toNatClampNeg x1)) 43489 (upd ((va_up T 41441 (upd (T 41441) x5.toNatClampNeg x1)) 43489) x5.toNatClampNeg x2)) 45537) x5.toNatClampNeg x3)) 47585) x5.toNatClampNeg x4)) 8216) 7 ((T 8216 7) + (nI 1)))
def l_X3_add (x1 x2 x3 x4 : Int32) : Nat → Int32 → z_MI → z_MI
  | 0, x5, T => m_fin x1 x2 x3 x4 T x5
  | a + 1, x5, T => if x5 ≤ 0 then m_fin x1 x2 x3 x4 T x5 else if T 45537 (x5 - nI 1).toNatClampNeg ≤ x3 then m_fin x1 x2 x3 x4 T x5 else l_X3_add x1 x2 x3 x4 a (x5 + (-1)) (m_sh T x5)
def u_X3_add (S : z_MI) (P : z_ML) (x1 : Int32) (x2 : Int32) (x3 : Int32) (x4 : Int32) : z_MI :=
  l_X3_add x1 x2 x3 x4 (S 8216 7).toNatClampNeg (S 8216 7) S
def f_X3_add (S : z_MI) (P : z_ML) (x1 : Int32) (x2 : Int32) (x3 : Int32) (x4 : Int32) : Int32 :=
  u_X3_add S P x1 x2 x3 x4 8216 7
def sp_X3_add : z_SP := fun as S P k => match as with
  | [.int x1, .int x2, .int x3, .int x4] => vp_in (S 8216 7) 60 ∧ k (some (.int (f_X3_add S P x1 x2 x3 x4))) (u_X3_add S P x1 x2 x3 x4) P
  | _ => False
def G_X3_add : z_G := ([(0, .aload_n 0, 1, 0), (1, .getfield 33, 4, 0), (4, .istore 5, 6, 0), (6, .iload 5, 8, 0), (8, .ifCond .le 86, 11, 94), (11, .aload_n 0, 12, 0), (12, .getfield 18, 15, 0), (15, .iload 5, 17, 0), (17, .iconst 1, 18, 0), (18, .isub, 19, 0), (19, .iaload, 20, 0), (20, .iload_n 3, 21, 0), (21, .if_icmp .le 73, 24, 94), (24, .aload_n 0, 25, 0), (25, .getfield 9, 28, 0), (28, .iload 5, 30, 0), (30, .aload_n 0, 31, 0), (31, .getfield 9, 34, 0), (34, .iload 5, 36, 0), (36, .iconst 1, 37, 0), (37, .isub, 38, 0), (38, .iaload, 39, 0), (39, .iastore, 40, 0), (40, .aload_n 0, 41, 0), (41, .getfield 15, 44, 0), (44, .iload 5, 46, 0), (46, .aload_n 0, 47, 0), (47, .getfield 15, 50, 0), (50, .iload 5, 52, 0), (52, .iconst 1, 53, 0), (53, .isub, 54, 0), (54, .iaload, 55, 0), (55, .iastore, 56, 0), (56, .aload_n 0, 57, 0), (57, .getfield 18, 60, 0), (60, .iload 5, 62, 0), (62, .aload_n 0, 63, 0), (63, .getfield 18, 66, 0), (66, .iload 5, 68, 0), (68, .iconst 1, 69, 0), (69, .isub, 70, 0), (70, .iaload, 71, 0), (71, .iastore, 72, 0), (72, .aload_n 0, 73, 0), (73, .getfield 21, 76, 0), (76, .iload 5, 78, 0), (78, .aload_n 0, 79, 0), (79, .getfield 21, 82, 0), (82, .iload 5, 84, 0), (84, .iconst 1, 85, 0), (85, .isub, 86, 0), (86, .iaload, 87, 0), (87, .iastore, 88, 0), (88, .iinc 5 (-1), 91, 0), (91, .goto (-85), 94, 6), (94, .aload_n 0, 95, 0), (95, .getfield 9, 98, 0), (98, .iload 5, 100, 0), (100, .iload_n 1, 101, 0), (101, .iastore, 102, 0), (102, .aload_n 0, 103, 0), (103, .getfield 15, 106, 0), (106, .iload 5, 108, 0), (108, .iload_n 2, 109, 0), (109, .iastore, 110, 0), (110, .aload_n 0, 111, 0), (111, .getfield 18, 114, 0), (114, .iload 5, 116, 0), (116, .iload_n 3, 117, 0), (117, .iastore, 118, 0), (118, .aload_n 0, 119, 0), (119, .getfield 21, 122, 0), (122, .iload 5, 124, 0), (124, .iload 4, 126, 0), (126, .iastore, 127, 0), (127, .aload_n 0, 128, 0), (128, .dup, 129, 0), (129, .getfield 33, 132, 0), (132, .iconst 1, 133, 0), (133, .iadd, 134, 0), (134, .putfield 33, 137, 0), (137, .aload_n 0, 138, 0), (138, .getfield 33, 141, 0), (141, .ireturn, 142, 0)], [(9, 8216, 0, some 41441), (15, 8216, 1, some 43489), (18, 8216, 2, some 45537), (21, 8216, 3, some 47585), (33, 8216, 7, none)], [], [], [], [], [], some .int)
theorem m_dec {a : Nat} (h : a + 1 < 60) : (nI (a + 1) : Int32) - nI 1 = nI a ∧ (nI (a + 1) : Int32) + (-1) = nI a := by
  have e : (nI (a + 1) : Int32) - nI 1 = nI a := by rw [← nI_add a 1]; exact Int32.add_sub_cancel _ _
  refine ⟨e, ?_⟩
  rw [← e, Int32.sub_eq_add_neg]
  rfl
set_option maxRecDepth 20000 in
set_option maxHeartbeats 4000000 in
theorem ct_X3_add (l : Launch) : z_CT l yX3_add cX3_add 6 (some .int) (z_rc 8216 sp_X3_add) 0 := by
  refine z_CT_of G_X3_add (by decide) (by decide +kernel) (z_pok_of ft_X3 ci_X3 cL_X3_L fo_X3 co_X3 lo_X3 (by decide +kernel)) rfl rfl ?_ ?_ ?_
  · intro as S P Po h0
    obtain ⟨as, rfl, h⟩ := z_rc_of h0
    unfold sp_X3_add at h
    split at h
    · exact Nat.le_of_ble_eq_true rfl
    · exact h.elim
  · exact fun _ h => absurd h List.not_mem_nil
  · intro as S P Po h0 V hV hW
    obtain ⟨as, rfl, h⟩ := z_rc_of h0
    unfold sp_X3_add at h
    split at h
    · rename_i x1 x2 x3 x4
      obtain ⟨hp0, hpo⟩ := h
      have hfin : ∀ (x5 : Int32) (T : z_MI), u_X3_add S P x1 x2 x3 x4 = m_fin x1 x2 x3 x4 T x5 → Po (some (.int (m_fin x1 x2 x3 x4 T x5 8216 7))) (m_fin x1 x2 x3 x4 T x5) P := by
        intro x5 T e
        refine z_pi hpo ?_ e rfl
        unfold f_X3_add
        rw [e]
      have hL : ∀ (a : Nat) (x5 : Int32) (T : z_MI), a < 60 → x5 = nI a → u_X3_add S P x1 x2 x3 x4 = l_X3_add x1 x2 x3 x4 a x5 T → V 6 [(0, .ref 8216), (1, .int x1), (2, .int x2), (3, .int x3), (4, .int x4), (5, .int x5)] [] T P := by
        intro a
        induction a with
        | zero =>
          intro x5 T ha hx e
          have hi5 : vp_in x5 60 := by rw [hx]; exact vp_in_nI (by omega) (by omega)
          refine hV [6] 60 6 _ _ _ _ ?_
          refine ⟨fun _ => ?_, fun h => absurd (by rw [hx]; decide) h⟩
          refine ⟨hi5, ?_⟩
          refine ⟨hi5, ?_⟩
          refine ⟨hi5, ?_⟩
          refine ⟨hi5, ?_⟩
          exact hfin x5 T e
        | succ a ih =>
          intro x5 T ha hx e
          have hi5 : vp_in x5 60 := by rw [hx]; exact vp_in_nI (by omega) (by omega)
          have hi4 : vp_in (x5 - nI 1) 60 := by rw [hx, (m_dec ha).1]; exact vp_in_nI (by omega) (by omega)
          unfold l_X3_add at e
          refine hV [6] 60 6 _ _ _ _ ?_
          refine ⟨fun h1 => ?_, fun h1 => ?_⟩
          · rw [if_pos h1] at e
            refine ⟨hi5, ?_⟩
            refine ⟨hi5, ?_⟩
            refine ⟨hi5, ?_⟩
            refine ⟨hi5, ?_⟩
            exact hfin x5 T e
          · rw [if_neg h1] at e
            refine ⟨hi4, ?_⟩
            refine ⟨fun h2 => ?_, fun h2 => ?_⟩
            · rw [if_pos h2] at e
              refine ⟨hi5, ?_⟩
              refine ⟨hi5, ?_⟩
              refine ⟨hi5, ?_⟩
              refine ⟨hi5, ?_⟩
              exact hfin x5 T e
            · rw [if_neg h2] at e
              refine ⟨hi4, ?_⟩
              refine ⟨hi5, ?_⟩
              refine ⟨hi4, ?_⟩
              refine ⟨hi5, ?_⟩
              refine ⟨hi4, ?_⟩
              refine ⟨hi5, ?_⟩
              refine ⟨hi4, ?_⟩
              refine ⟨hi5, ?_⟩
              exact hW [0, 1, 2, 3, 4, 5] _ _ _ _ _ (ih _ _ (by omega) (by rw [hx]; exact (m_dec ha).2) e)
      refine hV [6] 60 0 _ _ _ _ ?_
      obtain ⟨c, hc, hcc⟩ := vp_in_of hp0 (by decide)
      have hc2 : (S 8216 7).toNatClampNeg = c := by rw [hcc]; exact nI_clamp (by omega)
      refine hW [0, 1, 2, 3, 4, 5] _ _ _ _ _ (hL c _ _ hc hcc ?_)
      unfold u_X3_add
      rw [hc2]
    · exact h.elim
def f_X6_mark (S : z_MI) (P : z_ML) (x1 : Int32) (x2 : Int32) (x3 : Int32) (x4 : Int32) : Int32 :=
  if (f_X2_isPeople S P x1) = true then
    if (f_X6_isPlace S P x2) = true then
      if x3 < 0 then
        0
      else
        if (S 2096 8) < x3 then
          0
        else
          if x4 < (nI 1) then
            0
          else
            if x4 ≤ (nI 9) then
              if (S 8216 7) < (nI 60) then
                f_X3_add S P x1 x2 x3 x4
              else
                0
            else
              0
    else
      0
  else
    0
def u_X6_mark (S : z_MI) (P : z_ML) (x1 : Int32) (x2 : Int32) (x3 : Int32) (x4 : Int32) : z_MI :=
  if (f_X2_isPeople S P x1) = true then
    if (f_X6_isPlace S P x2) = true then
      if x3 < 0 then
        S
      else
        if (S 2096 8) < x3 then
          S
        else
          if x4 < (nI 1) then
            S
          else
            if x4 ≤ (nI 9) then
              if (S 8216 7) < (nI 60) then
                u_X3_add S P x1 x2 x3 x4
              else
                S
            else
              S
    else
      S
  else
    S
def e_X6_mark (S : z_MI) (P : z_ML) (x1 : Int32) (x2 : Int32) (x3 : Int32) (x4 : Int32) : Nat :=
  if (f_X2_isPeople S P x1) = true then
    if (f_X6_isPlace S P x2) = true then
      if x3 < 0 then
        2
      else
        if (S 2096 8) < x3 then
          2
        else
          if x4 < (nI 1) then
            2
          else
            if x4 ≤ (nI 9) then
              if (S 8216 7) < (nI 60) then
                0
              else
                3
            else
              2
    else
      1
  else
    1
def sp_X6_mark : z_SX := fun as S P k kx => match as with
  | [.ref 2096, .int x1, .int x2, .int x3, .int x4] => z_J S ∧ (match e_X6_mark S P x1 x2 x3 x4 with
      | 0 => k (some (.int (f_X6_mark S P x1 x2 x3 x4))) (u_X6_mark S P x1 x2 x3 x4) P
      | 1 => kx "java/lang/IndexOutOfBoundsException" S P
      | 2 => kx "java/lang/IllegalArgumentException" S P
      | _ => kx "java/lang/IllegalStateException" S P)
  | _ => False
def G_X6_mark : z_G := ([(0, .aload_n 0, 1, 0), (1, .getfield 10, 4, 0), (4, .iload_n 1, 5, 0), (5, .invokevirtual 102, 8, 0), (8, .ifCond .eq 10, 11, 18), (11, .iload_n 2, 12, 0), (12, .invokestatic 150, 15, 0), (15, .ifCond .ne 13, 18, 28), (18, .new 86, 21, 0), (21, .dup, 22, 0), (22, .ldc 187, 24, 0), (24, .invokespecial 90, 27, 0), (27, .athrow, 28, 0), (28, .iload_n 3, 29, 0), (29, .ifCond .lt 24, 32, 53), (32, .iload_n 3, 33, 0), (33, .aload_n 0, 34, 0), (34, .getfield 59, 37, 0), (37, .if_icmp .gt 16, 40, 53), (40, .iload 4, 42, 0), (42, .iconst 1, 43, 0), (43, .if_icmp .lt 10, 46, 53), (46, .iload 4, 48, 0), (48, .bipush 9, 50, 0), (50, .if_icmp .le 13, 53, 63), (53, .new 63, 56, 0), (56, .dup, 57, 0), (57, .ldc 189, 59, 0), (59, .invokespecial 67, 62, 0), (62, .athrow, 63, 0), (63, .aload_n 0, 64, 0), (64, .getfield 26, 67, 0), (67, .getfield 191, 70, 0), (70, .bipush 60, 72, 0), (72, .if_icmp .lt 13, 75, 85), (75, .new 73, 78, 0), (78, .dup, 79, 0), (79, .ldc 192, 81, 0), (81, .invokespecial 77, 84, 0), (84, .athrow, 85, 0), (85, .aload_n 0, 86, 0), (86, .getfield 26, 89, 0), (89, .iload_n 1, 90, 0), (90, .iload_n 2, 91, 0), (91, .iload_n 3, 92, 0), (92, .iload 4, 94, 0), (94, .invokevirtual 194, 97, 0), (97, .ireturn, 98, 0)], [(10, 2096, 0, some 4112), (26, 2096, 2, some 8216), (59, 2096, 8, none), (191, 8216, 7, none)], [(100150, 1, sp_X6_isPlace), (102, 2, (z_rc 4112 sp_X2_isPeople)), (194, 5, (z_rc 8216 sp_X3_add))], [], [], [(18, "java/lang/IndexOutOfBoundsException"), (53, "java/lang/IllegalArgumentException"), (75, "java/lang/IllegalStateException")], [], some .int)
def ss_X6_mark : List z_ST := [(18, "java/lang/IndexOutOfBoundsException", 86, 187, 90, "no such people or place", false), (53, "java/lang/IllegalArgumentException", 63, 189, 67, "month or weight is out of range", false), (75, "java/lang/IllegalStateException", 73, 192, 77, "there are 60 marks", false)]
set_option maxRecDepth 20000 in
set_option maxHeartbeats 4000000 in
theorem ct_X6_mark (l : Launch) (hl9 : l.stackTraces = false) : z_CX l yX6_mark cX6_mark 5 (some .int) sp_X6_mark 6 := by
  refine z_CX_of G_X6_mark ss_X6_mark hl9 (by decide) (by decide) (by decide +kernel) (z_pok_of ft_X6 ci_X6 cL_X6_L fo_X6 co_X6 lo_X6 (by decide +kernel)) rfl rfl (by decide +kernel) ?_ ?_ ?_
  · intro as S P Po Px h
    unfold sp_X6_mark at h
    split at h
    · exact Nat.le_of_ble_eq_true rfl
    · exact h.elim
  · exact List.forall_mem_cons.mpr ⟨z_coS (ct_X6_isPlace l) kb_X6_isPlace ks_X6_150 (by decide) (by decide), List.forall_mem_cons.mpr ⟨z_coV (ct_X2_isPeople l) kb_X2_isPeople kv_X6_102 ko_X2 (by decide) (by decide) (by decide), List.forall_mem_cons.mpr ⟨z_coV (ct_X3_add l) kb_X3_add kv_X6_194 ko_X3 (by decide) (by decide) (by decide), fun _ h => absurd h List.not_mem_nil⟩⟩⟩
  · intro as S P Po Px h V hV hW
    unfold sp_X6_mark at h
    split at h
    · rename_i x1 x2 x3 x4
      obtain ⟨hp0, hpo⟩ := h
      refine hV [] 53 0 _ _ _ _ ?_
      refine z_br (fun (h1 : (f_X2_isPeople S P x1) = false) => ?_) (fun (h1 : (f_X2_isPeople S P x1) = true) => ?_)
      · have he : e_X6_mark S P x1 x2 x3 x4 = 1 := (if_neg (z_nt h1)).trans rfl
        rw [he] at hpo
        exact hpo
      · refine z_brn (fun (h2 : (f_X6_isPlace S P x2) = true) => ?_) (fun (h2 : (f_X6_isPlace S P x2) = false) => ?_)
        · refine ⟨fun (h3 : x3 < 0) => ?_, fun (h3 : ¬ (x3 < 0)) => ?_⟩
          · have he : e_X6_mark S P x1 x2 x3 x4 = 2 := (if_pos h1).trans ((if_pos h2).trans ((if_pos h3).trans rfl))
            rw [he] at hpo
            exact hpo
          · refine ⟨fun (h4 : (S 2096 8) < x3) => ?_, fun (h4 : ¬ ((S 2096 8) < x3)) => ?_⟩
            · have he : e_X6_mark S P x1 x2 x3 x4 = 2 := (if_pos h1).trans ((if_pos h2).trans ((if_neg h3).trans ((if_pos h4).trans rfl)))
              rw [he] at hpo
              exact hpo
            · refine ⟨fun (h5 : x4 < (nI 1)) => ?_, fun (h5 : ¬ (x4 < (nI 1))) => ?_⟩
              · have he : e_X6_mark S P x1 x2 x3 x4 = 2 := (if_pos h1).trans ((if_pos h2).trans ((if_neg h3).trans ((if_neg h4).trans ((if_pos h5).trans rfl))))
                rw [he] at hpo
                exact hpo
              · refine ⟨fun (h6 : x4 ≤ (nI 9)) => ?_, fun (h6 : ¬ (x4 ≤ (nI 9))) => ?_⟩
                · refine ⟨fun (h7 : (S 8216 7) < (nI 60)) => ?_, fun (h7 : ¬ ((S 8216 7) < (nI 60))) => ?_⟩
                  · refine ⟨(show vp_in (S 8216 7) 60 by first | exact z_room (by assumption) (z_J_marks hp0) (by decide) (by decide) | exact z_roomL (by assumption) (z_J_marks hp0) (by decide) (by decide)), ?_⟩
                    have he : e_X6_mark S P x1 x2 x3 x4 = 0 := (if_pos h1).trans ((if_pos h2).trans ((if_neg h3).trans ((if_neg h4).trans ((if_neg h5).trans ((if_pos h6).trans ((if_pos h7).trans rfl))))))
                    rw [he] at hpo
                    exact z_pi hpo ((if_pos h1).trans ((if_pos h2).trans ((if_neg h3).trans ((if_neg h4).trans ((if_neg h5).trans ((if_pos h6).trans ((if_pos h7).trans rfl))))))) ((if_pos h1).trans ((if_pos h2).trans ((if_neg h3).trans ((if_neg h4).trans ((if_neg h5).trans ((if_pos h6).trans ((if_pos h7).trans rfl))))))) (rfl)
                  · have he : e_X6_mark S P x1 x2 x3 x4 = 3 := (if_pos h1).trans ((if_pos h2).trans ((if_neg h3).trans ((if_neg h4).trans ((if_neg h5).trans ((if_pos h6).trans ((if_neg h7).trans rfl))))))
                    rw [he] at hpo
                    exact hpo
                · have he : e_X6_mark S P x1 x2 x3 x4 = 2 := (if_pos h1).trans ((if_pos h2).trans ((if_neg h3).trans ((if_neg h4).trans ((if_neg h5).trans ((if_neg h6).trans rfl)))))
                  rw [he] at hpo
                  exact hpo
        · have he : e_X6_mark S P x1 x2 x3 x4 = 1 := (if_pos h1).trans ((if_neg (z_nt h2)).trans rfl)
          rw [he] at hpo
          exact hpo
    · exact h.elim
end
section
/-! the law's level: two objects, each in some state that holds what holds at all times; g: the heap is at least so large; u: what was spent -/
abbrev y_KT : Type := Nat → z_LV → List Value → Nat → Nat → Prop
abbrev y_PO : Type := Option Value → Nat → Prop
abbrev y_PX : Type := String → Nat → Prop
abbrev y_SP : Type := List Value → Nat → Nat → (Option Value → Nat → Nat → Prop) → Prop
abbrev y_SX : Type := List Value → Nat → y_PO → y_PX → Prop
abbrev y_G : Type := List (Nat × Instr × Nat × Nat) × List (Nat × Nat × y_SP) × List (Nat × Nat) × List (Nat × Nat) × Option FieldType
def y_code (G : y_G) : List (Nat × Instr × Nat × Nat) := G.1
def y_cm (G : y_G) : List (Nat × Nat × y_SP) := G.2.1
def y_ci (G : y_G) : List (Nat × Nat) := G.2.2.1
def y_cL (G : y_G) : List (Nat × Nat) := G.2.2.2.1
def y_rt (G : y_G) : Option FieldType := G.2.2.2.2
def y_stp (G : y_G) (MC : Nat) (Po : y_PO) (ins : Instr) (nx tg : Nat) (lv : z_LV) (st : List Value) (g u : Nat) (K : y_KT) : Prop := match ins with
  | .iconst n => match n with
    | .ofNat k => K nx lv (.int (nI k) :: st) g u
    | .negSucc 0 => K nx lv (.int (-1) :: st) g u
    | .negSucc _ => False
  | .bipush n => match n with
    | .ofNat k => match Nat.ble k 127 with
      | true => K nx lv (.int (nI k) :: st) g u
      | false => False
    | .negSucc _ => False
  | .sipush n => match n with
    | .ofNat k => match Nat.ble k 32767 with
      | true => K nx lv (.int (nI k) :: st) g u
      | false => False
    | .negSucc _ => False
  | .lconst n => K nx lv (.long (lN n.val) :: st) g u
  | .ldc i => match z_fnd (y_ci G) i with
    | some v => K nx lv (.int (nI v) :: st) g u
    | none => False
  | .ldc2_w i => match z_fnd (y_cL G) i with
    | some v => K nx lv (.long (lN v) :: st) g u
    | none => False
  | .iload_n k => match z_get lv k.val with
    | some (.int x) => K nx lv (.int x :: st) g u
    | _ => False
  | .iload k => match z_get lv k with
    | some (.int x) => K nx lv (.int x :: st) g u
    | _ => False
  | .lload_n k => match z_get lv k.val with
    | some (.long x) => K nx lv (.long x :: st) g u
    | _ => False
  | .lload k => match z_get lv k with
    | some (.long x) => K nx lv (.long x :: st) g u
    | _ => False
  | .aload_n k => match z_get lv k.val with
    | some (.ref x) => K nx lv (.ref x :: st) g u
    | _ => False
  | .aload k => match z_get lv k with
    | some (.ref x) => K nx lv (.ref x :: st) g u
    | _ => False
  | .istore_n k => match st with
    | .int x :: r => z_put k.val (.int x) lv false (fun lv' => K nx lv' r g u)
    | _ => False
  | .istore k => match st with
    | .int x :: r => z_put k (.int x) lv false (fun lv' => K nx lv' r g u)
    | _ => False
  | .lstore_n k => match st with
    | .long x :: r => z_put k.val (.long x) lv false (fun lv' => K nx lv' r g u)
    | _ => False
  | .lstore k => match st with
    | .long x :: r => z_put k (.long x) lv false (fun lv' => K nx lv' r g u)
    | _ => False
  | .iinc k n => match z_get lv k with
    | some (.int x) => match n with
      | .ofNat j => z_put k (.int (x + nI j)) lv false (fun lv' => K nx lv' st g u)
      | .negSucc 0 => z_put k (.int (x + (-1))) lv false (fun lv' => K nx lv' st g u)
      | .negSucc _ => False
    | _ => False
  | .iadd => match st with
    | .int y :: .int x :: r => K nx lv (.int (x + y) :: r) g u
    | _ => False
  | .isub => match st with
    | .int y :: .int x :: r => K nx lv (.int (x - y) :: r) g u
    | _ => False
  | .imul => match st with
    | .int y :: .int x :: r => K nx lv (.int (x * y) :: r) g u
    | _ => False
  | .iand => match st with
    | .int y :: .int x :: r => K nx lv (.int (x &&& y) :: r) g u
    | _ => False
  | .ior => match st with
    | .int y :: .int x :: r => K nx lv (.int (x ||| y) :: r) g u
    | _ => False
  | .ixor => match st with
    | .int y :: .int x :: r => K nx lv (.int (x ^^^ y) :: r) g u
    | _ => False
  | .idiv => match st with
    | .int y :: .int x :: r => ¬ y = 0 ∧ K nx lv (.int (x / y) :: r) g u
    | _ => False
  | .irem => match st with
    | .int y :: .int x :: r => ¬ y = 0 ∧ K nx lv (.int (x - x / y * y) :: r) g u
    | _ => False
  | .ishl => match st with
    | .int y :: .int x :: r => K nx lv (.int (x <<< (y &&& 31)) :: r) g u
    | _ => False
  | .ishr => match st with
    | .int y :: .int x :: r => K nx lv (.int (x >>> (y &&& 31)) :: r) g u
    | _ => False
  | .ladd => match st with
    | .long y :: .long x :: r => K nx lv (.long (x + y) :: r) g u
    | _ => False
  | .lsub => match st with
    | .long y :: .long x :: r => K nx lv (.long (x - y) :: r) g u
    | _ => False
  | .lcmp => match st with
    | .long y :: .long x :: r => K nx lv (.int (lg_cmp x y) :: r) g u
    | _ => False
  | .ifCond op _ => match st with
    | .int x :: r => match op with
      | .eq => (x = 0 → K tg lv r g u) ∧ (¬ x = 0 → K nx lv r g u)
      | .ne => (¬ x = 0 → K tg lv r g u) ∧ (x = 0 → K nx lv r g u)
      | .lt => (x < 0 → K tg lv r g u) ∧ (¬ x < 0 → K nx lv r g u)
      | .ge => (0 ≤ x → K tg lv r g u) ∧ (¬ 0 ≤ x → K nx lv r g u)
      | .gt => (0 < x → K tg lv r g u) ∧ (¬ 0 < x → K nx lv r g u)
      | .le => (x ≤ 0 → K tg lv r g u) ∧ (¬ x ≤ 0 → K nx lv r g u)
    | _ => False
  | .if_icmp op _ => match st with
    | .int y :: .int x :: r => match op with
      | .eq => (x = y → K tg lv r g u) ∧ (¬ x = y → K nx lv r g u)
      | .ne => (¬ x = y → K tg lv r g u) ∧ (x = y → K nx lv r g u)
      | .lt => (x < y → K tg lv r g u) ∧ (¬ x < y → K nx lv r g u)
      | .ge => (y ≤ x → K tg lv r g u) ∧ (¬ y ≤ x → K nx lv r g u)
      | .gt => (y < x → K tg lv r g u) ∧ (¬ y < x → K nx lv r g u)
      | .le => (x ≤ y → K tg lv r g u) ∧ (¬ x ≤ y → K nx lv r g u)
    | _ => False
  | .goto _ => K tg lv st g u
  | .l2i => match st with
    | .long x :: r => K nx lv (.int x.toInt32 :: r) g u
    | _ => False
  | .invokevirtual i => match z_fnd (y_cm G) i with
    | some (n, sp) => z_pop n st [] (fun as r => match Nat.ble (z_cs r) 8 with
      | true => sp as g u (fun v g' u' => K nx lv (v.toList ++ r) g' u')
      | false => False)
    | none => False
  | .invokestatic i => match z_fnd (y_cm G) (i + 100000) with
    | some (n, sp) => z_pop n st [] (fun as r => match Nat.ble (z_cs r) 8 with
      | true => sp as g u (fun v g' u' => K nx lv (v.toList ++ r) g' u')
      | false => False)
    | none => False
  | .ireturn => match st with
    | [.int v] => match y_rt G with
      | some .int => u ≤ MC ∧ Po (some (.int v)) g
      | some .boolean => narrow .boolean (.int v) = .int v ∧ u ≤ MC ∧ Po (some (.int v)) g
      | _ => False
    | _ => False
  | .lreturn => match st with
    | [.long v] => match y_rt G with
      | some .long => u ≤ MC ∧ Po (some (.long v)) g
      | _ => False
    | _ => False
  | _ => False
def y_wp (G : y_G) (MC : Nat) (Po : y_PO) (cuts : List Nat) (J : y_KT) : Nat → y_KT
  | 0 => fun _ _ _ _ _ => False
  | n + 1 => fun pc lv st g u => match z_fnd (y_code G) pc with
    | some (ins, nx, tg) => y_stp G MC Po ins nx tg lv st g u (fun pc' lv' st' g' u' => match z_mem cuts pc' with
      | true => J pc' lv' st' g' u'
      | false => y_wp G MC Po cuts J n pc' lv' st' g' u')
    | none => False
def y_V (p : Program) (l : Launch) (e : Env) (R : Room) (s : State) (m : MethodId) (args : Array Value) (below : List Frame) (meth : Method) (c : Code) (c0 s0 : Nat) (Q : State → Prop) (nL : Nat) (ad : Nat → Nat) (A : Nat → Prop) (Wd : Heap → Prop) : y_KT := fun pc lv st g u =>
  ∀ (H : Heap) (locs : List Loc) (ls : Array Slot), Wd H → g ≤ H.size → va_S A s.heap H locs → lv_has ls nL (z_tl ad lv) → W p l e R s m args below meth c H locs (c0 + u) (s0 + 6 * u) Q (F0 m pc ls (z_ts ad st))
def y_lok (lim : Nat) (q : Nat × Instr × Nat × Nat) : Bool := match q.2.1 with
  | .invokevirtual _ => decide (q.1 < lim)
  | .invokestatic _ => decide (q.1 < lim)
  | _ => true
def y_cok (cc : ByteArray) (nL lim : Nat) (G : y_G) : Bool := (y_code G).all (fun q => z_tok cc [] q && z_lok nL q.2.1 && y_lok lim q)
def y_pok (own : String) (G : y_G) : Bool := (y_ci G).all (fun q => decide (Jvm.Cond.constant own q.1 (nI q.2) ∈ z_T)) && (y_cL G).all (fun q => decide (Jvm.Cond.constantLong own q.1 (lN q.2) ∈ z_T))
section YST
variable {p : Program} {l : Launch} {e : Env} {R : Room} {s : State} {m : MethodId} {args : Array Value} {below : List Frame} {meth : Method} {c : Code} {c0 s0 : Nat} {Q : State → Prop} {cc : ByteArray} {nL : Nat} {own : String} {ad : Nat → Nat} {A : Nat → Prop} {Wd : Heap → Prop}
variable {G : y_G} {MC : Nat} {Po : y_PO} {K : y_KT} {pc nx tg : Nat} {lv : z_LV} {st : List Value} {g u : Nat}
set_option maxHeartbeats 1000000 in
theorem y_x_iconst {n : Int} (C : CallFix p m c cc nL s args z_T own) (hd : decode cc pc = .ok (.iconst n, 1)) (hK : ∀ pc lv st g u, K pc lv st g u → y_V p l e R s m args below meth c c0 s0 Q nL ad A Wd pc lv st g u) (h : y_stp G MC Po (.iconst n) nx tg lv st g u K) (hn : nx = pc + 1) : y_V p l e R s m args below meth c c0 s0 Q nL ad A Wd pc lv st g u := by
  subst hn
  obtain ⟨hx, hb, hml, hown, hts⟩ := C
  simp only [y_stp] at h
  split at h
  · intro H locs ls hP hg hS hl
    exact lv_iconst hx hb hd (by first | rfl | exact Int32.ofInt_ofNat _ | simp [nI]) (hK _ _ _ _ _ h H locs ls hP hg hS hl)
  · intro H locs ls hP hg hS hl
    exact lv_iconst hx hb hd (by decide) (hK _ _ _ _ _ h H locs ls hP hg hS hl)
  · exact h.elim
set_option maxHeartbeats 1000000 in
theorem y_x_bipush {n : Int} (C : CallFix p m c cc nL s args z_T own) (hd : decode cc pc = .ok (.bipush n, 2)) (hK : ∀ pc lv st g u, K pc lv st g u → y_V p l e R s m args below meth c c0 s0 Q nL ad A Wd pc lv st g u) (h : y_stp G MC Po (.bipush n) nx tg lv st g u K) (hn : nx = pc + 2) : y_V p l e R s m args below meth c c0 s0 Q nL ad A Wd pc lv st g u := by
  subst hn
  obtain ⟨hx, hb, hml, hown, hts⟩ := C
  simp only [y_stp] at h
  split at h
  · split at h
    · rename_i hk
      intro H locs ls hP hg hS hl
      exact lv_bipush hx hb hd (z_b8 _ (Nat.le_of_ble_eq_true hk)) (hK _ _ _ _ _ h H locs ls hP hg hS hl)
    · exact h.elim
  · exact h.elim
set_option maxHeartbeats 1000000 in
theorem y_x_sipush {n : Int} (C : CallFix p m c cc nL s args z_T own) (hd : decode cc pc = .ok (.sipush n, 3)) (hK : ∀ pc lv st g u, K pc lv st g u → y_V p l e R s m args below meth c c0 s0 Q nL ad A Wd pc lv st g u) (h : y_stp G MC Po (.sipush n) nx tg lv st g u K) (hn : nx = pc + 3) : y_V p l e R s m args below meth c c0 s0 Q nL ad A Wd pc lv st g u := by
  subst hn
  obtain ⟨hx, hb, hml, hown, hts⟩ := C
  simp only [y_stp] at h
  split at h
  · split at h
    · rename_i hk
      intro H locs ls hP hg hS hl
      exact lv_sipush hx hb hd (z_s16 _ (Nat.le_of_ble_eq_true hk)) (hK _ _ _ _ _ h H locs ls hP hg hS hl)
    · exact h.elim
  · exact h.elim
set_option maxHeartbeats 1000000 in
theorem y_x_lconst {n : Fin 2} (C : CallFix p m c cc nL s args z_T own) (hd : decode cc pc = .ok (.lconst n, 1)) (hK : ∀ pc lv st g u, K pc lv st g u → y_V p l e R s m args below meth c c0 s0 Q nL ad A Wd pc lv st g u) (h : y_stp G MC Po (.lconst n) nx tg lv st g u K) (hn : nx = pc + 1) : y_V p l e R s m args below meth c c0 s0 Q nL ad A Wd pc lv st g u := by
  subst hn
  obtain ⟨hx, hb, hml, hown, hts⟩ := C
  simp only [y_stp] at h
  intro H locs ls hP hg hS hl
  exact lv_lconst hx hb hd rfl (hK _ _ _ _ _ h H locs ls hP hg hS hl)
set_option maxHeartbeats 1000000 in
theorem y_x_ldc {i : Nat} (hci : ∀ q ∈ y_ci G, Jvm.Cond.constant own q.1 (nI q.2) ∈ z_T) (C : CallFix p m c cc nL s args z_T own) (hd : decode cc pc = .ok (.ldc i, 2)) (hK : ∀ pc lv st g u, K pc lv st g u → y_V p l e R s m args below meth c c0 s0 Q nL ad A Wd pc lv st g u) (h : y_stp G MC Po (.ldc i) nx tg lv st g u K) (hn : nx = pc + 2) : y_V p l e R s m args below meth c c0 s0 Q nL ad A Wd pc lv st g u := by
  subst hn
  obtain ⟨hx, hb, hml, hown, hts⟩ := C
  simp only [y_stp] at h
  split at h
  · rename_i v hv
    intro H locs ls hP hg hS hl
    exact lv_ldc hx hb hown (hts _ (hci _ (z_fnd_mem _ _ _ hv))) hd (hK _ _ _ _ _ h H locs ls hP hg hS hl)
  · exact h.elim
set_option maxHeartbeats 1000000 in
theorem y_x_ldc2_w {i : Nat} (hci : ∀ q ∈ y_cL G, Jvm.Cond.constantLong own q.1 (lN q.2) ∈ z_T) (C : CallFix p m c cc nL s args z_T own) (hd : decode cc pc = .ok (.ldc2_w i, 3)) (hK : ∀ pc lv st g u, K pc lv st g u → y_V p l e R s m args below meth c c0 s0 Q nL ad A Wd pc lv st g u) (h : y_stp G MC Po (.ldc2_w i) nx tg lv st g u K) (hn : nx = pc + 3) : y_V p l e R s m args below meth c c0 s0 Q nL ad A Wd pc lv st g u := by
  subst hn
  obtain ⟨hx, hb, hml, hown, hts⟩ := C
  simp only [y_stp] at h
  split at h
  · rename_i v hv
    intro H locs ls hP hg hS hl
    exact lv_ldc2 hx hb hown (hts _ (hci _ (z_fnd_mem _ _ _ hv))) hd (hK _ _ _ _ _ h H locs ls hP hg hS hl)
  · exact h.elim
set_option maxHeartbeats 1000000 in
theorem y_x_iload_n {k : Fin 4} (C : CallFix p m c cc nL s args z_T own) (hd : decode cc pc = .ok (.iload_n k, 1)) (hK : ∀ pc lv st g u, K pc lv st g u → y_V p l e R s m args below meth c c0 s0 Q nL ad A Wd pc lv st g u) (h : y_stp G MC Po (.iload_n k) nx tg lv st g u K) (hn : nx = pc + 1) : y_V p l e R s m args below meth c c0 s0 Q nL ad A Wd pc lv st g u := by
  subst hn
  obtain ⟨hx, hb, hml, hown, hts⟩ := C
  simp only [y_stp] at h
  split at h
  · rename_i v hv
    intro H locs ls hP hg hS hl
    exact lv_iload_n hx hb hd rfl (z_lv_get hl hv) (hK _ _ _ _ _ h H locs ls hP hg hS hl)
  · exact h.elim
set_option maxHeartbeats 1000000 in
theorem y_x_iload {k : Nat} (C : CallFix p m c cc nL s args z_T own) (hd : decode cc pc = .ok (.iload k, 2)) (hK : ∀ pc lv st g u, K pc lv st g u → y_V p l e R s m args below meth c c0 s0 Q nL ad A Wd pc lv st g u) (h : y_stp G MC Po (.iload k) nx tg lv st g u K) (hn : nx = pc + 2) : y_V p l e R s m args below meth c c0 s0 Q nL ad A Wd pc lv st g u := by
  subst hn
  obtain ⟨hx, hb, hml, hown, hts⟩ := C
  simp only [y_stp] at h
  split at h
  · rename_i v hv
    intro H locs ls hP hg hS hl
    exact lv_iload hx hb hd (z_lv_get hl hv) (hK _ _ _ _ _ h H locs ls hP hg hS hl)
  · exact h.elim
set_option maxHeartbeats 1000000 in
theorem y_x_lload_n {k : Fin 4} (C : CallFix p m c cc nL s args z_T own) (hd : decode cc pc = .ok (.lload_n k, 1)) (hK : ∀ pc lv st g u, K pc lv st g u → y_V p l e R s m args below meth c c0 s0 Q nL ad A Wd pc lv st g u) (h : y_stp G MC Po (.lload_n k) nx tg lv st g u K) (hn : nx = pc + 1) : y_V p l e R s m args below meth c c0 s0 Q nL ad A Wd pc lv st g u := by
  subst hn
  obtain ⟨hx, hb, hml, hown, hts⟩ := C
  simp only [y_stp] at h
  split at h
  · rename_i v hv
    intro H locs ls hP hg hS hl
    exact lv_lload_n hx hb hd rfl (z_lv_get hl hv) (hK _ _ _ _ _ h H locs ls hP hg hS hl)
  · exact h.elim
set_option maxHeartbeats 1000000 in
theorem y_x_lload {k : Nat} (C : CallFix p m c cc nL s args z_T own) (hd : decode cc pc = .ok (.lload k, 2)) (hK : ∀ pc lv st g u, K pc lv st g u → y_V p l e R s m args below meth c c0 s0 Q nL ad A Wd pc lv st g u) (h : y_stp G MC Po (.lload k) nx tg lv st g u K) (hn : nx = pc + 2) : y_V p l e R s m args below meth c c0 s0 Q nL ad A Wd pc lv st g u := by
  subst hn
  obtain ⟨hx, hb, hml, hown, hts⟩ := C
  simp only [y_stp] at h
  split at h
  · rename_i v hv
    intro H locs ls hP hg hS hl
    exact lv_lload hx hb hd (z_lv_get hl hv) (hK _ _ _ _ _ h H locs ls hP hg hS hl)
  · exact h.elim
set_option maxHeartbeats 1000000 in
theorem y_x_aload_n {k : Fin 4} (C : CallFix p m c cc nL s args z_T own) (hd : decode cc pc = .ok (.aload_n k, 1)) (hK : ∀ pc lv st g u, K pc lv st g u → y_V p l e R s m args below meth c c0 s0 Q nL ad A Wd pc lv st g u) (h : y_stp G MC Po (.aload_n k) nx tg lv st g u K) (hn : nx = pc + 1) : y_V p l e R s m args below meth c c0 s0 Q nL ad A Wd pc lv st g u := by
  subst hn
  obtain ⟨hx, hb, hml, hown, hts⟩ := C
  simp only [y_stp] at h
  split at h
  · rename_i v hv
    intro H locs ls hP hg hS hl
    exact lv_aload_n hx hb hd rfl (z_lv_get hl hv) (hK _ _ _ _ _ h H locs ls hP hg hS hl)
  · exact h.elim
set_option maxHeartbeats 1000000 in
theorem y_x_aload {k : Nat} (C : CallFix p m c cc nL s args z_T own) (hd : decode cc pc = .ok (.aload k, 2)) (hK : ∀ pc lv st g u, K pc lv st g u → y_V p l e R s m args below meth c c0 s0 Q nL ad A Wd pc lv st g u) (h : y_stp G MC Po (.aload k) nx tg lv st g u K) (hn : nx = pc + 2) : y_V p l e R s m args below meth c c0 s0 Q nL ad A Wd pc lv st g u := by
  subst hn
  obtain ⟨hx, hb, hml, hown, hts⟩ := C
  simp only [y_stp] at h
  split at h
  · rename_i v hv
    intro H locs ls hP hg hS hl
    exact lv_aload hx hb hd (z_lv_get hl hv) (hK _ _ _ _ _ h H locs ls hP hg hS hl)
  · exact h.elim
set_option maxHeartbeats 1000000 in
theorem y_x_istore_n {k : Fin 4} (hkn : k.val < nL) (C : CallFix p m c cc nL s args z_T own) (hd : decode cc pc = .ok (.istore_n k, 1)) (hK : ∀ pc lv st g u, K pc lv st g u → y_V p l e R s m args below meth c c0 s0 Q nL ad A Wd pc lv st g u) (h : y_stp G MC Po (.istore_n k) nx tg lv st g u K) (hn : nx = pc + 1) : y_V p l e R s m args below meth c c0 s0 Q nL ad A Wd pc lv st g u := by
  subst hn
  obtain ⟨hx, hb, hml, hown, hts⟩ := C
  simp only [y_stp] at h
  split at h
  · rename_i v r
    obtain ⟨lv1, hk1, hm⟩ := z_put_eq _ _ _ _ _ h
    intro H locs ls hP hg hS hl
    exact lv_istore_n hx hb hd rfl hl hkn rfl (fun ls1 hl1 => hK _ _ _ _ _ hk1 H locs ls1 hP hg hS (z_lv_put1 rfl hl1 hm))
  · exact h.elim
set_option maxHeartbeats 1000000 in
theorem y_x_istore {k : Nat} (hkn : k < nL) (C : CallFix p m c cc nL s args z_T own) (hd : decode cc pc = .ok (.istore k, 2)) (hK : ∀ pc lv st g u, K pc lv st g u → y_V p l e R s m args below meth c c0 s0 Q nL ad A Wd pc lv st g u) (h : y_stp G MC Po (.istore k) nx tg lv st g u K) (hn : nx = pc + 2) : y_V p l e R s m args below meth c c0 s0 Q nL ad A Wd pc lv st g u := by
  subst hn
  obtain ⟨hx, hb, hml, hown, hts⟩ := C
  simp only [y_stp] at h
  split at h
  · rename_i v r
    obtain ⟨lv1, hk1, hm⟩ := z_put_eq _ _ _ _ _ h
    intro H locs ls hP hg hS hl
    exact lv_istore hx hb hd hl hkn rfl (fun ls1 hl1 => hK _ _ _ _ _ hk1 H locs ls1 hP hg hS (z_lv_put1 rfl hl1 hm))
  · exact h.elim
set_option maxHeartbeats 1000000 in
theorem y_x_lstore_n {k : Fin 4} (hkn : k.val + 1 < nL) (C : CallFix p m c cc nL s args z_T own) (hd : decode cc pc = .ok (.lstore_n k, 1)) (hK : ∀ pc lv st g u, K pc lv st g u → y_V p l e R s m args below meth c c0 s0 Q nL ad A Wd pc lv st g u) (h : y_stp G MC Po (.lstore_n k) nx tg lv st g u K) (hn : nx = pc + 1) : y_V p l e R s m args below meth c c0 s0 Q nL ad A Wd pc lv st g u := by
  subst hn
  obtain ⟨hx, hb, hml, hown, hts⟩ := C
  simp only [y_stp] at h
  split at h
  · rename_i v r
    obtain ⟨lv1, hk1, hm⟩ := z_put_eq _ _ _ _ _ h
    intro H locs ls hP hg hS hl
    exact lv_lstore_n hx hb hd rfl hl hkn rfl (fun ls1 hl1 => hK _ _ _ _ _ hk1 H locs ls1 hP hg hS (z_lv_put2 rfl hl1 hm))
  · exact h.elim
set_option maxHeartbeats 1000000 in
theorem y_x_lstore {k : Nat} (hkn : k + 1 < nL) (C : CallFix p m c cc nL s args z_T own) (hd : decode cc pc = .ok (.lstore k, 2)) (hK : ∀ pc lv st g u, K pc lv st g u → y_V p l e R s m args below meth c c0 s0 Q nL ad A Wd pc lv st g u) (h : y_stp G MC Po (.lstore k) nx tg lv st g u K) (hn : nx = pc + 2) : y_V p l e R s m args below meth c c0 s0 Q nL ad A Wd pc lv st g u := by
  subst hn
  obtain ⟨hx, hb, hml, hown, hts⟩ := C
  simp only [y_stp] at h
  split at h
  · rename_i v r
    obtain ⟨lv1, hk1, hm⟩ := z_put_eq _ _ _ _ _ h
    intro H locs ls hP hg hS hl
    exact lv_lstore hx hb hd hl hkn rfl (fun ls1 hl1 => hK _ _ _ _ _ hk1 H locs ls1 hP hg hS (z_lv_put2 rfl hl1 hm))
  · exact h.elim
set_option maxHeartbeats 1000000 in
theorem y_x_iinc {k : Nat} {n : Int} (hkn : k < nL) (C : CallFix p m c cc nL s args z_T own) (hd : decode cc pc = .ok (.iinc k n, 3)) (hK : ∀ pc lv st g u, K pc lv st g u → y_V p l e R s m args below meth c c0 s0 Q nL ad A Wd pc lv st g u) (h : y_stp G MC Po (.iinc k n) nx tg lv st g u K) (hn : nx = pc + 3) : y_V p l e R s m args below meth c c0 s0 Q nL ad A Wd pc lv st g u := by
  subst hn
  obtain ⟨hx, hb, hml, hown, hts⟩ := C
  simp only [y_stp] at h
  split at h
  · rename_i v hv
    obtain ⟨k0, hk0⟩ := List.getElem?_of_mem (List.mem_map.mpr ⟨(k, Value.int v), z_get_mem lv k _ hv, rfl⟩ : (k, z_tv ad (.int v)) ∈ z_tl ad lv)
    split at h
    · rename_i j
      obtain ⟨lv1, hk1, hm⟩ := z_put_eq _ _ _ _ _ h
      intro H locs ls hP hg hS hl
      exact lv_iinc (v := v + nI j) hx hb hd hl hk0 (by first | rfl | (congr 1; exact Int32.ofInt_ofNat _) | simp [nI]) hkn rfl (fun ls1 hl1 => hK _ _ _ _ _ hk1 H locs ls1 hP hg hS (z_lv_put1 rfl hl1 hm))
    · obtain ⟨lv1, hk1, hm⟩ := z_put_eq _ _ _ _ _ h
      intro H locs ls hP hg hS hl
      exact lv_iinc (v := v + (-1)) hx hb hd hl hk0 (by first | rfl | (congr 1)) hkn rfl (fun ls1 hl1 => hK _ _ _ _ _ hk1 H locs ls1 hP hg hS (z_lv_put1 rfl hl1 hm))
    · exact h.elim
  · exact h.elim
set_option maxHeartbeats 1000000 in
theorem y_x_iadd  (C : CallFix p m c cc nL s args z_T own) (hd : decode cc pc = .ok (.iadd, 1)) (hK : ∀ pc lv st g u, K pc lv st g u → y_V p l e R s m args below meth c c0 s0 Q nL ad A Wd pc lv st g u) (h : y_stp G MC Po (.iadd) nx tg lv st g u K) (hn : nx = pc + 1) : y_V p l e R s m args below meth c c0 s0 Q nL ad A Wd pc lv st g u := by
  subst hn
  obtain ⟨hx, hb, hml, hown, hts⟩ := C
  simp only [y_stp] at h
  split at h
  · intro H locs ls hP hg hS hl
    exact lv_iadd hx hb hd (hK _ _ _ _ _ h H locs ls hP hg hS hl)
  · exact h.elim
set_option maxHeartbeats 1000000 in
theorem y_x_isub  (C : CallFix p m c cc nL s args z_T own) (hd : decode cc pc = .ok (.isub, 1)) (hK : ∀ pc lv st g u, K pc lv st g u → y_V p l e R s m args below meth c c0 s0 Q nL ad A Wd pc lv st g u) (h : y_stp G MC Po (.isub) nx tg lv st g u K) (hn : nx = pc + 1) : y_V p l e R s m args below meth c c0 s0 Q nL ad A Wd pc lv st g u := by
  subst hn
  obtain ⟨hx, hb, hml, hown, hts⟩ := C
  simp only [y_stp] at h
  split at h
  · intro H locs ls hP hg hS hl
    exact lv_isub hx hb hd (hK _ _ _ _ _ h H locs ls hP hg hS hl)
  · exact h.elim
set_option maxHeartbeats 1000000 in
theorem y_x_imul  (C : CallFix p m c cc nL s args z_T own) (hd : decode cc pc = .ok (.imul, 1)) (hK : ∀ pc lv st g u, K pc lv st g u → y_V p l e R s m args below meth c c0 s0 Q nL ad A Wd pc lv st g u) (h : y_stp G MC Po (.imul) nx tg lv st g u K) (hn : nx = pc + 1) : y_V p l e R s m args below meth c c0 s0 Q nL ad A Wd pc lv st g u := by
  subst hn
  obtain ⟨hx, hb, hml, hown, hts⟩ := C
  simp only [y_stp] at h
  split at h
  · intro H locs ls hP hg hS hl
    exact lv_imul hx hb hd (hK _ _ _ _ _ h H locs ls hP hg hS hl)
  · exact h.elim
set_option maxHeartbeats 1000000 in
theorem y_x_iand  (C : CallFix p m c cc nL s args z_T own) (hd : decode cc pc = .ok (.iand, 1)) (hK : ∀ pc lv st g u, K pc lv st g u → y_V p l e R s m args below meth c c0 s0 Q nL ad A Wd pc lv st g u) (h : y_stp G MC Po (.iand) nx tg lv st g u K) (hn : nx = pc + 1) : y_V p l e R s m args below meth c c0 s0 Q nL ad A Wd pc lv st g u := by
  subst hn
  obtain ⟨hx, hb, hml, hown, hts⟩ := C
  simp only [y_stp] at h
  split at h
  · intro H locs ls hP hg hS hl
    exact lv_iand hx hb hd (hK _ _ _ _ _ h H locs ls hP hg hS hl)
  · exact h.elim
set_option maxHeartbeats 1000000 in
theorem y_x_ior  (C : CallFix p m c cc nL s args z_T own) (hd : decode cc pc = .ok (.ior, 1)) (hK : ∀ pc lv st g u, K pc lv st g u → y_V p l e R s m args below meth c c0 s0 Q nL ad A Wd pc lv st g u) (h : y_stp G MC Po (.ior) nx tg lv st g u K) (hn : nx = pc + 1) : y_V p l e R s m args below meth c c0 s0 Q nL ad A Wd pc lv st g u := by
  subst hn
  obtain ⟨hx, hb, hml, hown, hts⟩ := C
  simp only [y_stp] at h
  split at h
  · intro H locs ls hP hg hS hl
    exact lv_ior hx hb hd (hK _ _ _ _ _ h H locs ls hP hg hS hl)
  · exact h.elim
set_option maxHeartbeats 1000000 in
theorem y_x_ixor  (C : CallFix p m c cc nL s args z_T own) (hd : decode cc pc = .ok (.ixor, 1)) (hK : ∀ pc lv st g u, K pc lv st g u → y_V p l e R s m args below meth c c0 s0 Q nL ad A Wd pc lv st g u) (h : y_stp G MC Po (.ixor) nx tg lv st g u K) (hn : nx = pc + 1) : y_V p l e R s m args below meth c c0 s0 Q nL ad A Wd pc lv st g u := by
  subst hn
  obtain ⟨hx, hb, hml, hown, hts⟩ := C
  simp only [y_stp] at h
  split at h
  · intro H locs ls hP hg hS hl
    exact lv_ixor hx hb hd (hK _ _ _ _ _ h H locs ls hP hg hS hl)
  · exact h.elim
set_option maxHeartbeats 1000000 in
theorem y_x_ishl  (C : CallFix p m c cc nL s args z_T own) (hd : decode cc pc = .ok (.ishl, 1)) (hK : ∀ pc lv st g u, K pc lv st g u → y_V p l e R s m args below meth c c0 s0 Q nL ad A Wd pc lv st g u) (h : y_stp G MC Po (.ishl) nx tg lv st g u K) (hn : nx = pc + 1) : y_V p l e R s m args below meth c c0 s0 Q nL ad A Wd pc lv st g u := by
  subst hn
  obtain ⟨hx, hb, hml, hown, hts⟩ := C
  simp only [y_stp] at h
  split at h
  · intro H locs ls hP hg hS hl
    exact lv_ishl hx hb hd (hK _ _ _ _ _ h H locs ls hP hg hS hl)
  · exact h.elim
set_option maxHeartbeats 1000000 in
theorem y_x_ishr  (C : CallFix p m c cc nL s args z_T own) (hd : decode cc pc = .ok (.ishr, 1)) (hK : ∀ pc lv st g u, K pc lv st g u → y_V p l e R s m args below meth c c0 s0 Q nL ad A Wd pc lv st g u) (h : y_stp G MC Po (.ishr) nx tg lv st g u K) (hn : nx = pc + 1) : y_V p l e R s m args below meth c c0 s0 Q nL ad A Wd pc lv st g u := by
  subst hn
  obtain ⟨hx, hb, hml, hown, hts⟩ := C
  simp only [y_stp] at h
  split at h
  · intro H locs ls hP hg hS hl
    exact lv_ishr hx hb hd (hK _ _ _ _ _ h H locs ls hP hg hS hl)
  · exact h.elim
set_option maxHeartbeats 1000000 in
theorem y_x_ladd  (C : CallFix p m c cc nL s args z_T own) (hd : decode cc pc = .ok (.ladd, 1)) (hK : ∀ pc lv st g u, K pc lv st g u → y_V p l e R s m args below meth c c0 s0 Q nL ad A Wd pc lv st g u) (h : y_stp G MC Po (.ladd) nx tg lv st g u K) (hn : nx = pc + 1) : y_V p l e R s m args below meth c c0 s0 Q nL ad A Wd pc lv st g u := by
  subst hn
  obtain ⟨hx, hb, hml, hown, hts⟩ := C
  simp only [y_stp] at h
  split at h
  · intro H locs ls hP hg hS hl
    exact lv_ladd hx hb hd (hK _ _ _ _ _ h H locs ls hP hg hS hl)
  · exact h.elim
set_option maxHeartbeats 1000000 in
theorem y_x_lsub  (C : CallFix p m c cc nL s args z_T own) (hd : decode cc pc = .ok (.lsub, 1)) (hK : ∀ pc lv st g u, K pc lv st g u → y_V p l e R s m args below meth c c0 s0 Q nL ad A Wd pc lv st g u) (h : y_stp G MC Po (.lsub) nx tg lv st g u K) (hn : nx = pc + 1) : y_V p l e R s m args below meth c c0 s0 Q nL ad A Wd pc lv st g u := by
  subst hn
  obtain ⟨hx, hb, hml, hown, hts⟩ := C
  simp only [y_stp] at h
  split at h
  · intro H locs ls hP hg hS hl
    exact lv_lsub hx hb hd (hK _ _ _ _ _ h H locs ls hP hg hS hl)
  · exact h.elim
set_option maxHeartbeats 1000000 in
theorem y_x_idiv  (C : CallFix p m c cc nL s args z_T own) (hd : decode cc pc = .ok (.idiv, 1)) (hK : ∀ pc lv st g u, K pc lv st g u → y_V p l e R s m args below meth c c0 s0 Q nL ad A Wd pc lv st g u) (h : y_stp G MC Po (.idiv) nx tg lv st g u K) (hn : nx = pc + 1) : y_V p l e R s m args below meth c c0 s0 Q nL ad A Wd pc lv st g u := by
  subst hn
  obtain ⟨hx, hb, hml, hown, hts⟩ := C
  simp only [y_stp] at h
  split at h
  · intro H locs ls hP hg hS hl
    exact lv_idiv hx hb hd h.1 (hK _ _ _ _ _ h.2 H locs ls hP hg hS hl)
  · exact h.elim
set_option maxHeartbeats 1000000 in
theorem y_x_irem  (C : CallFix p m c cc nL s args z_T own) (hd : decode cc pc = .ok (.irem, 1)) (hK : ∀ pc lv st g u, K pc lv st g u → y_V p l e R s m args below meth c c0 s0 Q nL ad A Wd pc lv st g u) (h : y_stp G MC Po (.irem) nx tg lv st g u K) (hn : nx = pc + 1) : y_V p l e R s m args below meth c c0 s0 Q nL ad A Wd pc lv st g u := by
  subst hn
  obtain ⟨hx, hb, hml, hown, hts⟩ := C
  simp only [y_stp] at h
  split at h
  · intro H locs ls hP hg hS hl
    exact lv_irem hx hb hd h.1 (hK _ _ _ _ _ h.2 H locs ls hP hg hS hl)
  · exact h.elim
set_option maxHeartbeats 1000000 in
theorem y_x_lcmp  (C : CallFix p m c cc nL s args z_T own) (hd : decode cc pc = .ok (.lcmp, 1)) (hK : ∀ pc lv st g u, K pc lv st g u → y_V p l e R s m args below meth c c0 s0 Q nL ad A Wd pc lv st g u) (h : y_stp G MC Po (.lcmp) nx tg lv st g u K) (hn : nx = pc + 1) : y_V p l e R s m args below meth c c0 s0 Q nL ad A Wd pc lv st g u := by
  subst hn
  obtain ⟨hx, hb, hml, hown, hts⟩ := C
  simp only [y_stp] at h
  split at h
  · intro H locs ls hP hg hS hl
    exact W.lcmp hx hb hd (hK _ _ _ _ _ h H locs ls hP hg hS hl)
  · exact h.elim
set_option maxHeartbeats 1000000 in
theorem y_x_ifCond {op : Jvm.ClassFile.Cond} {off : Int} (ht : (pc : Int) + off = (tg : Int)) (C : CallFix p m c cc nL s args z_T own) (hd : decode cc pc = .ok (.ifCond op off, 3)) (hK : ∀ pc lv st g u, K pc lv st g u → y_V p l e R s m args below meth c c0 s0 Q nL ad A Wd pc lv st g u) (h : y_stp G MC Po (.ifCond op off) nx tg lv st g u K) (hn : nx = pc + 3) : y_V p l e R s m args below meth c c0 s0 Q nL ad A Wd pc lv st g u := by
  subst hn
  obtain ⟨hx, hb, hml, hown, hts⟩ := C
  simp only [y_stp] at h
  split at h
  · cases op <;> simp only at h
    · intro H locs ls hP hg hS hl
      exact lv_if_eq hx hb hd ht (fun q => hK _ _ _ _ _ (h.1 q) H locs ls hP hg hS hl) (fun q => hK _ _ _ _ _ (h.2 q) H locs ls hP hg hS hl)
    · intro H locs ls hP hg hS hl
      exact lv_if_ne hx hb hd ht (fun q => hK _ _ _ _ _ (h.1 q) H locs ls hP hg hS hl) (fun q => hK _ _ _ _ _ (h.2 q) H locs ls hP hg hS hl)
    · intro H locs ls hP hg hS hl
      exact lv_if_lt hx hb hd ht (fun q => hK _ _ _ _ _ (h.1 q) H locs ls hP hg hS hl) (fun q => hK _ _ _ _ _ (h.2 q) H locs ls hP hg hS hl)
    · intro H locs ls hP hg hS hl
      exact lv_if_ge hx hb hd ht (fun q => hK _ _ _ _ _ (h.1 q) H locs ls hP hg hS hl) (fun q => hK _ _ _ _ _ (h.2 q) H locs ls hP hg hS hl)
    · intro H locs ls hP hg hS hl
      exact lv_if_gt hx hb hd ht (fun q => hK _ _ _ _ _ (h.1 q) H locs ls hP hg hS hl) (fun q => hK _ _ _ _ _ (h.2 q) H locs ls hP hg hS hl)
    · intro H locs ls hP hg hS hl
      exact lv_if_le hx hb hd ht (fun q => hK _ _ _ _ _ (h.1 q) H locs ls hP hg hS hl) (fun q => hK _ _ _ _ _ (h.2 q) H locs ls hP hg hS hl)
  · exact h.elim
set_option maxHeartbeats 1000000 in
theorem y_x_if_icmp {op : Jvm.ClassFile.Cond} {off : Int} (ht : (pc : Int) + off = (tg : Int)) (C : CallFix p m c cc nL s args z_T own) (hd : decode cc pc = .ok (.if_icmp op off, 3)) (hK : ∀ pc lv st g u, K pc lv st g u → y_V p l e R s m args below meth c c0 s0 Q nL ad A Wd pc lv st g u) (h : y_stp G MC Po (.if_icmp op off) nx tg lv st g u K) (hn : nx = pc + 3) : y_V p l e R s m args below meth c c0 s0 Q nL ad A Wd pc lv st g u := by
  subst hn
  obtain ⟨hx, hb, hml, hown, hts⟩ := C
  simp only [y_stp] at h
  split at h
  · cases op <;> simp only at h
    · intro H locs ls hP hg hS hl
      exact lv_icmp_eq hx hb hd ht (fun q => hK _ _ _ _ _ (h.1 q) H locs ls hP hg hS hl) (fun q => hK _ _ _ _ _ (h.2 q) H locs ls hP hg hS hl)
    · intro H locs ls hP hg hS hl
      exact lv_icmp_ne hx hb hd ht (fun q => hK _ _ _ _ _ (h.1 q) H locs ls hP hg hS hl) (fun q => hK _ _ _ _ _ (h.2 q) H locs ls hP hg hS hl)
    · intro H locs ls hP hg hS hl
      exact lv_icmp_lt hx hb hd ht (fun q => hK _ _ _ _ _ (h.1 q) H locs ls hP hg hS hl) (fun q => hK _ _ _ _ _ (h.2 q) H locs ls hP hg hS hl)
    · intro H locs ls hP hg hS hl
      exact lv_icmp_ge hx hb hd ht (fun q => hK _ _ _ _ _ (h.1 q) H locs ls hP hg hS hl) (fun q => hK _ _ _ _ _ (h.2 q) H locs ls hP hg hS hl)
    · intro H locs ls hP hg hS hl
      exact lv_icmp_gt hx hb hd ht (fun q => hK _ _ _ _ _ (h.1 q) H locs ls hP hg hS hl) (fun q => hK _ _ _ _ _ (h.2 q) H locs ls hP hg hS hl)
    · intro H locs ls hP hg hS hl
      exact lv_icmp_le hx hb hd ht (fun q => hK _ _ _ _ _ (h.1 q) H locs ls hP hg hS hl) (fun q => hK _ _ _ _ _ (h.2 q) H locs ls hP hg hS hl)
  · exact h.elim
set_option maxHeartbeats 1000000 in
theorem y_x_goto {off : Int} (ht : (pc : Int) + off = (tg : Int)) (C : CallFix p m c cc nL s args z_T own) (hd : decode cc pc = .ok (.goto off, 3)) (hK : ∀ pc lv st g u, K pc lv st g u → y_V p l e R s m args below meth c c0 s0 Q nL ad A Wd pc lv st g u) (h : y_stp G MC Po (.goto off) nx tg lv st g u K) (hn : nx = pc + 3) : y_V p l e R s m args below meth c c0 s0 Q nL ad A Wd pc lv st g u := by
  subst hn
  obtain ⟨hx, hb, hml, hown, hts⟩ := C
  simp only [y_stp] at h
  intro H locs ls hP hg hS hl
  exact lv_goto hx hb hd ht (hK _ _ _ _ _ h H locs ls hP hg hS hl)
set_option maxHeartbeats 1000000 in
theorem y_x_l2i (C : CallFix p m c cc nL s args z_T own) (hd : decode cc pc = .ok (.l2i, 1)) (hK : ∀ pc lv st g u, K pc lv st g u → y_V p l e R s m args below meth c c0 s0 Q nL ad A Wd pc lv st g u) (h : y_stp G MC Po (.l2i) nx tg lv st g u K) (hn : nx = pc + 1) : y_V p l e R s m args below meth c c0 s0 Q nL ad A Wd pc lv st g u := by
  subst hn
  obtain ⟨hx, hb, hml, hown, hts⟩ := C
  simp only [y_stp] at h
  split at h
  · intro H locs ls hP hg hS hl
    exact lv_l2i hx hb hd rfl (hK _ _ _ _ _ h H locs ls hP hg hS hl)
  · exact h.elim
end YST
/-- what a method owes at its ends, and its calls -/
def y_H (p : Program) (l : Launch) (e : Env) (R : Room) (s : State) (m : MethodId) (args : Array Value) (below : List Frame) (meth : Method) (c : Code) (c0 s0 : Nat) (Q : State → Prop) (nL : Nat) (ad : Nat → Nat) (A : Nat → Prop) (Wd : Heap → Prop) (cc : ByteArray) (lim : Nat) (G : y_G) (MC : Nat) (Po : y_PO) : Prop :=
  (∀ (pc : Nat) (H : Heap) (locs : List Loc) (ls : Array Slot) (v : Int32) (g u : Nat), decode cc pc = .ok (.ireturn, 1) → (y_rt G = some .int ∨ y_rt G = some .boolean ∧ narrow .boolean (.int v) = .int v) → u ≤ MC → Po (some (.int v)) g → Wd H → g ≤ H.size → va_S A s.heap H locs → W p l e R s m args below meth c H locs (c0 + u) (s0 + 6 * u) Q (F0 m pc ls [.int v])) ∧
  (∀ (pc : Nat) (H : Heap) (locs : List Loc) (ls : Array Slot) (v : Int64) (g u : Nat), decode cc pc = .ok (.lreturn, 1) → y_rt G = some .long → u ≤ MC → Po (some (.long v)) g → Wd H → g ≤ H.size → va_S A s.heap H locs → W p l e R s m args below meth c H locs (c0 + u) (s0 + 6 * u) Q (F0 m pc ls [.long v])) ∧
  (∀ (pc i j n : Nat) (sp : y_SP) (as r : List Value) (lv : z_LV) (g u : Nat) (k : Option Value → Nat → Nat → Prop), pc < lim → (decode cc pc = .ok (.invokevirtual j, 3) ∧ i = j ∧ j < 100000 ∨ decode cc pc = .ok (.invokestatic j, 3) ∧ i = j + 100000) → z_fnd (y_cm G) i = some (n, sp) → as.length = n → z_cs r ≤ 8 → sp as g u k → (∀ v g' u', (∀ a, v ≠ some (.ref a)) → k v g' u' → y_V p l e R s m args below meth c c0 s0 Q nL ad A Wd (pc + 3) lv (v.toList ++ r) g' u') → y_V p l e R s m args below meth c c0 s0 Q nL ad A Wd pc lv (as.reverse ++ r) g u)
section YSU
variable {p : Program} {l : Launch} {e : Env} {R : Room} {s : State} {m : MethodId} {args : Array Value} {below : List Frame} {meth : Method} {c : Code} {c0 s0 : Nat} {Q : State → Prop} {cc : ByteArray} {nL lim : Nat} {own : String} {ad : Nat → Nat} {A : Nat → Prop} {Wd : Heap → Prop}
variable {G : y_G} {MC : Nat} {Po : y_PO} {K : y_KT} {pc nx tg : Nat} {lv : z_LV} {st : List Value} {g u : Nat}
theorem y_x_inv {i : Nat} (hi : i < 100000) (hlm : pc < lim) (hd : decode cc pc = .ok (.invokevirtual i, 3)) (hH : y_H p l e R s m args below meth c c0 s0 Q nL ad A Wd cc lim G MC Po) (hK : ∀ pc lv st g u, K pc lv st g u → y_V p l e R s m args below meth c c0 s0 Q nL ad A Wd pc lv st g u) (h : y_stp G MC Po (.invokevirtual i) nx tg lv st g u K) (hn : nx = pc + 3) : y_V p l e R s m args below meth c c0 s0 Q nL ad A Wd pc lv st g u := by
  subst hn
  simp only [y_stp] at h
  split at h
  · rename_i n sp hf
    obtain ⟨vs, r, h1, h2, h3⟩ := z_pop_eq _ _ _ _ h
    split at h3
    · rename_i hr
      have hr := Nat.le_of_ble_eq_true hr
      rw [h2, ← List.reverse_reverse vs, ← List.append_nil vs.reverse]
      exact hH.2.2 pc i i n sp _ r lv g u _ hlm (Or.inl ⟨hd, rfl, hi⟩) hf (by simp [h1]) hr h3 (fun v g' u' _ hk => hK _ _ _ _ _ hk)
    · exact h3.elim
  · exact h.elim
theorem y_x_ins {i : Nat} (hlm : pc < lim) (hd : decode cc pc = .ok (.invokestatic i, 3)) (hH : y_H p l e R s m args below meth c c0 s0 Q nL ad A Wd cc lim G MC Po) (hK : ∀ pc lv st g u, K pc lv st g u → y_V p l e R s m args below meth c c0 s0 Q nL ad A Wd pc lv st g u) (h : y_stp G MC Po (.invokestatic i) nx tg lv st g u K) (hn : nx = pc + 3) : y_V p l e R s m args below meth c c0 s0 Q nL ad A Wd pc lv st g u := by
  subst hn
  simp only [y_stp] at h
  split at h
  · rename_i n sp hf
    obtain ⟨vs, r, h1, h2, h3⟩ := z_pop_eq _ _ _ _ h
    split at h3
    · rename_i hr
      have hr := Nat.le_of_ble_eq_true hr
      rw [h2, ← List.reverse_reverse vs, ← List.append_nil vs.reverse]
      exact hH.2.2 pc (i + 100000) i n sp _ r lv g u _ hlm (Or.inr ⟨hd, rfl⟩) hf (by simp [h1]) hr h3 (fun v g' u' _ hk => hK _ _ _ _ _ hk)
    · exact h3.elim
  · exact h.elim
set_option maxHeartbeats 4000000 in
theorem y_step {ins : Instr} (C : CallFix p m c cc nL s args z_T own) (hH : y_H p l e R s m args below meth c c0 s0 Q nL ad A Wd cc lim G MC Po) (hco : y_cok cc nL lim G = true) (hpo : y_pok own G = true) (hm : (pc, ins, nx, tg) ∈ y_code G) (hK : ∀ pc lv st g u, K pc lv st g u → y_V p l e R s m args below meth c c0 s0 Q nL ad A Wd pc lv st g u) (h : y_stp G MC Po ins nx tg lv st g u K) : y_V p l e R s m args below meth c c0 s0 Q nL ad A Wd pc lv st g u := by
  simp only [y_cok, Bool.and_eq_true, List.all_eq_true] at hco
  obtain ⟨⟨htk, hlo⟩, hlm⟩ := hco _ hm
  simp only [y_pok, Bool.and_eq_true, List.all_eq_true, decide_eq_true_eq] at hpo
  obtain ⟨hci, hcL⟩ := hpo
  unfold z_tok at htk
  simp only at htk
  split at htk
  · rename_i i0 n hd
    simp only [Bool.and_eq_true, Bool.or_eq_true, decide_eq_true_eq, beq_iff_eq] at htk
    obtain ⟨⟨⟨hi, hln⟩, hnx⟩, hx⟩ := htk
    subst hi
    cases i0 with
    | iconst n =>
      have hln := hln.resolve_left (by simp [z_isw])
      rw [hln] at hd hnx
      exact y_x_iconst C hd hK h hnx
    | bipush n =>
      have hln := hln.resolve_left (by simp [z_isw])
      rw [hln] at hd hnx
      exact y_x_bipush C hd hK h hnx
    | sipush n =>
      have hln := hln.resolve_left (by simp [z_isw])
      rw [hln] at hd hnx
      exact y_x_sipush C hd hK h hnx
    | lconst n =>
      have hln := hln.resolve_left (by simp [z_isw])
      rw [hln] at hd hnx
      exact y_x_lconst C hd hK h hnx
    | ldc i =>
      have hln := hln.resolve_left (by simp [z_isw])
      rw [hln] at hd hnx
      exact y_x_ldc hci C hd hK h hnx
    | ldc2_w i =>
      have hln := hln.resolve_left (by simp [z_isw])
      rw [hln] at hd hnx
      exact y_x_ldc2_w hcL C hd hK h hnx
    | iload_n k =>
      have hln := hln.resolve_left (by simp [z_isw])
      rw [hln] at hd hnx
      exact y_x_iload_n C hd hK h hnx
    | iload k =>
      have hln := hln.resolve_left (by simp [z_isw])
      rw [hln] at hd hnx
      exact y_x_iload C hd hK h hnx
    | lload_n k =>
      have hln := hln.resolve_left (by simp [z_isw])
      rw [hln] at hd hnx
      exact y_x_lload_n C hd hK h hnx
    | lload k =>
      have hln := hln.resolve_left (by simp [z_isw])
      rw [hln] at hd hnx
      exact y_x_lload C hd hK h hnx
    | aload_n k =>
      have hln := hln.resolve_left (by simp [z_isw])
      rw [hln] at hd hnx
      exact y_x_aload_n C hd hK h hnx
    | aload k =>
      have hln := hln.resolve_left (by simp [z_isw])
      rw [hln] at hd hnx
      exact y_x_aload C hd hK h hnx
    | istore_n k =>
      have hln := hln.resolve_left (by simp [z_isw])
      rw [hln] at hd hnx
      exact y_x_istore_n (by simpa [z_lok] using hlo) C hd hK h hnx
    | istore k =>
      have hln := hln.resolve_left (by simp [z_isw])
      rw [hln] at hd hnx
      exact y_x_istore (by simpa [z_lok] using hlo) C hd hK h hnx
    | lstore_n k =>
      have hln := hln.resolve_left (by simp [z_isw])
      rw [hln] at hd hnx
      exact y_x_lstore_n (by simpa [z_lok] using hlo) C hd hK h hnx
    | lstore k =>
      have hln := hln.resolve_left (by simp [z_isw])
      rw [hln] at hd hnx
      exact y_x_lstore (by simpa [z_lok] using hlo) C hd hK h hnx
    | iinc k n =>
      have hln := hln.resolve_left (by simp [z_isw])
      rw [hln] at hd hnx
      exact y_x_iinc (by simpa [z_lok] using hlo) C hd hK h hnx
    | iadd =>
      have hln := hln.resolve_left (by simp [z_isw])
      rw [hln] at hd hnx
      exact y_x_iadd C hd hK h hnx
    | isub =>
      have hln := hln.resolve_left (by simp [z_isw])
      rw [hln] at hd hnx
      exact y_x_isub C hd hK h hnx
    | imul =>
      have hln := hln.resolve_left (by simp [z_isw])
      rw [hln] at hd hnx
      exact y_x_imul C hd hK h hnx
    | iand =>
      have hln := hln.resolve_left (by simp [z_isw])
      rw [hln] at hd hnx
      exact y_x_iand C hd hK h hnx
    | ior =>
      have hln := hln.resolve_left (by simp [z_isw])
      rw [hln] at hd hnx
      exact y_x_ior C hd hK h hnx
    | ixor =>
      have hln := hln.resolve_left (by simp [z_isw])
      rw [hln] at hd hnx
      exact y_x_ixor C hd hK h hnx
    | idiv =>
      have hln := hln.resolve_left (by simp [z_isw])
      rw [hln] at hd hnx
      exact y_x_idiv C hd hK h hnx
    | irem =>
      have hln := hln.resolve_left (by simp [z_isw])
      rw [hln] at hd hnx
      exact y_x_irem C hd hK h hnx
    | ishl =>
      have hln := hln.resolve_left (by simp [z_isw])
      rw [hln] at hd hnx
      exact y_x_ishl C hd hK h hnx
    | ishr =>
      have hln := hln.resolve_left (by simp [z_isw])
      rw [hln] at hd hnx
      exact y_x_ishr C hd hK h hnx
    | ladd =>
      have hln := hln.resolve_left (by simp [z_isw])
      rw [hln] at hd hnx
      exact y_x_ladd C hd hK h hnx
    | lsub =>
      have hln := hln.resolve_left (by simp [z_isw])
      rw [hln] at hd hnx
      exact y_x_lsub C hd hK h hnx
    | lcmp =>
      have hln := hln.resolve_left (by simp [z_isw])
      rw [hln] at hd hnx
      exact y_x_lcmp C hd hK h hnx
    | ifCond op off =>
      have hln := hln.resolve_left (by simp [z_isw])
      rw [hln] at hd hnx
      exact y_x_ifCond (by simpa using hx) C hd hK h hnx
    | if_icmp op off =>
      have hln := hln.resolve_left (by simp [z_isw])
      rw [hln] at hd hnx
      exact y_x_if_icmp (by simpa using hx) C hd hK h hnx
    | goto off =>
      have hln := hln.resolve_left (by simp [z_isw])
      rw [hln] at hd hnx
      exact y_x_goto (by simpa using hx) C hd hK h hnx
    | l2i =>
      have hln := hln.resolve_left (by simp [z_isw])
      rw [hln] at hd hnx
      exact y_x_l2i C hd hK h hnx
    | invokevirtual i =>
      have hln := hln.resolve_left (by simp [z_isw])
      rw [hln] at hd hnx
      exact y_x_inv (by simpa [z_lok] using hlo) (by simpa [y_lok] using hlm) hd hH hK h hnx
    | invokestatic i =>
      have hln := hln.resolve_left (by simp [z_isw])
      rw [hln] at hd hnx
      exact y_x_ins (by simpa [y_lok] using hlm) hd hH hK h hnx
    | ireturn =>
      have hln := hln.resolve_left (by simp [z_isw])
      rw [hln] at hd hnx
      simp only [y_stp] at h
      split at h
      · split at h
        · rename_i hr
          intro H locs ls hP hg hS hl
          exact hH.1 pc H locs ls _ g u hd (Or.inl hr) h.1 h.2 hP hg hS
        · rename_i hr
          intro H locs ls hP hg hS hl
          exact hH.1 pc H locs ls _ g u hd (Or.inr ⟨hr, h.1⟩) h.2.1 h.2.2 hP hg hS
        · exact h.elim
      · exact h.elim
    | lreturn =>
      have hln := hln.resolve_left (by simp [z_isw])
      rw [hln] at hd hnx
      simp only [y_stp] at h
      split at h
      · split at h
        · rename_i hr
          intro H locs ls hP hg hS hl
          exact hH.2.1 pc H locs ls _ g u hd hr h.1 h.2 hP hg hS
        · exact h.elim
      · exact h.elim
    | _ => exact h.elim
  · cases htk
theorem y_sound {cuts : List Nat} {J : y_KT} (C : CallFix p m c cc nL s args z_T own) (hH : y_H p l e R s m args below meth c c0 s0 Q nL ad A Wd cc lim G MC Po) (hco : y_cok cc nL lim G = true) (hpo : y_pok own G = true) (hJ : ∀ pc lv st g u, J pc lv st g u → y_V p l e R s m args below meth c c0 s0 Q nL ad A Wd pc lv st g u) : ∀ (n pc : Nat) (lv : z_LV) (st : List Value) (g u : Nat), y_wp G MC Po cuts J n pc lv st g u → y_V p l e R s m args below meth c c0 s0 Q nL ad A Wd pc lv st g u := by
  intro n
  induction n with
  | zero => intro pc lv st g u h; exact h.elim
  | succ n ih =>
    intro pc lv st g u h
    unfold y_wp at h
    split at h
    · rename_i ins nx tg hf
      refine y_step C hH hco hpo (z_fnd_mem _ _ _ hf) (fun pc lv st g u hk => ?_) h
      split at hk
      · exact hJ _ _ _ _ _ hk
      · exact ih _ _ _ _ _ hk
    · exact h.elim
theorem y_V_keep {ks : List Nat} (h : y_V p l e R s m args below meth c c0 s0 Q nL ad A Wd pc (z_keep ks lv) st g u) : y_V p l e R s m args below meth c c0 s0 Q nL ad A Wd pc lv st g u := by
  intro H locs ls hP hg hS hl
  refine h H locs ls hP hg hS ⟨hl.1, hl.2.1, fun q hq => hl.2.2 q ?_⟩
  obtain ⟨q0, h0, rfl⟩ := List.mem_map.mp hq
  exact List.mem_map.mpr ⟨q0, z_keep_mem h0, rfl⟩
theorem y_V_g {g' : Nat} (hg : g ≤ g') (h : y_V p l e R s m args below meth c c0 s0 Q nL ad A Wd pc lv st g u) : y_V p l e R s m args below meth c c0 s0 Q nL ad A Wd pc lv st g' u := fun H locs ls hP h2 hS hl => h H locs ls hP (Nat.le_trans hg h2) hS hl
end YSU
end
section
/-! two objects; contracts of the law's level, and how they are called -/
def y_O (D : va_G) (cI cZ cJ : ClassId) (ad : Nat → Nat) (H : Heap) : Prop := ∃ (S : z_MI) (P : z_ML), z_J S ∧ va_P D z_cl (z_w cI cZ cJ ad S P) H
def y_Wd (D : va_G) (cI cZ cJ : ClassId) (ad0 ad1 : Nat → Nat) (H : Heap) : Prop := y_O D cI cZ cJ ad0 H ∧ y_O D cI cZ cJ ad1 H
def y_Ad (ad0 ad1 : Nat → Nat) : Prop := z_inj ad0 ∧ z_inj ad1 ∧ (∀ a ∈ z_ids, ∀ b ∈ z_ids, ad0 a ≠ ad1 b) ∧ ad0 z_WT = ad1 z_WT
def y_ad (ad0 ad1 : Nat → Nat) (b : Nat) : Nat → Nat
  | 0 => ad0 2096
  | 1 => ad1 2096
  | _ => b
def y_AA (ad0 ad1 : Nat → Nat) (sz : Nat) : Nat → Prop := fun q => (∃ a ∈ z_ids, q = ad0 a ∨ q = ad1 a) ∨ sz ≤ q
def y_Pr (D : va_G) (cI cZ cJ : ClassId) (ad0 ad1 : Nat → Nat) (sz : Nat) (U : State) : Prop := U.heap.size = sz ∧ y_Wd D cI cZ cJ ad0 ad1 U.heap ∧ z_E D cI cZ cJ ad0 (y_AA ad0 ad1 sz) U
def y_Q (D : va_G) (cI cZ cJ : ClassId) (ad0 ad1 : Nat → Nat) (sz : Nat) (Po : y_PO) : Array Value → State → Outcome → State → Prop := fun _ st oc t => (∃ (v : Option Value) (g : Nat), oc = .returned v ∧ (∀ a, v ≠ some (.ref a)) ∧ Po v g ∧ g ≤ t.heap.size ∧ y_Wd D cI cZ cJ ad0 ad1 t.heap) ∧ va_F (y_AA ad0 ad1 sz) st t
def y_X (D : va_G) (cI cZ cJ : ClassId) (ad0 ad1 : Nat → Nat) (sz : Nat) (Px : y_PX) : String → State → State → Prop := fun E st t => (∃ g : Nat, Px E g ∧ g ≤ t.heap.size ∧ y_Wd D cI cZ cJ ad0 ad1 t.heap) ∧ va_F (y_AA ad0 ad1 sz) st t
def y_rm (fr lo mc : Nat) : Room := { frames := fr, cells := mc, slots := 6 * mc, locals := lo }
def y_cw (y : MethodName) (b : ByteArray) (maxL : Nat) (ret : Option FieldType) : Option (List (Nat × Nat × Nat × Nat)) → Jvm.Cond
  | none => .code y b maxL ret
  | some hh => .codeWith y b maxL ret hh
/-- a contract of the law's level -/
def y_CX (l : Launch) (y : MethodName) (b : ByteArray) (maxL : Nat) (ret : Option FieldType) (ho : Option (List (Nat × Nat × Nat × Nat))) (sx : y_SX) (fr lo mc : Nat) : Prop :=
  ∀ (D : va_G) (cI cZ cJ : ClassId) (ad0 ad1 : Nat → Nat) (b9 sz : Nat) (as : List Value) (g : Nat) (Po : y_PO) (Px : y_PX), y_Ad ad0 ad1 → sx as g Po Px → g ≤ sz → vx_Met l y (y_cw y b maxL ret ho :: z_T) (y_rm fr lo mc) (va_Pc (z_ts (y_ad ad0 ad1 b9) as) (y_Pr D cI cZ cJ ad0 ad1 sz)) (y_Q D cI cZ cJ ad0 ad1 sz Po) (y_X D cI cZ cJ ad0 ad1 sz Px) mc (6 * mc) (y_AA ad0 ad1 sz)
def y_C (p : Program) (s : State) (m : MethodId) (args : Array Value) (meth : Method) (c : Code) (cc : ByteArray) (nL : Nat) (own : String) (D : va_G) (cI cZ cJ : ClassId) (ad0 ad1 : Nat → Nat) (A : Nat → Prop) : Prop :=
  CallFix p m c cc nL s args z_T own ∧ y_Ad ad0 ad1 ∧ (∀ a ∈ z_ids, A (ad0 a) ∧ A (ad1 a)) ∧ (∀ q, s.heap.size ≤ q → A q) ∧ z_E D cI cZ cJ ad0 A s ∧ meth.locks = false
/-- a call that may be done in some room -/
def y_CO (l : Launch) (fr lo : Nat) (own : String) (i n mc : Nat) (sx : y_SX) : Prop :=
  ∀ (p : Program) (e : Env) (R : Room) (s : State) (m : MethodId) (args : Array Value) (below : List Frame) (meth : Method) (c : Code) (c0 s0 : Nat) (Q : State → Prop) (cc : ByteArray) (nL : Nat) (D : va_G) (cI cZ cJ : ClassId) (ad0 ad1 : Nat → Nat) (b9 : Nat) (A : Nat → Prop) (pc j : Nat) (as r : List Value) (lv : z_LV) (g u : Nat) (k : y_PO) (kx : y_PX),
  y_C p s m args meth c cc nL own D cI cZ cJ ad0 ad1 A → fr ≤ R.frames → lo ≤ R.locals → c0 + u + mc ≤ R.cells → s0 + 6 * u + 6 * mc ≤ R.slots → (decode cc pc = .ok (.invokevirtual j, 3) ∧ i = j ∧ j < 100000 ∨ decode cc pc = .ok (.invokestatic j, 3) ∧ i = j + 100000) → as.length = n → z_cs r ≤ 8 → sx as g k kx →
  (∀ v g', (∀ a, v ≠ some (.ref a)) → k v g' → y_V p l e R s m args below meth c c0 s0 Q nL (y_ad ad0 ad1 b9) A (y_Wd D cI cZ cJ ad0 ad1) (pc + 3) lv (v.toList ++ r) g' (u + mc)) →
  (∀ E g', kx E g' → ∀ (H : Heap) (locs : List Loc) (ls : Array Slot) (q : Addr) (ce : Cell), y_Wd D cI cZ cJ ad0 ad1 H → g' ≤ H.size → va_S A s.heap H locs → lv_has ls nL (z_tl (y_ad ad0 ad1 b9) lv) → H[q]? = some ce → ce.vm = .none → s.vm.findClass E = some ce.cls → vx_W p l e R s m args below meth c H locs (c0 + (u + mc)) (s0 + 6 * (u + mc)) Q (F0 m pc ls (z_ts (y_ad ad0 ad1 b9) r)) q) →
  y_V p l e R s m args below meth c c0 s0 Q nL (y_ad ad0 ad1 b9) A (y_Wd D cI cZ cJ ad0 ad1) pc lv (as.reverse ++ r) g u
theorem y_E_ad {D : va_G} {cI cZ cJ : ClassId} {ad ad' : Nat → Nat} {A : Nat → Prop} {U : State} (h : ad z_WT = ad' z_WT) (hE : z_E D cI cZ cJ ad A U) : z_E D cI cZ cJ ad' A U := by
  unfold z_E at hE ⊢
  rw [h] at hE
  exact hE
theorem y_AA_A {ad0 ad1 : Nat → Nat} {A : Nat → Prop} {sz sz' : Nat} (hAd : ∀ a ∈ z_ids, A (ad0 a) ∧ A (ad1 a)) (hA : ∀ q, sz ≤ q → A q) (h : sz ≤ sz') : ∀ q, y_AA ad0 ad1 sz' q → A q := fun q hq => by
  rcases hq with ⟨a, ha, rfl | rfl⟩ | hq
  · exact (hAd a ha).1
  · exact (hAd a ha).2
  · exact hA q (Nat.le_trans h hq)
theorem y_Pr_blind {D : va_G} {cI cZ cJ : ClassId} {ad0 ad1 : Nat → Nat} {sz : Nat} {av : List Value} : FrameBlind (va_Pc av (y_Pr D cI cZ cJ ad0 ad1 sz)) := by
  intro a U g mk h
  obtain ⟨h1, h2, h3, h4⟩ := h
  exact ⟨h1, h2, h3, z_E.same (u := U) rfl rfl h4⟩
theorem y_Pr_call {D : va_G} {cI cZ cJ : ClassId} {ad0 ad1 : Nat → Nat} {A : Nat → Prop} {s U : State} {H : Heap} {locs : List Loc} {av : List Value} (hAd : ∀ a ∈ z_ids, A (ad0 a) ∧ A (ad1 a)) (hA : ∀ q, s.heap.size ≤ q → A q) (hE : z_E D cI cZ cJ ad0 A s) (hW : y_Wd D cI cZ cJ ad0 ad1 H) (hS : va_S A s.heap H locs) (hU : U.heap = H) (hWm : s.WarmedH U.vm) : va_Pc av (y_Pr D cI cZ cJ ad0 ad1 H.size) av.toArray U :=
  ⟨rfl, by rw [hU], by rw [hU]; exact hW, z_E.warm hWm (fun q h1 h2 => by rw [hU]; exact hS.2.1 q h1 h2) (y_AA_A hAd hA hS.1) hE⟩
theorem y_words {y : MethodName} {w0 : Jvm.Cond} {s : State} {args : Array Value} (hts : ∀ w ∈ z_T, w.before args s = true) (k2 : w0 ∈ z_T) : ∀ w ∈ (w0 :: z_T), ∀ (a' : Array Value) (U : State), s.WarmedH U.vm → w.before a' U = true := by
  intro w hw a' U hW
  have hw' : w ∈ z_T := by
    rcases List.mem_cons.mp hw with rfl | h
    · exact k2
    · exact h
  exact word_at hW (z_T_good hw') (hts w hw')
theorem y_keepS {A B : Nat → Prop} {s : State} {H : Heap} {locs L : List Loc} {st₀ t T' : State} (hAA : ∀ q, B q → A q) (hS : va_S A s.heap H locs) (h0 : st₀.heap = H) (e1 : T'.heap = t.heap) (hF : va_F B st₀ t) (hL : ∀ q ∈ L, B q.base) : va_S A s.heap T'.heap (locs ++ L) := by
  obtain ⟨hz, hkp⟩ := hF
  rw [h0] at hz hkp
  exact ⟨Nat.le_trans hS.1 (by rw [e1]; exact hz), fun q h1 h2 => by rw [e1, hkp q (Nat.lt_of_lt_of_le h1 hS.1) (fun z => h2 (hAA q z))]; exact hS.2.1 q h1 h2, fun q hq => by
    rcases List.mem_append.mp hq with h | h
    · exact hS.2.2 q h
    · exact hAA _ (hL q h)⟩
theorem y_stand {p : Program} {l : Launch} {e : Env} {R : Room} {s : State} {m : MethodId} {args : Array Value} {below : List Frame} {meth : Method} {c : Code} {T : State} {locs : List Loc} {a b a' b' : Nat} (X : Stand p l e R s m args below meth c T locs a b) (h1 : a = a') (h2 : b = b') : Stand p l e R s m args below meth c T locs a' b' := by
  subst h1; subst h2; exact X
set_option maxHeartbeats 2000000 in
theorem y_coS {l : Launch} {fr lo fr' lo' : Nat} {own : String} {i n mc : Nat} {sx : y_SX} {y : MethodName} {b : ByteArray} {maxL : Nat} {ret : Option FieldType} (ct : y_CX l y b maxL ret none sx fr' lo' mc) (hB : z_kB y b maxL ret n = true) (hV : z_kS own i y = true) (hfr : fr' + 1 ≤ fr) (hlo : 8 + (maxL + 11) + lo' ≤ lo) : y_CO l fr lo own (i + 100000) n mc sx := by
  intro p e R s m args below meth c c0 s0 Q cc nL D cI cZ cJ ad0 ad1 b9 A pc j as r lv g u k kx C hf hlo1 hcl hsl hd hn hr hsp hK hX H locs ls hW hg hS hl
  rcases hd with ⟨hd, hij, hj9⟩ | ⟨hd, hij⟩
  · omega
  have hij : i = j := by omega
  subst hij
  obtain ⟨⟨hx, hb, hml, hown, hts⟩, hAdj, hAd, hA, hE, hlk⟩ := id C
  simp only [z_kS, Bool.and_eq_true, decide_eq_true_eq] at hV
  obtain ⟨v1, v2⟩ := hV
  simp only [z_kB, Bool.and_eq_true, decide_eq_true_eq] at hB
  obtain ⟨⟨⟨k1, k2⟩, k3⟩, k4⟩ := hB
  have hM : vx_Met l y (Jvm.Cond.code y b maxL ret :: z_T) (y_rm fr' lo' mc) (va_Pc (z_ts (y_ad ad0 ad1 b9) as) (y_Pr D cI cZ cJ ad0 ad1 H.size)) (y_Q D cI cZ cJ ad0 ad1 H.size k) (y_X D cI cZ cJ ad0 ad1 H.size kx) mc (6 * mc) (y_AA ad0 ad1 H.size) := ct D cI cZ cJ ad0 ad1 b9 H.size as g k kx hAdj hsp hg
  have hnl : (z_ts (y_ad ad0 ad1 b9) as).length = n := by simp only [z_ts, List.length_map]; exact hn
  have hpre : PreS s H (va_Pc (z_ts (y_ad ad0 ad1 b9) as) (y_Pr D cI cZ cJ ad0 ad1 H.size)) (z_ts (y_ad ad0 ad1 b9) as) :=
    ⟨y_Pr_blind, fun U hU hWm => y_Pr_call (av := z_ts (y_ad ad0 ad1 b9) as) hAd hA hE hW hS hU hWm⟩
  have hstk : z_ts (y_ad ad0 ad1 b9) (as.reverse ++ r) = (z_ts (y_ad ad0 ad1 b9) as).reverse ++ z_ts (y_ad ad0 ad1 b9) r := by
    rw [z_ts_app, z_ts_rev]
  have hcb : CallB R s args own i y b maxL ret (Jvm.Cond.code y b maxL ret :: z_T) (y_rm fr' lo' mc) mc (6 * mc) n :=
    ⟨rfl, rfl, (by show fr' + 1 ≤ R.frames; omega), (by show 8 + (maxL + 11) + lo' ≤ R.locals; omega), y_words (y := y) hts k2, List.mem_cons_self, hts _ k2, hts _ k1, k3, fun sig h => by
      rw [h] at k4
      exact (Option.some.inj k4).symm, hts _ v1⟩
  have hrun := vx_runS (g := F0 m pc ls (z_ts (y_ad ad0 ad1 b9) (as.reverse ++ r))) (As := z_ts (y_ad ad0 ad1 b9) as) (rest := z_ts (y_ad ad0 ad1 b9) r) (nL := nL) (cells := c0 + u) (slots := s0 + 6 * u) (locs := locs) (p := p) (e := e) (below := below) (meth := meth) ⟨hx, hb, hml, hown, hts⟩ hM ⟨hcb, hts _ v2⟩ hpre rfl hnl hl.1 hstk (lv_room (by rw [z_cs_sum]; exact hr)) hd ⟨hcl, hsl⟩
  intro T hT X
  rcases hrun T hT X with ⟨v, st₀, t, T', L, h0, X', hL, e1, e2, ⟨⟨v', g', hv, hnr, hk, hg', hW'⟩, hF⟩, st⟩ | ⟨q, st₀, t, T', L, E, ce, h0, X', hL, e1, e2, ⟨⟨g', hk, hg', hW'⟩, hF⟩, hce, hcv, hcls, st⟩
  · cases hv
    obtain ⟨t2, a1, b1⟩ := hK v g' hnr hk T'.heap (locs ++ L) ls (by rw [e1]; exact hW') (by rw [e1]; exact hg') (y_keepS (y_AA_A hAd hA hS.1) hS h0 e1 hF hL) hl T' rfl (y_stand X' (by omega) (by omega))
    refine ⟨t2, st t2 ?_, b1⟩
    rw [z_ts_app, z_ts_nr hnr] at a1
    exact a1
  · obtain ⟨t2, a1, b1⟩ := hX E g' hk T'.heap (locs ++ L) ls q ce (by rw [e1]; exact hW') (by rw [e1]; exact hg') (y_keepS (y_AA_A hAd hA hS.1) hS h0 e1 hF hL) hl (by rw [e1]; exact hce) hcv hcls T' rfl (y_stand X' (by omega) (by omega))
    exact ⟨t2, st.trans a1, b1⟩
def y_kC (y : MethodName) (b : ByteArray) (maxL : Nat) (ret : Option FieldType) (hh : List (Nat × Nat × Nat × Nat)) (n : Nat) : Bool := decide (Jvm.Cond.initialized y.cls ∈ z_T) && decide (Jvm.Cond.codeWith y b maxL ret hh ∈ z_T) && decide (y.cls ≠ "java/lang/invoke/MethodHandle" ∧ y.cls ≠ "java/lang/invoke/VarHandle") && decide ((parseMethodDescriptor y.desc).map (fun d => d.parameters.length) = some n)
theorem y_kC_mk {y : MethodName} {b : ByteArray} {maxL : Nat} {ret : Option FieldType} {hh : List (Nat × Nat × Nat × Nat)} {n : Nat} (h1 : Jvm.Cond.initialized y.cls ∈ z_T) (h2 : Jvm.Cond.codeWith y b maxL ret hh ∈ z_T) (h3 : y.cls ≠ "java/lang/invoke/MethodHandle" ∧ y.cls ≠ "java/lang/invoke/VarHandle") (h4 : (parseMethodDescriptor y.desc).map (fun d => d.parameters.length) = some n) : y_kC y b maxL ret hh n = true := by
  simp only [y_kC, Bool.and_eq_true, decide_eq_true_eq]
  exact ⟨⟨⟨h1, h2⟩, h3⟩, h4⟩
set_option maxHeartbeats 2000000 in
theorem y_coW {l : Launch} {fr lo fr' lo' : Nat} {own : String} {i n mc : Nat} {sx : y_SX} {y : MethodName} {b : ByteArray} {maxL : Nat} {ret : Option FieldType} {hh : List (Nat × Nat × Nat × Nat)} (ct : y_CX l y b maxL ret (some hh) sx fr' lo' mc) (hB : y_kC y b maxL ret hh n = true) (hV : z_kS own i y = true) (hfr : fr' + 1 ≤ fr) (hlo : 8 + (maxL + 11) + lo' ≤ lo) : y_CO l fr lo own (i + 100000) n mc sx := by
  intro p e R s m args below meth c c0 s0 Q cc nL D cI cZ cJ ad0 ad1 b9 A pc j as r lv g u k kx C hf hlo1 hcl hsl hd hn hr hsp hK hX H locs ls hW hg hS hl
  rcases hd with ⟨hd, hij, hj9⟩ | ⟨hd, hij⟩
  · omega
  have hij : i = j := by omega
  subst hij
  obtain ⟨⟨hx, hb, hml, hown, hts⟩, hAdj, hAd, hA, hE, hlk⟩ := id C
  simp only [z_kS, Bool.and_eq_true, decide_eq_true_eq] at hV
  obtain ⟨v1, v2⟩ := hV
  simp only [y_kC, Bool.and_eq_true, decide_eq_true_eq] at hB
  obtain ⟨⟨⟨k1, k2⟩, k3⟩, k4⟩ := hB
  have hM : vx_Met l y (Jvm.Cond.codeWith y b maxL ret hh :: z_T) (y_rm fr' lo' mc) (va_Pc (z_ts (y_ad ad0 ad1 b9) as) (y_Pr D cI cZ cJ ad0 ad1 H.size)) (y_Q D cI cZ cJ ad0 ad1 H.size k) (y_X D cI cZ cJ ad0 ad1 H.size kx) mc (6 * mc) (y_AA ad0 ad1 H.size) := ct D cI cZ cJ ad0 ad1 b9 H.size as g k kx hAdj hsp hg
  have hnl : (z_ts (y_ad ad0 ad1 b9) as).length = n := by simp only [z_ts, List.length_map]; exact hn
  have hpre : PreS s H (va_Pc (z_ts (y_ad ad0 ad1 b9) as) (y_Pr D cI cZ cJ ad0 ad1 H.size)) (z_ts (y_ad ad0 ad1 b9) as) :=
    ⟨y_Pr_blind, fun U hU hWm => y_Pr_call (av := z_ts (y_ad ad0 ad1 b9) as) hAd hA hE hW hS hU hWm⟩
  have hstk : z_ts (y_ad ad0 ad1 b9) (as.reverse ++ r) = (z_ts (y_ad ad0 ad1 b9) as).reverse ++ z_ts (y_ad ad0 ad1 b9) r := by
    rw [z_ts_app, z_ts_rev]
  have hcb : vx_CSW R s args own i y b maxL ret hh (Jvm.Cond.codeWith y b maxL ret hh :: z_T) (y_rm fr' lo' mc) mc (6 * mc) n :=
    ⟨⟨rfl, rfl, (by show fr' + 1 ≤ R.frames; omega), (by show 8 + (maxL + 11) + lo' ≤ R.locals; omega), y_words (y := y) hts k2, List.mem_cons_self⟩, hts _ k2, hts _ k1, k3, fun sig h => by
      rw [h] at k4
      exact (Option.some.inj k4).symm, hts _ v1, hts _ v2⟩
  have hrun := vx_runSX (g := F0 m pc ls (z_ts (y_ad ad0 ad1 b9) (as.reverse ++ r))) (As := z_ts (y_ad ad0 ad1 b9) as) (rest := z_ts (y_ad ad0 ad1 b9) r) (nL := nL) (cells := c0 + u) (slots := s0 + 6 * u) (locs := locs) (p := p) (e := e) (below := below) (meth := meth) ⟨hx, hb, hml, hown, hts⟩ hM hcb hpre rfl hnl hl.1 hstk (lv_room (by rw [z_cs_sum]; exact hr)) hd ⟨hcl, hsl⟩
  intro T hT X
  rcases hrun T hT X with ⟨v, st₀, t, T', L, h0, X', hL, e1, e2, ⟨⟨v', g', hv, hnr, hk, hg', hW'⟩, hF⟩, st⟩ | ⟨q, st₀, t, T', L, E, ce, h0, X', hL, e1, e2, ⟨⟨g', hk, hg', hW'⟩, hF⟩, hce, hcv, hcls, st⟩
  · cases hv
    obtain ⟨t2, a1, b1⟩ := hK v g' hnr hk T'.heap (locs ++ L) ls (by rw [e1]; exact hW') (by rw [e1]; exact hg') (y_keepS (y_AA_A hAd hA hS.1) hS h0 e1 hF hL) hl T' rfl (y_stand X' (by omega) (by omega))
    refine ⟨t2, st t2 ?_, b1⟩
    rw [z_ts_app, z_ts_nr hnr] at a1
    exact a1
  · obtain ⟨t2, a1, b1⟩ := hX E g' hk T'.heap (locs ++ L) ls q ce (by rw [e1]; exact hW') (by rw [e1]; exact hg') (y_keepS (y_AA_A hAd hA hS.1) hS h0 e1 hF hL) hl (by rw [e1]; exact hce) hcv hcls T' rfl (y_stand X' (by omega) (by omega))
    exact ⟨t2, st.trans a1, b1⟩
/-! the class's methods: what matters of them at the law's level -/
def y_int : Value → Bool
  | .int _ => true
  | _ => false
theorem y_ts_int (ad : Nat → Nat) : ∀ as : List Value, as.all y_int = true → z_ts ad as = as
  | [], _ => rfl
  | v :: as, h => by
    rw [List.all_cons, Bool.and_eq_true] at h
    show z_tv ad v :: z_ts ad as = v :: as
    rw [y_ts_int ad as h.2]
    cases v <;> first | rfl | cases h.1
theorem y_rs_int : ∀ as : List Value, as.all y_int = true → z_rs as = true
  | [], _ => rfl
  | v :: as, h => by
    rw [List.all_cons, Bool.and_eq_true] at h
    refine z_rs_cons.mpr ⟨?_, y_rs_int as h.2⟩
    cases v <;> first | rfl | cases h.1
/-- from every state that holds what holds at all times: an answer that is rt, or a throw of one of nm; it goes on to hold -/
def y_WK (sx : z_SX) (n : Nat) (rt : List Value → Option Value → Prop) (nm : List String) : Prop := ∀ (S : z_MI) (P : z_ML) (as : List Value), z_J S → as.all y_int = true → as.length = n → sx (.ref 2096 :: as) S P (fun v S' _ => z_J S' ∧ rt as v) (fun E S' _ => z_J S' ∧ E ∈ nm)
def y_vs (n : Nat) (rt : List Value → Option Value → Prop) (nm : List String) : y_SX := fun as g k kx => match as with
  | .ref o :: as' => Nat.blt o 2 = true ∧ as'.all y_int = true ∧ as'.length = n ∧ (∀ v, rt as' v → k v g) ∧ ∀ E ∈ nm, kx E (g + 1)
  | _ => False
section YVA
variable {p : Program} {l : Launch} {e : Env} {R : Room} {s : State} {m : MethodId} {args : Array Value} {below : List Frame} {meth : Method} {c : Code} {cells slots : Nat} {Q : State → Prop} {cc : ByteArray} {nL : Nat} {own : String} {D : va_G} {cI cZ cJ : ClassId} {A : Nat → Prop}
set_option maxHeartbeats 2000000 in
theorem y_vaux {sx : z_SX} {n : Nat} {rt : List Value → Option Value → Prop} {nm : List String} {y : MethodName} {b : ByteArray} {maxL : Nat} {ret : Option FieldType} {d i pc : Nat} {adA adB : Nat → Nat} {as r : List Value} {H : Heap} {locs : List Loc} {ls : Array Slot}
    (ct : z_CX l y b maxL ret sx d) (wk : y_WK sx n rt nm) (hB : z_kB y b maxL ret n = true) (hV : z_kV own i y = true) (hO : z_kO 2096 y.cls = true) (F : CallFix p m c cc nL s args z_T own) (hinj : z_inj adA) (hdis : ∀ a ∈ z_ids, ∀ b ∈ z_ids, adA a ≠ adB b) (hAd : ∀ a ∈ z_ids, A (adA a)) (hA : ∀ q, s.heap.size ≤ q → A q) (hE : z_E D cI cZ cJ adA A s)
    (hd1 : d + 1 ≤ R.frames) (hd2 : 8 + (maxL + 11) + 28 * d ≤ R.locals) (hcl : cells + 1 ≤ R.cells) (hsl : slots + 6 ≤ R.slots) (hd : decode cc pc = .ok (.invokevirtual i, 3)) (has : as.all y_int = true) (hn : as.length = n) (hr : (r.map fun v => v.category).sum ≤ 8)
    (hOA : y_O D cI cZ cJ adA H) (hOB : y_O D cI cZ cJ adB H) (hS : va_S A s.heap H locs) (hlsz : ls.size = nL)
    (hK : ∀ (v : Option Value) (H1 : Heap) (locs1 : List Loc), (∀ a, v ≠ some (.ref a)) → rt as v → y_O D cI cZ cJ adA H1 → y_O D cI cZ cJ adB H1 → H.size ≤ H1.size → va_S A s.heap H1 locs1 → W p l e R s m args below meth c H1 locs1 (cells + 1) (slots + 6) Q (F0 m (pc + 3) ls (v.toList ++ r)))
    (hX : ∀ (E : String) (H1 : Heap) (locs1 : List Loc) (q : Addr) (ce : Cell), E ∈ nm → y_O D cI cZ cJ adA H1 → y_O D cI cZ cJ adB H1 → H.size + 1 ≤ H1.size → va_S A s.heap H1 locs1 → H1[q]? = some ce → ce.vm = .none → s.vm.findClass E = some ce.cls → vx_W p l e R s m args below meth c H1 locs1 (cells + 1) (slots + 6) Q (F0 m pc ls r) q) :
    W p l e R s m args below meth c H locs cells slots Q (F0 m pc ls (as.reverse ++ .ref (adA 2096) :: r)) := by
  obtain ⟨S, P, hJ, hP⟩ := hOA
  obtain ⟨S1, P1, hJ1, hP1⟩ := hOB
  obtain ⟨ho1, ho2, q0, hq1, hq2⟩ := z_kO_of hO
  obtain ⟨hx, hb, hml, hown, hts⟩ := id F
  obtain ⟨k0, hk0, -⟩ := z_w_at (cI := cI) (cZ := cZ) (cJ := cJ) (ad := adA) (S := S) (P := P) ho1
  rw [z_e0 ho2] at hk0
  simp only [z_kV, Bool.and_eq_true, decide_eq_true_eq] at hV
  obtain ⟨⟨v1, v2⟩, v3⟩ := hV
  simp only [z_kB, Bool.and_eq_true, decide_eq_true_eq] at hB
  obtain ⟨⟨⟨k1, k2⟩, k3⟩, k4⟩ := hB
  have hst : z_ts adA as = as := y_ts_int adA as has
  have hras : z_rs (Value.ref 2096 :: as) = true := z_rs_cons.mpr ⟨by decide +kernel, y_rs_int as has⟩
  have hcw : CallW R s args own y.cls i y b maxL ret (Jvm.Cond.code y b maxL ret :: z_T) (z_rmX d) 1 6 n :=
    ⟨⟨rfl, rfl, hd1, hd2, y_words (y := y) hts k2, List.mem_cons_self, hts _ k2, hts _ k1, k3, fun sig h => by
      rw [h] at k4
      exact (Option.some.inj k4).symm, hts _ v1⟩, hts _ v2, hts _ v3⟩
  have hpre : PreV s H y.cls (adA 2096) (va_Pc (z_ts adA (.ref 2096 :: as)) (z_Pr D cI cZ cJ adA H.size S P)) as := by
    refine ⟨z_Pr_blind, ?_, fun U hU hWm => ?_⟩
    · have h9 := va_recv hE.1 hP hq1 hk0
      rw [hq2] at h9
      exact h9
    · have h9 := z_Pr_call (av := z_ts adA (.ref 2096 :: as)) hAd hA hE hP hS hU hWm
      have h8 : z_ts adA (.ref 2096 :: as) = .ref (adA 2096) :: as := by
        show Value.ref (adA 2096) :: z_ts adA as = _
        rw [hst]
      rw [h8] at h9
      rw [h8]
      exact h9
  have hrun := vx_runV (g := F0 m pc ls (as.reverse ++ .ref (adA 2096) :: r)) (As := as) (rest := r) (nL := nL) (cells := cells) (slots := slots) (locs := locs) (p := p) (e := e) (below := below) (meth := meth) F (ct D cI cZ cJ adA H.size (.ref 2096 :: as) S P _ _ hinj hras (wk S P as hJ has hn)) hcw hpre rfl hn hlsz rfl (lv_room hr) hd ⟨hcl, hsl⟩
  have hAA : ∀ q, z_AA adA H.size q → A q := fun q hq => by
    rcases hq with ⟨a, ha, rfl⟩ | hq
    · exact hAd a ha
    · exact hA q (Nat.le_trans hS.1 hq)
  have hoth : ∀ (st₀ t T' : State), st₀.heap = H → T'.heap = t.heap → va_F (z_AA adA H.size) st₀ t → y_O D cI cZ cJ adB T'.heap := by
    intro st₀ t T' h0 e1 hF
    obtain ⟨hz, hkp⟩ := hF
    rw [h0] at hz hkp
    refine ⟨S1, P1, hJ1, hP1.kept (fun k q hk => ?_)⟩
    have hlt := (hP1 k q hk).lt
    rw [e1]
    refine hkp q.1 hlt ?_
    have hk' := hk
    simp only [z_w, List.getElem?_map, Option.map_eq_some_iff] at hk'
    obtain ⟨a, h1, h2⟩ := hk'
    rintro (⟨a', ha', hh⟩ | hh)
    · rw [← h2] at hh
      exact hdis a' ha' a (List.mem_of_getElem? h1) hh.symm
    · exact Nat.not_le.mpr hlt hh
  intro T hT X
  rcases hrun T hT X with ⟨v, st₀, t, T', L, h0, X', hL, e1, e2, ⟨⟨v', S', P', hv, hnr, ⟨hJ', hrt⟩, hP'⟩, hF⟩, st⟩ | ⟨q, st₀, t, T', L, E, ce, h0, X', hL, e1, e2, ⟨⟨⟨S', P', ⟨hJ', hEm⟩, hP'⟩, hF⟩, hgr⟩, hce, hcv, hcls, st⟩
  · cases hv
    obtain ⟨t2, a1, b1⟩ := hK v T'.heap (locs ++ L) hnr hrt ⟨S', P', hJ', by rw [e1]; exact hP'⟩ (hoth st₀ t T' h0 e1 hF) (by rw [e1, ← h0]; exact hF.1) (y_keepS hAA hS h0 e1 hF hL) T' rfl X'
    exact ⟨t2, st t2 a1, b1⟩
  · obtain ⟨t2, a1, b1⟩ := hX E T'.heap (locs ++ L) q ce hEm ⟨S', P', hJ', by rw [e1]; exact hP'⟩ (hoth st₀ t T' h0 e1 hF) (by rw [e1]; exact hgr) (y_keepS hAA hS h0 e1 hF hL) (by rw [e1]; exact hce) hcv hcls T' rfl X'
    exact ⟨t2, st.trans a1, b1⟩
end YVA
theorem y_01 (o : Nat) (h : Nat.blt o 2 = true) : o = 0 ∨ o = 1 := by
  have : o + 1 ≤ 2 := Nat.le_of_ble_eq_true h
  omega
theorem y_catsum (ad : Nat → Nat) {r : List Value} (h : z_cs r ≤ 8) : ((z_ts ad r).map fun v => v.category).sum ≤ 8 := by rw [z_cs_sum]; exact h
set_option maxHeartbeats 2000000 in
theorem y_coV {l : Launch} {fr lo d : Nat} {own : String} {i n : Nat} {sx : z_SX} {rt : List Value → Option Value → Prop} {nm : List String} {y : MethodName} {b : ByteArray} {maxL : Nat} {ret : Option FieldType} (ct : z_CX l y b maxL ret sx d) (wk : y_WK sx n rt nm) (hB : z_kB y b maxL ret n = true) (hV : z_kV own i y = true) (hO : z_kO 2096 y.cls = true) (hi : i < 100000) (hfr : d + 1 ≤ fr) (hlo : 8 + (maxL + 11) + 28 * d ≤ lo) : y_CO l fr lo own i (n + 1) 1 (y_vs n rt nm) := by
  intro p e R s m args below meth c c0 s0 Q cc nL D cI cZ cJ ad0 ad1 b9 A pc j as r lv g u k kx C hf hlo1 hcl hsl hd hn hr hsp hK hX H locs ls hW hg hS hl
  rcases hd with ⟨hd, hij, hj9⟩ | ⟨hd, hij⟩
  · subst hij
    unfold y_vs at hsp
    split at hsp
    · rename_i o as'
      obtain ⟨ho, hint, hlen, hk1, hx1⟩ := hsp
      obtain ⟨F, hAdj, hAd, hA, hE, hlk⟩ := id C
      have ho2 : o = 0 ∨ o = 1 := y_01 o ho
      have hs : z_ts (y_ad ad0 ad1 b9) ((Value.ref o :: as').reverse ++ r) = as'.reverse ++ .ref (y_ad ad0 ad1 b9 o) :: z_ts (y_ad ad0 ad1 b9) r := by
        rw [z_ts_app, z_ts_rev]
        show (Value.ref (y_ad ad0 ad1 b9 o) :: z_ts (y_ad ad0 ad1 b9) as').reverse ++ _ = _
        rw [y_ts_int _ _ hint]
        simp
      rw [hs]
      rcases ho2 with rfl | rfl
      · refine y_vaux (adA := ad0) (adB := ad1) ct wk hB hV hO F hAdj.1 hAdj.2.2.1 (fun a ha => (hAd a ha).1) hA hE (by omega) (by omega) hcl (by omega) hd hint hlen (y_catsum _ hr) hW.1 hW.2 hS hl.1 ?_ ?_
        · intro v H1 locs1 hnr hrt h1 h2 hz hS1 T hT X
          obtain ⟨t2, a1, b1⟩ := hK v g hnr (hk1 v hrt) H1 locs1 ls ⟨h1, h2⟩ (Nat.le_trans hg hz) hS1 hl T hT (y_stand X (by omega) (by omega))
          refine ⟨t2, ?_, b1⟩
          rw [z_ts_app, z_ts_nr hnr] at a1
          exact a1
        · intro E H1 locs1 q ce hEm h1 h2 hz hS1 hce hcv hcls T hT X
          exact hX E (g + 1) (hx1 E hEm) H1 locs1 ls q ce ⟨h1, h2⟩ (by omega) hS1 hl hce hcv hcls T hT (y_stand X (by omega) (by omega))
      · refine y_vaux (adA := ad1) (adB := ad0) ct wk hB hV hO F hAdj.2.1 (fun a ha b hb h => hAdj.2.2.1 b hb a ha h.symm) (fun a ha => (hAd a ha).2) hA (y_E_ad hAdj.2.2.2 hE) (by omega) (by omega) hcl (by omega) hd hint hlen (y_catsum _ hr) hW.2 hW.1 hS hl.1 ?_ ?_
        · intro v H1 locs1 hnr hrt h1 h2 hz hS1 T hT X
          obtain ⟨t2, a1, b1⟩ := hK v g hnr (hk1 v hrt) H1 locs1 ls ⟨h2, h1⟩ (Nat.le_trans hg hz) hS1 hl T hT (y_stand X (by omega) (by omega))
          refine ⟨t2, ?_, b1⟩
          rw [z_ts_app, z_ts_nr hnr] at a1
          exact a1
        · intro E H1 locs1 q ce hEm h1 h2 hz hS1 hce hcv hcls T hT X
          exact hX E (g + 1) (hx1 E hEm) H1 locs1 ls q ce ⟨h2, h1⟩ (by omega) hS1 hl hce hcv hcls T hT (y_stand X (by omega) (by omega))
    · exact hsp.elim
  · omega
end
section
/-! contracts of the law's level out of a walk of its machine -/
def y_cs (MC mc : Nat) (sx : y_SX) (kx : String → Nat → Nat → Prop) : y_SP := fun as g u k => u + mc ≤ MC ∧ sx as g (fun v g' => k v g' (u + mc)) (fun E g' => kx E g' (u + mc))
set_option maxHeartbeats 4000000 in
theorem y_CX_of {l : Launch} {y : MethodName} {b : ByteArray} {maxL : Nat} {ret : Option FieldType} {sx : y_SX} {fr lo mc : Nat} (G : (String → Nat → Nat → Prop) → y_G) (lim : Nat) (hpl : plainName y.cls = true) (hco : ∀ kx, y_cok b maxL lim (G kx) = true) (hpo : ∀ kx, y_pok y.cls (G kx) = true) (hrt : ∀ kx, y_rt (G kx) = ret)
    (hlen : ∀ as g Po Px, sx as g Po Px → z_cs as ≤ maxL) (hcalls : ∀ kx, ∀ q ∈ y_cm (G kx), ∃ (mc' : Nat) (sx' : y_SX), q.2.2 = y_cs mc mc' sx' kx ∧ y_CO l fr lo y.cls q.1 q.2.1 mc' sx')
    (body : ∀ (as : List Value) (g : Nat) (Po : y_PO) (Px : y_PX), sx as g Po Px → ∀ V : y_KT, (∀ (cuts : List Nat) (n pc : Nat) (lv : z_LV) (st : List Value) (g u : Nat), y_wp (G (fun E g _ => Px E g)) mc Po cuts V n pc lv st g u → V pc lv st g u) → (∀ (ks : List Nat) (pc : Nat) (lv : z_LV) (st : List Value) (g u : Nat), V pc (z_keep ks lv) st g u → V pc lv st g u) → V 0 (lv_args 0 as) [] g 0) : y_CX l y b maxL ret none sx fr lo mc := by
  intro D cI cZ cJ ad0 ad1 b9 sz as g Po Px hAdj hsp hg
  show vx_Met l y (Jvm.Cond.code y b maxL ret :: z_T) _ _ _ _ _ _ _
  refine vx_ofW (cc := b) (maxL := maxL) (ret := ret) hpl rfl ?_
  intro p e s m args below meth c s₁ B hml hex hv
  obtain ⟨rfl, hsz, hW, hE⟩ := hv
  subst hsz
  have hts0 := atoms_spec (ws := Jvm.Cond.code y b maxL ret :: z_T) B.pre
  have hown : s.vm.findClass y.cls = some m.cls := findClass_of_methodNamed B.named
  have hr := B.returns
  have hlk := B.notSynchronized
  have hC : y_C p s m (z_ts (y_ad ad0 ad1 b9) as).toArray meth c b maxL y.cls D cI cZ cJ ad0 ad1 (y_AA ad0 ad1 s.heap.size) :=
    ⟨⟨B.exec, B.bytes, hml, hown, fun w hw => hts0 w (List.mem_cons_of_mem _ hw)⟩, hAdj, fun a ha => ⟨Or.inl ⟨a, ha, Or.inl rfl⟩, Or.inl ⟨a, ha, Or.inr rfl⟩⟩, fun q hq => Or.inr hq, hE, hlk⟩
  have hq0 : ∀ (v : Option Value) (g : Nat) (H : Heap) (locs : List Loc), (∀ a, v ≠ some (.ref a)) → Po v g → g ≤ H.size → y_Wd D cI cZ cJ ad0 ad1 H → va_S (y_AA ad0 ad1 s.heap.size) s.heap H locs → ∀ t : State, t.heap = H → s.WarmedH t.vm → y_Q D cI cZ cJ ad0 ad1 s.heap.size Po (z_ts (y_ad ad0 ad1 b9) as).toArray s (.returned v) t :=
    fun v g H locs hn hp hg hW hS t ht _ => ⟨⟨v, g, rfl, hn, hp, by rw [ht]; exact hg, by rw [ht]; exact hW⟩, hS.F ht⟩
  have hH : y_H p l e (headSpec (Jvm.Cond.code y b maxL ret :: z_T) (y_rm fr lo mc)).room s m (z_ts (y_ad ad0 ad1 b9) as).toArray below meth c 0 0 (vx_MQ below (y_Q D cI cZ cJ ad0 ad1 s.heap.size Po) (y_X D cI cZ cJ ad0 ad1 s.heap.size Px) (z_ts (y_ad ad0 ad1 b9) as).toArray s mc (6 * mc) (y_AA ad0 ad1 s.heap.size)) maxL (y_ad ad0 ad1 b9) (y_AA ad0 ad1 s.heap.size) (y_Wd D cI cZ cJ ad0 ad1) b lim (G (fun E g _ => Px E g)) mc Po := by
    refine ⟨?_, ?_, ?_⟩
    · intro pc H locs ls v g u hd hv hu hp hW hg hS
      rcases hv with hv | ⟨hv, hn⟩
      · exact vx_ret (W.widen (k := mc) (n := 6 * mc) (by omega) (by omega) (W.iret B.exec B.bytes (by rw [hr, ← hrt (fun E g _ => Px E g), hv]) (hq0 _ g H locs (fun a h => by cases h) hp hg hW hS) hS.2.2 hd))
      · exact vx_ret (W.widen (k := mc) (n := 6 * mc) (by omega) (by omega) (W.zret B.exec B.bytes (ty := .boolean) (by rw [hr, ← hrt (fun E g _ => Px E g), hv]) hn (hq0 _ g H locs (fun a h => by cases h) hp hg hW hS) hS.2.2 hd))
    · intro pc H locs ls v g u hd hv hu hp hW hg hS
      exact vx_ret (W.widen (k := mc) (n := 6 * mc) (by omega) (by omega) (W.lret B.exec B.bytes (by rw [hr, ← hrt (fun E g _ => Px E g), hv]) (hq0 _ g H locs (fun a h => by cases h) hp hg hW hS) hS.2.2 hd))
    · intro pc i j n sp as' r lv g u k hlm hd hf hn hrr hsp' hK
      obtain ⟨mc', sx', hq, hco'⟩ := hcalls _ _ (z_fnd_mem _ _ _ hf)
      dsimp only at hq hco'
      subst hq
      obtain ⟨hu, hs⟩ := hsp'
      refine hco' p e _ s m _ below meth c 0 0 _ b maxL D cI cZ cJ ad0 ad1 b9 _ pc j as' r lv g u _ _ hC (Nat.le_refl _) (Nat.le_refl _) (by show 0 + u + mc' ≤ mc; omega) (by show 0 + 6 * u + 6 * mc' ≤ 6 * mc; omega) hd hn hrr hs (fun v g' hnr hk => hK v g' _ hnr hk) ?_
      intro E g' hk H locs ls q ce hW hg hS hl hcell hcv hcls
      exact vx_out (fun x hx => (hex x hx).elim) hlk hcell hcv hcls (fun t ht _ => ⟨⟨g', hk, by rw [ht]; exact hg, by rw [ht]; exact hW⟩, hS.F ht⟩) hS.2.2 (by omega) (by omega)
  have hb := body as g Po Px hsp _ (fun cuts n pc lv st g u h => y_sound (cuts := cuts) hC.1 hH (hco _) (hpo _) (fun _ _ _ _ _ h => h) n pc lv st g u h) (fun _ _ _ _ _ _ h => y_V_keep h)
  have hl := lv_entry (z_ts (y_ad ad0 ad1 b9) as) (n := maxL) (by rw [z_sllen]; exact hlen _ _ _ _ hsp)
  rw [lg_entry_eq]
  generalize (lg_sl (z_ts (y_ad ad0 ad1 b9) as) ++ List.replicate (maxL - (lg_sl (z_ts (y_ad ad0 ad1 b9) as)).length) Slot.unset).toArray = ls at hl ⊢
  rw [z_lvargs] at hl
  exact hb s.heap [] ls hW hg va_S.rf hl
/-! methods with handlers: what is thrown is stored, and it goes on -/
abbrev y_HS : Type := String × Nat × Instr × Nat
def y_ast (cc : ByteArray) (hp maxL : Nat) (ins : Instr) (w : Nat) : Bool := match ins with
  | .astore i => decide (w = 2) && decide (decode cc hp = .ok (.astore i, 2)) && decide (i < maxL)
  | .astore_n k => decide (w = 1) && decide (decode cc hp = .ok (.astore_n k, 1)) && decide ((k : Nat) < maxL)
  | _ => false
def y_h1 (own : String) (cc : ByteArray) (lim maxL : Nat) (a : Nat × Nat × Nat × Nat) (q : y_HS) : Bool :=
  decide (a.1 = 0) && decide (lim ≤ a.2.1) && decide (a.2.2.2 ≠ 0) && decide (Jvm.Cond.classLink own a.2.2.2 q.1 ∈ z_T) && decide (q.1 ∈ z_cas) && decide (a.2.2.1 = q.2.1) && y_ast cc q.2.1 maxL q.2.2.1 q.2.2.2
def y_hk (own : String) (cc : ByteArray) (lim maxL : Nat) : List String → List (Nat × Nat × Nat × Nat) → List y_HS → Bool
  | _, [], [] => true
  | pre, a :: hh, q :: hs => y_h1 own cc lim maxL a q && pre.all (fun E => decide ((q.1, E) ∈ z_ncs)) && y_hk own cc lim maxL (pre ++ [q.1]) hh hs
  | _, _, _ => false
section YHW
variable {p : Program} {l : Launch} {e : Env} {R : Room} {s : State} {m : MethodId} {args : Array Value} {below : List Frame} {meth : Method} {c : Code} {cells slots : Nat} {Q : State → Prop} {cc : ByteArray} {nL : Nat} {own : String} {H : Heap} {locs : List Loc}
theorem y_ast_W {ins : Instr} {w hp : Nat} {lv : List (Nat × Value)} {ls : Array Slot} {q : Nat} (hexec : p.tables.exec = Jvm.exec) (hb : c.code = cc) (h : y_ast cc hp nL ins w = true) (hl : lv_has ls nL lv) (k : ∀ ls' : Array Slot, lv_has ls' nL [] → W p l e R s m args below meth c H locs cells slots Q (F0 m (hp + w) ls' [])) : W p l e R s m args below meth c H locs cells slots Q (F0 m hp ls [.ref q]) := by
  unfold y_ast at h
  split at h
  · simp only [Bool.and_eq_true, decide_eq_true_eq] at h
    obtain ⟨⟨rfl, h2⟩, h3⟩ := h
    exact lv_astore hexec hb h2 hl h3 rfl (fun ls' h9 => k ls' ⟨h9.1, h9.2.1, fun q hq => by cases hq⟩)
  · simp only [Bool.and_eq_true, decide_eq_true_eq] at h
    obtain ⟨⟨rfl, h2⟩, h3⟩ := h
    exact lv_astore_n hexec hb h2 rfl hl h3 rfl (fun ls' h9 => k ls' ⟨h9.1, h9.2.1, fun q hq => by cases hq⟩)
  · cases h
theorem y_hk_W {cpc lim : Nat} {lv : List (Nat × Value)} {ls : Array Slot} {q : Addr} {ce : Cell} {rest : List Value} {D : va_G} {cI cZ cJ : ClassId} {ad : Nat → Nat} {A : Nat → Prop} (hlim : cpc < lim) (hexec : p.tables.exec = Jvm.exec) (hb : c.code = cc) (hown : s.vm.findClass own = some m.cls) (hts : ∀ w ∈ z_T, w.before args s = true) (hE : z_E D cI cZ cJ ad A s) (hl : lv_has ls nL lv) (hcell : H[q]? = some ce) (hv : ce.vm = .none) :
    ∀ (hh : List (Nat × Nat × Nat × Nat)) (hs : List y_HS) (pre : List String) (et pe : List ExceptionTableEntry), c.exceptionTable.toList = pe ++ et → et.map (fun h => (h.startPc, h.endPc, h.handlerPc, h.catchType)) = hh → (∀ z ∈ pe, z.catchType ≠ 0 ∧ ∃ nm ∈ pre, (Jvm.Cond.classLink own z.catchType nm).before args s = true) → y_hk own cc lim nL pre hh hs = true → ∀ r ∈ hs, s.vm.findClass r.1 = some ce.cls → (∀ ls' : Array Slot, lv_has ls' nL [] → W p l e R s m args below meth c H locs cells slots Q (F0 m (r.2.1 + r.2.2.2) ls' [])) → vx_W p l e R s m args below meth c H locs cells slots Q (F0 m cpc ls rest) q := by
  intro hh
  induction hh with
  | nil =>
    intro hs pre et pe _ _ _ hk r hr
    cases hs with
    | nil => cases hr
    | cons _ _ => cases hk
  | cons a hh ih =>
    intro hs pre et pe hsp hmap hpe hk r hr hcl kk
    cases hs with
    | nil => cases hr
    | cons q0 hs =>
      cases et with
      | nil => cases hmap
      | cons x et =>
        rw [List.map_cons, List.cons.injEq] at hmap
        obtain ⟨ha, hmap⟩ := hmap
        subst ha
        unfold y_hk at hk
        simp only [Bool.and_eq_true] at hk
        obtain ⟨⟨h1, h2⟩, h3⟩ := hk
        simp only [y_h1, Bool.and_eq_true, decide_eq_true_eq] at h1
        obtain ⟨⟨⟨⟨⟨⟨g0, g1⟩, g2⟩, g3⟩, g4⟩, g6⟩, g5⟩ := h1
        rcases List.mem_cons.mp hr with rfl | hr
        · refine vx_catch (own := own) (name := r.1) (E := r.1) (ce := ce) hown pe x et hsp (fun z hz => Or.inr ?_) (by simp [covers]; omega) g2 (hts _ g3) (va_Nw.use rfl (hE.2.2.2.2.2.2.2.2.1 _ g4)) hcell hv hcl ?_
          · obtain ⟨hz0, nm, hnm, hz1⟩ := hpe z hz
            exact ⟨hz0, nm, hz1, hE.2.2.2.2.2.2.2.1 _ (of_decide_eq_true (List.all_eq_true.mp h2 nm hnm))⟩
          · rw [g6]
            exact y_ast_W hexec hb g5 hl kk
        · refine ih hs (pre ++ [q0.1]) et (pe ++ [x]) (by rw [hsp]; simp) hmap (fun z hz => ?_) h3 r hr hcl kk
          rcases List.mem_append.mp hz with hz | hz
          · obtain ⟨hz0, nm, hnm, hz1⟩ := hpe z hz
            exact ⟨hz0, nm, List.mem_append_left _ hnm, hz1⟩
          · rw [List.mem_singleton] at hz
            subst hz
            exact ⟨g2, q0.1, List.mem_append_right _ List.mem_cons_self, hts _ g3⟩
end YHW
def y_kh (hs : List y_HS) (V : y_KT) : String → Nat → Nat → Prop := fun E g u => ∃ q ∈ hs, q.1 = E ∧ V (q.2.1 + q.2.2.2) [] [] g u
set_option maxHeartbeats 4000000 in
theorem y_CX_ofH {l : Launch} {y : MethodName} {b : ByteArray} {maxL : Nat} {ret : Option FieldType} {sx : y_SX} {fr lo mc : Nat} {hh : List (Nat × Nat × Nat × Nat)} (G : (String → Nat → Nat → Prop) → y_G) (hs : List y_HS) (lim : Nat) (hpl : plainName y.cls = true) (hco : ∀ kx, y_cok b maxL lim (G kx) = true) (hpo : ∀ kx, y_pok y.cls (G kx) = true) (hrt : ∀ kx, y_rt (G kx) = ret) (hhk : y_hk y.cls b lim maxL [] hh hs = true)
    (hlen : ∀ as g Po Px, sx as g Po Px → z_cs as ≤ maxL) (hcalls : ∀ kx, ∀ q ∈ y_cm (G kx), ∃ (mc' : Nat) (sx' : y_SX), q.2.2 = y_cs mc mc' sx' kx ∧ y_CO l fr lo y.cls q.1 q.2.1 mc' sx')
    (body : ∀ (as : List Value) (g : Nat) (Po : y_PO) (Px : y_PX), sx as g Po Px → ∀ V : y_KT, (∀ (cuts : List Nat) (n pc : Nat) (lv : z_LV) (st : List Value) (g u : Nat), y_wp (G (y_kh hs V)) mc Po cuts V n pc lv st g u → V pc lv st g u) → (∀ (ks : List Nat) (pc : Nat) (lv : z_LV) (st : List Value) (g u : Nat), V pc (z_keep ks lv) st g u → V pc lv st g u) → V 0 (lv_args 0 as) [] g 0) : y_CX l y b maxL ret (some hh) sx fr lo mc := by
  intro D cI cZ cJ ad0 ad1 b9 sz as g Po Px hAdj hsp hg
  show vx_Met l y (Jvm.Cond.codeWith y b maxL ret hh :: z_T) _ _ _ _ _ _ _
  refine vx_ofWH (cc := b) (maxL := maxL) (ret := ret) (hh := hh) hpl rfl ?_
  intro p e s m args below meth c s₁ B hml hv
  obtain ⟨rfl, hsz, hW, hE⟩ := hv
  subst hsz
  have hts0 := atoms_spec (ws := Jvm.Cond.codeWith y b maxL ret hh :: z_T) B.pre
  have hown : s.vm.findClass y.cls = some m.cls := findClass_of_methodNamed B.named
  have hr := B.returns
  have hlk := B.notSynchronized
  have htab : c.exceptionTable.toList.map (fun h => (h.startPc, h.endPc, h.handlerPc, h.catchType)) = hh := by
    obtain ⟨m9, meth9, c9, hn9, h1, h2, -, -, h7, -⟩ := Jvm.Cond.codeWith_spec (hts0 _ List.mem_cons_self)
    cases Option.some.inj (hn9.symm.trans B.named)
    cases Option.some.inj (h1.symm.trans B.method)
    cases Option.some.inj (h2.symm.trans (Stand.of_body B).code)
    exact h7
  have hts : ∀ w ∈ z_T, w.before (z_ts (y_ad ad0 ad1 b9) as).toArray s = true := fun w hw => hts0 w (List.mem_cons_of_mem _ hw)
  have hC : y_C p s m (z_ts (y_ad ad0 ad1 b9) as).toArray meth c b maxL y.cls D cI cZ cJ ad0 ad1 (y_AA ad0 ad1 s.heap.size) :=
    ⟨⟨B.exec, B.bytes, hml, hown, hts⟩, hAdj, fun a ha => ⟨Or.inl ⟨a, ha, Or.inl rfl⟩, Or.inl ⟨a, ha, Or.inr rfl⟩⟩, fun q hq => Or.inr hq, hE, hlk⟩
  have hq0 : ∀ (v : Option Value) (g : Nat) (H : Heap) (locs : List Loc), (∀ a, v ≠ some (.ref a)) → Po v g → g ≤ H.size → y_Wd D cI cZ cJ ad0 ad1 H → va_S (y_AA ad0 ad1 s.heap.size) s.heap H locs → ∀ t : State, t.heap = H → s.WarmedH t.vm → y_Q D cI cZ cJ ad0 ad1 s.heap.size Po (z_ts (y_ad ad0 ad1 b9) as).toArray s (.returned v) t :=
    fun v g H locs hn hp hg hW hS t ht _ => ⟨⟨v, g, rfl, hn, hp, by rw [ht]; exact hg, by rw [ht]; exact hW⟩, hS.F ht⟩
  let V : y_KT := y_V p l e (headSpec (Jvm.Cond.codeWith y b maxL ret hh :: z_T) (y_rm fr lo mc)).room s m (z_ts (y_ad ad0 ad1 b9) as).toArray below meth c 0 0 (vx_MQ below (y_Q D cI cZ cJ ad0 ad1 s.heap.size Po) (y_X D cI cZ cJ ad0 ad1 s.heap.size Px) (z_ts (y_ad ad0 ad1 b9) as).toArray s mc (6 * mc) (y_AA ad0 ad1 s.heap.size)) maxL (y_ad ad0 ad1 b9) (y_AA ad0 ad1 s.heap.size) (y_Wd D cI cZ cJ ad0 ad1)
  have hH : y_H p l e (headSpec (Jvm.Cond.codeWith y b maxL ret hh :: z_T) (y_rm fr lo mc)).room s m (z_ts (y_ad ad0 ad1 b9) as).toArray below meth c 0 0 (vx_MQ below (y_Q D cI cZ cJ ad0 ad1 s.heap.size Po) (y_X D cI cZ cJ ad0 ad1 s.heap.size Px) (z_ts (y_ad ad0 ad1 b9) as).toArray s mc (6 * mc) (y_AA ad0 ad1 s.heap.size)) maxL (y_ad ad0 ad1 b9) (y_AA ad0 ad1 s.heap.size) (y_Wd D cI cZ cJ ad0 ad1) b lim (G (y_kh hs V)) mc Po := by
    refine ⟨?_, ?_, ?_⟩
    · intro pc H locs ls v g u hd hv hu hp hW hg hS
      rcases hv with hv | ⟨hv, hn⟩
      · exact vx_ret (W.widen (k := mc) (n := 6 * mc) (by omega) (by omega) (W.iret B.exec B.bytes (by rw [hr, ← hrt (y_kh hs V), hv]) (hq0 _ g H locs (fun a h => by cases h) hp hg hW hS) hS.2.2 hd))
      · exact vx_ret (W.widen (k := mc) (n := 6 * mc) (by omega) (by omega) (W.zret B.exec B.bytes (ty := .boolean) (by rw [hr, ← hrt (y_kh hs V), hv]) hn (hq0 _ g H locs (fun a h => by cases h) hp hg hW hS) hS.2.2 hd))
    · intro pc H locs ls v g u hd hv hu hp hW hg hS
      exact vx_ret (W.widen (k := mc) (n := 6 * mc) (by omega) (by omega) (W.lret B.exec B.bytes (by rw [hr, ← hrt (y_kh hs V), hv]) (hq0 _ g H locs (fun a h => by cases h) hp hg hW hS) hS.2.2 hd))
    · intro pc i j n sp as' r lv g u k hlm hd hf hn hrr hsp' hK
      obtain ⟨mc', sx', hq, hco'⟩ := hcalls _ _ (z_fnd_mem _ _ _ hf)
      dsimp only at hq hco'
      subst hq
      obtain ⟨hu, hs9⟩ := hsp'
      refine hco' p e _ s m _ below meth c 0 0 _ b maxL D cI cZ cJ ad0 ad1 b9 _ pc j as' r lv g u _ _ hC (Nat.le_refl _) (Nat.le_refl _) (by show 0 + u + mc' ≤ mc; omega) (by show 0 + 6 * u + 6 * mc' ≤ 6 * mc; omega) hd hn hrr hs9 (fun v g' hnr hk => hK v g' _ hnr hk) ?_
      intro E g' hk H locs ls q ce hW hg hS hl hcell hcv hcls
      obtain ⟨r9, hr9, rfl, hV9⟩ := hk
      exact y_hk_W hlm B.exec B.bytes hown hts hE hl hcell hcv hh hs [] _ [] rfl htab (fun z hz => by cases hz) hhk r9 hr9 hcls (fun ls' hl' => hV9 H locs ls' hW hg hS hl')
  have hb := body as g Po Px hsp V (fun cuts n pc lv st g u h => y_sound (cuts := cuts) hC.1 hH (hco _) (hpo _) (fun _ _ _ _ _ h => h) n pc lv st g u h) (fun _ _ _ _ _ _ h => y_V_keep h)
  have hl := lv_entry (z_ts (y_ad ad0 ad1 b9) as) (n := maxL) (by rw [z_sllen]; exact hlen _ _ _ _ hsp)
  rw [lg_entry_eq]
  generalize (lg_sl (z_ts (y_ad ad0 ad1 b9) as) ++ List.replicate (maxL - (lg_sl (z_ts (y_ad ad0 ad1 b9) as)).length) Slot.unset).toArray = ls at hl ⊢
  rw [z_lvargs] at hl
  exact hb s.heap [] ls hW hg va_S.rf hl
end
section
/-! what holds at all times is kept -/
def z_Jv (a i : Nat) (x : Int32) : Prop := (a = 4112 → i = 6 → z_le x 6) ∧ (a = 4112 → i = 7 → z_le x 30) ∧ (a = 6184 → i = 4 → z_le x 10) ∧ (a = 8216 → i = 7 → z_le x 60) ∧ (a = 10240 → i = 8 → z_le x 40) ∧ (a = 12296 → i = 8 → z_le x 12) ∧ (a = 14368 → i = 11 → z_le x 12) ∧ (a = 2096 → i = 8 → z_le x 5000) ∧ (a = 32849 → vp_in x 6) ∧ (a = 34897 → z_le x 12) ∧ (a = 49201 → z_le x 8) ∧ (a = 71777 → vp_in x 6)
theorem z_Jv_no {a i : Nat} {x : Int32} (h : z_mem [2096, 4112, 6184, 8216, 10240, 12296, 14368, 32849, 34897, 49201, 71777] a = false) : z_Jv a i x := by
  refine ⟨fun e => (by subst e; cases h), fun e => (by subst e; cases h), fun e => (by subst e; cases h), fun e => (by subst e; cases h), fun e => (by subst e; cases h), fun e => (by subst e; cases h), fun e => (by subst e; cases h), fun e => (by subst e; cases h), fun e => (by subst e; cases h), fun e => (by subst e; cases h), fun e => (by subst e; cases h), fun e => (by subst e; cases h)⟩
theorem z_Jv_peoples {x : Int32} (h : z_le x 6) : z_Jv 4112 6 x := ⟨fun _ _ => h, fun _ e => absurd e (by decide), fun e => absurd e (by decide), fun e => absurd e (by decide), fun e => absurd e (by decide), fun e => absurd e (by decide), fun e => absurd e (by decide), fun e => absurd e (by decide), fun e => absurd e (by decide), fun e => absurd e (by decide), fun e => absurd e (by decide), fun e => absurd e (by decide)⟩
theorem z_Jv_persons {x : Int32} (h : z_le x 30) : z_Jv 4112 7 x := ⟨fun _ e => absurd e (by decide), fun _ _ => h, fun e => absurd e (by decide), fun e => absurd e (by decide), fun e => absurd e (by decide), fun e => absurd e (by decide), fun e => absurd e (by decide), fun e => absurd e (by decide), fun e => absurd e (by decide), fun e => absurd e (by decide), fun e => absurd e (by decide), fun e => absurd e (by decide)⟩
theorem z_Jv_stories {x : Int32} (h : z_le x 10) : z_Jv 6184 4 x := ⟨fun e => absurd e (by decide), fun e => absurd e (by decide), fun _ _ => h, fun e => absurd e (by decide), fun e => absurd e (by decide), fun e => absurd e (by decide), fun e => absurd e (by decide), fun e => absurd e (by decide), fun e => absurd e (by decide), fun e => absurd e (by decide), fun e => absurd e (by decide), fun e => absurd e (by decide)⟩
theorem z_Jv_marks {x : Int32} (h : z_le x 60) : z_Jv 8216 7 x := ⟨fun e => absurd e (by decide), fun e => absurd e (by decide), fun e => absurd e (by decide), fun _ _ => h, fun e => absurd e (by decide), fun e => absurd e (by decide), fun e => absurd e (by decide), fun e => absurd e (by decide), fun e => absurd e (by decide), fun e => absurd e (by decide), fun e => absurd e (by decide), fun e => absurd e (by decide)⟩
theorem z_Jv_acts {x : Int32} (h : z_le x 40) : z_Jv 10240 8 x := ⟨fun e => absurd e (by decide), fun e => absurd e (by decide), fun e => absurd e (by decide), fun e => absurd e (by decide), fun _ _ => h, fun e => absurd e (by decide), fun e => absurd e (by decide), fun e => absurd e (by decide), fun e => absurd e (by decide), fun e => absurd e (by decide), fun e => absurd e (by decide), fun e => absurd e (by decide)⟩
theorem z_Jv_claims {x : Int32} (h : z_le x 12) : z_Jv 12296 8 x := ⟨fun e => absurd e (by decide), fun e => absurd e (by decide), fun e => absurd e (by decide), fun e => absurd e (by decide), fun e => absurd e (by decide), fun _ _ => h, fun e => absurd e (by decide), fun e => absurd e (by decide), fun e => absurd e (by decide), fun e => absurd e (by decide), fun e => absurd e (by decide), fun e => absurd e (by decide)⟩
theorem z_Jv_notices {x : Int32} (h : z_le x 12) : z_Jv 14368 11 x := ⟨fun e => absurd e (by decide), fun e => absurd e (by decide), fun e => absurd e (by decide), fun e => absurd e (by decide), fun e => absurd e (by decide), fun e => absurd e (by decide), fun _ _ => h, fun e => absurd e (by decide), fun e => absurd e (by decide), fun e => absurd e (by decide), fun e => absurd e (by decide), fun e => absurd e (by decide)⟩
theorem z_Jv_now {x : Int32} (h : z_le x 5000) : z_Jv 2096 8 x := ⟨fun e => absurd e (by decide), fun e => absurd e (by decide), fun e => absurd e (by decide), fun e => absurd e (by decide), fun e => absurd e (by decide), fun e => absurd e (by decide), fun e => absurd e (by decide), fun _ _ => h, fun e => absurd e (by decide), fun e => absurd e (by decide), fun e => absurd e (by decide), fun e => absurd e (by decide)⟩
theorem z_Jv_stp {i : Nat} {x : Int32} (h : vp_in x 6) : z_Jv 32849 i x := ⟨fun e => absurd e (by decide), fun e => absurd e (by decide), fun e => absurd e (by decide), fun e => absurd e (by decide), fun e => absurd e (by decide), fun e => absurd e (by decide), fun e => absurd e (by decide), fun e => absurd e (by decide), fun _ => h, fun e => absurd e (by decide), fun e => absurd e (by decide), fun e => absurd e (by decide)⟩
theorem z_Jv_parts {i : Nat} {x : Int32} (h : z_le x 12) : z_Jv 34897 i x := ⟨fun e => absurd e (by decide), fun e => absurd e (by decide), fun e => absurd e (by decide), fun e => absurd e (by decide), fun e => absurd e (by decide), fun e => absurd e (by decide), fun e => absurd e (by decide), fun e => absurd e (by decide), fun e => absurd e (by decide), fun _ => h, fun e => absurd e (by decide), fun e => absurd e (by decide)⟩
theorem z_Jv_expl {i : Nat} {x : Int32} (h : z_le x 8) : z_Jv 49201 i x := ⟨fun e => absurd e (by decide), fun e => absurd e (by decide), fun e => absurd e (by decide), fun e => absurd e (by decide), fun e => absurd e (by decide), fun e => absurd e (by decide), fun e => absurd e (by decide), fun e => absurd e (by decide), fun e => absurd e (by decide), fun e => absurd e (by decide), fun _ => h, fun e => absurd e (by decide)⟩
theorem z_Jv_clp {i : Nat} {x : Int32} (h : vp_in x 6) : z_Jv 71777 i x := ⟨fun e => absurd e (by decide), fun e => absurd e (by decide), fun e => absurd e (by decide), fun e => absurd e (by decide), fun e => absurd e (by decide), fun e => absurd e (by decide), fun e => absurd e (by decide), fun e => absurd e (by decide), fun e => absurd e (by decide), fun e => absurd e (by decide), fun e => absurd e (by decide), fun _ => h⟩
theorem z_J_set {M : z_MI} {a i : Nat} {x : Int32} (h : z_J M) (c : z_Jv a i x) : z_J (va_up M a (upd (M a) i x)) := by
  obtain ⟨h0, h1, h2, h3, h4, h5, h6, h7, h8, h9, h10, h11⟩ := h
  obtain ⟨c0, c1, c2, c3, c4, c5, c6, c7, c8, c9, c10, c11⟩ := c
  refine ⟨?_, ?_, ?_, ?_, ?_, ?_, ?_, ?_, ?_, ?_, ?_, ?_⟩
  · by_cases e : 4112 = a
    · rw [← e, va_up_self]
      unfold upd
      split
      · exact c0 e.symm (by first | assumption | (exact Eq.symm ‹_›))
      · exact h0
    · rw [va_up_ne _ _ e]
      exact h0
  · by_cases e : 4112 = a
    · rw [← e, va_up_self]
      unfold upd
      split
      · exact c1 e.symm (by first | assumption | (exact Eq.symm ‹_›))
      · exact h1
    · rw [va_up_ne _ _ e]
      exact h1
  · by_cases e : 6184 = a
    · rw [← e, va_up_self]
      unfold upd
      split
      · exact c2 e.symm (by first | assumption | (exact Eq.symm ‹_›))
      · exact h2
    · rw [va_up_ne _ _ e]
      exact h2
  · by_cases e : 8216 = a
    · rw [← e, va_up_self]
      unfold upd
      split
      · exact c3 e.symm (by first | assumption | (exact Eq.symm ‹_›))
      · exact h3
    · rw [va_up_ne _ _ e]
      exact h3
  · by_cases e : 10240 = a
    · rw [← e, va_up_self]
      unfold upd
      split
      · exact c4 e.symm (by first | assumption | (exact Eq.symm ‹_›))
      · exact h4
    · rw [va_up_ne _ _ e]
      exact h4
  · by_cases e : 12296 = a
    · rw [← e, va_up_self]
      unfold upd
      split
      · exact c5 e.symm (by first | assumption | (exact Eq.symm ‹_›))
      · exact h5
    · rw [va_up_ne _ _ e]
      exact h5
  · by_cases e : 14368 = a
    · rw [← e, va_up_self]
      unfold upd
      split
      · exact c6 e.symm (by first | assumption | (exact Eq.symm ‹_›))
      · exact h6
    · rw [va_up_ne _ _ e]
      exact h6
  · by_cases e : 2096 = a
    · rw [← e, va_up_self]
      unfold upd
      split
      · exact c7 e.symm (by first | assumption | (exact Eq.symm ‹_›))
      · exact h7
    · rw [va_up_ne _ _ e]
      exact h7
  · intro j
    by_cases e : 32849 = a
    · rw [← e, va_up_self]
      unfold upd
      split
      · exact c8 e.symm
      · exact h8 j
    · rw [va_up_ne _ _ e]
      exact h8 j
  · intro j
    by_cases e : 34897 = a
    · rw [← e, va_up_self]
      unfold upd
      split
      · exact c9 e.symm
      · exact h9 j
    · rw [va_up_ne _ _ e]
      exact h9 j
  · intro j
    by_cases e : 49201 = a
    · rw [← e, va_up_self]
      unfold upd
      split
      · exact c10 e.symm
      · exact h10 j
    · rw [va_up_ne _ _ e]
      exact h10 j
  · intro j
    by_cases e : 71777 = a
    · rw [← e, va_up_self]
      unfold upd
      split
      · exact c11 e.symm
      · exact h11 j
    · rw [va_up_ne _ _ e]
      exact h11 j
theorem z_le_inc {x : Int32} {N M : Nat} (h : z_le x N) (hlt : x < nI M) (hM : M ≤ N) (hN : N < 2 ^ 31) : z_le (x + nI 1) N := by
  obtain ⟨k, hk, rfl⟩ := h
  have := (nI_ltI (a := k) (b := M) (by omega) (by omega)).mp hlt
  exact ⟨k + 1, by omega, nI_add k 1⟩
theorem z_le_of {x : Int32} {N : Nat} (h0 : 0 ≤ x) (h1 : x ≤ nI N) (hN : N + 1 < 2 ^ 31) : z_le x N := by
  rw [Int32.le_iff_toInt_le] at h0 h1
  rw [nI_toInt (by omega)] at h1
  have e0 : (0 : Int32).toInt = 0 := by decide
  obtain ⟨j, hj, rfl⟩ := vp_in_of (x := x) (n := N + 1) (vp_in_iff.mpr ⟨by omega, by omega⟩) (by omega)
  exact ⟨j, by omega, rfl⟩
theorem j_addPeople {S : z_MI} {P : z_ML} {x1 : Int32} (h : z_J S) (hc : S 4112 6 < nI 6) : z_J (u_X2_addPeople S P x1) := by
  unfold u_X2_addPeople
  exact z_J_set (z_J_set h (z_Jv_no rfl)) (z_Jv_peoples (z_le_inc (z_J_peoples h) hc (by decide) (by decide)))
theorem j_addPerson {S : z_MI} {P : z_ML} {x1 x2 : Int32} (h : z_J S) (hc : S 4112 7 < nI 30) : z_J (u_X2_addPerson S P x1 x2) := by
  unfold u_X2_addPerson
  exact z_J_set (z_J_set (z_J_set (z_J_set h (z_Jv_no rfl)) (z_Jv_no rfl)) (z_Jv_no rfl)) (z_Jv_persons (z_le_inc (z_J_persons h) hc (by decide) (by decide)))
theorem j_X5add {S : z_MI} {P : z_ML} {x1 : Int32} (h : z_J S) (hc : S 6184 4 < nI 10) (hx : vp_in x1 6) : z_J (u_X5_add S P x1) := by
  unfold u_X5_add
  exact z_J_set (z_J_set h (z_Jv_stp hx)) (z_Jv_stories (z_le_inc (z_J_stories h) hc (by decide) (by decide)))
theorem j_addPart {S : z_MI} {P : z_ML} {x1 x2 x3 : Int32} (h : z_J S) (hc : S 34897 x1.toNatClampNeg < nI 12) : z_J (u_X5_addPart S P x1 x2 x3) := by
  unfold u_X5_addPart
  exact z_J_set (z_J_set (z_J_set h (z_Jv_no rfl)) (z_Jv_no rfl)) (z_Jv_parts (z_le_inc (z_J_parts h _) hc (by decide) (by decide)))
theorem j_addExplained {S : z_MI} {P : z_ML} {x1 x2 x3 : Int32} (h : z_J S) (hc : S 49201 x1.toNatClampNeg < nI 8) : z_J (u_X3_addExplained S P x1 x2 x3) := by
  unfold u_X3_addExplained
  exact z_J_set (z_J_set (z_J_set h (z_Jv_no rfl)) (z_Jv_no rfl)) (z_Jv_expl (z_le_inc (z_J_expl h _) hc (by decide) (by decide)))
theorem j_X0add {S : z_MI} {P : z_ML} {x1 x2 x3 x4 x5 : Int32} (h : z_J S) (hc : S 10240 8 < nI 40) : z_J (u_X0_add S P x1 x2 x3 x4 x5) := by
  unfold u_X0_add
  exact z_J_set (z_J_set (z_J_set (z_J_set (z_J_set (z_J_set (z_J_set h (z_Jv_no rfl)) (z_Jv_no rfl)) (z_Jv_no rfl)) (z_Jv_no rfl)) (z_Jv_no rfl)) (z_Jv_no rfl)) (z_Jv_acts (z_le_inc (z_J_acts h) hc (by decide) (by decide)))
theorem j_X1add {S : z_MI} {P : z_ML} {x1 x2 x3 : Int32} (h : z_J S) (hc : S 12296 8 < nI 12) (hx : vp_in x1 6) : z_J (u_X1_add S P x1 x2 x3) := by
  unfold u_X1_add
  exact z_J_set (z_J_set (z_J_set (z_J_set (z_J_set (z_J_set h (z_Jv_clp hx)) (z_Jv_no rfl)) (z_Jv_no rfl)) (z_Jv_no rfl)) (z_Jv_no rfl)) (z_Jv_claims (z_le_inc (z_J_claims h) hc (by decide) (by decide)))
theorem j_X4add {S : z_MI} {P : z_ML} {x1 x2 : Int32} (h : z_J S) (hc : S 14368 11 < nI 12) : z_J (u_X4_add S P x1 x2) := by
  unfold u_X4_add
  exact z_J_set (z_J_set (z_J_set (z_J_set (z_J_set h (z_Jv_no rfl)) (z_Jv_no rfl)) (z_Jv_no rfl)) (z_Jv_no rfl)) (z_Jv_notices (z_le_inc (z_J_notices h) hc (by decide) (by decide)))
theorem j_tell {S : z_MI} {P : z_ML} {x1 x2 x3 x4 x5 : Int32} (h : z_J S) : z_J (u_X4_tell S P x1 x2 x3 x4 x5) := by
  unfold u_X4_tell
  exact z_J_set (z_J_set (z_J_set (z_J_set h (z_Jv_no rfl)) (z_Jv_no rfl)) (z_Jv_no rfl)) (z_Jv_no rfl)
theorem j_grant {S : z_MI} {P : z_ML} {x1 x2 : Int32} (h : z_J S) : z_J (u_X1_grant S P x1 x2) := by
  unfold u_X1_grant
  split
  · exact z_J_set (z_J_set h (z_Jv_no rfl)) (z_Jv_no rfl)
  · exact z_J_set (z_J_set h (z_Jv_no rfl)) (z_Jv_no rfl)
theorem j_sh {T : z_MI} {x5 : Int32} (h : z_J T) : z_J (m_sh T x5) := by
  unfold m_sh
  exact z_J_set (z_J_set (z_J_set (z_J_set h (z_Jv_no rfl)) (z_Jv_no rfl)) (z_Jv_no rfl)) (z_Jv_no rfl)
theorem j_sh8 {T : z_MI} {x5 : Int32} : m_sh T x5 8216 = T 8216 := by
  unfold m_sh
  rw [va_up_ne _ _ (by decide), va_up_ne _ _ (by decide), va_up_ne _ _ (by decide), va_up_ne _ _ (by decide)]
theorem j_fin {T : z_MI} {x1 x2 x3 x4 x5 : Int32} (h : z_J T) (hc : T 8216 7 < nI 60) : z_J (m_fin x1 x2 x3 x4 T x5) := by
  unfold m_fin
  refine z_J_set (z_J_set (z_J_set (z_J_set (z_J_set h (z_Jv_no rfl)) (z_Jv_no rfl)) (z_Jv_no rfl)) (z_Jv_no rfl)) (z_Jv_marks ?_)
  exact z_le_inc (z_J_marks h) hc (by decide) (by decide)
theorem j_X3add {x1 x2 x3 x4 : Int32} : ∀ (a : Nat) (x5 : Int32) (T : z_MI), z_J T → T 8216 7 < nI 60 → z_J (l_X3_add x1 x2 x3 x4 a x5 T)
  | 0, x5, T, h, hc => j_fin h hc
  | a + 1, x5, T, h, hc => by
    unfold l_X3_add
    split
    · exact j_fin h hc
    · split
      · exact j_fin h hc
      · exact j_X3add a _ _ (j_sh h) (by rw [j_sh8]; exact hc)
theorem jp_people {S : z_MI} {P : z_ML} {x1 : Int32} (h : z_J S) : z_J (u_X6_people S P x1) := by
  unfold u_X6_people
  repeat' split
  all_goals first | exact h | exact j_addPeople h (by assumption) | exact z_J_set h (z_Jv_no rfl) | exact z_J_set (z_J_set h (z_Jv_no rfl)) (z_Jv_no rfl)
theorem jp_person {S : z_MI} {P : z_ML} {x1 x2 : Int32} (h : z_J S) : z_J (u_X6_person S P x1 x2) := by
  unfold u_X6_person
  repeat' split
  all_goals first | exact h | exact j_addPerson h (by assumption) | exact z_J_set h (z_Jv_no rfl) | exact z_J_set (z_J_set h (z_Jv_no rfl)) (z_Jv_no rfl)
theorem jp_root {S : z_MI} {P : z_ML} {x1 x2 x3 : Int32} (h : z_J S) : z_J (u_X6_root S P x1 x2 x3) := by
  unfold u_X6_root
  repeat' split
  all_goals first | exact h | exact z_J_set h (z_Jv_no rfl) | exact z_J_set (z_J_set h (z_Jv_no rfl)) (z_Jv_no rfl)
theorem jp_adopt {S : z_MI} {P : z_ML} {x1 x2 : Int32} (h : z_J S) : z_J (u_X6_adopt S P x1 x2) := by
  unfold u_X6_adopt
  repeat' split
  all_goals first | exact h | exact z_J_set h (z_Jv_no rfl) | exact z_J_set (z_J_set h (z_Jv_no rfl)) (z_Jv_no rfl)
theorem jp_raise {S : z_MI} {P : z_ML} {x1 : Int32} (h : z_J S) : z_J (u_X6_raise S P x1) := by
  unfold u_X6_raise
  repeat' split
  all_goals first | exact h | exact z_J_set h (z_Jv_no rfl) | exact z_J_set (z_J_set h (z_Jv_no rfl)) (z_Jv_no rfl)
theorem jp_story {S : z_MI} {P : z_ML} {x1 : Int32} (h : z_J S) : z_J (u_X6_story S P x1) := by
  unfold u_X6_story
  repeat' split
  all_goals first | exact h | exact j_X5add h (by assumption) (t_isPeople h (by assumption)) | exact z_J_set h (z_Jv_no rfl) | exact z_J_set (z_J_set h (z_Jv_no rfl)) (z_Jv_no rfl)
theorem jp_part {S : z_MI} {P : z_ML} {x1 x2 x3 : Int32} (h : z_J S) : z_J (u_X6_part S P x1 x2 x3) := by
  unfold u_X6_part
  repeat' split
  all_goals first | exact h | exact j_addPart h (by assumption) | exact z_J_set h (z_Jv_no rfl) | exact z_J_set (z_J_set h (z_Jv_no rfl)) (z_Jv_no rfl)
theorem jp_explain {S : z_MI} {P : z_ML} {x1 x2 x3 : Int32} (h : z_J S) : z_J (u_X6_explain S P x1 x2 x3) := by
  unfold u_X6_explain
  repeat' split
  all_goals first | exact h | exact j_addExplained h (by assumption) | exact z_J_set h (z_Jv_no rfl) | exact z_J_set (z_J_set h (z_Jv_no rfl)) (z_Jv_no rfl)
theorem jp_act {S : z_MI} {P : z_ML} {x1 x2 x3 x4 x5 : Int32} (h : z_J S) : z_J (u_X6_act S P x1 x2 x3 x4 x5) := by
  unfold u_X6_act
  repeat' split
  all_goals first | exact h | exact j_X0add h (by assumption) | exact z_J_set h (z_Jv_no rfl) | exact z_J_set (z_J_set h (z_Jv_no rfl)) (z_Jv_no rfl)
theorem jp_voids {S : z_MI} {P : z_ML} {x1 x2 : Int32} (h : z_J S) : z_J (u_X6_voids S P x1 x2) := by
  unfold u_X6_voids
  repeat' split
  all_goals first | exact h | exact z_J_set h (z_Jv_no rfl) | exact z_J_set (z_J_set h (z_Jv_no rfl)) (z_Jv_no rfl)
theorem jp_giveUp {S : z_MI} {P : z_ML} {x1 : Int32} (h : z_J S) : z_J (u_X6_giveUp S P x1) := by
  unfold u_X6_giveUp
  repeat' split
  all_goals first | exact h | exact z_J_set h (z_Jv_no rfl) | exact z_J_set (z_J_set h (z_Jv_no rfl)) (z_Jv_no rfl)
theorem jp_claim {S : z_MI} {P : z_ML} {x1 x2 x3 : Int32} (h : z_J S) : z_J (u_X6_claim S P x1 x2 x3) := by
  unfold u_X6_claim
  repeat' split
  all_goals first | exact h | exact j_X1add h (by assumption) (t_isPeople h (by assumption)) | exact z_J_set h (z_Jv_no rfl) | exact z_J_set (z_J_set h (z_Jv_no rfl)) (z_Jv_no rfl)
theorem jp_vote {S : z_MI} {P : z_ML} {x1 x2 x3 : Int32} (h : z_J S) : z_J (u_X6_vote S P x1 x2 x3) := by
  unfold u_X6_vote
  repeat' split
  all_goals first | exact h | exact z_J_set h (z_Jv_no rfl) | exact z_J_set (z_J_set h (z_Jv_no rfl)) (z_Jv_no rfl)
theorem jp_register {S : z_MI} {P : z_ML} {x1 : Int32} (h : z_J S) : z_J (u_X6_register S P x1) := by
  unfold u_X6_register
  repeat' split
  all_goals first | exact h | exact z_J_set h (z_Jv_no rfl) | exact z_J_set (z_J_set h (z_Jv_no rfl)) (z_Jv_no rfl)
theorem jp_determine {S : z_MI} {P : z_ML} {x1 : Int32} (h : z_J S) : z_J (u_X6_determine S P x1) := by
  unfold u_X6_determine
  repeat' split
  all_goals first | exact h | exact j_grant h | exact z_J_set h (z_Jv_no rfl) | exact z_J_set (z_J_set h (z_Jv_no rfl)) (z_Jv_no rfl)
theorem jp_revise {S : z_MI} {P : z_ML} {x1 : Int32} (h : z_J S) : z_J (u_X6_revise S P x1) := by
  unfold u_X6_revise
  repeat' split
  all_goals first | exact h | exact j_grant h | exact z_J_set h (z_Jv_no rfl) | exact z_J_set (z_J_set h (z_Jv_no rfl)) (z_Jv_no rfl)
theorem jp_notice {S : z_MI} {P : z_ML} {x1 x2 x3 x4 x5 : Int32} (h : z_J S) : z_J (u_X6_notice S P x1 x2 x3 x4 x5) := by
  unfold u_X6_notice
  repeat' split
  all_goals first | exact h | exact j_tell (j_X4add h (by assumption))
theorem jp_agree {S : z_MI} {P : z_ML} {x1 x2 : Int32} (h : z_J S) : z_J (u_X6_agree S P x1 x2) := by
  unfold u_X6_agree
  repeat' split
  all_goals first | exact h | exact z_J_set h (z_Jv_no rfl) | exact z_J_set (z_J_set h (z_Jv_no rfl)) (z_Jv_no rfl)
theorem jp_object {S : z_MI} {P : z_ML} {x1 x2 : Int32} (h : z_J S) : z_J (u_X6_object S P x1 x2) := by
  unfold u_X6_object
  repeat' split
  all_goals first | exact h | exact z_J_set h (z_Jv_no rfl) | exact z_J_set (z_J_set h (z_Jv_no rfl)) (z_Jv_no rfl)
theorem jp_decide {S : z_MI} {P : z_ML} {x1 x2 : Int32} (h : z_J S) : z_J (u_X6_decide S P x1 x2) := by
  unfold u_X6_decide
  repeat' split
  all_goals first | exact h | exact z_J_set h (z_Jv_no rfl) | exact z_J_set (z_J_set h (z_Jv_no rfl)) (z_Jv_no rfl)
theorem jp_proceed {S : z_MI} {P : z_ML} {x1 : Int32} (h : z_J S) : z_J (u_X6_proceed S P x1) := by
  unfold u_X6_proceed
  repeat' split
  all_goals first | exact h | exact z_J_set (z_J_set (j_X0add h (by assumption)) (z_Jv_no rfl)) (z_Jv_no rfl)
theorem jp_value {S : z_MI} {P : z_ML} {x1 x2 : Int32} (h : z_J S) : z_J (u_X6_value S P x1 x2) := by
  unfold u_X6_value
  repeat' split
  all_goals first | exact h | exact z_J_set h (z_Jv_no rfl) | exact z_J_set (z_J_set h (z_Jv_no rfl)) (z_Jv_no rfl)
theorem j_now {S : z_MI} {x : Int32} (h : z_J S) (h1 : ¬ x < nI 1) (h2 : x ≤ nI 600) (h3 : S 2096 8 + x ≤ nI 5000) : z_le (S 2096 8 + x) 5000 := by
  obtain ⟨k, hk, e⟩ := z_J_now h
  obtain ⟨j, hj, rfl⟩ := z_le_of (x := x) (N := 600) (by
    rw [Int32.lt_iff_toInt_lt] at h1
    rw [Int32.le_iff_toInt_le]
    have e1 : (nI 1).toInt = 1 := by decide
    have e0 : (0 : Int32).toInt = 0 := by decide
    omega) h2 (by decide)
  rw [e, nI_add] at h3 ⊢
  exact ⟨k + j, (nI_leI (by omega) (by omega)).mp h3, rfl⟩
theorem jp_pass {S : z_MI} {P : z_ML} {x1 : Int32} (h : z_J S) : z_J (u_X6_pass S P x1) := by
  unfold u_X6_pass
  repeat' split
  all_goals first | exact h | exact z_J_set h (z_Jv_now (j_now h (by assumption) (by assumption) (by assumption)))
theorem jp_pay {S : z_MI} {P : z_ML} {x1 : Int32} (h : z_J S) : z_J (u_X6_pay S P x1) := by
  unfold u_X6_pay
  repeat' split
  all_goals first | exact h | exact z_J_set h (z_Jv_no rfl) | exact z_J_set (z_J_set h (z_Jv_no rfl)) (z_Jv_no rfl)
theorem jp_mark {S : z_MI} {P : z_ML} {x1 x2 x3 x4 : Int32} (h : z_J S) : z_J (u_X6_mark S P x1 x2 x3 x4) := by
  unfold u_X6_mark
  repeat' split
  all_goals first | exact h | exact j_X3add _ _ _ h (by assumption)
/-! the methods at the law's level -/
theorem y_isint {v : Value} (h : y_int v = true) : ∃ x : Int32, v = .int x := by
  cases v <;> first | exact ⟨_, rfl⟩ | cases h
def y_ri : List Value → Option Value → Prop := fun _ v => ∃ x : Int32, v = some (.int x)
def y_rl : List Value → Option Value → Prop := fun _ v => ∃ x : Int64, v = some (.long x)
def y_rv : List Value → Option Value → Prop := fun _ v => v = none
/-- an answer, only where the first number is below N -/
def y_rn (N : Nat) : List Value → Option Value → Prop := fun as v => (∃ x : Int32, v = some (.int x)) ∧ match as with
  | .int a :: _ => ¬ nI N ≤ a
  | _ => False
theorem y_nle {x : Int32} {N : Nat} (h : vp_in x N) (hN : N < 2 ^ 31) : ¬ nI N ≤ x := by
  obtain ⟨j, hj, rfl⟩ := vp_in_of h hN
  intro q
  have := (nI_leI hN (by omega)).mp q
  omega
theorem y_ints1 {as : List Value} (h : as.all y_int = true) (hn : as.length = 1) : ∃ x1 : Int32, as = [.int x1] := by
  match as, h, hn with
  | [v1], h, _ =>
    simp only [List.all_cons, List.all_nil, Bool.and_eq_true, Bool.and_true] at h
    obtain ⟨x1, rfl⟩ := y_isint h
    exact ⟨x1, rfl⟩
theorem y_ints2 {as : List Value} (h : as.all y_int = true) (hn : as.length = 2) : ∃ x1 x2 : Int32, as = [.int x1, .int x2] := by
  match as, h, hn with
  | [v1, v2], h, _ =>
    simp only [List.all_cons, List.all_nil, Bool.and_eq_true, Bool.and_true] at h
    obtain ⟨x1, rfl⟩ := y_isint h.1
    obtain ⟨x2, rfl⟩ := y_isint h.2
    exact ⟨x1, x2, rfl⟩
theorem y_ints3 {as : List Value} (h : as.all y_int = true) (hn : as.length = 3) : ∃ x1 x2 x3 : Int32, as = [.int x1, .int x2, .int x3] := by
  match as, h, hn with
  | [v1, v2, v3], h, _ =>
    simp only [List.all_cons, List.all_nil, Bool.and_eq_true, Bool.and_true] at h
    obtain ⟨x1, rfl⟩ := y_isint h.1
    obtain ⟨x2, rfl⟩ := y_isint h.2.1
    obtain ⟨x3, rfl⟩ := y_isint h.2.2
    exact ⟨x1, x2, x3, rfl⟩
theorem y_ints4 {as : List Value} (h : as.all y_int = true) (hn : as.length = 4) : ∃ x1 x2 x3 x4 : Int32, as = [.int x1, .int x2, .int x3, .int x4] := by
  match as, h, hn with
  | [v1, v2, v3, v4], h, _ =>
    simp only [List.all_cons, List.all_nil, Bool.and_eq_true, Bool.and_true] at h
    obtain ⟨x1, rfl⟩ := y_isint h.1
    obtain ⟨x2, rfl⟩ := y_isint h.2.1
    obtain ⟨x3, rfl⟩ := y_isint h.2.2.1
    obtain ⟨x4, rfl⟩ := y_isint h.2.2.2
    exact ⟨x1, x2, x3, x4, rfl⟩
theorem y_ints5 {as : List Value} (h : as.all y_int = true) (hn : as.length = 5) : ∃ x1 x2 x3 x4 x5 : Int32, as = [.int x1, .int x2, .int x3, .int x4, .int x5] := by
  match as, h, hn with
  | [v1, v2, v3, v4, v5], h, _ =>
    simp only [List.all_cons, List.all_nil, Bool.and_eq_true, Bool.and_true] at h
    obtain ⟨x1, rfl⟩ := y_isint h.1
    obtain ⟨x2, rfl⟩ := y_isint h.2.1
    obtain ⟨x3, rfl⟩ := y_isint h.2.2.1
    obtain ⟨x4, rfl⟩ := y_isint h.2.2.2.1
    obtain ⟨x5, rfl⟩ := y_isint h.2.2.2.2
    exact ⟨x1, x2, x3, x4, x5, rfl⟩
theorem we_people (S : z_MI) (P : z_ML) (x1 : Int32) : e_X6_people S P x1 = 0 ∨ e_X6_people S P x1 = 2 ∨ e_X6_people S P x1 = 3 := by
  unfold e_X6_people
  repeat' split
  all_goals first | exact Or.inl rfl | exact Or.inr (Or.inl rfl) | exact Or.inr (Or.inr (rfl))
theorem wk_people : y_WK sp_X6_people 1 y_ri ["java/lang/IllegalArgumentException", "java/lang/IllegalStateException"] := by
  intro S P as hJ has hn
  obtain ⟨x1, rfl⟩ := y_ints1 has hn
  refine ⟨hJ, ?_⟩
  rcases we_people S P x1 with he | he | he
  · rw [he]
    exact ⟨(jp_people hJ), _, rfl⟩
  · rw [he]
    exact ⟨hJ, List.mem_cons_self⟩
  · rw [he]
    exact ⟨hJ, List.mem_cons_of_mem _ (List.mem_cons_self)⟩
theorem we_person (S : z_MI) (P : z_ML) (x1 x2 : Int32) : e_X6_person S P x1 x2 = 0 ∨ e_X6_person S P x1 x2 = 1 ∨ e_X6_person S P x1 x2 = 2 ∨ e_X6_person S P x1 x2 = 3 := by
  unfold e_X6_person
  repeat' split
  all_goals first | exact Or.inl rfl | exact Or.inr (Or.inl rfl) | exact Or.inr (Or.inr (Or.inl rfl)) | exact Or.inr (Or.inr (Or.inr (rfl)))
theorem wk_person : y_WK sp_X6_person 2 y_ri ["java/lang/IndexOutOfBoundsException", "java/lang/IllegalArgumentException", "java/lang/IllegalStateException"] := by
  intro S P as hJ has hn
  obtain ⟨x1, x2, rfl⟩ := y_ints2 has hn
  refine ⟨hJ, ?_⟩
  rcases we_person S P x1 x2 with he | he | he | he
  · rw [he]
    exact ⟨(jp_person hJ), _, rfl⟩
  · rw [he]
    exact ⟨hJ, List.mem_cons_self⟩
  · rw [he]
    exact ⟨hJ, List.mem_cons_of_mem _ (List.mem_cons_self)⟩
  · rw [he]
    exact ⟨hJ, List.mem_cons_of_mem _ (List.mem_cons_of_mem _ (List.mem_cons_self))⟩
theorem we_root (S : z_MI) (P : z_ML) (x1 x2 x3 : Int32) : e_X6_root S P x1 x2 x3 = 0 ∨ e_X6_root S P x1 x2 x3 = 1 := by
  unfold e_X6_root
  repeat' split
  all_goals first | exact Or.inl rfl | exact Or.inr (rfl)
theorem wk_root : y_WK sp_X6_root 3 y_ri ["java/lang/IndexOutOfBoundsException"] := by
  intro S P as hJ has hn
  obtain ⟨x1, x2, x3, rfl⟩ := y_ints3 has hn
  refine ⟨hJ, ?_⟩
  rcases we_root S P x1 x2 x3 with he | he
  · rw [he]
    exact ⟨(jp_root hJ), _, rfl⟩
  · rw [he]
    exact ⟨hJ, List.mem_cons_self⟩
theorem we_adopt (S : z_MI) (P : z_ML) (x1 x2 : Int32) : e_X6_adopt S P x1 x2 = 0 ∨ e_X6_adopt S P x1 x2 = 1 ∨ e_X6_adopt S P x1 x2 = 2 := by
  unfold e_X6_adopt
  repeat' split
  all_goals first | exact Or.inl rfl | exact Or.inr (Or.inl rfl) | exact Or.inr (Or.inr (rfl))
theorem wk_adopt : y_WK sp_X6_adopt 2 y_ri ["java/lang/IndexOutOfBoundsException", "java/lang/IllegalArgumentException"] := by
  intro S P as hJ has hn
  obtain ⟨x1, x2, rfl⟩ := y_ints2 has hn
  refine ⟨hJ, ?_⟩
  rcases we_adopt S P x1 x2 with he | he | he
  · rw [he]
    exact ⟨(jp_adopt hJ), _, rfl⟩
  · rw [he]
    exact ⟨hJ, List.mem_cons_self⟩
  · rw [he]
    exact ⟨hJ, List.mem_cons_of_mem _ (List.mem_cons_self)⟩
theorem we_raise (S : z_MI) (P : z_ML) (x1 : Int32) : e_X6_raise S P x1 = 0 ∨ e_X6_raise S P x1 = 1 ∨ e_X6_raise S P x1 = 3 := by
  unfold e_X6_raise
  repeat' split
  all_goals first | exact Or.inl rfl | exact Or.inr (Or.inl rfl) | exact Or.inr (Or.inr (rfl))
theorem wk_raise : y_WK sp_X6_raise 1 y_ri ["java/lang/IndexOutOfBoundsException", "java/lang/IllegalStateException"] := by
  intro S P as hJ has hn
  obtain ⟨x1, rfl⟩ := y_ints1 has hn
  refine ⟨hJ, ?_⟩
  rcases we_raise S P x1 with he | he | he
  · rw [he]
    exact ⟨(jp_raise hJ), _, rfl⟩
  · rw [he]
    exact ⟨hJ, List.mem_cons_self⟩
  · rw [he]
    exact ⟨hJ, List.mem_cons_of_mem _ (List.mem_cons_self)⟩
theorem we_members (S : z_MI) (P : z_ML) (x1 : Int32) : e_X6_members S P x1 = 0 ∨ e_X6_members S P x1 = 1 := by
  unfold e_X6_members
  repeat' split
  all_goals first | exact Or.inl rfl | exact Or.inr (rfl)
theorem wk_members : y_WK sp_X6_members 1 (y_rn 6) ["java/lang/IndexOutOfBoundsException"] := by
  intro S P as hJ has hn
  obtain ⟨x1, rfl⟩ := y_ints1 has hn
  refine ⟨hJ, ?_⟩
  rcases we_members S P x1 with he | he
  · rw [he]
    have h1 : f_X2_isPeople S P x1 = true := by
      unfold e_X6_members at he
      split at he
      · assumption
      · cases he
    exact ⟨hJ, ⟨_, rfl⟩, y_nle (t_isPeople hJ h1) (by decide)⟩
  · rw [he]
    exact ⟨hJ, List.mem_cons_self⟩
theorem we_story (S : z_MI) (P : z_ML) (x1 : Int32) : e_X6_story S P x1 = 0 ∨ e_X6_story S P x1 = 1 ∨ e_X6_story S P x1 = 3 := by
  unfold e_X6_story
  repeat' split
  all_goals first | exact Or.inl rfl | exact Or.inr (Or.inl rfl) | exact Or.inr (Or.inr (rfl))
theorem wk_story : y_WK sp_X6_story 1 y_ri ["java/lang/IndexOutOfBoundsException", "java/lang/IllegalStateException"] := by
  intro S P as hJ has hn
  obtain ⟨x1, rfl⟩ := y_ints1 has hn
  refine ⟨hJ, ?_⟩
  rcases we_story S P x1 with he | he | he
  · rw [he]
    exact ⟨(jp_story hJ), _, rfl⟩
  · rw [he]
    exact ⟨hJ, List.mem_cons_self⟩
  · rw [he]
    exact ⟨hJ, List.mem_cons_of_mem _ (List.mem_cons_self)⟩
theorem we_part (S : z_MI) (P : z_ML) (x1 x2 x3 : Int32) : e_X6_part S P x1 x2 x3 = 0 ∨ e_X6_part S P x1 x2 x3 = 1 ∨ e_X6_part S P x1 x2 x3 = 2 ∨ e_X6_part S P x1 x2 x3 = 3 := by
  unfold e_X6_part
  repeat' split
  all_goals first | exact Or.inl rfl | exact Or.inr (Or.inl rfl) | exact Or.inr (Or.inr (Or.inl rfl)) | exact Or.inr (Or.inr (Or.inr (rfl)))
theorem wk_part : y_WK sp_X6_part 3 y_ri ["java/lang/IndexOutOfBoundsException", "java/lang/IllegalArgumentException", "java/lang/IllegalStateException"] := by
  intro S P as hJ has hn
  obtain ⟨x1, x2, x3, rfl⟩ := y_ints3 has hn
  refine ⟨hJ, ?_⟩
  rcases we_part S P x1 x2 x3 with he | he | he | he
  · rw [he]
    exact ⟨(jp_part hJ), _, rfl⟩
  · rw [he]
    exact ⟨hJ, List.mem_cons_self⟩
  · rw [he]
    exact ⟨hJ, List.mem_cons_of_mem _ (List.mem_cons_self)⟩
  · rw [he]
    exact ⟨hJ, List.mem_cons_of_mem _ (List.mem_cons_of_mem _ (List.mem_cons_self))⟩
theorem we_hears (S : z_MI) (P : z_ML) (x1 x2 x3 : Int32) : e_X6_hears S P x1 x2 x3 = 0 ∨ e_X6_hears S P x1 x2 x3 = 1 := by
  unfold e_X6_hears
  repeat' split
  all_goals first | exact Or.inl rfl | exact Or.inr (rfl)
theorem wk_hears : y_WK sp_X6_hears 3 y_ri ["java/lang/IndexOutOfBoundsException"] := by
  intro S P as hJ has hn
  obtain ⟨x1, x2, x3, rfl⟩ := y_ints3 has hn
  refine ⟨hJ, ?_⟩
  rcases we_hears S P x1 x2 x3 with he | he
  · rw [he]
    exact ⟨hJ, _, rfl⟩
  · rw [he]
    exact ⟨hJ, List.mem_cons_self⟩
theorem we_told (S : z_MI) (P : z_ML) (x1 : Int32) : e_X6_told S P x1 = 0 ∨ e_X6_told S P x1 = 1 := by
  unfold e_X6_told
  repeat' split
  all_goals first | exact Or.inl rfl | exact Or.inr (rfl)
theorem wk_told : y_WK sp_X6_told 1 y_ri ["java/lang/IndexOutOfBoundsException"] := by
  intro S P as hJ has hn
  obtain ⟨x1, rfl⟩ := y_ints1 has hn
  refine ⟨hJ, ?_⟩
  rcases we_told S P x1 with he | he
  · rw [he]
    exact ⟨hJ, _, rfl⟩
  · rw [he]
    exact ⟨hJ, List.mem_cons_self⟩
theorem we_explain (S : z_MI) (P : z_ML) (x1 x2 x3 : Int32) : e_X6_explain S P x1 x2 x3 = 0 ∨ e_X6_explain S P x1 x2 x3 = 1 ∨ e_X6_explain S P x1 x2 x3 = 2 ∨ e_X6_explain S P x1 x2 x3 = 3 := by
  unfold e_X6_explain
  repeat' split
  all_goals first | exact Or.inl rfl | exact Or.inr (Or.inl rfl) | exact Or.inr (Or.inr (Or.inl rfl)) | exact Or.inr (Or.inr (Or.inr (rfl)))
theorem wk_explain : y_WK sp_X6_explain 3 y_ri ["java/lang/IndexOutOfBoundsException", "java/lang/IllegalArgumentException", "java/lang/IllegalStateException"] := by
  intro S P as hJ has hn
  obtain ⟨x1, x2, x3, rfl⟩ := y_ints3 has hn
  refine ⟨hJ, ?_⟩
  rcases we_explain S P x1 x2 x3 with he | he | he | he
  · rw [he]
    exact ⟨(jp_explain hJ), _, rfl⟩
  · rw [he]
    exact ⟨hJ, List.mem_cons_self⟩
  · rw [he]
    exact ⟨hJ, List.mem_cons_of_mem _ (List.mem_cons_self)⟩
  · rw [he]
    exact ⟨hJ, List.mem_cons_of_mem _ (List.mem_cons_of_mem _ (List.mem_cons_self))⟩
theorem we_isProved (S : z_MI) (P : z_ML) (x1 x2 : Int32) : e_X6_isProved S P x1 x2 = 0 ∨ e_X6_isProved S P x1 x2 = 1 := by
  unfold e_X6_isProved
  repeat' split
  all_goals first | exact Or.inl rfl | exact Or.inr (rfl)
theorem wk_isProved : y_WK sp_X6_isProved 2 y_ri ["java/lang/IndexOutOfBoundsException"] := by
  intro S P as hJ has hn
  obtain ⟨x1, x2, rfl⟩ := y_ints2 has hn
  refine ⟨hJ, ?_⟩
  rcases we_isProved S P x1 x2 with he | he
  · rw [he]
    exact ⟨hJ, _, rfl⟩
  · rw [he]
    exact ⟨hJ, List.mem_cons_self⟩
theorem we_act (S : z_MI) (P : z_ML) (x1 x2 x3 x4 x5 : Int32) : e_X6_act S P x1 x2 x3 x4 x5 = 0 ∨ e_X6_act S P x1 x2 x3 x4 x5 = 2 ∨ e_X6_act S P x1 x2 x3 x4 x5 = 3 := by
  unfold e_X6_act
  repeat' split
  all_goals first | exact Or.inl rfl | exact Or.inr (Or.inl rfl) | exact Or.inr (Or.inr (rfl))
theorem wk_act : y_WK sp_X6_act 5 y_ri ["java/lang/IllegalArgumentException", "java/lang/IllegalStateException"] := by
  intro S P as hJ has hn
  obtain ⟨x1, x2, x3, x4, x5, rfl⟩ := y_ints5 has hn
  refine ⟨hJ, ?_⟩
  rcases we_act S P x1 x2 x3 x4 x5 with he | he | he
  · rw [he]
    exact ⟨(jp_act hJ), _, rfl⟩
  · rw [he]
    exact ⟨hJ, List.mem_cons_self⟩
  · rw [he]
    exact ⟨hJ, List.mem_cons_of_mem _ (List.mem_cons_self)⟩
theorem we_voids (S : z_MI) (P : z_ML) (x1 x2 : Int32) : e_X6_voids S P x1 x2 = 0 ∨ e_X6_voids S P x1 x2 = 1 := by
  unfold e_X6_voids
  repeat' split
  all_goals first | exact Or.inl rfl | exact Or.inr (rfl)
theorem wk_voids : y_WK sp_X6_voids 2 y_ri ["java/lang/IndexOutOfBoundsException"] := by
  intro S P as hJ has hn
  obtain ⟨x1, x2, rfl⟩ := y_ints2 has hn
  refine ⟨hJ, ?_⟩
  rcases we_voids S P x1 x2 with he | he
  · rw [he]
    exact ⟨(jp_voids hJ), _, rfl⟩
  · rw [he]
    exact ⟨hJ, List.mem_cons_self⟩
theorem we_giveUp (S : z_MI) (P : z_ML) (x1 : Int32) : e_X6_giveUp S P x1 = 0 ∨ e_X6_giveUp S P x1 = 1 ∨ e_X6_giveUp S P x1 = 3 := by
  unfold e_X6_giveUp
  repeat' split
  all_goals first | exact Or.inl rfl | exact Or.inr (Or.inl rfl) | exact Or.inr (Or.inr (rfl))
theorem wk_giveUp : y_WK sp_X6_giveUp 1 y_ri ["java/lang/IndexOutOfBoundsException", "java/lang/IllegalStateException"] := by
  intro S P as hJ has hn
  obtain ⟨x1, rfl⟩ := y_ints1 has hn
  refine ⟨hJ, ?_⟩
  rcases we_giveUp S P x1 with he | he | he
  · rw [he]
    exact ⟨(jp_giveUp hJ), _, rfl⟩
  · rw [he]
    exact ⟨hJ, List.mem_cons_self⟩
  · rw [he]
    exact ⟨hJ, List.mem_cons_of_mem _ (List.mem_cons_self)⟩
theorem we_left (S : z_MI) (P : z_ML) (x1 x2 : Int32) : e_X6_left S P x1 x2 = 0 ∨ e_X6_left S P x1 x2 = 1 ∨ e_X6_left S P x1 x2 = 2 := by
  unfold e_X6_left
  repeat' split
  all_goals first | exact Or.inl rfl | exact Or.inr (Or.inl rfl) | exact Or.inr (Or.inr (rfl))
theorem wk_left : y_WK sp_X6_left 2 y_ri ["java/lang/IndexOutOfBoundsException", "java/lang/IllegalArgumentException"] := by
  intro S P as hJ has hn
  obtain ⟨x1, x2, rfl⟩ := y_ints2 has hn
  refine ⟨hJ, ?_⟩
  rcases we_left S P x1 x2 with he | he | he
  · rw [he]
    exact ⟨hJ, _, rfl⟩
  · rw [he]
    exact ⟨hJ, List.mem_cons_self⟩
  · rw [he]
    exact ⟨hJ, List.mem_cons_of_mem _ (List.mem_cons_self)⟩
theorem we_leftAnew (S : z_MI) (P : z_ML) (x1 x2 : Int32) : e_X6_leftAnew S P x1 x2 = 0 ∨ e_X6_leftAnew S P x1 x2 = 1 ∨ e_X6_leftAnew S P x1 x2 = 2 := by
  unfold e_X6_leftAnew
  repeat' split
  all_goals first | exact Or.inl rfl | exact Or.inr (Or.inl rfl) | exact Or.inr (Or.inr (rfl))
theorem wk_leftAnew : y_WK sp_X6_leftAnew 2 y_ri ["java/lang/IndexOutOfBoundsException", "java/lang/IllegalArgumentException"] := by
  intro S P as hJ has hn
  obtain ⟨x1, x2, rfl⟩ := y_ints2 has hn
  refine ⟨hJ, ?_⟩
  rcases we_leftAnew S P x1 x2 with he | he | he
  · rw [he]
    exact ⟨hJ, _, rfl⟩
  · rw [he]
    exact ⟨hJ, List.mem_cons_self⟩
  · rw [he]
    exact ⟨hJ, List.mem_cons_of_mem _ (List.mem_cons_self)⟩
theorem we_claim (S : z_MI) (P : z_ML) (x1 x2 x3 : Int32) : e_X6_claim S P x1 x2 x3 = 0 ∨ e_X6_claim S P x1 x2 x3 = 1 ∨ e_X6_claim S P x1 x2 x3 = 2 ∨ e_X6_claim S P x1 x2 x3 = 3 := by
  unfold e_X6_claim
  repeat' split
  all_goals first | exact Or.inl rfl | exact Or.inr (Or.inl rfl) | exact Or.inr (Or.inr (Or.inl rfl)) | exact Or.inr (Or.inr (Or.inr (rfl)))
theorem wk_claim : y_WK sp_X6_claim 3 y_ri ["java/lang/IndexOutOfBoundsException", "java/lang/IllegalArgumentException", "java/lang/IllegalStateException"] := by
  intro S P as hJ has hn
  obtain ⟨x1, x2, x3, rfl⟩ := y_ints3 has hn
  refine ⟨hJ, ?_⟩
  rcases we_claim S P x1 x2 x3 with he | he | he | he
  · rw [he]
    exact ⟨(jp_claim hJ), _, rfl⟩
  · rw [he]
    exact ⟨hJ, List.mem_cons_self⟩
  · rw [he]
    exact ⟨hJ, List.mem_cons_of_mem _ (List.mem_cons_self)⟩
  · rw [he]
    exact ⟨hJ, List.mem_cons_of_mem _ (List.mem_cons_of_mem _ (List.mem_cons_self))⟩
theorem we_vote (S : z_MI) (P : z_ML) (x1 x2 x3 : Int32) : e_X6_vote S P x1 x2 x3 = 0 ∨ e_X6_vote S P x1 x2 x3 = 1 ∨ e_X6_vote S P x1 x2 x3 = 3 := by
  unfold e_X6_vote
  repeat' split
  all_goals first | exact Or.inl rfl | exact Or.inr (Or.inl rfl) | exact Or.inr (Or.inr (rfl))
theorem wk_vote : y_WK sp_X6_vote 3 y_rv ["java/lang/IndexOutOfBoundsException", "java/lang/IllegalStateException"] := by
  intro S P as hJ has hn
  obtain ⟨x1, x2, x3, rfl⟩ := y_ints3 has hn
  refine ⟨hJ, ?_⟩
  rcases we_vote S P x1 x2 x3 with he | he | he
  · rw [he]
    exact ⟨(jp_vote hJ), rfl⟩
  · rw [he]
    exact ⟨hJ, List.mem_cons_self⟩
  · rw [he]
    exact ⟨hJ, List.mem_cons_of_mem _ (List.mem_cons_self)⟩
theorem we_register (S : z_MI) (P : z_ML) (x1 : Int32) : e_X6_register S P x1 = 0 ∨ e_X6_register S P x1 = 1 ∨ e_X6_register S P x1 = 3 := by
  unfold e_X6_register
  repeat' split
  all_goals first | exact Or.inl rfl | exact Or.inr (Or.inl rfl) | exact Or.inr (Or.inr (rfl))
theorem wk_register : y_WK sp_X6_register 1 y_ri ["java/lang/IndexOutOfBoundsException", "java/lang/IllegalStateException"] := by
  intro S P as hJ has hn
  obtain ⟨x1, rfl⟩ := y_ints1 has hn
  refine ⟨hJ, ?_⟩
  rcases we_register S P x1 with he | he | he
  · rw [he]
    exact ⟨(jp_register hJ), _, rfl⟩
  · rw [he]
    exact ⟨hJ, List.mem_cons_self⟩
  · rw [he]
    exact ⟨hJ, List.mem_cons_of_mem _ (List.mem_cons_self)⟩
theorem we_determine (S : z_MI) (P : z_ML) (x1 : Int32) : e_X6_determine S P x1 = 0 ∨ e_X6_determine S P x1 = 1 ∨ e_X6_determine S P x1 = 3 := by
  unfold e_X6_determine
  repeat' split
  all_goals first | exact Or.inl rfl | exact Or.inr (Or.inl rfl) | exact Or.inr (Or.inr (rfl))
theorem wk_determine : y_WK sp_X6_determine 1 y_ri ["java/lang/IndexOutOfBoundsException", "java/lang/IllegalStateException"] := by
  intro S P as hJ has hn
  obtain ⟨x1, rfl⟩ := y_ints1 has hn
  refine ⟨hJ, ?_⟩
  rcases we_determine S P x1 with he | he | he
  · rw [he]
    exact ⟨(jp_determine hJ), _, rfl⟩
  · rw [he]
    exact ⟨hJ, List.mem_cons_self⟩
  · rw [he]
    exact ⟨hJ, List.mem_cons_of_mem _ (List.mem_cons_self)⟩
theorem we_revise (S : z_MI) (P : z_ML) (x1 : Int32) : e_X6_revise S P x1 = 0 ∨ e_X6_revise S P x1 = 1 ∨ e_X6_revise S P x1 = 3 := by
  unfold e_X6_revise
  repeat' split
  all_goals first | exact Or.inl rfl | exact Or.inr (Or.inl rfl) | exact Or.inr (Or.inr (rfl))
theorem wk_revise : y_WK sp_X6_revise 1 y_ri ["java/lang/IndexOutOfBoundsException", "java/lang/IllegalStateException"] := by
  intro S P as hJ has hn
  obtain ⟨x1, rfl⟩ := y_ints1 has hn
  refine ⟨hJ, ?_⟩
  rcases we_revise S P x1 with he | he | he
  · rw [he]
    exact ⟨(jp_revise hJ), _, rfl⟩
  · rw [he]
    exact ⟨hJ, List.mem_cons_self⟩
  · rw [he]
    exact ⟨hJ, List.mem_cons_of_mem _ (List.mem_cons_self)⟩
theorem we_ofClaim (S : z_MI) (P : z_ML) (x1 x2 : Int32) : e_X6_ofClaim S P x1 x2 = 0 ∨ e_X6_ofClaim S P x1 x2 = 1 ∨ e_X6_ofClaim S P x1 x2 = 2 := by
  unfold e_X6_ofClaim
  repeat' split
  all_goals first | exact Or.inl rfl | exact Or.inr (Or.inl rfl) | exact Or.inr (Or.inr (rfl))
theorem wk_ofClaim : y_WK sp_X6_ofClaim 2 (y_rn 12) ["java/lang/IndexOutOfBoundsException", "java/lang/IllegalArgumentException"] := by
  intro S P as hJ has hn
  obtain ⟨x1, x2, rfl⟩ := y_ints2 has hn
  refine ⟨hJ, ?_⟩
  rcases we_ofClaim S P x1 x2 with he | he | he
  · rw [he]
    have h1 : f_X1_isClaim S P x1 = true := by
      unfold e_X6_ofClaim at he
      split at he
      · assumption
      · cases he
    exact ⟨hJ, ⟨_, rfl⟩, y_nle (t_isClaim hJ h1) (by decide)⟩
  · rw [he]
    exact ⟨hJ, List.mem_cons_self⟩
  · rw [he]
    exact ⟨hJ, List.mem_cons_of_mem _ (List.mem_cons_self)⟩
theorem we_holders (S : z_MI) (P : z_ML) (x1 : Int32) : e_X6_holders S P x1 = 0 ∨ e_X6_holders S P x1 = 1 := by
  unfold e_X6_holders
  repeat' split
  all_goals first | exact Or.inl rfl | exact Or.inr (rfl)
theorem wk_holders : y_WK sp_X6_holders 1 y_ri ["java/lang/IndexOutOfBoundsException"] := by
  intro S P as hJ has hn
  obtain ⟨x1, rfl⟩ := y_ints1 has hn
  refine ⟨hJ, ?_⟩
  rcases we_holders S P x1 with he | he
  · rw [he]
    exact ⟨hJ, _, rfl⟩
  · rw [he]
    exact ⟨hJ, List.mem_cons_self⟩
theorem we_may (S : z_MI) (P : z_ML) (x1 x2 x3 : Int32) : e_X6_may S P x1 x2 x3 = 0 ∨ e_X6_may S P x1 x2 x3 = 1 := by
  unfold e_X6_may
  repeat' split
  all_goals first | exact Or.inl rfl | exact Or.inr (rfl)
theorem wk_may : y_WK sp_X6_may 3 y_ri ["java/lang/IndexOutOfBoundsException"] := by
  intro S P as hJ has hn
  obtain ⟨x1, x2, x3, rfl⟩ := y_ints3 has hn
  refine ⟨hJ, ?_⟩
  rcases we_may S P x1 x2 x3 with he | he
  · rw [he]
    exact ⟨hJ, _, rfl⟩
  · rw [he]
    exact ⟨hJ, List.mem_cons_self⟩
theorem we_notice (S : z_MI) (P : z_ML) (x1 x2 x3 x4 x5 : Int32) : e_X6_notice S P x1 x2 x3 x4 x5 = 0 ∨ e_X6_notice S P x1 x2 x3 x4 x5 = 2 ∨ e_X6_notice S P x1 x2 x3 x4 x5 = 3 := by
  unfold e_X6_notice
  repeat' split
  all_goals first | exact Or.inl rfl | exact Or.inr (Or.inl rfl) | exact Or.inr (Or.inr (rfl))
theorem wk_notice : y_WK sp_X6_notice 5 y_ri ["java/lang/IllegalArgumentException", "java/lang/IllegalStateException"] := by
  intro S P as hJ has hn
  obtain ⟨x1, x2, x3, x4, x5, rfl⟩ := y_ints5 has hn
  refine ⟨hJ, ?_⟩
  rcases we_notice S P x1 x2 x3 x4 x5 with he | he | he
  · rw [he]
    exact ⟨(jp_notice hJ), _, rfl⟩
  · rw [he]
    exact ⟨hJ, List.mem_cons_self⟩
  · rw [he]
    exact ⟨hJ, List.mem_cons_of_mem _ (List.mem_cons_self)⟩
theorem we_agree (S : z_MI) (P : z_ML) (x1 x2 : Int32) : e_X6_agree S P x1 x2 = 0 ∨ e_X6_agree S P x1 x2 = 1 ∨ e_X6_agree S P x1 x2 = 3 := by
  unfold e_X6_agree
  repeat' split
  all_goals first | exact Or.inl rfl | exact Or.inr (Or.inl rfl) | exact Or.inr (Or.inr (rfl))
theorem wk_agree : y_WK sp_X6_agree 2 y_ri ["java/lang/IndexOutOfBoundsException", "java/lang/IllegalStateException"] := by
  intro S P as hJ has hn
  obtain ⟨x1, x2, rfl⟩ := y_ints2 has hn
  refine ⟨hJ, ?_⟩
  rcases we_agree S P x1 x2 with he | he | he
  · rw [he]
    exact ⟨(jp_agree hJ), _, rfl⟩
  · rw [he]
    exact ⟨hJ, List.mem_cons_self⟩
  · rw [he]
    exact ⟨hJ, List.mem_cons_of_mem _ (List.mem_cons_self)⟩
theorem we_object (S : z_MI) (P : z_ML) (x1 x2 : Int32) : e_X6_object S P x1 x2 = 0 ∨ e_X6_object S P x1 x2 = 1 ∨ e_X6_object S P x1 x2 = 3 := by
  unfold e_X6_object
  repeat' split
  all_goals first | exact Or.inl rfl | exact Or.inr (Or.inl rfl) | exact Or.inr (Or.inr (rfl))
theorem wk_object : y_WK sp_X6_object 2 y_rv ["java/lang/IndexOutOfBoundsException", "java/lang/IllegalStateException"] := by
  intro S P as hJ has hn
  obtain ⟨x1, x2, rfl⟩ := y_ints2 has hn
  refine ⟨hJ, ?_⟩
  rcases we_object S P x1 x2 with he | he | he
  · rw [he]
    exact ⟨(jp_object hJ), rfl⟩
  · rw [he]
    exact ⟨hJ, List.mem_cons_self⟩
  · rw [he]
    exact ⟨hJ, List.mem_cons_of_mem _ (List.mem_cons_self)⟩
theorem we_decide (S : z_MI) (P : z_ML) (x1 x2 : Int32) : e_X6_decide S P x1 x2 = 0 ∨ e_X6_decide S P x1 x2 = 1 ∨ e_X6_decide S P x1 x2 = 3 := by
  unfold e_X6_decide
  repeat' split
  all_goals first | exact Or.inl rfl | exact Or.inr (Or.inl rfl) | exact Or.inr (Or.inr (rfl))
theorem wk_decide : y_WK sp_X6_decide 2 y_ri ["java/lang/IndexOutOfBoundsException", "java/lang/IllegalStateException"] := by
  intro S P as hJ has hn
  obtain ⟨x1, x2, rfl⟩ := y_ints2 has hn
  refine ⟨hJ, ?_⟩
  rcases we_decide S P x1 x2 with he | he | he
  · rw [he]
    exact ⟨(jp_decide hJ), _, rfl⟩
  · rw [he]
    exact ⟨hJ, List.mem_cons_self⟩
  · rw [he]
    exact ⟨hJ, List.mem_cons_of_mem _ (List.mem_cons_self)⟩
theorem we_proceed (S : z_MI) (P : z_ML) (x1 : Int32) : e_X6_proceed S P x1 = 0 ∨ e_X6_proceed S P x1 = 1 ∨ e_X6_proceed S P x1 = 3 := by
  unfold e_X6_proceed
  repeat' split
  all_goals first | exact Or.inl rfl | exact Or.inr (Or.inl rfl) | exact Or.inr (Or.inr (rfl))
theorem wk_proceed : y_WK sp_X6_proceed 1 y_ri ["java/lang/IndexOutOfBoundsException", "java/lang/IllegalStateException"] := by
  intro S P as hJ has hn
  obtain ⟨x1, rfl⟩ := y_ints1 has hn
  refine ⟨hJ, ?_⟩
  rcases we_proceed S P x1 with he | he | he
  · rw [he]
    exact ⟨(jp_proceed hJ), _, rfl⟩
  · rw [he]
    exact ⟨hJ, List.mem_cons_self⟩
  · rw [he]
    exact ⟨hJ, List.mem_cons_of_mem _ (List.mem_cons_self)⟩
theorem we_ofNotice (S : z_MI) (P : z_ML) (x1 x2 : Int32) : e_X6_ofNotice S P x1 x2 = 0 ∨ e_X6_ofNotice S P x1 x2 = 1 ∨ e_X6_ofNotice S P x1 x2 = 2 := by
  unfold e_X6_ofNotice
  repeat' split
  all_goals first | exact Or.inl rfl | exact Or.inr (Or.inl rfl) | exact Or.inr (Or.inr (rfl))
theorem wk_ofNotice : y_WK sp_X6_ofNotice 2 (y_rn 12) ["java/lang/IndexOutOfBoundsException", "java/lang/IllegalArgumentException"] := by
  intro S P as hJ has hn
  obtain ⟨x1, x2, rfl⟩ := y_ints2 has hn
  refine ⟨hJ, ?_⟩
  rcases we_ofNotice S P x1 x2 with he | he | he
  · rw [he]
    have h1 : f_X4_isNotice S P x1 = true := by
      unfold e_X6_ofNotice at he
      split at he
      · assumption
      · cases he
    exact ⟨hJ, ⟨_, rfl⟩, y_nle (t_isNotice hJ h1) (by decide)⟩
  · rw [he]
    exact ⟨hJ, List.mem_cons_self⟩
  · rw [he]
    exact ⟨hJ, List.mem_cons_of_mem _ (List.mem_cons_self)⟩
theorem we_value (S : z_MI) (P : z_ML) (x1 x2 : Int32) : e_X6_value S P x1 x2 = 0 ∨ e_X6_value S P x1 x2 = 1 ∨ e_X6_value S P x1 x2 = 2 := by
  unfold e_X6_value
  repeat' split
  all_goals first | exact Or.inl rfl | exact Or.inr (Or.inl rfl) | exact Or.inr (Or.inr (rfl))
theorem wk_value : y_WK sp_X6_value 2 y_ri ["java/lang/IndexOutOfBoundsException", "java/lang/IllegalArgumentException"] := by
  intro S P as hJ has hn
  obtain ⟨x1, x2, rfl⟩ := y_ints2 has hn
  refine ⟨hJ, ?_⟩
  rcases we_value S P x1 x2 with he | he | he
  · rw [he]
    exact ⟨(jp_value hJ), _, rfl⟩
  · rw [he]
    exact ⟨hJ, List.mem_cons_self⟩
  · rw [he]
    exact ⟨hJ, List.mem_cons_of_mem _ (List.mem_cons_self)⟩
theorem we_owed (S : z_MI) (P : z_ML) (x1 : Int32) : e_X6_owed S P x1 = 0 ∨ e_X6_owed S P x1 = 1 := by
  unfold e_X6_owed
  repeat' split
  all_goals first | exact Or.inl rfl | exact Or.inr (rfl)
theorem wk_owed : y_WK sp_X6_owed 1 y_rl ["java/lang/IndexOutOfBoundsException"] := by
  intro S P as hJ has hn
  obtain ⟨x1, rfl⟩ := y_ints1 has hn
  refine ⟨hJ, ?_⟩
  rcases we_owed S P x1 with he | he
  · rw [he]
    exact ⟨hJ, _, rfl⟩
  · rw [he]
    exact ⟨hJ, List.mem_cons_self⟩
theorem we_paid (S : z_MI) (P : z_ML) (x1 : Int32) : e_X6_paid S P x1 = 0 ∨ e_X6_paid S P x1 = 1 := by
  unfold e_X6_paid
  repeat' split
  all_goals first | exact Or.inl rfl | exact Or.inr (rfl)
theorem wk_paid : y_WK sp_X6_paid 1 y_rl ["java/lang/IndexOutOfBoundsException"] := by
  intro S P as hJ has hn
  obtain ⟨x1, rfl⟩ := y_ints1 has hn
  refine ⟨hJ, ?_⟩
  rcases we_paid S P x1 with he | he
  · rw [he]
    exact ⟨hJ, _, rfl⟩
  · rw [he]
    exact ⟨hJ, List.mem_cons_self⟩
theorem we_pass (S : z_MI) (P : z_ML) (x1 : Int32) : e_X6_pass S P x1 = 0 ∨ e_X6_pass S P x1 = 2 ∨ e_X6_pass S P x1 = 3 := by
  unfold e_X6_pass
  repeat' split
  all_goals first | exact Or.inl rfl | exact Or.inr (Or.inl rfl) | exact Or.inr (Or.inr (rfl))
theorem wk_pass : y_WK sp_X6_pass 1 y_ri ["java/lang/IllegalArgumentException", "java/lang/IllegalStateException"] := by
  intro S P as hJ has hn
  obtain ⟨x1, rfl⟩ := y_ints1 has hn
  refine ⟨hJ, ?_⟩
  rcases we_pass S P x1 with he | he | he
  · rw [he]
    exact ⟨(jp_pass hJ), _, rfl⟩
  · rw [he]
    exact ⟨hJ, List.mem_cons_self⟩
  · rw [he]
    exact ⟨hJ, List.mem_cons_of_mem _ (List.mem_cons_self)⟩
theorem we_pay (S : z_MI) (P : z_ML) (x1 : Int32) : e_X6_pay S P x1 = 0 ∨ e_X6_pay S P x1 = 1 ∨ e_X6_pay S P x1 = 3 := by
  unfold e_X6_pay
  repeat' split
  all_goals first | exact Or.inl rfl | exact Or.inr (Or.inl rfl) | exact Or.inr (Or.inr (rfl))
theorem wk_pay : y_WK sp_X6_pay 1 y_rl ["java/lang/IndexOutOfBoundsException", "java/lang/IllegalStateException"] := by
  intro S P as hJ has hn
  obtain ⟨x1, rfl⟩ := y_ints1 has hn
  refine ⟨hJ, ?_⟩
  rcases we_pay S P x1 with he | he | he
  · rw [he]
    exact ⟨(jp_pay hJ), _, rfl⟩
  · rw [he]
    exact ⟨hJ, List.mem_cons_self⟩
  · rw [he]
    exact ⟨hJ, List.mem_cons_of_mem _ (List.mem_cons_self)⟩
theorem we_mark (S : z_MI) (P : z_ML) (x1 x2 x3 x4 : Int32) : e_X6_mark S P x1 x2 x3 x4 = 0 ∨ e_X6_mark S P x1 x2 x3 x4 = 1 ∨ e_X6_mark S P x1 x2 x3 x4 = 2 ∨ e_X6_mark S P x1 x2 x3 x4 = 3 := by
  unfold e_X6_mark
  repeat' split
  all_goals first | exact Or.inl rfl | exact Or.inr (Or.inl rfl) | exact Or.inr (Or.inr (Or.inl rfl)) | exact Or.inr (Or.inr (Or.inr (rfl)))
theorem wk_mark : y_WK sp_X6_mark 4 y_ri ["java/lang/IndexOutOfBoundsException", "java/lang/IllegalArgumentException", "java/lang/IllegalStateException"] := by
  intro S P as hJ has hn
  obtain ⟨x1, x2, x3, x4, rfl⟩ := y_ints4 has hn
  refine ⟨hJ, ?_⟩
  rcases we_mark S P x1 x2 x3 x4 with he | he | he | he
  · rw [he]
    exact ⟨(jp_mark hJ), _, rfl⟩
  · rw [he]
    exact ⟨hJ, List.mem_cons_self⟩
  · rw [he]
    exact ⟨hJ, List.mem_cons_of_mem _ (List.mem_cons_self)⟩
  · rw [he]
    exact ⟨hJ, List.mem_cons_of_mem _ (List.mem_cons_of_mem _ (List.mem_cons_self))⟩
end
section
/-! the law's own methods -/
theorem y_pok_of {own : String} {G : y_G} {ci cL : List (Nat × Nat)} (h2 : ∀ q ∈ ci, Jvm.Cond.constant own q.1 (nI q.2) ∈ z_T) (h3 : ∀ q ∈ cL, Jvm.Cond.constantLong own q.1 (lN q.2) ∈ z_T) {c1 c2 : List (Nat × Nat)} (e1 : y_ci G = c1) (e2 : y_cL G = c2) (h : (c1.all (fun q => decide (q ∈ ci)) && c2.all (fun q => decide (q ∈ cL))) = true) : y_pok own G = true := by
  rw [← e1, ← e2] at h
  simp only [Bool.and_eq_true, List.all_eq_true, decide_eq_true_eq] at h
  simp only [y_pok, Bool.and_eq_true, List.all_eq_true, decide_eq_true_eq]
  exact ⟨fun q hq => h2 q (h.1 q hq), fun q hq => h3 q (h.2 q hq)⟩
def y_ck (cc : ByteArray) (nL lim : Nat) (code : List (Nat × Instr × Nat × Nat)) : Bool := code.all (fun q => z_tok cc [] q && z_lok nL q.2.1 && y_lok lim q)
theorem y_cok_of {cc : ByteArray} {nL lim : Nat} {G : y_G} {code : List (Nat × Instr × Nat × Nat)} (h : y_code G = code) (hk : y_ck cc nL lim code = true) : y_cok cc nL lim G = true := by
  unfold y_cok
  rw [h]
  exact hk
def sx_low : y_SX := fun as g k kx => match as with
  | [.int _, .int b] => ¬ b = 0 ∧ ∀ r : Int32, k (some (.int r)) g
  | _ => False
def CL_low : List (Nat × Instr × Nat × Nat) := [(0, .iload_n 0, 1, 0), (1, .ldc 7, 3, 0), (3, .iand, 4, 0), (4, .iload_n 1, 5, 0), (5, .irem, 6, 0), (6, .ireturn, 7, 0)]
def GL_low (kx : String → Nat → Nat → Prop) : y_G := (CL_low, [], [(7, 2147483647)], [], some .int)
set_option maxRecDepth 20000 in
set_option maxHeartbeats 8000000 in
theorem cy_low (l : Launch) (h9 : l.stackTraces = false) : y_CX l yL_low cL_low 2 (some .int) (none) sx_low 0 0 0 := by
  refine y_CX_of (GL_low) 7 (by decide) (fun _ => y_cok_of (code := CL_low) rfl (by decide +kernel)) (fun _ => y_pok_of (c1 := [(7, 2147483647)]) (c2 := []) co_L lo_L rfl rfl (by decide +kernel)) (fun _ => rfl) ?_ (fun kx => fun _ h => absurd h List.not_mem_nil) ?_
  · intro as g Po Px h
    unfold sx_low at h
    split at h
    · exact Nat.le_of_ble_eq_true rfl
    · exact h.elim
  · intro as g Po Px h V hV hW
    unfold sx_low at h
    split at h
    · rename_i a b
      obtain ⟨hb, hpo⟩ := h
      refine hV [] 11 0 _ _ _ _ ?_
      refine ⟨hb, ?_⟩
      exact ⟨Nat.le_refl _, hpo _⟩
    · exact h.elim
def sx_greater : y_SX := fun as g k kx => match as with
  | [.int _, .int _] => ∀ r : Int32, k (some (.int r)) g
  | _ => False
def CL_greater : List (Nat × Instr × Nat × Nat) := [(0, .iload_n 0, 1, 0), (1, .iload_n 1, 2, 0), (2, .if_icmp .le 7, 5, 9), (5, .iload_n 0, 6, 0), (6, .goto 4, 9, 10), (9, .iload_n 1, 10, 0), (10, .ireturn, 11, 0)]
def GL_greater (kx : String → Nat → Nat → Prop) : y_G := (CL_greater, [], [], [], some .int)
set_option maxRecDepth 20000 in
set_option maxHeartbeats 8000000 in
theorem cy_greater (l : Launch) (h9 : l.stackTraces = false) : y_CX l yL_greater cL_greater 2 (some .int) (none) sx_greater 0 0 0 := by
  refine y_CX_of (GL_greater) 11 (by decide) (fun _ => y_cok_of (code := CL_greater) rfl (by decide +kernel)) (fun _ => y_pok_of (c1 := []) (c2 := []) co_L lo_L rfl rfl (by decide +kernel)) (fun _ => rfl) ?_ (fun kx => fun _ h => absurd h List.not_mem_nil) ?_
  · intro as g Po Px h
    unfold sx_greater at h
    split at h
    · exact Nat.le_of_ble_eq_true rfl
    · exact h.elim
  · intro as g Po Px h V hV hW
    unfold sx_greater at h
    split at h
    · rename_i a b
      have hpo := h
      refine hV [] 12 0 _ _ _ _ ?_
      refine ⟨fun h1 => ?_, fun h1 => ?_⟩
      · exact ⟨Nat.le_refl _, hpo _⟩
      · exact ⟨Nat.le_refl _, hpo _⟩
    · exact h.elim
def sx_few : y_SX := fun as g k kx => match as with
  | [.int _] => ∀ r : Int32, k (some (.int r)) g
  | _ => False
def CL_few : List (Nat × Instr × Nat × Nat) := [(0, .iconst 1, 1, 0), (1, .iload_n 0, 2, 0), (2, .iconst 5, 3, 0), (3, .invokestatic 157, 6, 0), (6, .ishl, 7, 0), (7, .iconst 1, 8, 0), (8, .iload_n 0, 9, 0), (9, .iconst 3, 10, 0), (10, .ishr, 11, 0), (11, .bipush 16, 13, 0), (13, .invokestatic 157, 16, 0), (16, .ishl, 17, 0), (17, .ior, 18, 0), (18, .iload_n 0, 19, 0), (19, .bipush 7, 21, 0), (21, .ishr, 22, 0), (22, .iconst 1, 23, 0), (23, .iand, 24, 0), (24, .ifCond .ne 16, 27, 40), (27, .iconst 1, 28, 0), (28, .iload_n 0, 29, 0), (29, .bipush 8, 31, 0), (31, .ishr, 32, 0), (32, .iconst 5, 33, 0), (33, .invokestatic 157, 36, 0), (36, .ishl, 37, 0), (37, .goto 4, 40, 41), (40, .iconst 0, 41, 0), (41, .ior, 42, 0), (42, .ireturn, 43, 0)]
def GL_few (kx : String → Nat → Nat → Prop) : y_G := (CL_few, [(100157, 2, y_cs 0 0 sx_low kx)], [], [], some .int)
set_option maxRecDepth 20000 in
set_option maxHeartbeats 8000000 in
theorem cy_few (l : Launch) (h9 : l.stackTraces = false) : y_CX l yL_few cL_few 1 (some .int) (none) sx_few 1 21 0 := by
  refine y_CX_of (GL_few) 43 (by decide) (fun _ => y_cok_of (code := CL_few) rfl (by decide +kernel)) (fun _ => y_pok_of (c1 := []) (c2 := []) co_L lo_L rfl rfl (by decide +kernel)) (fun _ => rfl) ?_ (fun kx => List.forall_mem_cons.mpr ⟨⟨0, sx_low, rfl, y_coS (cy_low l h9) kb_L_low ks_L_157 (by decide) (by decide)⟩, fun _ h => absurd h List.not_mem_nil⟩) ?_
  · intro as g Po Px h
    unfold sx_few at h
    split at h
    · exact Nat.le_of_ble_eq_true rfl
    · exact h.elim
  · intro as g Po Px h V hV hW
    unfold sx_few at h
    split at h
    · rename_i a
      have hpo := h
      refine hV [] 35 0 _ _ _ _ ?_
      refine ⟨Nat.le_refl _, by decide, fun x1 => ?_⟩
      refine ⟨Nat.le_refl _, by decide, fun x2 => ?_⟩
      refine ⟨fun h3 => ?_, fun h3 => ?_⟩
      · exact ⟨Nat.le_refl _, hpo _⟩
      · refine ⟨Nat.le_refl _, by decide, fun x4 => ?_⟩
        exact ⟨Nat.le_refl _, hpo _⟩
    · exact h.elim
def y_f5 (how a : Int32) : Prop := how = nI 5 → ¬ nI 6 ≤ a
def sx_early : y_SX := fun as g k kx => match as with
  | [.ref o, .int how, .int a, .int _, .int _] => Nat.blt o 2 = true ∧ (∀ r : Int32, y_f5 how a → k (some (.int r)) g) ∧ ∀ E ∈ z_cas, kx E (g + 1)
  | _ => False
def CL_early : List (Nat × Instr × Nat × Nat) := [(0, .iload_n 1, 1, 0), (1, .ifCond .ne 11, 4, 12), (4, .aload_n 0, 5, 0), (5, .iload_n 2, 6, 0), (6, .invokevirtual 74, 9, 0), (9, .goto 251, 12, 260), (12, .iload_n 1, 13, 0), (13, .iconst 1, 14, 0), (14, .if_icmp .ne 12, 17, 26), (17, .aload_n 0, 18, 0), (18, .iload_n 2, 19, 0), (19, .iload_n 3, 20, 0), (20, .invokevirtual 77, 23, 0), (23, .goto 237, 26, 260), (26, .iload_n 1, 27, 0), (27, .iconst 2, 28, 0), (28, .if_icmp .ne 23, 31, 51), (31, .aload_n 0, 32, 0), (32, .iload_n 2, 33, 0), (33, .iload_n 3, 34, 0), (34, .iload 4, 36, 0), (36, .iconst 1, 37, 0), (37, .if_icmp .ne 7, 40, 44), (40, .iconst 1, 41, 0), (41, .goto 4, 44, 45), (44, .iconst 0, 45, 0), (45, .invokevirtual 80, 48, 0), (48, .goto 212, 51, 260), (51, .iload_n 1, 52, 0), (52, .iconst 3, 53, 0), (53, .if_icmp .ne 12, 56, 65), (56, .aload_n 0, 57, 0), (57, .iload_n 2, 58, 0), (58, .iload_n 3, 59, 0), (59, .invokevirtual 84, 62, 0), (62, .goto 198, 65, 260), (65, .iload_n 1, 66, 0), (66, .iconst 4, 67, 0), (67, .if_icmp .ne 11, 70, 78), (70, .aload_n 0, 71, 0), (71, .iload_n 2, 72, 0), (72, .invokevirtual 87, 75, 0), (75, .goto 185, 78, 260), (78, .iload_n 1, 79, 0), (79, .iconst 5, 80, 0), (80, .if_icmp .ne 11, 83, 91), (83, .aload_n 0, 84, 0), (84, .iload_n 2, 85, 0), (85, .invokevirtual 90, 88, 0), (88, .goto 172, 91, 260), (91, .iload_n 1, 92, 0), (92, .bipush 6, 94, 0), (94, .if_icmp .ne 11, 97, 105), (97, .aload_n 0, 98, 0), (98, .iload_n 2, 99, 0), (99, .invokevirtual 93, 102, 0), (102, .goto 158, 105, 260), (105, .iload_n 1, 106, 0), (106, .bipush 7, 108, 0), (108, .if_icmp .ne 14, 111, 122), (111, .aload_n 0, 112, 0), (112, .iload_n 2, 113, 0), (113, .iload_n 3, 114, 0), (114, .iload 4, 116, 0), (116, .invokevirtual 96, 119, 0), (119, .goto 141, 122, 260), (122, .iload_n 1, 123, 0), (123, .bipush 8, 125, 0), (125, .if_icmp .ne 14, 128, 139), (128, .aload_n 0, 129, 0), (129, .iload_n 2, 130, 0), (130, .iload_n 3, 131, 0), (131, .iload 4, 133, 0), (133, .invokevirtual 99, 136, 0), (136, .goto 124, 139, 260), (139, .iload_n 1, 140, 0), (140, .bipush 9, 142, 0), (142, .if_icmp .ne 11, 145, 153), (145, .aload_n 0, 146, 0), (146, .iload_n 2, 147, 0), (147, .invokevirtual 102, 150, 0), (150, .goto 110, 153, 260), (153, .iload_n 1, 154, 0), (154, .bipush 10, 156, 0), (156, .if_icmp .ne 14, 159, 170), (159, .aload_n 0, 160, 0), (160, .iload_n 2, 161, 0), (161, .iload_n 3, 162, 0), (162, .iload 4, 164, 0), (164, .invokevirtual 105, 167, 0), (167, .goto 93, 170, 260), (170, .iload_n 1, 171, 0), (171, .bipush 11, 173, 0), (173, .if_icmp .ne 20, 176, 193), (176, .aload_n 0, 177, 0), (177, .iload_n 2, 178, 0), (178, .iload_n 3, 179, 0), (179, .invokevirtual 108, 182, 0), (182, .ifCond .eq 7, 185, 189), (185, .iconst 1, 186, 0), (186, .goto 74, 189, 260), (189, .iconst 0, 190, 0), (190, .goto 70, 193, 260), (193, .iload_n 1, 194, 0), (194, .bipush 12, 196, 0), (196, .if_icmp .ne 29, 199, 225), (199, .aload_n 0, 200, 0), (200, .iload_n 2, 201, 0), (201, .iload_n 3, 202, 0), (202, .iconst 1, 203, 0), (203, .if_icmp .ne 7, 206, 210), (206, .iconst 1, 207, 0), (207, .goto 4, 210, 211), (210, .iconst 0, 211, 0), (211, .invokevirtual 112, 214, 0), (214, .ifCond .eq 7, 217, 221), (217, .iconst 1, 218, 0), (218, .goto 42, 221, 260), (221, .iconst 0, 222, 0), (222, .goto 38, 225, 260), (225, .iload_n 1, 226, 0), (226, .bipush 13, 228, 0), (228, .if_icmp .ne 11, 231, 239), (231, .aload_n 0, 232, 0), (232, .iload_n 2, 233, 0), (233, .invokevirtual 116, 236, 0), (236, .goto 24, 239, 260), (239, .iload_n 1, 240, 0), (240, .bipush 14, 242, 0), (242, .if_icmp .ne 12, 245, 254), (245, .aload_n 0, 246, 0), (246, .iload_n 2, 247, 0), (247, .iload_n 3, 248, 0), (248, .invokevirtual 119, 251, 0), (251, .goto 9, 254, 260), (254, .aload_n 0, 255, 0), (255, .iload_n 2, 256, 0), (256, .iload_n 3, 257, 0), (257, .invokevirtual 122, 260, 0), (260, .ireturn, 261, 0)]
def GL_early (kx : String → Nat → Nat → Prop) : y_G := (CL_early, [(74, 2, y_cs 1 1 (y_vs 1 y_ri ["java/lang/IllegalArgumentException", "java/lang/IllegalStateException"]) kx), (77, 3, y_cs 1 1 (y_vs 2 y_ri ["java/lang/IndexOutOfBoundsException", "java/lang/IllegalArgumentException", "java/lang/IllegalStateException"]) kx), (80, 4, y_cs 1 1 (y_vs 3 y_ri ["java/lang/IndexOutOfBoundsException"]) kx), (84, 3, y_cs 1 1 (y_vs 2 y_ri ["java/lang/IndexOutOfBoundsException", "java/lang/IllegalArgumentException"]) kx), (87, 2, y_cs 1 1 (y_vs 1 y_ri ["java/lang/IndexOutOfBoundsException", "java/lang/IllegalStateException"]) kx), (90, 2, y_cs 1 1 (y_vs 1 (y_rn 6) ["java/lang/IndexOutOfBoundsException"]) kx), (93, 2, y_cs 1 1 (y_vs 1 y_ri ["java/lang/IndexOutOfBoundsException", "java/lang/IllegalStateException"]) kx), (96, 4, y_cs 1 1 (y_vs 3 y_ri ["java/lang/IndexOutOfBoundsException", "java/lang/IllegalArgumentException", "java/lang/IllegalStateException"]) kx), (99, 4, y_cs 1 1 (y_vs 3 y_ri ["java/lang/IndexOutOfBoundsException"]) kx), (102, 2, y_cs 1 1 (y_vs 1 y_ri ["java/lang/IndexOutOfBoundsException"]) kx), (105, 4, y_cs 1 1 (y_vs 3 y_ri ["java/lang/IndexOutOfBoundsException", "java/lang/IllegalArgumentException", "java/lang/IllegalStateException"]) kx), (108, 3, y_cs 1 1 (y_vs 2 y_ri ["java/lang/IndexOutOfBoundsException"]) kx), (112, 3, y_cs 1 1 (y_vs 2 y_ri ["java/lang/IndexOutOfBoundsException"]) kx), (116, 2, y_cs 1 1 (y_vs 1 y_ri ["java/lang/IndexOutOfBoundsException", "java/lang/IllegalStateException"]) kx), (119, 3, y_cs 1 1 (y_vs 2 y_ri ["java/lang/IndexOutOfBoundsException", "java/lang/IllegalArgumentException"]) kx), (122, 3, y_cs 1 1 (y_vs 2 y_ri ["java/lang/IndexOutOfBoundsException", "java/lang/IllegalArgumentException"]) kx)], [], [], some .int)
set_option maxRecDepth 20000 in
set_option maxHeartbeats 8000000 in
theorem cy_early (l : Launch) (h9 : l.stackTraces = false) : y_CX l yL_early cL_early 5 (some .int) (none) sx_early 7 192 1 := by
  refine y_CX_of (GL_early) 261 (by decide) (fun _ => y_cok_of (code := CL_early) rfl (by decide +kernel)) (fun _ => y_pok_of (c1 := []) (c2 := []) co_L lo_L rfl rfl (by decide +kernel)) (fun _ => rfl) ?_ (fun kx => List.forall_mem_cons.mpr ⟨⟨1, (y_vs 1 y_ri ["java/lang/IllegalArgumentException", "java/lang/IllegalStateException"]), rfl, y_coV (ct_X6_people l h9) wk_people kb_X6_people kv_L_74 ko_X6 (Nat.le_of_ble_eq_true rfl) (by decide) (by decide)⟩, List.forall_mem_cons.mpr ⟨⟨1, (y_vs 2 y_ri ["java/lang/IndexOutOfBoundsException", "java/lang/IllegalArgumentException", "java/lang/IllegalStateException"]), rfl, y_coV (ct_X6_person l h9) wk_person kb_X6_person kv_L_77 ko_X6 (Nat.le_of_ble_eq_true rfl) (by decide) (by decide)⟩, List.forall_mem_cons.mpr ⟨⟨1, (y_vs 3 y_ri ["java/lang/IndexOutOfBoundsException"]), rfl, y_coV (ct_X6_root l h9) wk_root kb_X6_root kv_L_80 ko_X6 (Nat.le_of_ble_eq_true rfl) (by decide) (by decide)⟩, List.forall_mem_cons.mpr ⟨⟨1, (y_vs 2 y_ri ["java/lang/IndexOutOfBoundsException", "java/lang/IllegalArgumentException"]), rfl, y_coV (ct_X6_adopt l h9) wk_adopt kb_X6_adopt kv_L_84 ko_X6 (Nat.le_of_ble_eq_true rfl) (by decide) (by decide)⟩, List.forall_mem_cons.mpr ⟨⟨1, (y_vs 1 y_ri ["java/lang/IndexOutOfBoundsException", "java/lang/IllegalStateException"]), rfl, y_coV (ct_X6_raise l h9) wk_raise kb_X6_raise kv_L_87 ko_X6 (Nat.le_of_ble_eq_true rfl) (by decide) (by decide)⟩, List.forall_mem_cons.mpr ⟨⟨1, (y_vs 1 (y_rn 6) ["java/lang/IndexOutOfBoundsException"]), rfl, y_coV (ct_X6_members l h9) wk_members kb_X6_members kv_L_90 ko_X6 (Nat.le_of_ble_eq_true rfl) (by decide) (by decide)⟩, List.forall_mem_cons.mpr ⟨⟨1, (y_vs 1 y_ri ["java/lang/IndexOutOfBoundsException", "java/lang/IllegalStateException"]), rfl, y_coV (ct_X6_story l h9) wk_story kb_X6_story kv_L_93 ko_X6 (Nat.le_of_ble_eq_true rfl) (by decide) (by decide)⟩, List.forall_mem_cons.mpr ⟨⟨1, (y_vs 3 y_ri ["java/lang/IndexOutOfBoundsException", "java/lang/IllegalArgumentException", "java/lang/IllegalStateException"]), rfl, y_coV (ct_X6_part l h9) wk_part kb_X6_part kv_L_96 ko_X6 (Nat.le_of_ble_eq_true rfl) (by decide) (by decide)⟩, List.forall_mem_cons.mpr ⟨⟨1, (y_vs 3 y_ri ["java/lang/IndexOutOfBoundsException"]), rfl, y_coV (ct_X6_hears l h9) wk_hears kb_X6_hears kv_L_99 ko_X6 (Nat.le_of_ble_eq_true rfl) (by decide) (by decide)⟩, List.forall_mem_cons.mpr ⟨⟨1, (y_vs 1 y_ri ["java/lang/IndexOutOfBoundsException"]), rfl, y_coV (ct_X6_told l h9) wk_told kb_X6_told kv_L_102 ko_X6 (Nat.le_of_ble_eq_true rfl) (by decide) (by decide)⟩, List.forall_mem_cons.mpr ⟨⟨1, (y_vs 3 y_ri ["java/lang/IndexOutOfBoundsException", "java/lang/IllegalArgumentException", "java/lang/IllegalStateException"]), rfl, y_coV (ct_X6_explain l h9) wk_explain kb_X6_explain kv_L_105 ko_X6 (Nat.le_of_ble_eq_true rfl) (by decide) (by decide)⟩, List.forall_mem_cons.mpr ⟨⟨1, (y_vs 2 y_ri ["java/lang/IndexOutOfBoundsException"]), rfl, y_coV (ct_X6_isProved l h9) wk_isProved kb_X6_isProved kv_L_108 ko_X6 (Nat.le_of_ble_eq_true rfl) (by decide) (by decide)⟩, List.forall_mem_cons.mpr ⟨⟨1, (y_vs 2 y_ri ["java/lang/IndexOutOfBoundsException"]), rfl, y_coV (ct_X6_voids l h9) wk_voids kb_X6_voids kv_L_112 ko_X6 (Nat.le_of_ble_eq_true rfl) (by decide) (by decide)⟩, List.forall_mem_cons.mpr ⟨⟨1, (y_vs 1 y_ri ["java/lang/IndexOutOfBoundsException", "java/lang/IllegalStateException"]), rfl, y_coV (ct_X6_giveUp l h9) wk_giveUp kb_X6_giveUp kv_L_116 ko_X6 (Nat.le_of_ble_eq_true rfl) (by decide) (by decide)⟩, List.forall_mem_cons.mpr ⟨⟨1, (y_vs 2 y_ri ["java/lang/IndexOutOfBoundsException", "java/lang/IllegalArgumentException"]), rfl, y_coV (ct_X6_left l h9) wk_left kb_X6_left kv_L_119 ko_X6 (Nat.le_of_ble_eq_true rfl) (by decide) (by decide)⟩, List.forall_mem_cons.mpr ⟨⟨1, (y_vs 2 y_ri ["java/lang/IndexOutOfBoundsException", "java/lang/IllegalArgumentException"]), rfl, y_coV (ct_X6_leftAnew l h9) wk_leftAnew kb_X6_leftAnew kv_L_122 ko_X6 (Nat.le_of_ble_eq_true rfl) (by decide) (by decide)⟩, fun _ h => absurd h List.not_mem_nil⟩⟩⟩⟩⟩⟩⟩⟩⟩⟩⟩⟩⟩⟩⟩⟩) ?_
  · intro as g Po Px h
    unfold sx_early at h
    split at h
    · exact Nat.le_of_ble_eq_true rfl
    · exact h.elim
  · intro as g Po Px h V hV hW
    unfold sx_early at h
    split at h
    · rename_i o how a b c
      obtain ⟨ho, hpo, hpx⟩ := h
      refine hV [] 145 0 _ _ _ _ ?_
      refine ⟨fun h1 => ?_, fun h1 => ?_⟩
      · refine ⟨fun h2 => ?_, fun h2 => ?_⟩
        · refine ⟨fun h3 => ?_, fun h3 => ?_⟩
          · refine ⟨fun h4 => ?_, fun h4 => ?_⟩
            · refine ⟨fun h5 => ?_, fun h5 => ?_⟩
              · refine ⟨fun h6 => ?_, fun h6 => ?_⟩
                · refine ⟨fun h7 => ?_, fun h7 => ?_⟩
                  · refine ⟨fun h8 => ?_, fun h8 => ?_⟩
                    · refine ⟨fun h9 => ?_, fun h9 => ?_⟩
                      · refine ⟨fun h10 => ?_, fun h10 => ?_⟩
                        · refine ⟨fun h11 => ?_, fun h11 => ?_⟩
                          · refine ⟨fun h12 => ?_, fun h12 => ?_⟩
                            · refine ⟨fun h13 => ?_, fun h13 => ?_⟩
                              · refine ⟨fun h14 => ?_, fun h14 => ?_⟩
                                · refine ⟨fun h15 => ?_, fun h15 => ?_⟩
                                  · refine ⟨by decide, ho, rfl, rfl, fun v9 h16 => ?_, fun E hE => ?_⟩
                                    rotate_left
                                    · exact hpx E ((by decide +kernel : ∀ E ∈ ["java/lang/IndexOutOfBoundsException", "java/lang/IllegalArgumentException"], E ∈ z_cas) E hE)
                                    obtain ⟨x16, rfl⟩ := h16
                                    exact ⟨by decide, hpo _ (fun e => absurd e h6)⟩
                                  · refine ⟨by decide, ho, rfl, rfl, fun v9 h17 => ?_, fun E hE => ?_⟩
                                    rotate_left
                                    · exact hpx E ((by decide +kernel : ∀ E ∈ ["java/lang/IndexOutOfBoundsException", "java/lang/IllegalArgumentException"], E ∈ z_cas) E hE)
                                    obtain ⟨x17, rfl⟩ := h17
                                    exact ⟨by decide, hpo _ (fun e => absurd (h15.symm.trans e) (by decide))⟩
                                · refine ⟨by decide, ho, rfl, rfl, fun v9 h18 => ?_, fun E hE => ?_⟩
                                  rotate_left
                                  · exact hpx E ((by decide +kernel : ∀ E ∈ ["java/lang/IndexOutOfBoundsException", "java/lang/IllegalStateException"], E ∈ z_cas) E hE)
                                  obtain ⟨x18, rfl⟩ := h18
                                  exact ⟨by decide, hpo _ (fun e => absurd (h14.symm.trans e) (by decide))⟩
                              · refine ⟨fun h19 => ?_, fun h19 => ?_⟩
                                · refine ⟨by decide, ho, rfl, rfl, fun v9 h20 => ?_, fun E hE => ?_⟩
                                  rotate_left
                                  · exact hpx E ((by decide +kernel : ∀ E ∈ ["java/lang/IndexOutOfBoundsException"], E ∈ z_cas) E hE)
                                  obtain ⟨x20, rfl⟩ := h20
                                  refine ⟨fun h21 => ?_, fun h21 => ?_⟩
                                  · exact ⟨by decide, hpo _ (fun e => absurd (h13.symm.trans e) (by decide))⟩
                                  · exact ⟨by decide, hpo _ (fun e => absurd (h13.symm.trans e) (by decide))⟩
                                · refine ⟨by decide, ho, rfl, rfl, fun v9 h22 => ?_, fun E hE => ?_⟩
                                  rotate_left
                                  · exact hpx E ((by decide +kernel : ∀ E ∈ ["java/lang/IndexOutOfBoundsException"], E ∈ z_cas) E hE)
                                  obtain ⟨x22, rfl⟩ := h22
                                  refine ⟨fun h23 => ?_, fun h23 => ?_⟩
                                  · exact ⟨by decide, hpo _ (fun e => absurd (h13.symm.trans e) (by decide))⟩
                                  · exact ⟨by decide, hpo _ (fun e => absurd (h13.symm.trans e) (by decide))⟩
                            · refine ⟨by decide, ho, rfl, rfl, fun v9 h24 => ?_, fun E hE => ?_⟩
                              rotate_left
                              · exact hpx E ((by decide +kernel : ∀ E ∈ ["java/lang/IndexOutOfBoundsException"], E ∈ z_cas) E hE)
                              obtain ⟨x24, rfl⟩ := h24
                              refine ⟨fun h25 => ?_, fun h25 => ?_⟩
                              · exact ⟨by decide, hpo _ (fun e => absurd (h12.symm.trans e) (by decide))⟩
                              · exact ⟨by decide, hpo _ (fun e => absurd (h12.symm.trans e) (by decide))⟩
                          · refine ⟨by decide, ho, rfl, rfl, fun v9 h26 => ?_, fun E hE => ?_⟩
                            rotate_left
                            · exact hpx E ((by decide +kernel : ∀ E ∈ ["java/lang/IndexOutOfBoundsException", "java/lang/IllegalArgumentException", "java/lang/IllegalStateException"], E ∈ z_cas) E hE)
                            obtain ⟨x26, rfl⟩ := h26
                            exact ⟨by decide, hpo _ (fun e => absurd (h11.symm.trans e) (by decide))⟩
                        · refine ⟨by decide, ho, rfl, rfl, fun v9 h27 => ?_, fun E hE => ?_⟩
                          rotate_left
                          · exact hpx E ((by decide +kernel : ∀ E ∈ ["java/lang/IndexOutOfBoundsException"], E ∈ z_cas) E hE)
                          obtain ⟨x27, rfl⟩ := h27
                          exact ⟨by decide, hpo _ (fun e => absurd (h10.symm.trans e) (by decide))⟩
                      · refine ⟨by decide, ho, rfl, rfl, fun v9 h28 => ?_, fun E hE => ?_⟩
                        rotate_left
                        · exact hpx E ((by decide +kernel : ∀ E ∈ ["java/lang/IndexOutOfBoundsException"], E ∈ z_cas) E hE)
                        obtain ⟨x28, rfl⟩ := h28
                        exact ⟨by decide, hpo _ (fun e => absurd (h9.symm.trans e) (by decide))⟩
                    · refine ⟨by decide, ho, rfl, rfl, fun v9 h29 => ?_, fun E hE => ?_⟩
                      rotate_left
                      · exact hpx E ((by decide +kernel : ∀ E ∈ ["java/lang/IndexOutOfBoundsException", "java/lang/IllegalArgumentException", "java/lang/IllegalStateException"], E ∈ z_cas) E hE)
                      obtain ⟨x29, rfl⟩ := h29
                      exact ⟨by decide, hpo _ (fun e => absurd (h8.symm.trans e) (by decide))⟩
                  · refine ⟨by decide, ho, rfl, rfl, fun v9 h30 => ?_, fun E hE => ?_⟩
                    rotate_left
                    · exact hpx E ((by decide +kernel : ∀ E ∈ ["java/lang/IndexOutOfBoundsException", "java/lang/IllegalStateException"], E ∈ z_cas) E hE)
                    obtain ⟨x30, rfl⟩ := h30
                    exact ⟨by decide, hpo _ (fun e => absurd (h7.symm.trans e) (by decide))⟩
                · refine ⟨by decide, ho, rfl, rfl, fun v9 h31 => ?_, fun E hE => ?_⟩
                  rotate_left
                  · exact hpx E ((by decide +kernel : ∀ E ∈ ["java/lang/IndexOutOfBoundsException"], E ∈ z_cas) E hE)
                  obtain ⟨⟨x31, rfl⟩, h31⟩ := h31
                  exact ⟨by decide, hpo _ (fun _ => h31)⟩
              · refine ⟨by decide, ho, rfl, rfl, fun v9 h32 => ?_, fun E hE => ?_⟩
                rotate_left
                · exact hpx E ((by decide +kernel : ∀ E ∈ ["java/lang/IndexOutOfBoundsException", "java/lang/IllegalStateException"], E ∈ z_cas) E hE)
                obtain ⟨x32, rfl⟩ := h32
                exact ⟨by decide, hpo _ (fun e => absurd (h5.symm.trans e) (by decide))⟩
            · refine ⟨by decide, ho, rfl, rfl, fun v9 h33 => ?_, fun E hE => ?_⟩
              rotate_left
              · exact hpx E ((by decide +kernel : ∀ E ∈ ["java/lang/IndexOutOfBoundsException", "java/lang/IllegalArgumentException"], E ∈ z_cas) E hE)
              obtain ⟨x33, rfl⟩ := h33
              exact ⟨by decide, hpo _ (fun e => absurd (h4.symm.trans e) (by decide))⟩
          · refine ⟨fun h34 => ?_, fun h34 => ?_⟩
            · refine ⟨by decide, ho, rfl, rfl, fun v9 h35 => ?_, fun E hE => ?_⟩
              rotate_left
              · exact hpx E ((by decide +kernel : ∀ E ∈ ["java/lang/IndexOutOfBoundsException"], E ∈ z_cas) E hE)
              obtain ⟨x35, rfl⟩ := h35
              exact ⟨by decide, hpo _ (fun e => absurd (h3.symm.trans e) (by decide))⟩
            · refine ⟨by decide, ho, rfl, rfl, fun v9 h36 => ?_, fun E hE => ?_⟩
              rotate_left
              · exact hpx E ((by decide +kernel : ∀ E ∈ ["java/lang/IndexOutOfBoundsException"], E ∈ z_cas) E hE)
              obtain ⟨x36, rfl⟩ := h36
              exact ⟨by decide, hpo _ (fun e => absurd (h3.symm.trans e) (by decide))⟩
        · refine ⟨by decide, ho, rfl, rfl, fun v9 h37 => ?_, fun E hE => ?_⟩
          rotate_left
          · exact hpx E ((by decide +kernel : ∀ E ∈ ["java/lang/IndexOutOfBoundsException", "java/lang/IllegalArgumentException", "java/lang/IllegalStateException"], E ∈ z_cas) E hE)
          obtain ⟨x37, rfl⟩ := h37
          exact ⟨by decide, hpo _ (fun e => absurd (h2.symm.trans e) (by decide))⟩
      · refine ⟨by decide, ho, rfl, rfl, fun v9 h38 => ?_, fun E hE => ?_⟩
        rotate_left
        · exact hpx E ((by decide +kernel : ∀ E ∈ ["java/lang/IllegalArgumentException", "java/lang/IllegalStateException"], E ∈ z_cas) E hE)
        obtain ⟨x38, rfl⟩ := h38
        exact ⟨by decide, hpo _ (fun e => absurd (h1.symm.trans e) (by decide))⟩
    · exact h.elim
def sx_votes : y_SX := fun as g k kx => match as with
  | [.ref o, .int _, .int _, .int _] => Nat.blt o 2 = true ∧ (∀ r : Int32, k (some (.int r)) g) ∧ ∀ E ∈ z_cas, kx E (g + 1)
  | _ => False
def CL_votes : List (Nat × Instr × Nat × Nat) := [(0, .aload_n 0, 1, 0), (1, .iload_n 1, 2, 0), (2, .iload_n 2, 3, 0), (3, .iload_n 3, 4, 0), (4, .invokevirtual 125, 7, 0), (7, .iconst 0, 8, 0), (8, .ireturn, 9, 0)]
def GL_votes (kx : String → Nat → Nat → Prop) : y_G := (CL_votes, [(125, 4, y_cs 1 1 (y_vs 3 y_rv ["java/lang/IndexOutOfBoundsException", "java/lang/IllegalStateException"]) kx)], [], [], some .int)
set_option maxRecDepth 20000 in
set_option maxHeartbeats 8000000 in
theorem cy_votes (l : Launch) (h9 : l.stackTraces = false) : y_CX l yL_votes cL_votes 4 (some .int) (none) sx_votes 7 191 1 := by
  refine y_CX_of (GL_votes) 9 (by decide) (fun _ => y_cok_of (code := CL_votes) rfl (by decide +kernel)) (fun _ => y_pok_of (c1 := []) (c2 := []) co_L lo_L rfl rfl (by decide +kernel)) (fun _ => rfl) ?_ (fun kx => List.forall_mem_cons.mpr ⟨⟨1, (y_vs 3 y_rv ["java/lang/IndexOutOfBoundsException", "java/lang/IllegalStateException"]), rfl, y_coV (ct_X6_vote l h9) wk_vote kb_X6_vote kv_L_125 ko_X6 (Nat.le_of_ble_eq_true rfl) (by decide) (by decide)⟩, fun _ h => absurd h List.not_mem_nil⟩) ?_
  · intro as g Po Px h
    unfold sx_votes at h
    split at h
    · exact Nat.le_of_ble_eq_true rfl
    · exact h.elim
  · intro as g Po Px h V hV hW
    unfold sx_votes at h
    split at h
    · rename_i o a b c
      obtain ⟨ho, hpo, hpx⟩ := h
      refine hV [] 12 0 _ _ _ _ ?_
      refine ⟨by decide, ho, rfl, rfl, fun v9 h1 => ?_, fun E hE => ?_⟩
      rotate_left
      · exact hpx E ((by decide +kernel : ∀ E ∈ ["java/lang/IndexOutOfBoundsException", "java/lang/IllegalStateException"], E ∈ z_cas) E hE)
      have h1 : v9 = none := h1
      subst h1
      exact ⟨by decide, hpo _⟩
    · exact h.elim
def sx_objects : y_SX := fun as g k kx => match as with
  | [.ref o, .int _, .int _] => Nat.blt o 2 = true ∧ (∀ r : Int32, k (some (.int r)) g) ∧ ∀ E ∈ z_cas, kx E (g + 1)
  | _ => False
def CL_objects : List (Nat × Instr × Nat × Nat) := [(0, .aload_n 0, 1, 0), (1, .iload_n 1, 2, 0), (2, .iload_n 2, 3, 0), (3, .invokevirtual 129, 6, 0), (6, .iconst 0, 7, 0), (7, .ireturn, 8, 0)]
def GL_objects (kx : String → Nat → Nat → Prop) : y_G := (CL_objects, [(129, 3, y_cs 1 1 (y_vs 2 y_rv ["java/lang/IndexOutOfBoundsException", "java/lang/IllegalStateException"]) kx)], [], [], some .int)
set_option maxRecDepth 20000 in
set_option maxHeartbeats 8000000 in
theorem cy_objects (l : Launch) (h9 : l.stackTraces = false) : y_CX l yL_objects cL_objects 3 (some .int) (none) sx_objects 7 190 1 := by
  refine y_CX_of (GL_objects) 8 (by decide) (fun _ => y_cok_of (code := CL_objects) rfl (by decide +kernel)) (fun _ => y_pok_of (c1 := []) (c2 := []) co_L lo_L rfl rfl (by decide +kernel)) (fun _ => rfl) ?_ (fun kx => List.forall_mem_cons.mpr ⟨⟨1, (y_vs 2 y_rv ["java/lang/IndexOutOfBoundsException", "java/lang/IllegalStateException"]), rfl, y_coV (ct_X6_object l h9) wk_object kb_X6_object kv_L_129 ko_X6 (Nat.le_of_ble_eq_true rfl) (by decide) (by decide)⟩, fun _ h => absurd h List.not_mem_nil⟩) ?_
  · intro as g Po Px h
    unfold sx_objects at h
    split at h
    · exact Nat.le_of_ble_eq_true rfl
    · exact h.elim
  · intro as g Po Px h V hV hW
    unfold sx_objects at h
    split at h
    · rename_i o a b
      obtain ⟨ho, hpo, hpx⟩ := h
      refine hV [] 11 0 _ _ _ _ ?_
      refine ⟨by decide, ho, rfl, rfl, fun v9 h1 => ?_, fun E hE => ?_⟩
      rotate_left
      · exact hpx E ((by decide +kernel : ∀ E ∈ ["java/lang/IndexOutOfBoundsException", "java/lang/IllegalStateException"], E ∈ z_cas) E hE)
      have h1 : v9 = none := h1
      subst h1
      exact ⟨by decide, hpo _⟩
    · exact h.elim
end
