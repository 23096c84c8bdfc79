
/-! the law's own methods: one call under handlers -/
abbrev z_HS : Type := String × Nat × Instr × Nat
def z_ast (cc : ByteArray) (hp maxL : Nat) (ins : Instr) (w : Nat) : Bool := match ins with
  | .astore i => decide (w = 2) && decide (decode cc hp = .ok (.astore i, 2)) && decide (i < maxL)
  | .astore_n k => decide (w = 1) && decide (decode cc hp = .ok (.astore_n k, 1)) && decide ((k : Nat) < maxL)
  | _ => false
/-- one handler: it stands in the table, lets in what it names, stores it and answers a number -/
def z_h1 (own : String) (cc : ByteArray) (cpc maxL : Nat) (a : Nat × Nat × Nat × Nat) (q : z_HS) : Bool :=
  decide (a.1 ≤ cpc ∧ cpc < a.2.1) && decide (a.2.2.2 ≠ 0) && decide (Jvm.Cond.classLink own a.2.2.2 q.1 ∈ z_T) && decide (q.1 ∈ z_cas) && z_ast cc a.2.2.1 maxL q.2.2.1 q.2.2.2 && decide (decode cc (a.2.2.1 + q.2.2.2) = .ok (.iconst (q.2.1 : Nat), 1)) && decide (decode cc (a.2.2.1 + q.2.2.2 + 1) = .ok (.ireturn, 1))
/-- handlers one behind the other; pre are those before -/
def z_hk (own : String) (cc : ByteArray) (cpc maxL : Nat) : List String → List (Nat × Nat × Nat × Nat) → List z_HS → Bool
  | _, [], [] => true
  | pre, a :: hh, q :: hs => z_h1 own cc cpc maxL a q && pre.all (fun E => decide ((q.1, E) ∈ z_ncs)) && z_hk own cc cpc maxL (pre ++ [q.1]) hh hs
  | _, _, _ => false
def z_CW (l : Launch) (y : MethodName) (b : ByteArray) (maxL : Nat) (hh : List (Nat × Nat × Nat × Nat)) (sp : z_SP) (d : Nat) : Prop :=
  ∀ (D : va_G) (cI cZ cJ : ClassId) (ad : Nat → Nat) (sz : Nat) (as : List Value) (S : z_MI) (P : z_ML) (Po : z_PO), z_inj ad → z_rs as = true → sp as S P Po → vx_Met l y (Jvm.Cond.codeWith y b maxL (some .int) hh :: z_T) (z_rmX d) (va_Pc (z_ts ad as) (z_Pr D cI cZ cJ ad sz S P)) (z_Q D cI cZ cJ ad sz Po) (z_XC D cI cZ cJ ad sz (fun _ _ _ => False)) 1 6 (z_AA ad sz)
theorem z_cov {x : ExceptionTableEntry} {pc : Nat} (h : x.startPc ≤ pc ∧ pc < x.endPc) : covers x pc = true := by
  simp [covers, h.1, h.2]
section ZCW
variable {p : Program} {l : Launch} {e : Env} {R : Room} {s : State} {m : MethodId} {args : Array Value} {below : List Frame} {meth : Method} {c : Code} {cells slots : Nat} {Q : State → Prop} {cc : ByteArray} {nL : Nat} {own : String} {H : Heap} {locs : List Loc}
/-- what was thrown is stored -/
theorem z_ast_W {ins : Instr} {w hp : Nat} {lv : List (Nat × Value)} {ls : Array Slot} {q : Nat} (hexec : p.tables.exec = Jvm.exec) (hb : c.code = cc) (h : z_ast cc hp nL ins w = true) (hl : lv_has ls nL lv) (k : ∀ ls' : Array Slot, W p l e R s m args below meth c H locs cells slots Q (F0 m (hp + w) ls' [])) : W p l e R s m args below meth c H locs cells slots Q (F0 m hp ls [.ref q]) := by
  unfold z_ast at h
  split at h
  · simp only [Bool.and_eq_true, decide_eq_true_eq] at h
    obtain ⟨⟨rfl, h2⟩, h3⟩ := h
    exact lv_astore hexec hb h2 hl h3 rfl (fun ls' _ => k ls')
  · simp only [Bool.and_eq_true, decide_eq_true_eq] at h
    obtain ⟨⟨rfl, h2⟩, h3⟩ := h
    exact lv_astore_n hexec hb h2 rfl hl h3 rfl (fun ls' _ => k ls')
  · cases h
/-- the handlers of a call: what is thrown comes to the first that lets it in -/
theorem z_hk_W {cpc : Nat} {lv : List (Nat × Value)} {ls : Array Slot} {q : Addr} {ce : Cell} {rest : List Value} {D : va_G} {cI cZ cJ : ClassId} {ad : Nat → Nat} {A : Nat → Prop} (hexec : p.tables.exec = Jvm.exec) (hb : c.code = cc) (hown : s.vm.findClass own = some m.cls) (hts : ∀ w ∈ z_T, w.before args s = true) (hE : z_E D cI cZ cJ ad A s) (hl : lv_has ls nL lv) (hcell : H[q]? = some ce) (hv : ce.vm = .none) :
    ∀ (hh : List (Nat × Nat × Nat × Nat)) (hs : List z_HS) (pre : List String) (et pe : List ExceptionTableEntry), c.exceptionTable.toList = pe ++ et → et.map (fun h => (h.startPc, h.endPc, h.handlerPc, h.catchType)) = hh → (∀ z ∈ pe, z.catchType ≠ 0 ∧ ∃ nm ∈ pre, (Jvm.Cond.classLink own z.catchType nm).before args s = true) → z_hk own cc cpc nL pre hh hs = true → ∀ r ∈ hs, s.vm.findClass r.1 = some ce.cls → (∀ (ls' : Array Slot) (hp : Nat), decode cc hp = .ok (.ireturn, 1) → W p l e R s m args below meth c H locs cells slots Q (F0 m hp ls' [.int (nI r.2.1)])) → vx_W p l e R s m args below meth c H locs cells slots Q (F0 m cpc ls rest) q := by
  intro hh
  induction hh with
  | nil =>
    intro hs pre et pe _ _ _ hk r hr
    cases hs with
    | nil => cases hr
    | cons _ _ => cases hk
  | cons a hh ih =>
    intro hs pre et pe hsp hmap hpe hk r hr hcl kk
    cases hs with
    | nil => cases hr
    | cons q0 hs =>
      cases et with
      | nil => cases hmap
      | cons x et =>
        rw [List.map_cons, List.cons.injEq] at hmap
        obtain ⟨ha, hmap⟩ := hmap
        subst ha
        unfold z_hk at hk
        simp only [Bool.and_eq_true] at hk
        obtain ⟨⟨h1, h2⟩, h3⟩ := hk
        have h1' := h1
        simp only [z_h1, Bool.and_eq_true, decide_eq_true_eq] at h1
        obtain ⟨⟨⟨⟨⟨⟨g1, g2⟩, g3⟩, g4⟩, g5⟩, g6⟩, g7⟩ := h1
        rcases List.mem_cons.mp hr with rfl | hr
        · refine vx_catch (own := own) (name := r.1) (E := r.1) (ce := ce) hown pe x et hsp (fun z hz => Or.inr ?_) (z_cov g1) g2 (hts _ g3) (va_Nw.use rfl (hE.2.2.2.2.2.2.2.2.1 _ g4)) hcell hv hcl ?_
          · obtain ⟨hz0, nm, hnm, hz1⟩ := hpe z hz
            exact ⟨hz0, nm, hz1, hE.2.2.2.2.2.2.2.1 _ (of_decide_eq_true (List.all_eq_true.mp h2 nm hnm))⟩
          · refine z_ast_W hexec hb g5 hl (fun ls' => ?_)
            exact lv_iconst hexec hb g6 (by first | rfl | simp [nI]) (kk ls' _ g7)
        · refine ih hs (pre ++ [q0.1]) et (pe ++ [x]) (by rw [hsp]; simp) hmap (fun z hz => ?_) h3 r hr hcl kk
          rcases List.mem_append.mp hz with hz | hz
          · obtain ⟨hz0, nm, hnm, hz1⟩ := hpe z hz
            exact ⟨hz0, nm, List.mem_append_left _ hnm, hz1⟩
          · rw [List.mem_singleton] at hz
            subst hz
            exact ⟨g2, q0.1, List.mem_append_right _ List.mem_cons_self, hts _ g3⟩
end ZCW
set_option maxHeartbeats 2000000 in
theorem z_CW_of {l : Launch} {y : MethodName} {b : ByteArray} {maxL : Nat} {hh : List (Nat × Nat × Nat × Nat)} {sp : z_SP} {d : Nat} (G : z_G) (hs : List z_HS) (cpc idx n o : Nat) {yx : MethodName} {bx : ByteArray} {mx dx : Nat} {rx : Option FieldType} {sx : z_SX} (cx : z_CX l yx bx mx rx sx dx) (hB : z_kB yx bx mx rx n = true) (hV : z_kV y.cls idx yx = true) (hO : z_kO o yx.cls = true) (hd1 : dx + 1 ≤ d) (hd2 : 8 + (mx + 11) + 28 * dx ≤ 28 * d)
    (hpl : plainName y.cls = true) (hco : z_cok b maxL G = true) (hpo : z_pok y.cls G = true) (hrt : z_rt G = some .int) (hth : z_th G = []) (hcm : z_cm G = []) (hdec : decode b cpc = .ok (.invokevirtual idx, 3)) (hhk : z_hk y.cls b cpc maxL [] hh hs = true)
    (hlen : ∀ as S P Po, sp as S P Po → z_cs as ≤ maxL)
    (body : ∀ (as : List Value) (S : z_MI) (P : z_ML) (Po : z_PO), sp as S P Po → ∀ V0 V1 : z_KT, (∀ (cuts : List Nat) (n pc : Nat) (lv : z_LV) (st : List Value) (S : z_MI) (P : z_ML), z_wp G Po (fun _ _ _ => False) none cuts V0 n pc lv st S P → V0 pc lv st S P) → (∀ (cuts : List Nat) (n pc : Nat) (lv : z_LV) (st : List Value) (S : z_MI) (P : z_ML), z_wp G Po (fun _ _ _ => False) none cuts V1 n pc lv st S P → V1 pc lv st S P) →
      (∀ (lv : z_LV) (as r : List Value) (S : z_MI) (P : z_ML), as.length = n → z_cs r ≤ 8 → sx (.ref o :: as) S P (fun v S' P' => V1 (cpc + 3) lv (v.toList ++ r) S' P') (fun E S' P' => ∃ q ∈ hs, q.1 = E ∧ Po (some (.int (nI q.2.1))) S' P') → V0 cpc lv ((.ref o :: as).reverse ++ r) S P) → V0 0 (lv_args 0 as) [] S P) : z_CW l y b maxL hh sp d := by
  intro D cI cZ cJ ad sz as S P Po hinj hras hsp
  refine vx_ofWH (cc := b) (maxL := maxL) (ret := some .int) (hh := hh) hpl rfl ?_
  intro p e s m args below meth c s₁ B hml hv
  obtain ⟨rfl, hsz, hP, hE⟩ := hv
  subst hsz
  have hts0 := atoms_spec (ws := Jvm.Cond.codeWith y b maxL (some .int) hh :: z_T) B.pre
  have hown : s.vm.findClass y.cls = some m.cls := findClass_of_methodNamed B.named
  have hr := B.returns
  have hlk := B.notSynchronized
  have htab : c.exceptionTable.toList.map (fun h => (h.startPc, h.endPc, h.handlerPc, h.catchType)) = hh := by
    obtain ⟨m9, meth9, c9, hn9, h1, h2, -, -, h7, -⟩ := Jvm.Cond.codeWith_spec (hts0 _ List.mem_cons_self)
    cases Option.some.inj (hn9.symm.trans B.named)
    cases Option.some.inj (h1.symm.trans B.method)
    cases Option.some.inj (h2.symm.trans (Stand.of_body B).code)
    exact h7
  have hts : ∀ w ∈ z_T, w.before (z_ts ad as).toArray s = true := fun w hw => hts0 w (List.mem_cons_of_mem _ hw)
  have hC : z_C p s m (z_ts ad as).toArray meth c b maxL y.cls D cI cZ cJ ad (z_AA ad s.heap.size) none :=
    ⟨⟨B.exec, B.bytes, hml, hown, hts⟩, hinj, fun a ha => Or.inl ⟨a, ha, rfl⟩, fun q hq => Or.inr hq, hE, hlk, fun L f h => by cases h⟩
  have hq0 : ∀ (v : Option Value) (S : z_MI) (P : z_ML) (H : Heap) (locs : List Loc), (∀ a, v ≠ some (.ref a)) → Po v S P → va_P D z_cl (z_w cI cZ cJ ad S P) H → va_S (z_AA ad s.heap.size) s.heap H locs → ∀ t : State, t.heap = H → s.WarmedH t.vm → z_Q D cI cZ cJ ad s.heap.size Po (z_ts ad as).toArray s (.returned v) t :=
    fun v S P H locs hn hp hP hS t ht _ => ⟨⟨v, S, P, rfl, hn, hp, by rw [ht]; exact hP⟩, hS.F ht⟩
  have hi1 : ∀ (cells slots : Nat), cells ≤ 1 → slots ≤ 6 → ∀ (pc : Nat) (H : Heap) (locs : List Loc) (ls : Array Slot) (v : Int32) (S : z_MI) (P : z_ML), decode b pc = .ok (.ireturn, 1) → Po (some (.int v)) S P → va_P D z_cl (z_w cI cZ cJ ad S P) H → va_S (z_AA ad s.heap.size) s.heap H locs → W p l e (headSpec (Jvm.Cond.codeWith y b maxL (some .int) hh :: z_T) (z_rmX d)).room s m (z_ts ad as).toArray below meth c H locs cells slots (vx_MQ below (z_Q D cI cZ cJ ad s.heap.size Po) (z_XC D cI cZ cJ ad s.heap.size (fun _ _ _ => False)) (z_ts ad as).toArray s 1 6 (z_AA ad s.heap.size)) (F0 m pc ls [.int v]) :=
    fun cells slots h1 h2 pc H locs ls v S P hd hp hP hS => vx_ret (W.widen (k := 1) (n := 6) h1 h2 (W.iret B.exec B.bytes hr (hq0 _ S P H locs (fun a h => by cases h) hp hP hS) hS.2.2 hd))
  have hH : ∀ (cells slots : Nat), cells ≤ 1 → slots ≤ 6 → z_H p l e (headSpec (Jvm.Cond.codeWith y b maxL (some .int) hh :: z_T) (z_rmX d)).room s m (z_ts ad as).toArray below meth c cells slots (vx_MQ below (z_Q D cI cZ cJ ad s.heap.size Po) (z_XC D cI cZ cJ ad s.heap.size (fun _ _ _ => False)) (z_ts ad as).toArray s 1 6 (z_AA ad s.heap.size)) maxL D cI cZ cJ ad (z_AA ad s.heap.size) b G Po (fun _ _ _ => False) := by
    intro cells slots h1 h2
    refine ⟨?_, ?_, ?_, ?_, ?_⟩
    · intro pc H locs ls v S P hd _ hp hP hS
      exact hi1 cells slots h1 h2 pc H locs ls v S P hd hp hP hS
    · intro pc H locs ls v S P hd hv hp hP hS
      rw [hrt] at hv
      cases hv
    · intro pc H locs ls S P hd hv hp hP hS
      rw [hrt] at hv
      cases hv
    · intro pc E lv S P hf hp
      rw [hth] at hf
      cases hf
    · intro pc i j n sp' as' r lv S P k hd hf
      rw [hcm] at hf
      cases hf
  have hb := body as S P Po hsp _ _ (fun cuts n pc lv st S P h => z_sound (cuts := cuts) hC (hH 0 0 (by omega) (by omega)) hco hpo (fun _ _ _ _ _ h => h) n pc lv st S P h) (fun cuts n pc lv st S P h => z_sound (cuts := cuts) hC (hH 1 6 (by omega) (by omega)) hco hpo (fun _ _ _ _ _ h => h) n pc lv st S P h) (fun lv as' r S' P' hn hr' hsx => z_callX cx hB hV hO hC hd1 hd2 (Nat.le_refl _) (Nat.le_refl _) hdec hn hr' hsx (fun v S'' P'' _ hk => hk) (fun E S'' P'' hk H locs ls q ce hP9 hS9 hl9 hcell hcv hcls => by
    obtain ⟨r9, hr9, rfl, hpo9⟩ := hk
    exact z_hk_W B.exec B.bytes hown hts hE hl9 hcell hcv hh hs [] _ [] rfl htab (fun z hz => by cases hz) hhk r9 hr9 hcls (fun ls' hp hdp => hi1 _ _ (by omega) (by omega) hp H locs ls' _ S'' P'' hdp hpo9 hP9 hS9)))
  have hl := lv_entry (z_ts ad as) (n := maxL) (by rw [z_sllen]; exact hlen _ _ _ _ hsp)
  rw [lg_entry_eq]
  generalize (lg_sl (z_ts ad as) ++ List.replicate (maxL - (lg_sl (z_ts ad as)).length) Slot.unset).toArray = ls at hl ⊢
  rw [z_lvargs] at hl
  exact hb s.heap [] ls hP va_S.rf hl (z_rlargs as 0 hras) rfl

