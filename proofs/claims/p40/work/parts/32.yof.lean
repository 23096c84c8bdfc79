/-! contracts of the law's level out of a walk of its machine -/
def y_cs (MC mc : Nat) (sx : y_SX) (kx : String → Nat → Nat → Prop) : y_SP := fun as g u k => u + mc ≤ MC ∧ sx as g (fun v g' => k v g' (u + mc)) (fun E g' => kx E g' (u + mc))
set_option maxHeartbeats 4000000 in
theorem y_CX_of {l : Launch} {y : MethodName} {b : ByteArray} {maxL : Nat} {ret : Option FieldType} {sx : y_SX} {fr lo mc : Nat} (G : (String → Nat → Nat → Prop) → y_G) (lim : Nat) (hpl : plainName y.cls = true) (hco : ∀ kx, y_cok b maxL lim (G kx) = true) (hpo : ∀ kx, y_pok y.cls (G kx) = true) (hrt : ∀ kx, y_rt (G kx) = ret)
    (hlen : ∀ as g Po Px, sx as g Po Px → z_cs as ≤ maxL) (hcalls : ∀ kx, ∀ q ∈ y_cm (G kx), ∃ (mc' : Nat) (sx' : y_SX), q.2.2 = y_cs mc mc' sx' kx ∧ y_CO l fr lo y.cls q.1 q.2.1 mc' sx')
    (body : ∀ (as : List Value) (g : Nat) (Po : y_PO) (Px : y_PX), sx as g Po Px → ∀ V : y_KT, (∀ (cuts : List Nat) (n pc : Nat) (lv : z_LV) (st : List Value) (g u : Nat), y_wp (G (fun E g _ => Px E g)) mc Po cuts V n pc lv st g u → V pc lv st g u) → (∀ (ks : List Nat) (pc : Nat) (lv : z_LV) (st : List Value) (g u : Nat), V pc (z_keep ks lv) st g u → V pc lv st g u) → V 0 (lv_args 0 as) [] g 0) : y_CX l y b maxL ret none sx fr lo mc := by
  intro D cI cZ cJ ad0 ad1 b9 sz as g Po Px hAdj hsp hg
  show vx_Met l y (Jvm.Cond.code y b maxL ret :: z_T) _ _ _ _ _ _ _
  refine vx_ofW (cc := b) (maxL := maxL) (ret := ret) hpl rfl ?_
  intro p e s m args below meth c s₁ B hml hex hv
  obtain ⟨rfl, hsz, hW, hE⟩ := hv
  subst hsz
  have hts0 := atoms_spec (ws := Jvm.Cond.code y b maxL ret :: z_T) B.pre
  have hown : s.vm.findClass y.cls = some m.cls := findClass_of_methodNamed B.named
  have hr := B.returns
  have hlk := B.notSynchronized
  have hC : y_C p s m (z_ts (y_ad ad0 ad1 b9) as).toArray meth c b maxL y.cls D cI cZ cJ ad0 ad1 (y_AA ad0 ad1 s.heap.size) :=
    ⟨⟨B.exec, B.bytes, hml, hown, fun w hw => hts0 w (List.mem_cons_of_mem _ hw)⟩, hAdj, fun a ha => ⟨Or.inl ⟨a, ha, Or.inl rfl⟩, Or.inl ⟨a, ha, Or.inr rfl⟩⟩, fun q hq => Or.inr hq, hE, hlk⟩
  have hq0 : ∀ (v : Option Value) (g : Nat) (H : Heap) (locs : List Loc), (∀ a, v ≠ some (.ref a)) → Po v g → g ≤ H.size → y_Wd D cI cZ cJ ad0 ad1 H → va_S (y_AA ad0 ad1 s.heap.size) s.heap H locs → ∀ t : State, t.heap = H → s.WarmedH t.vm → y_Q D cI cZ cJ ad0 ad1 s.heap.size Po (z_ts (y_ad ad0 ad1 b9) as).toArray s (.returned v) t :=
    fun v g H locs hn hp hg hW hS t ht _ => ⟨⟨v, g, rfl, hn, hp, by rw [ht]; exact hg, by rw [ht]; exact hW⟩, hS.F ht⟩
  have hH : y_H p l e (headSpec (Jvm.Cond.code y b maxL ret :: z_T) (y_rm fr lo mc)).room s m (z_ts (y_ad ad0 ad1 b9) as).toArray below meth c 0 0 (vx_MQ below (y_Q D cI cZ cJ ad0 ad1 s.heap.size Po) (y_X D cI cZ cJ ad0 ad1 s.heap.size Px) (z_ts (y_ad ad0 ad1 b9) as).toArray s mc (6 * mc) (y_AA ad0 ad1 s.heap.size)) maxL (y_ad ad0 ad1 b9) (y_AA ad0 ad1 s.heap.size) (y_Wd D cI cZ cJ ad0 ad1) b lim (G (fun E g _ => Px E g)) mc Po := by
    refine ⟨?_, ?_, ?_⟩
    · intro pc H locs ls v g u hd hv hu hp hW hg hS
      rcases hv with hv | ⟨hv, hn⟩
      · exact vx_ret (W.widen (k := mc) (n := 6 * mc) (by omega) (by omega) (W.iret B.exec B.bytes (by rw [hr, ← hrt (fun E g _ => Px E g), hv]) (hq0 _ g H locs (fun a h => by cases h) hp hg hW hS) hS.2.2 hd))
      · exact vx_ret (W.widen (k := mc) (n := 6 * mc) (by omega) (by omega) (W.zret B.exec B.bytes (ty := .boolean) (by rw [hr, ← hrt (fun E g _ => Px E g), hv]) hn (hq0 _ g H locs (fun a h => by cases h) hp hg hW hS) hS.2.2 hd))
    · intro pc H locs ls v g u hd hv hu hp hW hg hS
      exact vx_ret (W.widen (k := mc) (n := 6 * mc) (by omega) (by omega) (W.lret B.exec B.bytes (by rw [hr, ← hrt (fun E g _ => Px E g), hv]) (hq0 _ g H locs (fun a h => by cases h) hp hg hW hS) hS.2.2 hd))
    · intro pc i j n sp as' r lv g u k hlm hd hf hn hrr hsp' hK
      obtain ⟨mc', sx', hq, hco'⟩ := hcalls _ _ (z_fnd_mem _ _ _ hf)
      dsimp only at hq hco'
      subst hq
      obtain ⟨hu, hs⟩ := hsp'
      refine hco' p e _ s m _ below meth c 0 0 _ b maxL D cI cZ cJ ad0 ad1 b9 _ pc j as' r lv g u _ _ hC (Nat.le_refl _) (Nat.le_refl _) (by show 0 + u + mc' ≤ mc; omega) (by show 0 + 6 * u + 6 * mc' ≤ 6 * mc; omega) hd hn hrr hs (fun v g' hnr hk => hK v g' _ hnr hk) ?_
      intro E g' hk H locs ls q ce hW hg hS hl hcell hcv hcls
      exact vx_out (fun x hx => (hex x hx).elim) hlk hcell hcv hcls (fun t ht _ => ⟨⟨g', hk, by rw [ht]; exact hg, by rw [ht]; exact hW⟩, hS.F ht⟩) hS.2.2 (by omega) (by omega)
  have hb := body as g Po Px hsp _ (fun cuts n pc lv st g u h => y_sound (cuts := cuts) hC.1 hH (hco _) (hpo _) (fun _ _ _ _ _ h => h) n pc lv st g u h) (fun _ _ _ _ _ _ h => y_V_keep h)
  have hl := lv_entry (z_ts (y_ad ad0 ad1 b9) as) (n := maxL) (by rw [z_sllen]; exact hlen _ _ _ _ hsp)
  rw [lg_entry_eq]
  generalize (lg_sl (z_ts (y_ad ad0 ad1 b9) as) ++ List.replicate (maxL - (lg_sl (z_ts (y_ad ad0 ad1 b9) as)).length) Slot.unset).toArray = ls at hl ⊢
  rw [z_lvargs] at hl
  exact hb s.heap [] ls hW hg va_S.rf hl
/-! methods with handlers: what is thrown is stored, and it goes on -/
abbrev y_HS : Type := String × Nat × Instr × Nat
def y_ast (cc : ByteArray) (hp maxL : Nat) (ins : Instr) (w : Nat) : Bool := match ins with
  | .astore i => decide (w = 2) && decide (decode cc hp = .ok (.astore i, 2)) && decide (i < maxL)
  | .astore_n k => decide (w = 1) && decide (decode cc hp = .ok (.astore_n k, 1)) && decide ((k : Nat) < maxL)
  | _ => false
def y_h1 (own : String) (cc : ByteArray) (lim maxL : Nat) (a : Nat × Nat × Nat × Nat) (q : y_HS) : Bool :=
  decide (a.1 = 0) && decide (lim ≤ a.2.1) && decide (a.2.2.2 ≠ 0) && decide (Jvm.Cond.classLink own a.2.2.2 q.1 ∈ z_T) && decide (q.1 ∈ z_cas) && decide (a.2.2.1 = q.2.1) && y_ast cc q.2.1 maxL q.2.2.1 q.2.2.2
def y_hk (own : String) (cc : ByteArray) (lim maxL : Nat) : List String → List (Nat × Nat × Nat × Nat) → List y_HS → Bool
  | _, [], [] => true
  | pre, a :: hh, q :: hs => y_h1 own cc lim maxL a q && pre.all (fun E => decide ((q.1, E) ∈ z_ncs)) && y_hk own cc lim maxL (pre ++ [q.1]) hh hs
  | _, _, _ => false
section YHW
variable {p : Program} {l : Launch} {e : Env} {R : Room} {s : State} {m : MethodId} {args : Array Value} {below : List Frame} {meth : Method} {c : Code} {cells slots : Nat} {Q : State → Prop} {cc : ByteArray} {nL : Nat} {own : String} {H : Heap} {locs : List Loc}
theorem y_ast_W {ins : Instr} {w hp : Nat} {lv : List (Nat × Value)} {ls : Array Slot} {q : Nat} (hexec : p.tables.exec = Jvm.exec) (hb : c.code = cc) (h : y_ast cc hp nL ins w = true) (hl : lv_has ls nL lv) (k : ∀ ls' : Array Slot, lv_has ls' nL [] → W p l e R s m args below meth c H locs cells slots Q (F0 m (hp + w) ls' [])) : W p l e R s m args below meth c H locs cells slots Q (F0 m hp ls [.ref q]) := by
  unfold y_ast at h
  split at h
  · simp only [Bool.and_eq_true, decide_eq_true_eq] at h
    obtain ⟨⟨rfl, h2⟩, h3⟩ := h
    exact lv_astore hexec hb h2 hl h3 rfl (fun ls' h9 => k ls' ⟨h9.1, h9.2.1, fun q hq => by cases hq⟩)
  · simp only [Bool.and_eq_true, decide_eq_true_eq] at h
    obtain ⟨⟨rfl, h2⟩, h3⟩ := h
    exact lv_astore_n hexec hb h2 rfl hl h3 rfl (fun ls' h9 => k ls' ⟨h9.1, h9.2.1, fun q hq => by cases hq⟩)
  · cases h
theorem y_hk_W {cpc lim : Nat} {lv : List (Nat × Value)} {ls : Array Slot} {q : Addr} {ce : Cell} {rest : List Value} {D : va_G} {cI cZ cJ : ClassId} {ad : Nat → Nat} {A : Nat → Prop} (hlim : cpc < lim) (hexec : p.tables.exec = Jvm.exec) (hb : c.code = cc) (hown : s.vm.findClass own = some m.cls) (hts : ∀ w ∈ z_T, w.before args s = true) (hE : z_E D cI cZ cJ ad A s) (hl : lv_has ls nL lv) (hcell : H[q]? = some ce) (hv : ce.vm = .none) :
    ∀ (hh : List (Nat × Nat × Nat × Nat)) (hs : List y_HS) (pre : List String) (et pe : List ExceptionTableEntry), c.exceptionTable.toList = pe ++ et → et.map (fun h => (h.startPc, h.endPc, h.handlerPc, h.catchType)) = hh → (∀ z ∈ pe, z.catchType ≠ 0 ∧ ∃ nm ∈ pre, (Jvm.Cond.classLink own z.catchType nm).before args s = true) → y_hk own cc lim nL pre hh hs = true → ∀ r ∈ hs, s.vm.findClass r.1 = some ce.cls → (∀ ls' : Array Slot, lv_has ls' nL [] → W p l e R s m args below meth c H locs cells slots Q (F0 m (r.2.1 + r.2.2.2) ls' [])) → vx_W p l e R s m args below meth c H locs cells slots Q (F0 m cpc ls rest) q := by
  intro hh
  induction hh with
  | nil =>
    intro hs pre et pe _ _ _ hk r hr
    cases hs with
    | nil => cases hr
    | cons _ _ => cases hk
  | cons a hh ih =>
    intro hs pre et pe hsp hmap hpe hk r hr hcl kk
    cases hs with
    | nil => cases hr
    | cons q0 hs =>
      cases et with
      | nil => cases hmap
      | cons x et =>
        rw [List.map_cons, List.cons.injEq] at hmap
        obtain ⟨ha, hmap⟩ := hmap
        subst ha
        unfold y_hk at hk
        simp only [Bool.and_eq_true] at hk
        obtain ⟨⟨h1, h2⟩, h3⟩ := hk
        simp only [y_h1, Bool.and_eq_true, decide_eq_true_eq] at h1
        obtain ⟨⟨⟨⟨⟨⟨g0, g1⟩, g2⟩, g3⟩, g4⟩, g6⟩, g5⟩ := h1
        rcases List.mem_cons.mp hr with rfl | hr
        · refine vx_catch (own := own) (name := r.1) (E := r.1) (ce := ce) hown pe x et hsp (fun z hz => Or.inr ?_) (by simp [covers]; omega) g2 (hts _ g3) (va_Nw.use rfl (hE.2.2.2.2.2.2.2.2.1 _ g4)) hcell hv hcl ?_
          · obtain ⟨hz0, nm, hnm, hz1⟩ := hpe z hz
            exact ⟨hz0, nm, hz1, hE.2.2.2.2.2.2.2.1 _ (of_decide_eq_true (List.all_eq_true.mp h2 nm hnm))⟩
          · rw [g6]
            exact y_ast_W hexec hb g5 hl kk
        · refine ih hs (pre ++ [q0.1]) et (pe ++ [x]) (by rw [hsp]; simp) hmap (fun z hz => ?_) h3 r hr hcl kk
          rcases List.mem_append.mp hz with hz | hz
          · obtain ⟨hz0, nm, hnm, hz1⟩ := hpe z hz
            exact ⟨hz0, nm, List.mem_append_left _ hnm, hz1⟩
          · rw [List.mem_singleton] at hz
            subst hz
            exact ⟨g2, q0.1, List.mem_append_right _ List.mem_cons_self, hts _ g3⟩
end YHW
def y_kh (hs : List y_HS) (V : y_KT) : String → Nat → Nat → Prop := fun E g u => ∃ q ∈ hs, q.1 = E ∧ V (q.2.1 + q.2.2.2) [] [] g u
set_option maxHeartbeats 4000000 in
theorem y_CX_ofH {l : Launch} {y : MethodName} {b : ByteArray} {maxL : Nat} {ret : Option FieldType} {sx : y_SX} {fr lo mc : Nat} {hh : List (Nat × Nat × Nat × Nat)} (G : (String → Nat → Nat → Prop) → y_G) (hs : List y_HS) (lim : Nat) (hpl : plainName y.cls = true) (hco : ∀ kx, y_cok b maxL lim (G kx) = true) (hpo : ∀ kx, y_pok y.cls (G kx) = true) (hrt : ∀ kx, y_rt (G kx) = ret) (hhk : y_hk y.cls b lim maxL [] hh hs = true)
    (hlen : ∀ as g Po Px, sx as g Po Px → z_cs as ≤ maxL) (hcalls : ∀ kx, ∀ q ∈ y_cm (G kx), ∃ (mc' : Nat) (sx' : y_SX), q.2.2 = y_cs mc mc' sx' kx ∧ y_CO l fr lo y.cls q.1 q.2.1 mc' sx')
    (body : ∀ (as : List Value) (g : Nat) (Po : y_PO) (Px : y_PX), sx as g Po Px → ∀ V : y_KT, (∀ (cuts : List Nat) (n pc : Nat) (lv : z_LV) (st : List Value) (g u : Nat), y_wp (G (y_kh hs V)) mc Po cuts V n pc lv st g u → V pc lv st g u) → (∀ (ks : List Nat) (pc : Nat) (lv : z_LV) (st : List Value) (g u : Nat), V pc (z_keep ks lv) st g u → V pc lv st g u) → V 0 (lv_args 0 as) [] g 0) : y_CX l y b maxL ret (some hh) sx fr lo mc := by
  intro D cI cZ cJ ad0 ad1 b9 sz as g Po Px hAdj hsp hg
  show vx_Met l y (Jvm.Cond.codeWith y b maxL ret hh :: z_T) _ _ _ _ _ _ _
  refine vx_ofWH (cc := b) (maxL := maxL) (ret := ret) (hh := hh) hpl rfl ?_
  intro p e s m args below meth c s₁ B hml hv
  obtain ⟨rfl, hsz, hW, hE⟩ := hv
  subst hsz
  have hts0 := atoms_spec (ws := Jvm.Cond.codeWith y b maxL ret hh :: z_T) B.pre
  have hown : s.vm.findClass y.cls = some m.cls := findClass_of_methodNamed B.named
  have hr := B.returns
  have hlk := B.notSynchronized
  have htab : c.exceptionTable.toList.map (fun h => (h.startPc, h.endPc, h.handlerPc, h.catchType)) = hh := by
    obtain ⟨m9, meth9, c9, hn9, h1, h2, -, -, h7, -⟩ := Jvm.Cond.codeWith_spec (hts0 _ List.mem_cons_self)
    cases Option.some.inj (hn9.symm.trans B.named)
    cases Option.some.inj (h1.symm.trans B.method)
    cases Option.some.inj (h2.symm.trans (Stand.of_body B).code)
    exact h7
  have hts : ∀ w ∈ z_T, w.before (z_ts (y_ad ad0 ad1 b9) as).toArray s = true := fun w hw => hts0 w (List.mem_cons_of_mem _ hw)
  have hC : y_C p s m (z_ts (y_ad ad0 ad1 b9) as).toArray meth c b maxL y.cls D cI cZ cJ ad0 ad1 (y_AA ad0 ad1 s.heap.size) :=
    ⟨⟨B.exec, B.bytes, hml, hown, hts⟩, hAdj, fun a ha => ⟨Or.inl ⟨a, ha, Or.inl rfl⟩, Or.inl ⟨a, ha, Or.inr rfl⟩⟩, fun q hq => Or.inr hq, hE, hlk⟩
  have hq0 : ∀ (v : Option Value) (g : Nat) (H : Heap) (locs : List Loc), (∀ a, v ≠ some (.ref a)) → Po v g → g ≤ H.size → y_Wd D cI cZ cJ ad0 ad1 H → va_S (y_AA ad0 ad1 s.heap.size) s.heap H locs → ∀ t : State, t.heap = H → s.WarmedH t.vm → y_Q D cI cZ cJ ad0 ad1 s.heap.size Po (z_ts (y_ad ad0 ad1 b9) as).toArray s (.returned v) t :=
    fun v g H locs hn hp hg hW hS t ht _ => ⟨⟨v, g, rfl, hn, hp, by rw [ht]; exact hg, by rw [ht]; exact hW⟩, hS.F ht⟩
  let V : y_KT := y_V p l e (headSpec (Jvm.Cond.codeWith y b maxL ret hh :: z_T) (y_rm fr lo mc)).room s m (z_ts (y_ad ad0 ad1 b9) as).toArray below meth c 0 0 (vx_MQ below (y_Q D cI cZ cJ ad0 ad1 s.heap.size Po) (y_X D cI cZ cJ ad0 ad1 s.heap.size Px) (z_ts (y_ad ad0 ad1 b9) as).toArray s mc (6 * mc) (y_AA ad0 ad1 s.heap.size)) maxL (y_ad ad0 ad1 b9) (y_AA ad0 ad1 s.heap.size) (y_Wd D cI cZ cJ ad0 ad1)
  have hH : y_H p l e (headSpec (Jvm.Cond.codeWith y b maxL ret hh :: z_T) (y_rm fr lo mc)).room s m (z_ts (y_ad ad0 ad1 b9) as).toArray below meth c 0 0 (vx_MQ below (y_Q D cI cZ cJ ad0 ad1 s.heap.size Po) (y_X D cI cZ cJ ad0 ad1 s.heap.size Px) (z_ts (y_ad ad0 ad1 b9) as).toArray s mc (6 * mc) (y_AA ad0 ad1 s.heap.size)) maxL (y_ad ad0 ad1 b9) (y_AA ad0 ad1 s.heap.size) (y_Wd D cI cZ cJ ad0 ad1) b lim (G (y_kh hs V)) mc Po := by
    refine ⟨?_, ?_, ?_⟩
    · intro pc H locs ls v g u hd hv hu hp hW hg hS
      rcases hv with hv | ⟨hv, hn⟩
      · exact vx_ret (W.widen (k := mc) (n := 6 * mc) (by omega) (by omega) (W.iret B.exec B.bytes (by rw [hr, ← hrt (y_kh hs V), hv]) (hq0 _ g H locs (fun a h => by cases h) hp hg hW hS) hS.2.2 hd))
      · exact vx_ret (W.widen (k := mc) (n := 6 * mc) (by omega) (by omega) (W.zret B.exec B.bytes (ty := .boolean) (by rw [hr, ← hrt (y_kh hs V), hv]) hn (hq0 _ g H locs (fun a h => by cases h) hp hg hW hS) hS.2.2 hd))
    · intro pc H locs ls v g u hd hv hu hp hW hg hS
      exact vx_ret (W.widen (k := mc) (n := 6 * mc) (by omega) (by omega) (W.lret B.exec B.bytes (by rw [hr, ← hrt (y_kh hs V), hv]) (hq0 _ g H locs (fun a h => by cases h) hp hg hW hS) hS.2.2 hd))
    · intro pc i j n sp as' r lv g u k hlm hd hf hn hrr hsp' hK
      obtain ⟨mc', sx', hq, hco'⟩ := hcalls _ _ (z_fnd_mem _ _ _ hf)
      dsimp only at hq hco'
      subst hq
      obtain ⟨hu, hs9⟩ := hsp'
      refine hco' p e _ s m _ below meth c 0 0 _ b maxL D cI cZ cJ ad0 ad1 b9 _ pc j as' r lv g u _ _ hC (Nat.le_refl _) (Nat.le_refl _) (by show 0 + u + mc' ≤ mc; omega) (by show 0 + 6 * u + 6 * mc' ≤ 6 * mc; omega) hd hn hrr hs9 (fun v g' hnr hk => hK v g' _ hnr hk) ?_
      intro E g' hk H locs ls q ce hW hg hS hl hcell hcv hcls
      obtain ⟨r9, hr9, rfl, hV9⟩ := hk
      exact y_hk_W hlm B.exec B.bytes hown hts hE hl hcell hcv hh hs [] _ [] rfl htab (fun z hz => by cases hz) hhk r9 hr9 hcls (fun ls' hl' => hV9 H locs ls' hW hg hS hl')
  have hb := body as g Po Px hsp V (fun cuts n pc lv st g u h => y_sound (cuts := cuts) hC.1 hH (hco _) (hpo _) (fun _ _ _ _ _ h => h) n pc lv st g u h) (fun _ _ _ _ _ _ h => y_V_keep h)
  have hl := lv_entry (z_ts (y_ad ad0 ad1 b9) as) (n := maxL) (by rw [z_sllen]; exact hlen _ _ _ _ hsp)
  rw [lg_entry_eq]
  generalize (lg_sl (z_ts (y_ad ad0 ad1 b9) as) ++ List.replicate (maxL - (lg_sl (z_ts (y_ad ad0 ad1 b9) as)).length) Slot.unset).toArray = ls at hl ⊢
  rw [z_lvargs] at hl
  exact hb s.heap [] ls hW hg va_S.rf hl
