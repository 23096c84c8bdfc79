/-! two objects; contracts of the law's level, and how they are called -/
def y_O (D : va_G) (cI cZ cJ : ClassId) (ad : Nat → Nat) (H : Heap) : Prop := ∃ (S : z_MI) (P : z_ML), z_J S ∧ va_P D z_cl (z_w cI cZ cJ ad S P) H
def y_Wd (D : va_G) (cI cZ cJ : ClassId) (ad0 ad1 : Nat → Nat) (H : Heap) : Prop := y_O D cI cZ cJ ad0 H ∧ y_O D cI cZ cJ ad1 H
def y_Ad (ad0 ad1 : Nat → Nat) : Prop := z_inj ad0 ∧ z_inj ad1 ∧ (∀ a ∈ z_ids, ∀ b ∈ z_ids, ad0 a ≠ ad1 b) ∧ ad0 z_WT = ad1 z_WT
def y_ad (ad0 ad1 : Nat → Nat) (b : Nat) : Nat → Nat
  | 0 => ad0 2096
  | 1 => ad1 2096
  | _ => b
def y_AA (ad0 ad1 : Nat → Nat) (sz : Nat) : Nat → Prop := fun q => (∃ a ∈ z_ids, q = ad0 a ∨ q = ad1 a) ∨ sz ≤ q
def y_Pr (D : va_G) (cI cZ cJ : ClassId) (ad0 ad1 : Nat → Nat) (sz : Nat) (U : State) : Prop := U.heap.size = sz ∧ y_Wd D cI cZ cJ ad0 ad1 U.heap ∧ z_E D cI cZ cJ ad0 (y_AA ad0 ad1 sz) U
def y_Q (D : va_G) (cI cZ cJ : ClassId) (ad0 ad1 : Nat → Nat) (sz : Nat) (Po : y_PO) : Array Value → State → Outcome → State → Prop := fun _ st oc t => (∃ (v : Option Value) (g : Nat), oc = .returned v ∧ (∀ a, v ≠ some (.ref a)) ∧ Po v g ∧ g ≤ t.heap.size ∧ y_Wd D cI cZ cJ ad0 ad1 t.heap) ∧ va_F (y_AA ad0 ad1 sz) st t
def y_X (D : va_G) (cI cZ cJ : ClassId) (ad0 ad1 : Nat → Nat) (sz : Nat) (Px : y_PX) : String → State → State → Prop := fun E st t => (∃ g : Nat, Px E g ∧ g ≤ t.heap.size ∧ y_Wd D cI cZ cJ ad0 ad1 t.heap) ∧ va_F (y_AA ad0 ad1 sz) st t
def y_rm (fr lo mc : Nat) : Room := { frames := fr, cells := mc, slots := 6 * mc, locals := lo }
def y_cw (y : MethodName) (b : ByteArray) (maxL : Nat) (ret : Option FieldType) : Option (List (Nat × Nat × Nat × Nat)) → Jvm.Cond
  | none => .code y b maxL ret
  | some hh => .codeWith y b maxL ret hh
/-- a contract of the law's level -/
def y_CX (l : Launch) (y : MethodName) (b : ByteArray) (maxL : Nat) (ret : Option FieldType) (ho : Option (List (Nat × Nat × Nat × Nat))) (sx : y_SX) (fr lo mc : Nat) : Prop :=
  ∀ (D : va_G) (cI cZ cJ : ClassId) (ad0 ad1 : Nat → Nat) (b9 sz : Nat) (as : List Value) (g : Nat) (Po : y_PO) (Px : y_PX), y_Ad ad0 ad1 → sx as g Po Px → g ≤ sz → vx_Met l y (y_cw y b maxL ret ho :: z_T) (y_rm fr lo mc) (va_Pc (z_ts (y_ad ad0 ad1 b9) as) (y_Pr D cI cZ cJ ad0 ad1 sz)) (y_Q D cI cZ cJ ad0 ad1 sz Po) (y_X D cI cZ cJ ad0 ad1 sz Px) mc (6 * mc) (y_AA ad0 ad1 sz)
def y_C (p : Program) (s : State) (m : MethodId) (args : Array Value) (meth : Method) (c : Code) (cc : ByteArray) (nL : Nat) (own : String) (D : va_G) (cI cZ cJ : ClassId) (ad0 ad1 : Nat → Nat) (A : Nat → Prop) : Prop :=
  CallFix p m c cc nL s args z_T own ∧ y_Ad ad0 ad1 ∧ (∀ a ∈ z_ids, A (ad0 a) ∧ A (ad1 a)) ∧ (∀ q, s.heap.size ≤ q → A q) ∧ z_E D cI cZ cJ ad0 A s ∧ meth.locks = false
/-- a call that may be done in some room -/
def y_CO (l : Launch) (fr lo : Nat) (own : String) (i n mc : Nat) (sx : y_SX) : Prop :=
  ∀ (p : Program) (e : Env) (R : Room) (s : State) (m : MethodId) (args : Array Value) (below : List Frame) (meth : Method) (c : Code) (c0 s0 : Nat) (Q : State → Prop) (cc : ByteArray) (nL : Nat) (D : va_G) (cI cZ cJ : ClassId) (ad0 ad1 : Nat → Nat) (b9 : Nat) (A : Nat → Prop) (pc j : Nat) (as r : List Value) (lv : z_LV) (g u : Nat) (k : y_PO) (kx : y_PX),
  y_C p s m args meth c cc nL own D cI cZ cJ ad0 ad1 A → fr ≤ R.frames → lo ≤ R.locals → c0 + u + mc ≤ R.cells → s0 + 6 * u + 6 * mc ≤ R.slots → (decode cc pc = .ok (.invokevirtual j, 3) ∧ i = j ∧ j < 100000 ∨ decode cc pc = .ok (.invokestatic j, 3) ∧ i = j + 100000) → as.length = n → z_cs r ≤ 8 → sx as g k kx →
  (∀ v g', (∀ a, v ≠ some (.ref a)) → k v g' → y_V p l e R s m args below meth c c0 s0 Q nL (y_ad ad0 ad1 b9) A (y_Wd D cI cZ cJ ad0 ad1) (pc + 3) lv (v.toList ++ r) g' (u + mc)) →
  (∀ E g', kx E g' → ∀ (H : Heap) (locs : List Loc) (ls : Array Slot) (q : Addr) (ce : Cell), y_Wd D cI cZ cJ ad0 ad1 H → g' ≤ H.size → va_S A s.heap H locs → lv_has ls nL (z_tl (y_ad ad0 ad1 b9) lv) → H[q]? = some ce → ce.vm = .none → s.vm.findClass E = some ce.cls → vx_W p l e R s m args below meth c H locs (c0 + (u + mc)) (s0 + 6 * (u + mc)) Q (F0 m pc ls (z_ts (y_ad ad0 ad1 b9) r)) q) →
  y_V p l e R s m args below meth c c0 s0 Q nL (y_ad ad0 ad1 b9) A (y_Wd D cI cZ cJ ad0 ad1) pc lv (as.reverse ++ r) g u
theorem y_E_ad {D : va_G} {cI cZ cJ : ClassId} {ad ad' : Nat → Nat} {A : Nat → Prop} {U : State} (h : ad z_WT = ad' z_WT) (hE : z_E D cI cZ cJ ad A U) : z_E D cI cZ cJ ad' A U := by
  unfold z_E at hE ⊢
  rw [h] at hE
  exact hE
theorem y_AA_A {ad0 ad1 : Nat → Nat} {A : Nat → Prop} {sz sz' : Nat} (hAd : ∀ a ∈ z_ids, A (ad0 a) ∧ A (ad1 a)) (hA : ∀ q, sz ≤ q → A q) (h : sz ≤ sz') : ∀ q, y_AA ad0 ad1 sz' q → A q := fun q hq => by
  rcases hq with ⟨a, ha, rfl | rfl⟩ | hq
  · exact (hAd a ha).1
  · exact (hAd a ha).2
  · exact hA q (Nat.le_trans h hq)
theorem y_Pr_blind {D : va_G} {cI cZ cJ : ClassId} {ad0 ad1 : Nat → Nat} {sz : Nat} {av : List Value} : FrameBlind (va_Pc av (y_Pr D cI cZ cJ ad0 ad1 sz)) := by
  intro a U g mk h
  obtain ⟨h1, h2, h3, h4⟩ := h
  exact ⟨h1, h2, h3, z_E.same (u := U) rfl rfl h4⟩
theorem y_Pr_call {D : va_G} {cI cZ cJ : ClassId} {ad0 ad1 : Nat → Nat} {A : Nat → Prop} {s U : State} {H : Heap} {locs : List Loc} {av : List Value} (hAd : ∀ a ∈ z_ids, A (ad0 a) ∧ A (ad1 a)) (hA : ∀ q, s.heap.size ≤ q → A q) (hE : z_E D cI cZ cJ ad0 A s) (hW : y_Wd D cI cZ cJ ad0 ad1 H) (hS : va_S A s.heap H locs) (hU : U.heap = H) (hWm : s.WarmedH U.vm) : va_Pc av (y_Pr D cI cZ cJ ad0 ad1 H.size) av.toArray U :=
  ⟨rfl, by rw [hU], by rw [hU]; exact hW, z_E.warm hWm (fun q h1 h2 => by rw [hU]; exact hS.2.1 q h1 h2) (y_AA_A hAd hA hS.1) hE⟩
theorem y_words {y : MethodName} {w0 : Jvm.Cond} {s : State} {args : Array Value} (hts : ∀ w ∈ z_T, w.before args s = true) (k2 : w0 ∈ z_T) : ∀ w ∈ (w0 :: z_T), ∀ (a' : Array Value) (U : State), s.WarmedH U.vm → w.before a' U = true := by
  intro w hw a' U hW
  have hw' : w ∈ z_T := by
    rcases List.mem_cons.mp hw with rfl | h
    · exact k2
    · exact h
  exact word_at hW (z_T_good hw') (hts w hw')
theorem y_keepS {A B : Nat → Prop} {s : State} {H : Heap} {locs L : List Loc} {st₀ t T' : State} (hAA : ∀ q, B q → A q) (hS : va_S A s.heap H locs) (h0 : st₀.heap = H) (e1 : T'.heap = t.heap) (hF : va_F B st₀ t) (hL : ∀ q ∈ L, B q.base) : va_S A s.heap T'.heap (locs ++ L) := by
  obtain ⟨hz, hkp⟩ := hF
  rw [h0] at hz hkp
  exact ⟨Nat.le_trans hS.1 (by rw [e1]; exact hz), fun q h1 h2 => by rw [e1, hkp q (Nat.lt_of_lt_of_le h1 hS.1) (fun z => h2 (hAA q z))]; exact hS.2.1 q h1 h2, fun q hq => by
    rcases List.mem_append.mp hq with h | h
    · exact hS.2.2 q h
    · exact hAA _ (hL q h)⟩
theorem y_stand {p : Program} {l : Launch} {e : Env} {R : Room} {s : State} {m : MethodId} {args : Array Value} {below : List Frame} {meth : Method} {c : Code} {T : State} {locs : List Loc} {a b a' b' : Nat} (X : Stand p l e R s m args below meth c T locs a b) (h1 : a = a') (h2 : b = b') : Stand p l e R s m args below meth c T locs a' b' := by
  subst h1; subst h2; exact X
set_option maxHeartbeats 2000000 in
theorem y_coS {l : Launch} {fr lo fr' lo' : Nat} {own : String} {i n mc : Nat} {sx : y_SX} {y : MethodName} {b : ByteArray} {maxL : Nat} {ret : Option FieldType} (ct : y_CX l y b maxL ret none sx fr' lo' mc) (hB : z_kB y b maxL ret n = true) (hV : z_kS own i y = true) (hfr : fr' + 1 ≤ fr) (hlo : 8 + (maxL + 11) + lo' ≤ lo) : y_CO l fr lo own (i + 100000) n mc sx := by
  intro p e R s m args below meth c c0 s0 Q cc nL D cI cZ cJ ad0 ad1 b9 A pc j as r lv g u k kx C hf hlo1 hcl hsl hd hn hr hsp hK hX H locs ls hW hg hS hl
  rcases hd with ⟨hd, hij, hj9⟩ | ⟨hd, hij⟩
  · omega
  have hij : i = j := by omega
  subst hij
  obtain ⟨⟨hx, hb, hml, hown, hts⟩, hAdj, hAd, hA, hE, hlk⟩ := id C
  simp only [z_kS, Bool.and_eq_true, decide_eq_true_eq] at hV
  obtain ⟨v1, v2⟩ := hV
  simp only [z_kB, Bool.and_eq_true, decide_eq_true_eq] at hB
  obtain ⟨⟨⟨k1, k2⟩, k3⟩, k4⟩ := hB
  have hM : vx_Met l y (Jvm.Cond.code y b maxL ret :: z_T) (y_rm fr' lo' mc) (va_Pc (z_ts (y_ad ad0 ad1 b9) as) (y_Pr D cI cZ cJ ad0 ad1 H.size)) (y_Q D cI cZ cJ ad0 ad1 H.size k) (y_X D cI cZ cJ ad0 ad1 H.size kx) mc (6 * mc) (y_AA ad0 ad1 H.size) := ct D cI cZ cJ ad0 ad1 b9 H.size as g k kx hAdj hsp hg
  have hnl : (z_ts (y_ad ad0 ad1 b9) as).length = n := by simp only [z_ts, List.length_map]; exact hn
  have hpre : PreS s H (va_Pc (z_ts (y_ad ad0 ad1 b9) as) (y_Pr D cI cZ cJ ad0 ad1 H.size)) (z_ts (y_ad ad0 ad1 b9) as) :=
    ⟨y_Pr_blind, fun U hU hWm => y_Pr_call (av := z_ts (y_ad ad0 ad1 b9) as) hAd hA hE hW hS hU hWm⟩
  have hstk : z_ts (y_ad ad0 ad1 b9) (as.reverse ++ r) = (z_ts (y_ad ad0 ad1 b9) as).reverse ++ z_ts (y_ad ad0 ad1 b9) r := by
    rw [z_ts_app, z_ts_rev]
  have hcb : CallB R s args own i y b maxL ret (Jvm.Cond.code y b maxL ret :: z_T) (y_rm fr' lo' mc) mc (6 * mc) n :=
    ⟨rfl, rfl, (by show fr' + 1 ≤ R.frames; omega), (by show 8 + (maxL + 11) + lo' ≤ R.locals; omega), y_words (y := y) hts k2, List.mem_cons_self, hts _ k2, hts _ k1, k3, fun sig h => by
      rw [h] at k4
      exact (Option.some.inj k4).symm, hts _ v1⟩
  have hrun := vx_runS (g := F0 m pc ls (z_ts (y_ad ad0 ad1 b9) (as.reverse ++ r))) (As := z_ts (y_ad ad0 ad1 b9) as) (rest := z_ts (y_ad ad0 ad1 b9) r) (nL := nL) (cells := c0 + u) (slots := s0 + 6 * u) (locs := locs) (p := p) (e := e) (below := below) (meth := meth) ⟨hx, hb, hml, hown, hts⟩ hM ⟨hcb, hts _ v2⟩ hpre rfl hnl hl.1 hstk (lv_room (by rw [z_cs_sum]; exact hr)) hd ⟨hcl, hsl⟩
  intro T hT X
  rcases hrun T hT X with ⟨v, st₀, t, T', L, h0, X', hL, e1, e2, ⟨⟨v', g', hv, hnr, hk, hg', hW'⟩, hF⟩, st⟩ | ⟨q, st₀, t, T', L, E, ce, h0, X', hL, e1, e2, ⟨⟨g', hk, hg', hW'⟩, hF⟩, hce, hcv, hcls, st⟩
  · cases hv
    obtain ⟨t2, a1, b1⟩ := hK v g' hnr hk T'.heap (locs ++ L) ls (by rw [e1]; exact hW') (by rw [e1]; exact hg') (y_keepS (y_AA_A hAd hA hS.1) hS h0 e1 hF hL) hl T' rfl (y_stand X' (by omega) (by omega))
    refine ⟨t2, st t2 ?_, b1⟩
    rw [z_ts_app, z_ts_nr hnr] at a1
    exact a1
  · obtain ⟨t2, a1, b1⟩ := hX E g' hk T'.heap (locs ++ L) ls q ce (by rw [e1]; exact hW') (by rw [e1]; exact hg') (y_keepS (y_AA_A hAd hA hS.1) hS h0 e1 hF hL) hl (by rw [e1]; exact hce) hcv hcls T' rfl (y_stand X' (by omega) (by omega))
    exact ⟨t2, st.trans a1, b1⟩
def y_kC (y : MethodName) (b : ByteArray) (maxL : Nat) (ret : Option FieldType) (hh : List (Nat × Nat × Nat × Nat)) (n : Nat) : Bool := decide (Jvm.Cond.initialized y.cls ∈ z_T) && decide (Jvm.Cond.codeWith y b maxL ret hh ∈ z_T) && decide (y.cls ≠ "java/lang/invoke/MethodHandle" ∧ y.cls ≠ "java/lang/invoke/VarHandle") && decide ((parseMethodDescriptor y.desc).map (fun d => d.parameters.length) = some n)
theorem y_kC_mk {y : MethodName} {b : ByteArray} {maxL : Nat} {ret : Option FieldType} {hh : List (Nat × Nat × Nat × Nat)} {n : Nat} (h1 : Jvm.Cond.initialized y.cls ∈ z_T) (h2 : Jvm.Cond.codeWith y b maxL ret hh ∈ z_T) (h3 : y.cls ≠ "java/lang/invoke/MethodHandle" ∧ y.cls ≠ "java/lang/invoke/VarHandle") (h4 : (parseMethodDescriptor y.desc).map (fun d => d.parameters.length) = some n) : y_kC y b maxL ret hh n = true := by
  simp only [y_kC, Bool.and_eq_true, decide_eq_true_eq]
  exact ⟨⟨⟨h1, h2⟩, h3⟩, h4⟩
set_option maxHeartbeats 2000000 in
theorem y_coW {l : Launch} {fr lo fr' lo' : Nat} {own : String} {i n mc : Nat} {sx : y_SX} {y : MethodName} {b : ByteArray} {maxL : Nat} {ret : Option FieldType} {hh : List (Nat × Nat × Nat × Nat)} (ct : y_CX l y b maxL ret (some hh) sx fr' lo' mc) (hB : y_kC y b maxL ret hh n = true) (hV : z_kS own i y = true) (hfr : fr' + 1 ≤ fr) (hlo : 8 + (maxL + 11) + lo' ≤ lo) : y_CO l fr lo own (i + 100000) n mc sx := by
  intro p e R s m args below meth c c0 s0 Q cc nL D cI cZ cJ ad0 ad1 b9 A pc j as r lv g u k kx C hf hlo1 hcl hsl hd hn hr hsp hK hX H locs ls hW hg hS hl
  rcases hd with ⟨hd, hij, hj9⟩ | ⟨hd, hij⟩
  · omega
  have hij : i = j := by omega
  subst hij
  obtain ⟨⟨hx, hb, hml, hown, hts⟩, hAdj, hAd, hA, hE, hlk⟩ := id C
  simp only [z_kS, Bool.and_eq_true, decide_eq_true_eq] at hV
  obtain ⟨v1, v2⟩ := hV
  simp only [y_kC, Bool.and_eq_true, decide_eq_true_eq] at hB
  obtain ⟨⟨⟨k1, k2⟩, k3⟩, k4⟩ := hB
  have hM : vx_Met l y (Jvm.Cond.codeWith y b maxL ret hh :: z_T) (y_rm fr' lo' mc) (va_Pc (z_ts (y_ad ad0 ad1 b9) as) (y_Pr D cI cZ cJ ad0 ad1 H.size)) (y_Q D cI cZ cJ ad0 ad1 H.size k) (y_X D cI cZ cJ ad0 ad1 H.size kx) mc (6 * mc) (y_AA ad0 ad1 H.size) := ct D cI cZ cJ ad0 ad1 b9 H.size as g k kx hAdj hsp hg
  have hnl : (z_ts (y_ad ad0 ad1 b9) as).length = n := by simp only [z_ts, List.length_map]; exact hn
  have hpre : PreS s H (va_Pc (z_ts (y_ad ad0 ad1 b9) as) (y_Pr D cI cZ cJ ad0 ad1 H.size)) (z_ts (y_ad ad0 ad1 b9) as) :=
    ⟨y_Pr_blind, fun U hU hWm => y_Pr_call (av := z_ts (y_ad ad0 ad1 b9) as) hAd hA hE hW hS hU hWm⟩
  have hstk : z_ts (y_ad ad0 ad1 b9) (as.reverse ++ r) = (z_ts (y_ad ad0 ad1 b9) as).reverse ++ z_ts (y_ad ad0 ad1 b9) r := by
    rw [z_ts_app, z_ts_rev]
  have hcb : vx_CSW R s args own i y b maxL ret hh (Jvm.Cond.codeWith y b maxL ret hh :: z_T) (y_rm fr' lo' mc) mc (6 * mc) n :=
    ⟨⟨rfl, rfl, (by show fr' + 1 ≤ R.frames; omega), (by show 8 + (maxL + 11) + lo' ≤ R.locals; omega), y_words (y := y) hts k2, List.mem_cons_self⟩, hts _ k2, hts _ k1, k3, fun sig h => by
      rw [h] at k4
      exact (Option.some.inj k4).symm, hts _ v1, hts _ v2⟩
  have hrun := vx_runSX (g := F0 m pc ls (z_ts (y_ad ad0 ad1 b9) (as.reverse ++ r))) (As := z_ts (y_ad ad0 ad1 b9) as) (rest := z_ts (y_ad ad0 ad1 b9) r) (nL := nL) (cells := c0 + u) (slots := s0 + 6 * u) (locs := locs) (p := p) (e := e) (below := below) (meth := meth) ⟨hx, hb, hml, hown, hts⟩ hM hcb hpre rfl hnl hl.1 hstk (lv_room (by rw [z_cs_sum]; exact hr)) hd ⟨hcl, hsl⟩
  intro T hT X
  rcases hrun T hT X with ⟨v, st₀, t, T', L, h0, X', hL, e1, e2, ⟨⟨v', g', hv, hnr, hk, hg', hW'⟩, hF⟩, st⟩ | ⟨q, st₀, t, T', L, E, ce, h0, X', hL, e1, e2, ⟨⟨g', hk, hg', hW'⟩, hF⟩, hce, hcv, hcls, st⟩
  · cases hv
    obtain ⟨t2, a1, b1⟩ := hK v g' hnr hk T'.heap (locs ++ L) ls (by rw [e1]; exact hW') (by rw [e1]; exact hg') (y_keepS (y_AA_A hAd hA hS.1) hS h0 e1 hF hL) hl T' rfl (y_stand X' (by omega) (by omega))
    refine ⟨t2, st t2 ?_, b1⟩
    rw [z_ts_app, z_ts_nr hnr] at a1
    exact a1
  · obtain ⟨t2, a1, b1⟩ := hX E g' hk T'.heap (locs ++ L) ls q ce (by rw [e1]; exact hW') (by rw [e1]; exact hg') (y_keepS (y_AA_A hAd hA hS.1) hS h0 e1 hF hL) hl (by rw [e1]; exact hce) hcv hcls T' rfl (y_stand X' (by omega) (by omega))
    exact ⟨t2, st.trans a1, b1⟩
/-! the class's methods: what matters of them at the law's level -/
def y_int : Value → Bool
  | .int _ => true
  | _ => false
theorem y_ts_int (ad : Nat → Nat) : ∀ as : List Value, as.all y_int = true → z_ts ad as = as
  | [], _ => rfl
  | v :: as, h => by
    rw [List.all_cons, Bool.and_eq_true] at h
    show z_tv ad v :: z_ts ad as = v :: as
    rw [y_ts_int ad as h.2]
    cases v <;> first | rfl | cases h.1
theorem y_rs_int : ∀ as : List Value, as.all y_int = true → z_rs as = true
  | [], _ => rfl
  | v :: as, h => by
    rw [List.all_cons, Bool.and_eq_true] at h
    refine z_rs_cons.mpr ⟨?_, y_rs_int as h.2⟩
    cases v <;> first | rfl | cases h.1
/-- from every state that holds what holds at all times: an answer that is rt, or a throw of one of nm; it goes on to hold -/
def y_WK (sx : z_SX) (n : Nat) (rt : List Value → Option Value → Prop) (nm : List String) : Prop := ∀ (S : z_MI) (P : z_ML) (as : List Value), z_J S → as.all y_int = true → as.length = n → sx (.ref 2096 :: as) S P (fun v S' _ => z_J S' ∧ rt as v) (fun E S' _ => z_J S' ∧ E ∈ nm)
def y_vs (n : Nat) (rt : List Value → Option Value → Prop) (nm : List String) : y_SX := fun as g k kx => match as with
  | .ref o :: as' => Nat.blt o 2 = true ∧ as'.all y_int = true ∧ as'.length = n ∧ (∀ v, rt as' v → k v g) ∧ ∀ E ∈ nm, kx E (g + 1)
  | _ => False
section YVA
variable {p : Program} {l : Launch} {e : Env} {R : Room} {s : State} {m : MethodId} {args : Array Value} {below : List Frame} {meth : Method} {c : Code} {cells slots : Nat} {Q : State → Prop} {cc : ByteArray} {nL : Nat} {own : String} {D : va_G} {cI cZ cJ : ClassId} {A : Nat → Prop}
set_option maxHeartbeats 2000000 in
theorem y_vaux {sx : z_SX} {n : Nat} {rt : List Value → Option Value → Prop} {nm : List String} {y : MethodName} {b : ByteArray} {maxL : Nat} {ret : Option FieldType} {d i pc : Nat} {adA adB : Nat → Nat} {as r : List Value} {H : Heap} {locs : List Loc} {ls : Array Slot}
    (ct : z_CX l y b maxL ret sx d) (wk : y_WK sx n rt nm) (hB : z_kB y b maxL ret n = true) (hV : z_kV own i y = true) (hO : z_kO 2096 y.cls = true) (F : CallFix p m c cc nL s args z_T own) (hinj : z_inj adA) (hdis : ∀ a ∈ z_ids, ∀ b ∈ z_ids, adA a ≠ adB b) (hAd : ∀ a ∈ z_ids, A (adA a)) (hA : ∀ q, s.heap.size ≤ q → A q) (hE : z_E D cI cZ cJ adA A s)
    (hd1 : d + 1 ≤ R.frames) (hd2 : 8 + (maxL + 11) + 28 * d ≤ R.locals) (hcl : cells + 1 ≤ R.cells) (hsl : slots + 6 ≤ R.slots) (hd : decode cc pc = .ok (.invokevirtual i, 3)) (has : as.all y_int = true) (hn : as.length = n) (hr : (r.map fun v => v.category).sum ≤ 8)
    (hOA : y_O D cI cZ cJ adA H) (hOB : y_O D cI cZ cJ adB H) (hS : va_S A s.heap H locs) (hlsz : ls.size = nL)
    (hK : ∀ (v : Option Value) (H1 : Heap) (locs1 : List Loc), (∀ a, v ≠ some (.ref a)) → rt as v → y_O D cI cZ cJ adA H1 → y_O D cI cZ cJ adB H1 → H.size ≤ H1.size → va_S A s.heap H1 locs1 → W p l e R s m args below meth c H1 locs1 (cells + 1) (slots + 6) Q (F0 m (pc + 3) ls (v.toList ++ r)))
    (hX : ∀ (E : String) (H1 : Heap) (locs1 : List Loc) (q : Addr) (ce : Cell), E ∈ nm → y_O D cI cZ cJ adA H1 → y_O D cI cZ cJ adB H1 → H.size + 1 ≤ H1.size → va_S A s.heap H1 locs1 → H1[q]? = some ce → ce.vm = .none → s.vm.findClass E = some ce.cls → vx_W p l e R s m args below meth c H1 locs1 (cells + 1) (slots + 6) Q (F0 m pc ls r) q) :
    W p l e R s m args below meth c H locs cells slots Q (F0 m pc ls (as.reverse ++ .ref (adA 2096) :: r)) := by
  obtain ⟨S, P, hJ, hP⟩ := hOA
  obtain ⟨S1, P1, hJ1, hP1⟩ := hOB
  obtain ⟨ho1, ho2, q0, hq1, hq2⟩ := z_kO_of hO
  obtain ⟨hx, hb, hml, hown, hts⟩ := id F
  obtain ⟨k0, hk0, -⟩ := z_w_at (cI := cI) (cZ := cZ) (cJ := cJ) (ad := adA) (S := S) (P := P) ho1
  rw [z_e0 ho2] at hk0
  simp only [z_kV, Bool.and_eq_true, decide_eq_true_eq] at hV
  obtain ⟨⟨v1, v2⟩, v3⟩ := hV
  simp only [z_kB, Bool.and_eq_true, decide_eq_true_eq] at hB
  obtain ⟨⟨⟨k1, k2⟩, k3⟩, k4⟩ := hB
  have hst : z_ts adA as = as := y_ts_int adA as has
  have hras : z_rs (Value.ref 2096 :: as) = true := z_rs_cons.mpr ⟨by decide +kernel, y_rs_int as has⟩
  have hcw : CallW R s args own y.cls i y b maxL ret (Jvm.Cond.code y b maxL ret :: z_T) (z_rmX d) 1 6 n :=
    ⟨⟨rfl, rfl, hd1, hd2, y_words (y := y) hts k2, List.mem_cons_self, hts _ k2, hts _ k1, k3, fun sig h => by
      rw [h] at k4
      exact (Option.some.inj k4).symm, hts _ v1⟩, hts _ v2, hts _ v3⟩
  have hpre : PreV s H y.cls (adA 2096) (va_Pc (z_ts adA (.ref 2096 :: as)) (z_Pr D cI cZ cJ adA H.size S P)) as := by
    refine ⟨z_Pr_blind, ?_, fun U hU hWm => ?_⟩
    · have h9 := va_recv hE.1 hP hq1 hk0
      rw [hq2] at h9
      exact h9
    · have h9 := z_Pr_call (av := z_ts adA (.ref 2096 :: as)) hAd hA hE hP hS hU hWm
      have h8 : z_ts adA (.ref 2096 :: as) = .ref (adA 2096) :: as := by
        show Value.ref (adA 2096) :: z_ts adA as = _
        rw [hst]
      rw [h8] at h9
      rw [h8]
      exact h9
  have hrun := vx_runV (g := F0 m pc ls (as.reverse ++ .ref (adA 2096) :: r)) (As := as) (rest := r) (nL := nL) (cells := cells) (slots := slots) (locs := locs) (p := p) (e := e) (below := below) (meth := meth) F (ct D cI cZ cJ adA H.size (.ref 2096 :: as) S P _ _ hinj hras (wk S P as hJ has hn)) hcw hpre rfl hn hlsz rfl (lv_room hr) hd ⟨hcl, hsl⟩
  have hAA : ∀ q, z_AA adA H.size q → A q := fun q hq => by
    rcases hq with ⟨a, ha, rfl⟩ | hq
    · exact hAd a ha
    · exact hA q (Nat.le_trans hS.1 hq)
  have hoth : ∀ (st₀ t T' : State), st₀.heap = H → T'.heap = t.heap → va_F (z_AA adA H.size) st₀ t → y_O D cI cZ cJ adB T'.heap := by
    intro st₀ t T' h0 e1 hF
    obtain ⟨hz, hkp⟩ := hF
    rw [h0] at hz hkp
    refine ⟨S1, P1, hJ1, hP1.kept (fun k q hk => ?_)⟩
    have hlt := (hP1 k q hk).lt
    rw [e1]
    refine hkp q.1 hlt ?_
    have hk' := hk
    simp only [z_w, List.getElem?_map, Option.map_eq_some_iff] at hk'
    obtain ⟨a, h1, h2⟩ := hk'
    rintro (⟨a', ha', hh⟩ | hh)
    · rw [← h2] at hh
      exact hdis a' ha' a (List.mem_of_getElem? h1) hh.symm
    · exact Nat.not_le.mpr hlt hh
  intro T hT X
  rcases hrun T hT X with ⟨v, st₀, t, T', L, h0, X', hL, e1, e2, ⟨⟨v', S', P', hv, hnr, ⟨hJ', hrt⟩, hP'⟩, hF⟩, st⟩ | ⟨q, st₀, t, T', L, E, ce, h0, X', hL, e1, e2, ⟨⟨⟨S', P', ⟨hJ', hEm⟩, hP'⟩, hF⟩, hgr⟩, hce, hcv, hcls, st⟩
  · cases hv
    obtain ⟨t2, a1, b1⟩ := hK v T'.heap (locs ++ L) hnr hrt ⟨S', P', hJ', by rw [e1]; exact hP'⟩ (hoth st₀ t T' h0 e1 hF) (by rw [e1, ← h0]; exact hF.1) (y_keepS hAA hS h0 e1 hF hL) T' rfl X'
    exact ⟨t2, st t2 a1, b1⟩
  · obtain ⟨t2, a1, b1⟩ := hX E T'.heap (locs ++ L) q ce hEm ⟨S', P', hJ', by rw [e1]; exact hP'⟩ (hoth st₀ t T' h0 e1 hF) (by rw [e1]; exact hgr) (y_keepS hAA hS h0 e1 hF hL) (by rw [e1]; exact hce) hcv hcls T' rfl X'
    exact ⟨t2, st.trans a1, b1⟩
end YVA
theorem y_01 (o : Nat) (h : Nat.blt o 2 = true) : o = 0 ∨ o = 1 := by
  have : o + 1 ≤ 2 := Nat.le_of_ble_eq_true h
  omega
theorem y_catsum (ad : Nat → Nat) {r : List Value} (h : z_cs r ≤ 8) : ((z_ts ad r).map fun v => v.category).sum ≤ 8 := by rw [z_cs_sum]; exact h
set_option maxHeartbeats 2000000 in
theorem y_coV {l : Launch} {fr lo d : Nat} {own : String} {i n : Nat} {sx : z_SX} {rt : List Value → Option Value → Prop} {nm : List String} {y : MethodName} {b : ByteArray} {maxL : Nat} {ret : Option FieldType} (ct : z_CX l y b maxL ret sx d) (wk : y_WK sx n rt nm) (hB : z_kB y b maxL ret n = true) (hV : z_kV own i y = true) (hO : z_kO 2096 y.cls = true) (hi : i < 100000) (hfr : d + 1 ≤ fr) (hlo : 8 + (maxL + 11) + 28 * d ≤ lo) : y_CO l fr lo own i (n + 1) 1 (y_vs n rt nm) := by
  intro p e R s m args below meth c c0 s0 Q cc nL D cI cZ cJ ad0 ad1 b9 A pc j as r lv g u k kx C hf hlo1 hcl hsl hd hn hr hsp hK hX H locs ls hW hg hS hl
  rcases hd with ⟨hd, hij, hj9⟩ | ⟨hd, hij⟩
  · subst hij
    unfold y_vs at hsp
    split at hsp
    · rename_i o as'
      obtain ⟨ho, hint, hlen, hk1, hx1⟩ := hsp
      obtain ⟨F, hAdj, hAd, hA, hE, hlk⟩ := id C
      have ho2 : o = 0 ∨ o = 1 := y_01 o ho
      have hs : z_ts (y_ad ad0 ad1 b9) ((Value.ref o :: as').reverse ++ r) = as'.reverse ++ .ref (y_ad ad0 ad1 b9 o) :: z_ts (y_ad ad0 ad1 b9) r := by
        rw [z_ts_app, z_ts_rev]
        show (Value.ref (y_ad ad0 ad1 b9 o) :: z_ts (y_ad ad0 ad1 b9) as').reverse ++ _ = _
        rw [y_ts_int _ _ hint]
        simp
      rw [hs]
      rcases ho2 with rfl | rfl
      · refine y_vaux (adA := ad0) (adB := ad1) ct wk hB hV hO F hAdj.1 hAdj.2.2.1 (fun a ha => (hAd a ha).1) hA hE (by omega) (by omega) hcl (by omega) hd hint hlen (y_catsum _ hr) hW.1 hW.2 hS hl.1 ?_ ?_
        · intro v H1 locs1 hnr hrt h1 h2 hz hS1 T hT X
          obtain ⟨t2, a1, b1⟩ := hK v g hnr (hk1 v hrt) H1 locs1 ls ⟨h1, h2⟩ (Nat.le_trans hg hz) hS1 hl T hT (y_stand X (by omega) (by omega))
          refine ⟨t2, ?_, b1⟩
          rw [z_ts_app, z_ts_nr hnr] at a1
          exact a1
        · intro E H1 locs1 q ce hEm h1 h2 hz hS1 hce hcv hcls T hT X
          exact hX E (g + 1) (hx1 E hEm) H1 locs1 ls q ce ⟨h1, h2⟩ (by omega) hS1 hl hce hcv hcls T hT (y_stand X (by omega) (by omega))
      · refine y_vaux (adA := ad1) (adB := ad0) ct wk hB hV hO F hAdj.2.1 (fun a ha b hb h => hAdj.2.2.1 b hb a ha h.symm) (fun a ha => (hAd a ha).2) hA (y_E_ad hAdj.2.2.2 hE) (by omega) (by omega) hcl (by omega) hd hint hlen (y_catsum _ hr) hW.2 hW.1 hS hl.1 ?_ ?_
        · intro v H1 locs1 hnr hrt h1 h2 hz hS1 T hT X
          obtain ⟨t2, a1, b1⟩ := hK v g hnr (hk1 v hrt) H1 locs1 ls ⟨h2, h1⟩ (Nat.le_trans hg hz) hS1 hl T hT (y_stand X (by omega) (by omega))
          refine ⟨t2, ?_, b1⟩
          rw [z_ts_app, z_ts_nr hnr] at a1
          exact a1
        · intro E H1 locs1 q ce hEm h1 h2 hz hS1 hce hcv hcls T hT X
          exact hX E (g + 1) (hx1 E hEm) H1 locs1 ls q ce ⟨h2, h1⟩ (by omega) hS1 hl hce hcv hcls T hT (y_stand X (by omega) (by omega))
    · exact hsp.elim
  · omega
