
/-! calls of methods that may throw, and the law's own methods with their handlers -/
theorem z_CallBX {R : Room} {s : State} {args : Array Value} {y : MethodName} {b : ByteArray} {maxL : Nat} {ret : Option FieldType} {n d : Nat} (hts : ∀ w ∈ z_T, w.before args s = true) (hk : z_kB y b maxL ret n = true) (h1 : d + 1 ≤ R.frames) (h2 : 8 + (maxL + 11) + 28 * d ≤ R.locals) :
    ((z_rmX d).cells = 1 ∧ (z_rmX d).slots = 6 ∧ (z_rmX d).frames + 1 ≤ R.frames ∧ 8 + (maxL + 11) + (z_rmX d).locals ≤ R.locals ∧ (∀ w ∈ (Jvm.Cond.code y b maxL ret :: z_T), ∀ (a' : Array Value) (U : State), s.WarmedH U.vm → w.before a' U = true) ∧ Jvm.Cond.code y b maxL ret ∈ (Jvm.Cond.code y b maxL ret :: z_T)) ∧
    (Jvm.Cond.code y b maxL ret).before args s = true ∧ (Jvm.Cond.initialized y.cls).before args s = true ∧ (y.cls ≠ "java/lang/invoke/MethodHandle" ∧ y.cls ≠ "java/lang/invoke/VarHandle") ∧ (∀ sig, parseMethodDescriptor y.desc = some sig → n = sig.parameters.length) := by
  obtain ⟨c1, c2⟩ := z_CallB (R := R) (d := d) hts hk h1 h2
  exact ⟨⟨rfl, rfl, c1.2.2.1, c1.2.2.2.1, c1.2.2.2.2.1, c1.2.2.2.2.2⟩, c2⟩
set_option maxHeartbeats 2000000 in
theorem z_callX {p : Program} {l : Launch} {e : Env} {R : Room} {s : State} {m : MethodId} {args : Array Value} {below : List Frame} {meth : Method} {c : Code} {cells slots : Nat} {Q : State → Prop} {cc : ByteArray} {nL : Nat} {own : String} {D : va_G} {cI cZ cJ : ClassId} {ad : Nat → Nat} {A : Nat → Prop} {sc : Option (Nat × (Nat → Int32))}
    {pc i n o d : Nat} {lv : z_LV} {as' r : List Value} {S : z_MI} {P : z_ML} {k : z_PO} {kx : z_PX} {sx : z_SX} {y : MethodName} {b : ByteArray} {maxL : Nat} {ret : Option FieldType}
    (ct : z_CX l y b maxL ret sx d) (hB : z_kB y b maxL ret n = true) (hV : z_kV own i y = true) (hO : z_kO o y.cls = true) (C : z_C p s m args meth c cc nL own D cI cZ cJ ad A sc) (hd1 : d + 1 ≤ R.frames) (hd2 : 8 + (maxL + 11) + 28 * d ≤ R.locals) (hcl : cells + 1 ≤ R.cells) (hsl : slots + 6 ≤ R.slots)
    (hd : decode cc pc = .ok (.invokevirtual i, 3)) (hn : as'.length = n) (hr : z_cs r ≤ 8) (hsp : sx (.ref o :: as') S P k kx)
    (hK : ∀ v S' P', (∀ a, v ≠ some (.ref a)) → k v S' P' → z_V p l e R s m args below meth c (cells + 1) (slots + 6) Q nL D cI cZ cJ ad A (pc + 3) lv (v.toList ++ r) S' P')
    (hX : ∀ E S' P', kx E S' P' → ∀ (H : Heap) (locs : List Loc) (ls : Array Slot) (q : Addr) (ce : Cell), va_P D z_cl (z_w cI cZ cJ ad S' P') H → va_S A s.heap H locs → lv_has ls nL (z_tl ad lv) → H[q]? = some ce → ce.vm = .none → s.vm.findClass E = some ce.cls → vx_W p l e R s m args below meth c H locs (cells + 1) (slots + 6) Q (F0 m pc ls (z_ts ad r)) q) :
    z_V p l e R s m args below meth c cells slots Q nL D cI cZ cJ ad A pc lv ((.ref o :: as').reverse ++ r) S P := by
  intro H locs ls hP hS hl hrl hrs
  obtain ⟨ho1, ho2, q0, hq1, hq2⟩ := z_kO_of hO
  obtain ⟨⟨hx, hb, hml, hown, hts⟩, hinj, hAd, hA, hE, hlk, hsc⟩ := id C
  obtain ⟨hrs1, hrs2⟩ := z_rs_app.mp hrs
  have hras : z_rs (Value.ref o :: as') = true := by
    rw [z_rs, List.all_reverse] at hrs1
    exact hrs1
  obtain ⟨k0, hk0, -⟩ := z_w_at (cI := cI) (cZ := cZ) (cJ := cJ) (ad := ad) (S := S) (P := P) ho1
  rw [z_e0 ho2] at hk0
  simp only [z_kV, Bool.and_eq_true, decide_eq_true_eq] at hV
  obtain ⟨⟨v1, v2⟩, v3⟩ := hV
  obtain ⟨c1, c2, c3, c4, c5⟩ := z_CallBX hts hB (R := R) (d := d) hd1 hd2
  have hnl : (z_ts ad as').length = n := by simp only [z_ts, List.length_map]; exact hn
  have hcw : CallW R s args own y.cls i y b maxL ret (Jvm.Cond.code y b maxL ret :: z_T) (z_rmX d) 1 6 n :=
    ⟨⟨c1.1, c1.2.1, c1.2.2.1, c1.2.2.2.1, c1.2.2.2.2.1, c1.2.2.2.2.2, c2, c3, c4, c5, hts _ v1⟩, hts _ v2, hts _ v3⟩
  have hpre : PreV s H y.cls (ad o) (va_Pc (z_ts ad (.ref o :: as')) (z_Pr D cI cZ cJ ad H.size S P)) (z_ts ad as') := by
    refine ⟨z_Pr_blind, ?_, fun U hU hW => z_Pr_call (av := z_ts ad (.ref o :: as')) hAd hA hE hP hS hU hW⟩
    have h9 := va_recv hE.1 hP hq1 hk0
    rw [hq2] at h9
    exact h9
  have hstk : z_ts ad ((Value.ref o :: as').reverse ++ r) = (z_ts ad as').reverse ++ .ref (ad o) :: z_ts ad r := by
    simp [z_ts, z_tv]
  have hAA : ∀ q, z_AA ad H.size q → A q := fun q hq => by
    rcases hq with ⟨a, ha, rfl⟩ | hq
    · exact hAd a ha
    · exact hA q (Nat.le_trans hS.1 hq)
  have hrun := vx_runV (g := F0 m pc ls (z_ts ad ((Value.ref o :: as').reverse ++ r))) (As := z_ts ad as') (rest := z_ts ad r) (nL := nL) (cells := cells) (slots := slots) (locs := locs) (p := p) (e := e) (below := below) (meth := meth) ⟨hx, hb, hml, hown, hts⟩ (ct D cI cZ cJ ad H.size (.ref o :: as') S P k kx hinj hras hsp) hcw hpre rfl hnl hl.1 hstk (lv_room (by rw [z_cs_sum]; exact hr)) hd ⟨hcl, hsl⟩
  intro T hT X
  have hkeep : ∀ (t st₀ : State) (T' : State) (L : List Loc), st₀.heap = H → T'.heap = t.heap → va_F (z_AA ad H.size) st₀ t → (∀ q ∈ L, z_AA ad H.size q.base) → va_S A s.heap T'.heap (locs ++ L) := by
    intro t st₀ T' L h0 e1 hF hL
    obtain ⟨hz, hkp⟩ := hF
    rw [h0] at hz hkp
    exact ⟨Nat.le_trans hS.1 (by rw [e1]; exact hz), fun q h1 h2 => by rw [e1, hkp q (Nat.lt_of_lt_of_le h1 hS.1) (fun z => h2 (hAA q z))]; exact hS.2.1 q h1 h2, fun q hq => by
      rcases List.mem_append.mp hq with h | h
      · exact hS.2.2 q h
      · exact hAA _ (hL q h)⟩
  rcases hrun T hT X with ⟨v, st₀, t, T', L, h0, X', hL, e1, e2, ⟨⟨v', S', P', hv, hnr, hk, hP1⟩, hF⟩, st⟩ | ⟨q, st₀, t, T', L, E, ce, h0, X', hL, e1, e2, ⟨⟨S', P', hk, hP1⟩, hF⟩, hce, hcv, hcls, st⟩
  · cases hv
    obtain ⟨t2, a1, b1⟩ := hK v S' P' hnr hk T'.heap (locs ++ L) ls (by rw [e1]; exact hP1) (hkeep t st₀ T' L h0 e1 hF hL) hl hrl (z_rs_app.mpr ⟨z_rs_nr hnr, hrs2⟩) T' rfl X'
    refine ⟨t2, st t2 ?_, b1⟩
    rw [z_ts_app, z_ts_nr hnr] at a1
    exact a1
  · obtain ⟨t2, a1, b1⟩ := hX E S' P' hk T'.heap (locs ++ L) ls q ce (by rw [e1]; exact hP1) (hkeep t st₀ T' L h0 e1 hF hL) hl (by rw [e1]; exact hce) hcv hcls T' rfl X'
    exact ⟨t2, st.trans a1, b1⟩

