/-! p40, as it is printed, is false: its room is too small for its own law -/
theorem lw_pre_spec {args : Array Value} {s : State} (h : (Jvm.Cond.and given_1 narrow_1).before args s = true) (hr : rest_1_c.before args s = true) : ∃ (b : Addr) (xs : List Int32), lw_P b xs args s := by
  have hs := flat_of_before _ h
  have hq := flat_of_before _ hr
  have hc : (Cond.count 1).before args s = true := hs _ (by decide +kernel)
  have harr : (Cond.arrayOf (.arg 0) .int).before args s = true := hs _ (by decide +kernel)
  have hle : (Cond.le (.length (.arg 0)) (.int 260)).before args s = true := hs _ (by decide +kernel)
  have hlen : (Cond.isInt (.length (.arg 0))).before args s = true := hq _ (by decide +kernel)
  have hall : (Cond.all (.arg 0) (.isInt (.elem (.arg 0) (.index 0)))).before args s = true := hq _ (by decide +kernel)
  obtain ⟨b, xs, hb, hx⟩ := State.ints_of_pre rfl harr hlen hall
  have hsm : xs.length < 2 ^ 31 := hx.choose_spec.2.2.2
  have hev : (Term.length (.arg 0)).eval args s none [] s = some (.int xs.length.toInt32) := hx.length_eval hb
  have hv := Cond.le_ints hev (show (Term.int 260).eval args s none [] s = some (.int 260) from rfl)
  have hd : xs.length.toInt32 ≤ 260 := by
    simpa [Cond.before, Cond.holds, hv] using hle
  have hN : xs.length ≤ 260 := (Int32.ofNat_le_ofNat hsm (by decide)).mp (show Int32.ofNat xs.length ≤ Int32.ofNat 260 from hd)
  exact ⟨b, xs, Cond.one_arg hc (show args[0]? = some (.ref b) from hb), hx, hN, h⟩
/-- what answers 1 -/
theorem w_res {args : Array Value} {s t : State} {v : Option Value} (h : limb_1_2.after args s (.returned v) t = true) : v = some (.int 1) := by
  rw [show limb_1_2 = Cond.eq .result (.int 1) from rfl, Cond.after_iff] at h
  cases v with
  | none => simp [Cond.value, Term.eval] at h
  | some v =>
    cases v with
    | int k =>
      rw [Cond.eq_ints (x := k) (y := 1) rfl rfl] at h
      simp at h
      rw [h]
    | _ => simp [Cond.value, Term.eval] at h
/-- the same machine with more room for objects -/
def w_env (e : Env) : Env := { e with platform := { e.platform with maxCells := e.platform.maxCells + 470106, maxSlots := e.platform.maxSlots + 2822728 } }
theorem w_admits {l : Launch} {e : Env} (h : l.admits e) : l.admits (w_env e) := by
  obtain ⟨h1, h2, h3, h4, h5, h6, h7, h8, h9⟩ := h
  refine ⟨h1, h2, h3, h4, ?_, h6, Nat.le_trans h7 (Nat.le_add_right _ _), Nat.le_trans h8 (Nat.le_add_right _ _), h9⟩
  exact (congrArg (fun P : Platform => ({ P with maxCells := e.platform.maxCells + 470106, maxSlots := e.platform.maxSlots + 2822728 } : Platform)) h5).trans rfl
theorem w_applies {e : Env} {s : State} {m : MethodId} {args : Array Value} {below : List Frame} {R : Room} (hf : s.frames = .invoking m args :: below) (hfr : R.frames = room_1.frames) (hlo : R.locals = room_1.locals) (hc : R.cells ≤ 470106 + room_1.cells) (hs : R.slots ≤ 2822728 + room_1.slots) (h : (headSpec (Cond.code x code maxLocals ret :: tables_1) room_1).applies x e.platform s = true) : (headSpec (Cond.code x code maxLocals ret :: tables_1) R).applies x (w_env e).platform s = true := by
  rw [Spec.applies_iff hf] at h ⊢
  obtain ⟨h1, h2, h3, h4, h5, h6, h7, h8⟩ := h
  refine ⟨h1, h2, h3, h4, h5, h6, ?_, h8⟩
  have h7 : s.hasRoom e.platform room_1 = true := h7
  show s.hasRoom (w_env e).platform R = true
  unfold State.hasRoom at h7 ⊢
  simp only [Bool.and_eq_true, decide_eq_true_eq] at h7 ⊢
  obtain ⟨⟨⟨⟨a1, a2⟩, a3⟩, a4⟩, a5⟩ := h7
  refine ⟨⟨⟨⟨by rw [hlo]; exact a1, by rw [hfr, hlo]; exact a2⟩, ?_⟩, ?_⟩, a5⟩
  · show s.heap.size + R.cells ≤ e.platform.maxCells + 470106
    omega
  · show s.slotsUsed + R.slots ≤ e.platform.maxSlots + 2822728
    omega
/-- wherever the statement's premises can be met (the kit's own witness shows that they can), the statement is false -/
theorem p40_false (hW : WitnessClaimed_1) : ¬ (Claimed_1_1 ∧ Claimed_1_2) := by
  rintro ⟨c1, c2⟩
  obtain ⟨p, e, s, m, args, below, hL, -, hadm, -, hcas, hclk, hfr, hfit, hheap, happ, hcalls, hrest, hpre⟩ := hW
  have hadm' := w_admits hadm
  have hcas' : FairCas (w_env e).choices := hcas
  have hclk' : FairClock (w_env e).choices := hclk
  have happ1 : (headSpec (Cond.code x code maxLocals ret :: tables_1) room_1).applies x (w_env e).platform s = true := w_applies hfr rfl rfl (by decide) (by decide) happ
  have happ2 : (headSpec (Cond.code x code maxLocals ret :: tables_1) R2).applies x (w_env e).platform s = true := w_applies hfr rfl rfl (by decide) (by decide) happ
  obtain ⟨n1, o1, w1, r1, d1, P1⟩ := c1 launch0 rfl hL trivial p (w_env e) hadm' hcas' hclk' s m args below hfr hfit hheap happ1 ⟨hcalls, hrest, hpre⟩
  obtain ⟨n2, o2, w2, r2, d2, P2⟩ := c2 launch0 rfl hL trivial p (w_env e) hadm' hcas' hclk' s m args below hfr hfit hheap happ1 ⟨hcalls, hrest, hpre⟩
  obtain ⟨b, xs, hP⟩ := lw_pre_spec hpre hrest
  obtain ⟨n3, o3, w3, r3, d3, P3⟩ := y_law launch0 (y_flags rfl) b xs p (w_env e) hadm' hcas' hclk' s m args below hfr ((Spec.applies_iff_loose hfr).mp happ2).1 hP trivial
  obtain ⟨e1, e2⟩ := the_end_unique (f := fun k => stepsAlone p.tables (w_env e) k s) w1 d1 w2 d2
  obtain ⟨e3, e4⟩ := the_end_unique (f := fun k => stepsAlone p.tables (w_env e) k s) w1 d1 w3 d3
  subst e1; subst e2; subst e3; subst e4
  obtain ⟨-, ⟨v, hv⟩, -, hsb⟩ := P1
  subst hv
  have hsize : (stepsAlone p.tables (w_env e) n1 s).heap.size ≤ s.heap.size + 264 := hsb.2.2.1
  have h1 : v = some (.int 1) := w_res P2.1
  rcases P3 with ⟨⟨v', g, hv', hpol, hg⟩, -⟩ | ⟨q, hq, -⟩
  · cases hv'
    have := hpol h1
    omega
  · cases hq
