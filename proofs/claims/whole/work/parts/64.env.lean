/-! what holds of the start -/
theorem y_at {args : Array Value} {s : State} {c : Jvm.Cond} {i : Nat} (hg : (Jvm.Cond.and given_1 narrow_1).before args s = true) (h : (flatC (Jvm.Cond.and given_1 narrow_1))[i]? = some c) : c.before args s = true := flat_of_before _ hg c (List.mem_of_getElem? h)
theorem y_T {args : Array Value} {s : State} {c : Jvm.Cond} {i : Nat} (hts : ∀ w ∈ lw_tbl, w.before args s = true) (h : lw_tbl[i]? = some c) : c.before args s = true := hts c (List.mem_of_getElem? h)
theorem y_arr {args : Array Value} {s : State} {ty : FieldType} (hp : ∀ C, ty ≠ .object C) (h : (Jvm.Cond.arrayClass ty).before args s = true) : ∃ c, ArrOfT s c ty ∧ va_RA s c ty := by
  obtain ⟨c, k, comp, h1, h2, h3⟩ := Cond.arrayClass_spec (first := s) (o := none) (idx := []) (args := args) h
  refine ⟨c, fun n z => ⟨fun k h => (by cases h), k, h2, comp, h3⟩, ?_⟩
  cases ty with
  | object C => exact absurd rfl (hp C)
  | _ => exact h1
theorem y_str {args : Array Value} {s : State} {own tx : String} {k : Nat} (h1 : (Jvm.Cond.stringRef own k tx).before args s = true) (h2 : (Jvm.Cond.exactly (Jvm.Term.string own k) "java/lang/String").before args s = true) : ∃ a, vk_R own k tx a s := by
  obtain ⟨a, c, cell, kk, h3, -⟩ := Cond.exactly_spec (first := s) (o := none) (idx := []) (args := args) h2
  exact ⟨a, vk_R.of h1 h3⟩
theorem y_nest {args : Array Value} {s : State} (hts : ∀ w ∈ lw_tbl, w.before args s = true) : ∀ q ∈ z_nest, va_Nw (.methodLinkNest q.1 q.2.1 q.2.2.1 q.2.2.2) s :=
  List.forall_mem_cons.mpr ⟨va_Nw.of rfl (y_T hts (i := 78) (by decide +kernel)), List.forall_mem_cons.mpr ⟨va_Nw.of rfl (y_T hts (i := 115) (by decide +kernel)), List.forall_mem_cons.mpr ⟨va_Nw.of rfl (y_T hts (i := 140) (by decide +kernel)), List.forall_mem_cons.mpr ⟨va_Nw.of rfl (y_T hts (i := 173) (by decide +kernel)), List.forall_mem_cons.mpr ⟨va_Nw.of rfl (y_T hts (i := 214) (by decide +kernel)), List.forall_mem_cons.mpr ⟨va_Nw.of rfl (y_T hts (i := 256) (by decide +kernel)), List.forall_mem_cons.mpr ⟨va_Nw.of rfl (y_T hts (i := 716) (by decide +kernel)), List.forall_mem_cons.mpr ⟨va_Nw.of rfl (y_T hts (i := 819) (by decide +kernel)), List.forall_mem_cons.mpr ⟨va_Nw.of rfl (y_T hts (i := 835) (by decide +kernel)), List.forall_mem_cons.mpr ⟨va_Nw.of rfl (y_T hts (i := 504) (by decide +kernel)), List.forall_mem_cons.mpr ⟨va_Nw.of rfl (y_T hts (i := 501) (by decide +kernel)), List.forall_mem_cons.mpr ⟨va_Nw.of rfl (y_T hts (i := 603) (by decide +kernel)), fun _ h => absurd h List.not_mem_nil⟩⟩⟩⟩⟩⟩⟩⟩⟩⟩⟩⟩
theorem y_strs {args : Array Value} {s : State} (hts : ∀ w ∈ lw_tbl, w.before args s = true) (hg : (Jvm.Cond.and given_1 narrow_1).before args s = true) : ∀ q ∈ z_strs, ∃ a, vk_R q.1 q.2.1 q.2.2 a s :=
  List.forall_mem_cons.mpr ⟨y_str (y_T hts (i := 387) (by decide +kernel)) (y_at hg (i := 44) (by decide +kernel)), List.forall_mem_cons.mpr ⟨y_str (y_T hts (i := 423) (by decide +kernel)) (y_at hg (i := 68) (by decide +kernel)), List.forall_mem_cons.mpr ⟨y_str (y_T hts (i := 459) (by decide +kernel)) (y_at hg (i := 91) (by decide +kernel)), List.forall_mem_cons.mpr ⟨y_str (y_T hts (i := 466) (by decide +kernel)) (y_at hg (i := 119) (by decide +kernel)), List.forall_mem_cons.mpr ⟨y_str (y_T hts (i := 467) (by decide +kernel)) (y_at hg (i := 160) (by decide +kernel)), List.forall_mem_cons.mpr ⟨y_str (y_T hts (i := 484) (by decide +kernel)) (y_at hg (i := 184) (by decide +kernel)), List.forall_mem_cons.mpr ⟨y_str (y_T hts (i := 518) (by decide +kernel)) (y_at hg (i := 212) (by decide +kernel)), List.forall_mem_cons.mpr ⟨y_str (y_T hts (i := 519) (by decide +kernel)) (y_at hg (i := 230) (by decide +kernel)), List.forall_mem_cons.mpr ⟨y_str (y_T hts (i := 527) (by decide +kernel)) (y_at hg (i := 255) (by decide +kernel)), List.forall_mem_cons.mpr ⟨y_str (y_T hts (i := 535) (by decide +kernel)) (y_at hg (i := 272) (by decide +kernel)), List.forall_mem_cons.mpr ⟨y_str (y_T hts (i := 543) (by decide +kernel)) (y_at hg (i := 290) (by decide +kernel)), List.forall_mem_cons.mpr ⟨y_str (y_T hts (i := 562) (by decide +kernel)) (y_at hg (i := 314) (by decide +kernel)), List.forall_mem_cons.mpr ⟨y_str (y_T hts (i := 563) (by decide +kernel)) (y_at hg (i := 340) (by decide +kernel)), List.forall_mem_cons.mpr ⟨y_str (y_T hts (i := 564) (by decide +kernel)) (y_at hg (i := 365) (by decide +kernel)), List.forall_mem_cons.mpr ⟨y_str (y_T hts (i := 581) (by decide +kernel)) (y_at hg (i := 391) (by decide +kernel)), List.forall_mem_cons.mpr ⟨y_str (y_T hts (i := 611) (by decide +kernel)) (y_at hg (i := 424) (by decide +kernel)), List.forall_mem_cons.mpr ⟨y_str (y_T hts (i := 612) (by decide +kernel)) (y_at hg (i := 451) (by decide +kernel)), List.forall_mem_cons.mpr ⟨y_str (y_T hts (i := 613) (by decide +kernel)) (y_at hg (i := 486) (by decide +kernel)), List.forall_mem_cons.mpr ⟨y_str (y_T hts (i := 625) (by decide +kernel)) (y_at hg (i := 508) (by decide +kernel)), List.forall_mem_cons.mpr ⟨y_str (y_T hts (i := 626) (by decide +kernel)) (y_at hg (i := 538) (by decide +kernel)), List.forall_mem_cons.mpr ⟨y_str (y_T hts (i := 670) (by decide +kernel)) (y_at hg (i := 581) (by decide +kernel)), List.forall_mem_cons.mpr ⟨y_str (y_T hts (i := 671) (by decide +kernel)) (y_at hg (i := 612) (by decide +kernel)), List.forall_mem_cons.mpr ⟨y_str (y_T hts (i := 687) (by decide +kernel)) (y_at hg (i := 633) (by decide +kernel)), List.forall_mem_cons.mpr ⟨y_str (y_T hts (i := 695) (by decide +kernel)) (y_at hg (i := 648) (by decide +kernel)), List.forall_mem_cons.mpr ⟨y_str (y_T hts (i := 703) (by decide +kernel)) (y_at hg (i := 672) (by decide +kernel)), List.forall_mem_cons.mpr ⟨y_str (y_T hts (i := 707) (by decide +kernel)) (y_at hg (i := 689) (by decide +kernel)), List.forall_mem_cons.mpr ⟨y_str (y_T hts (i := 739) (by decide +kernel)) (y_at hg (i := 714) (by decide +kernel)), List.forall_mem_cons.mpr ⟨y_str (y_T hts (i := 740) (by decide +kernel)) (y_at hg (i := 750) (by decide +kernel)), List.forall_mem_cons.mpr ⟨y_str (y_T hts (i := 756) (by decide +kernel)) (y_at hg (i := 773) (by decide +kernel)), List.forall_mem_cons.mpr ⟨y_str (y_T hts (i := 757) (by decide +kernel)) (y_at hg (i := 800) (by decide +kernel)), List.forall_mem_cons.mpr ⟨y_str (y_T hts (i := 765) (by decide +kernel)) (y_at hg (i := 857) (by decide +kernel)), List.forall_mem_cons.mpr ⟨y_str (y_T hts (i := 766) (by decide +kernel)) (y_at hg (i := 874) (by decide +kernel)), List.forall_mem_cons.mpr ⟨y_str (y_T hts (i := 790) (by decide +kernel)) (y_at hg (i := 900) (by decide +kernel)), List.forall_mem_cons.mpr ⟨y_str (y_T hts (i := 802) (by decide +kernel)) (y_at hg (i := 931) (by decide +kernel)), List.forall_mem_cons.mpr ⟨y_str (y_T hts (i := 810) (by decide +kernel)) (y_at hg (i := 962) (by decide +kernel)), List.forall_mem_cons.mpr ⟨y_str (y_T hts (i := 843) (by decide +kernel)) (y_at hg (i := 986) (by decide +kernel)), List.forall_mem_cons.mpr ⟨y_str (y_T hts (i := 864) (by decide +kernel)) (y_at hg (i := 1020) (by decide +kernel)), List.forall_mem_cons.mpr ⟨y_str (y_T hts (i := 884) (by decide +kernel)) (y_at hg (i := 1044) (by decide +kernel)), List.forall_mem_cons.mpr ⟨y_str (y_T hts (i := 893) (by decide +kernel)) (y_at hg (i := 1072) (by decide +kernel)), List.forall_mem_cons.mpr ⟨y_str (y_T hts (i := 905) (by decide +kernel)) (y_at hg (i := 1138) (by decide +kernel)), List.forall_mem_cons.mpr ⟨y_str (y_T hts (i := 906) (by decide +kernel)) (y_at hg (i := 1195) (by decide +kernel)), List.forall_mem_cons.mpr ⟨y_str (y_T hts (i := 914) (by decide +kernel)) (y_at hg (i := 1234) (by decide +kernel)), List.forall_mem_cons.mpr ⟨y_str (y_T hts (i := 919) (by decide +kernel)) (y_at hg (i := 1252) (by decide +kernel)), List.forall_mem_cons.mpr ⟨y_str (y_T hts (i := 931) (by decide +kernel)) (y_at hg (i := 1315) (by decide +kernel)), List.forall_mem_cons.mpr ⟨y_str (y_T hts (i := 936) (by decide +kernel)) (y_at hg (i := 1348) (by decide +kernel)), List.forall_mem_cons.mpr ⟨y_str (y_T hts (i := 952) (by decide +kernel)) (y_at hg (i := 1374) (by decide +kernel)), List.forall_mem_cons.mpr ⟨y_str (y_T hts (i := 999) (by decide +kernel)) (y_at hg (i := 1399) (by decide +kernel)), List.forall_mem_cons.mpr ⟨y_str (y_T hts (i := 1018) (by decide +kernel)) (y_at hg (i := 1449) (by decide +kernel)), List.forall_mem_cons.mpr ⟨y_str (y_T hts (i := 1019) (by decide +kernel)) (y_at hg (i := 1475) (by decide +kernel)), fun _ h => absurd h List.not_mem_nil⟩⟩⟩⟩⟩⟩⟩⟩⟩⟩⟩⟩⟩⟩⟩⟩⟩⟩⟩⟩⟩⟩⟩⟩⟩⟩⟩⟩⟩⟩⟩⟩⟩⟩⟩⟩⟩⟩⟩⟩⟩⟩⟩⟩⟩⟩⟩⟩⟩
theorem y_ncs {args : Array Value} {s : State} (hg : (Jvm.Cond.and given_1 narrow_1).before args s = true) : ∀ q ∈ z_ncs, va_Nc q.1 q.2 s :=
  List.forall_mem_cons.mpr ⟨va_Nc.of (y_at hg (i := 42) (by decide +kernel)), List.forall_mem_cons.mpr ⟨va_Nc.of (y_at hg (i := 43) (by decide +kernel)), List.forall_mem_cons.mpr ⟨va_Nc.of (y_at hg (i := 22) (by decide +kernel)), fun _ h => absurd h List.not_mem_nil⟩⟩⟩
theorem y_cas {args : Array Value} {s : State} (hts : ∀ w ∈ lw_tbl, w.before args s = true) : ∀ q ∈ z_cas, va_Nw (.castable q q) s :=
  List.forall_mem_cons.mpr ⟨va_Nw.of rfl (y_T hts (i := 348) (by decide +kernel)), List.forall_mem_cons.mpr ⟨va_Nw.of rfl (y_T hts (i := 416) (by decide +kernel)), List.forall_mem_cons.mpr ⟨va_Nw.of rfl (y_T hts (i := 452) (by decide +kernel)), fun _ h => absurd h List.not_mem_nil⟩⟩⟩
theorem y_dec {args : Array Value} {s : State} (hts : ∀ w ∈ lw_tbl, w.before args s = true) : ∀ q ∈ z_dec, va_Nw (.declares q) s :=
  List.forall_mem_cons.mpr ⟨va_Nw.of rfl (y_T hts (i := 350) (by decide +kernel)), List.forall_mem_cons.mpr ⟨va_Nw.of rfl (y_T hts (i := 352) (by decide +kernel)), List.forall_mem_cons.mpr ⟨va_Nw.of rfl (y_T hts (i := 354) (by decide +kernel)), fun _ h => absurd h List.not_mem_nil⟩⟩⟩
theorem y_wt {args : Array Value} {s : State} (hg : (Jvm.Cond.and given_1 narrow_1).before args s = true) : ∃ t : Nat, (Jvm.Term.static "Songlinebench" "WEIGHTS" "[I").eval args s none [] s = some (.ref t) ∧ va_T .int t 5 (fun j => .int (z_wt j)) (fun q => s.heap.size ≤ q) s s.heap := by
  refine va_Tof (by decide) (y_at hg (i := 7) (by decide +kernel)) (va_eqt (y_at hg (i := 8) (by decide +kernel))) (fun j hj => ?_) (fun a h => Nat.not_le.mpr h)
  match j, hj with
  | 0, _ => exact va_eqt (y_at hg (i := 9) (by decide +kernel))
  | 1, _ => exact va_eqt (y_at hg (i := 10) (by decide +kernel))
  | 2, _ => exact va_eqt (y_at hg (i := 11) (by decide +kernel))
  | 3, _ => exact va_eqt (y_at hg (i := 12) (by decide +kernel))
  | 4, _ => exact va_eqt (y_at hg (i := 13) (by decide +kernel))
theorem y_env {args : Array Value} {s : State} (hts : ∀ w ∈ lw_tbl, w.before args s = true) (hg : (Jvm.Cond.and given_1 narrow_1).before args s = true) : ∃ (D : va_G) (cI cZ cJ : ClassId) (aw : Nat), aw < s.heap.size ∧ ∀ ad : Nat → Nat, ad z_WT = aw → z_E D cI cZ cJ ad (fun q => s.heap.size ≤ q) s := by
  have htz : ∀ w ∈ z_T, w.before args s = true := fun w hw => hts w (List.mem_filter.mp hw).1
  obtain ⟨c0, i0, k0⟩ := u_known (C := RX0) (T := TX0) (N := 9) (n := 9) htz (z_cl_ok 0 _ rfl).1 (htz _ (z_mT 172 (by decide +kernel) rfl))
  obtain ⟨c1, i1, k1⟩ := u_known (C := RX1) (T := TX1) (N := 9) (n := 9) htz (z_cl_ok 1 _ rfl).1 (htz _ (z_mT 213 (by decide +kernel) rfl))
  obtain ⟨c2, i2, k2⟩ := u_known (C := RX2) (T := TX2) (N := 8) (n := 8) htz (z_cl_ok 2 _ rfl).1 (htz _ (z_mT 77 (by decide +kernel) rfl))
  obtain ⟨c3, i3, k3⟩ := u_known (C := RX3) (T := TX3) (N := 8) (n := 8) htz (z_cl_ok 3 _ rfl).1 (htz _ (z_mT 139 (by decide +kernel) rfl))
  obtain ⟨c4, i4, k4⟩ := u_known (C := RX4) (T := TX4) (N := 12) (n := 12) htz (z_cl_ok 4 _ rfl).1 (htz _ (z_mT 255 (by decide +kernel) rfl))
  obtain ⟨c5, i5, k5⟩ := u_known (C := RX5) (T := TX5) (N := 5) (n := 5) htz (z_cl_ok 5 _ rfl).1 (htz _ (z_mT 114 (by decide +kernel) rfl))
  obtain ⟨c6, i6, k6⟩ := u_known (C := RX6) (T := TX6) (N := 9) (n := 9) htz (z_cl_ok 6 _ rfl).1 (htz _ (z_mT 69 (by decide +kernel) rfl))
  obtain ⟨c7, i7, k7⟩ := u_known (C := RX7) (T := TX7) (N := 55) (n := 55) htz (z_cl_ok 7 _ rfl).1 (htz _ (z_mT 1021 (by decide +kernel) rfl))
  obtain ⟨cI, hI1, hI2⟩ := y_arr (ty := .int) (fun _ h => by cases h) (htz _ xa_int)
  obtain ⟨cZ, hZ1, hZ2⟩ := y_arr (ty := .boolean) (fun _ h => by cases h) (htz _ xa_boolean)
  obtain ⟨cJ, hJ1, hJ2⟩ := y_arr (ty := .long) (fun _ h => by cases h) (htz _ xa_long)
  obtain ⟨t, ht1, ht2⟩ := y_wt hg
  have hA : ∀ a : Nat, a < s.heap.size → ¬ (fun q => s.heap.size ≤ q) a := fun a h => Nat.not_le.mpr h
  refine ⟨(fun k => match k with
    | 0 => c0 | 1 => c1 | 2 => c2 | 3 => c3 | 4 => c4 | 5 => c5 | 6 => c6 | _ => c7, fun k => match k with
    | 0 => i0 | 1 => i1 | 2 => i2 | 3 => i3 | 4 => i4 | 5 => i5 | 6 => i6 | _ => i7), cI, cZ, cJ, t, ?_, fun ad had => ⟨⟨fun k q hq => ?_, fun k q hq => ?_⟩, y_nest hts, y_strs hts hg, ?_, ?_, ?_, ?_, y_ncs hg, y_cas hts, y_dec hts⟩⟩
  · obtain ⟨cell, h1, -⟩ := ht2
    exact (Array.getElem?_eq_some_iff.mp h1).1
  · match k, hq with
    | 0, hq => cases hq; exact k0
    | 1, hq => cases hq; exact k1
    | 2, hq => cases hq; exact k2
    | 3, hq => cases hq; exact k3
    | 4, hq => cases hq; exact k4
    | 5, hq => cases hq; exact k5
    | 6, hq => cases hq; exact k6
    | 7, hq => cases hq; exact k7
    | k + 8, hq => simp [z_cl] at hq
  · match k, hq with
    | 0, hq => cases hq; exact ⟨hI1, hI2⟩
    | 1, hq => cases hq; exact ⟨hZ1, hZ2⟩
    | 2, hq => cases hq; exact ⟨hJ1, hJ2⟩
    | k + 3, hq => simp at hq
  · exact vx_Zqof (y_T hts (i := 373) (by decide +kernel)) (y_T hts (i := 61) (by decide +kernel)) (y_at hg (i := 4) (by decide +kernel)) hA
  · exact vx_Zqof (y_T hts (i := 375) (by decide +kernel)) (y_T hts (i := 61) (by decide +kernel)) (y_at hg (i := 5) (by decide +kernel)) hA
  · rw [had]
    exact va_Zof (y_T hts (i := 988) (by decide +kernel)) (y_T hts (i := 53) (by decide +kernel)) ht1 hA
  · rw [had]
    exact ht2
