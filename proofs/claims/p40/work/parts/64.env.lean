/-! what holds of the start -/
theorem y_at {args : Array Value} {s : State} {c : Jvm.Cond} {i : Nat} (hg : (Jvm.Cond.and given_1 narrow_1).before args s = true) (h : (flatC (Jvm.Cond.and given_1 narrow_1))[i]? = some c) : c.before args s = true := flat_of_before _ hg c (List.mem_of_getElem? h)
theorem y_T {args : Array Value} {s : State} {c : Jvm.Cond} {i : Nat} (hts : ∀ w ∈ lw_tbl, w.before args s = true) (h : lw_tbl[i]? = some c) : c.before args s = true := hts c (List.mem_of_getElem? h)
theorem y_arr {args : Array Value} {s : State} {ty : FieldType} (hp : ∀ C, ty ≠ .object C) (h : (Jvm.Cond.arrayClass ty).before args s = true) : ∃ c, ArrOfT s c ty ∧ va_RA s c ty := by
  obtain ⟨c, k, comp, h1, h2, h3⟩ := Cond.arrayClass_spec (first := s) (o := none) (idx := []) (args := args) h
  refine ⟨c, fun n z => ⟨fun k h => (by cases h), k, h2, comp, h3⟩, ?_⟩
  cases ty with
  | object C => exact absurd rfl (hp C)
  | _ => exact h1
theorem y_str {args : Array Value} {s : State} {own tx : String} {k : Nat} (h1 : (Jvm.Cond.stringRef own k tx).before args s = true) (h2 : (Jvm.Cond.exactly (Jvm.Term.string own k) "java/lang/String").before args s = true) : ∃ a, vk_R own k tx a s := by
  obtain ⟨a, c, cell, kk, h3, -⟩ := Cond.exactly_spec (first := s) (o := none) (idx := []) (args := args) h2
  exact ⟨a, vk_R.of h1 h3⟩
theorem y_nest {args : Array Value} {s : State} (hts : ∀ w ∈ lw_tbl, w.before args s = true) : ∀ q ∈ z_nest, va_Nw (.methodLinkNest q.1 q.2.1 q.2.2.1 q.2.2.2) s :=
  List.forall_mem_cons.mpr ⟨va_Nw.of rfl (y_T hts (i := 45) (by decide +kernel)), List.forall_mem_cons.mpr ⟨va_Nw.of rfl (y_T hts (i := 82) (by decide +kernel)), List.forall_mem_cons.mpr ⟨va_Nw.of rfl (y_T hts (i := 107) (by decide +kernel)), List.forall_mem_cons.mpr ⟨va_Nw.of rfl (y_T hts (i := 140) (by decide +kernel)), List.forall_mem_cons.mpr ⟨va_Nw.of rfl (y_T hts (i := 181) (by decide +kernel)), List.forall_mem_cons.mpr ⟨va_Nw.of rfl (y_T hts (i := 223) (by decide +kernel)), List.forall_mem_cons.mpr ⟨va_Nw.of rfl (y_T hts (i := 619) (by decide +kernel)), List.forall_mem_cons.mpr ⟨va_Nw.of rfl (y_T hts (i := 711) (by decide +kernel)), List.forall_mem_cons.mpr ⟨va_Nw.of rfl (y_T hts (i := 724) (by decide +kernel)), List.forall_mem_cons.mpr ⟨va_Nw.of rfl (y_T hts (i := 459) (by decide +kernel)), List.forall_mem_cons.mpr ⟨va_Nw.of rfl (y_T hts (i := 456) (by decide +kernel)), List.forall_mem_cons.mpr ⟨va_Nw.of rfl (y_T hts (i := 560) (by decide +kernel)), fun _ h => absurd h List.not_mem_nil⟩⟩⟩⟩⟩⟩⟩⟩⟩⟩⟩⟩
theorem y_strs {args : Array Value} {s : State} (hts : ∀ w ∈ lw_tbl, w.before args s = true) (hg : (Jvm.Cond.and given_1 narrow_1).before args s = true) : ∀ q ∈ z_strs, ∃ a, vk_R q.1 q.2.1 q.2.2 a s :=
  List.forall_mem_cons.mpr ⟨y_str (y_T hts (i := 349) (by decide +kernel)) (y_at hg (i := 41) (by decide +kernel)), List.forall_mem_cons.mpr ⟨y_str (y_T hts (i := 385) (by decide +kernel)) (y_at hg (i := 65) (by decide +kernel)), List.forall_mem_cons.mpr ⟨y_str (y_T hts (i := 417) (by decide +kernel)) (y_at hg (i := 88) (by decide +kernel)), List.forall_mem_cons.mpr ⟨y_str (y_T hts (i := 424) (by decide +kernel)) (y_at hg (i := 116) (by decide +kernel)), List.forall_mem_cons.mpr ⟨y_str (y_T hts (i := 425) (by decide +kernel)) (y_at hg (i := 157) (by decide +kernel)), List.forall_mem_cons.mpr ⟨y_str (y_T hts (i := 439) (by decide +kernel)) (y_at hg (i := 181) (by decide +kernel)), List.forall_mem_cons.mpr ⟨y_str (y_T hts (i := 493) (by decide +kernel)) (y_at hg (i := 209) (by decide +kernel)), List.forall_mem_cons.mpr ⟨y_str (y_T hts (i := 494) (by decide +kernel)) (y_at hg (i := 227) (by decide +kernel)), List.forall_mem_cons.mpr ⟨y_str (y_T hts (i := 499) (by decide +kernel)) (y_at hg (i := 252) (by decide +kernel)), List.forall_mem_cons.mpr ⟨y_str (y_T hts (i := 504) (by decide +kernel)) (y_at hg (i := 269) (by decide +kernel)), List.forall_mem_cons.mpr ⟨y_str (y_T hts (i := 509) (by decide +kernel)) (y_at hg (i := 287) (by decide +kernel)), List.forall_mem_cons.mpr ⟨y_str (y_T hts (i := 525) (by decide +kernel)) (y_at hg (i := 311) (by decide +kernel)), List.forall_mem_cons.mpr ⟨y_str (y_T hts (i := 526) (by decide +kernel)) (y_at hg (i := 337) (by decide +kernel)), List.forall_mem_cons.mpr ⟨y_str (y_T hts (i := 527) (by decide +kernel)) (y_at hg (i := 362) (by decide +kernel)), List.forall_mem_cons.mpr ⟨y_str (y_T hts (i := 541) (by decide +kernel)) (y_at hg (i := 388) (by decide +kernel)), List.forall_mem_cons.mpr ⟨y_str (y_T hts (i := 575) (by decide +kernel)) (y_at hg (i := 494) (by decide +kernel)), List.forall_mem_cons.mpr ⟨y_str (y_T hts (i := 827) (by decide +kernel)) (y_at hg (i := 1343) (by decide +kernel)), List.forall_mem_cons.mpr ⟨y_str (y_T hts (i := 828) (by decide +kernel)) (y_at hg (i := 1378) (by decide +kernel)), List.forall_mem_cons.mpr ⟨y_str (y_T hts (i := 565) (by decide +kernel)) (y_at hg (i := 421) (by decide +kernel)), List.forall_mem_cons.mpr ⟨y_str (y_T hts (i := 566) (by decide +kernel)) (y_at hg (i := 451) (by decide +kernel)), List.forall_mem_cons.mpr ⟨y_str (y_T hts (i := 849) (by decide +kernel)) (y_at hg (i := 1400) (by decide +kernel)), List.forall_mem_cons.mpr ⟨y_str (y_T hts (i := 798) (by decide +kernel)) (y_at hg (i := 1238) (by decide +kernel)), List.forall_mem_cons.mpr ⟨y_str (y_T hts (i := 596) (by decide +kernel)) (y_at hg (i := 521) (by decide +kernel)), List.forall_mem_cons.mpr ⟨y_str (y_T hts (i := 601) (by decide +kernel)) (y_at hg (i := 536) (by decide +kernel)), List.forall_mem_cons.mpr ⟨y_str (y_T hts (i := 606) (by decide +kernel)) (y_at hg (i := 560) (by decide +kernel)), List.forall_mem_cons.mpr ⟨y_str (y_T hts (i := 610) (by decide +kernel)) (y_at hg (i := 577) (by decide +kernel)), List.forall_mem_cons.mpr ⟨y_str (y_T hts (i := 643) (by decide +kernel)) (y_at hg (i := 602) (by decide +kernel)), List.forall_mem_cons.mpr ⟨y_str (y_T hts (i := 644) (by decide +kernel)) (y_at hg (i := 638) (by decide +kernel)), List.forall_mem_cons.mpr ⟨y_str (y_T hts (i := 660) (by decide +kernel)) (y_at hg (i := 661) (by decide +kernel)), List.forall_mem_cons.mpr ⟨y_str (y_T hts (i := 661) (by decide +kernel)) (y_at hg (i := 688) (by decide +kernel)), List.forall_mem_cons.mpr ⟨y_str (y_T hts (i := 666) (by decide +kernel)) (y_at hg (i := 745) (by decide +kernel)), List.forall_mem_cons.mpr ⟨y_str (y_T hts (i := 667) (by decide +kernel)) (y_at hg (i := 762) (by decide +kernel)), List.forall_mem_cons.mpr ⟨y_str (y_T hts (i := 688) (by decide +kernel)) (y_at hg (i := 788) (by decide +kernel)), List.forall_mem_cons.mpr ⟨y_str (y_T hts (i := 697) (by decide +kernel)) (y_at hg (i := 819) (by decide +kernel)), List.forall_mem_cons.mpr ⟨y_str (y_T hts (i := 702) (by decide +kernel)) (y_at hg (i := 850) (by decide +kernel)), List.forall_mem_cons.mpr ⟨y_str (y_T hts (i := 729) (by decide +kernel)) (y_at hg (i := 874) (by decide +kernel)), List.forall_mem_cons.mpr ⟨y_str (y_T hts (i := 854) (by decide +kernel)) (y_at hg (i := 1431) (by decide +kernel)), List.forall_mem_cons.mpr ⟨y_str (y_T hts (i := 751) (by decide +kernel)) (y_at hg (i := 908) (by decide +kernel)), List.forall_mem_cons.mpr ⟨y_str (y_T hts (i := 760) (by decide +kernel)) (y_at hg (i := 936) (by decide +kernel)), List.forall_mem_cons.mpr ⟨y_str (y_T hts (i := 772) (by decide +kernel)) (y_at hg (i := 1002) (by decide +kernel)), List.forall_mem_cons.mpr ⟨y_str (y_T hts (i := 773) (by decide +kernel)) (y_at hg (i := 1059) (by decide +kernel)), List.forall_mem_cons.mpr ⟨y_str (y_T hts (i := 778) (by decide +kernel)) (y_at hg (i := 1098) (by decide +kernel)), List.forall_mem_cons.mpr ⟨y_str (y_T hts (i := 783) (by decide +kernel)) (y_at hg (i := 1116) (by decide +kernel)), List.forall_mem_cons.mpr ⟨y_str (y_T hts (i := 792) (by decide +kernel)) (y_at hg (i := 1179) (by decide +kernel)), List.forall_mem_cons.mpr ⟨y_str (y_T hts (i := 797) (by decide +kernel)) (y_at hg (i := 1212) (by decide +kernel)), List.forall_mem_cons.mpr ⟨y_str (y_T hts (i := 812) (by decide +kernel)) (y_at hg (i := 1259) (by decide +kernel)), List.forall_mem_cons.mpr ⟨y_str (y_T hts (i := 908) (by decide +kernel)) (y_at hg (i := 1455) (by decide +kernel)), List.forall_mem_cons.mpr ⟨y_str (y_T hts (i := 817) (by decide +kernel)) (y_at hg (i := 1284) (by decide +kernel)), List.forall_mem_cons.mpr ⟨y_str (y_T hts (i := 818) (by decide +kernel)) (y_at hg (i := 1310) (by decide +kernel)), fun _ h => absurd h List.not_mem_nil⟩⟩⟩⟩⟩⟩⟩⟩⟩⟩⟩⟩⟩⟩⟩⟩⟩⟩⟩⟩⟩⟩⟩⟩⟩⟩⟩⟩⟩⟩⟩⟩⟩⟩⟩⟩⟩⟩⟩⟩⟩⟩⟩⟩⟩⟩⟩⟩⟩
theorem y_ncs {args : Array Value} {s : State} (hg : (Jvm.Cond.and given_1 narrow_1).before args s = true) : ∀ q ∈ z_ncs, va_Nc q.1 q.2 s :=
  List.forall_mem_cons.mpr ⟨va_Nc.of (y_at hg (i := 21) (by decide +kernel)), List.forall_mem_cons.mpr ⟨va_Nc.of (y_at hg (i := 22) (by decide +kernel)), List.forall_mem_cons.mpr ⟨va_Nc.of (y_at hg (i := 30) (by decide +kernel)), fun _ h => absurd h List.not_mem_nil⟩⟩⟩
theorem y_cas {args : Array Value} {s : State} (hts : ∀ w ∈ lw_tbl, w.before args s = true) : ∀ q ∈ z_cas, va_Nw (.castable q q) s :=
  List.forall_mem_cons.mpr ⟨va_Nw.of rfl (y_T hts (i := 310) (by decide +kernel)), List.forall_mem_cons.mpr ⟨va_Nw.of rfl (y_T hts (i := 378) (by decide +kernel)), List.forall_mem_cons.mpr ⟨va_Nw.of rfl (y_T hts (i := 410) (by decide +kernel)), fun _ h => absurd h List.not_mem_nil⟩⟩⟩
theorem y_dec {args : Array Value} {s : State} (hts : ∀ w ∈ lw_tbl, w.before args s = true) : ∀ q ∈ z_dec, va_Nw (.declares q) s :=
  List.forall_mem_cons.mpr ⟨va_Nw.of rfl (y_T hts (i := 312) (by decide +kernel)), List.forall_mem_cons.mpr ⟨va_Nw.of rfl (y_T hts (i := 314) (by decide +kernel)), List.forall_mem_cons.mpr ⟨va_Nw.of rfl (y_T hts (i := 316) (by decide +kernel)), fun _ h => absurd h List.not_mem_nil⟩⟩⟩
theorem y_wt {args : Array Value} {s : State} (hg : (Jvm.Cond.and given_1 narrow_1).before args s = true) : ∃ t : Nat, (Jvm.Term.static "Songlinebench" "WEIGHTS" "[I").eval args s none [] s = some (.ref t) ∧ va_T .int t 5 (fun j => .int (z_wt j)) (fun q => s.heap.size ≤ q) s s.heap := by
  refine va_Tof (by decide) (y_at hg (i := 7) (by decide +kernel)) (va_eqt (y_at hg (i := 8) (by decide +kernel))) (fun j hj => ?_) (fun a h => Nat.not_le.mpr h)
  match j, hj with
  | 0, _ => exact va_eqt (y_at hg (i := 9) (by decide +kernel))
  | 1, _ => exact va_eqt (y_at hg (i := 10) (by decide +kernel))
  | 2, _ => exact va_eqt (y_at hg (i := 11) (by decide +kernel))
  | 3, _ => exact va_eqt (y_at hg (i := 12) (by decide +kernel))
  | 4, _ => exact va_eqt (y_at hg (i := 13) (by decide +kernel))
theorem y_env {args : Array Value} {s : State} (hts : ∀ w ∈ lw_tbl, w.before args s = true) (hg : (Jvm.Cond.and given_1 narrow_1).before args s = true) : ∃ (D : va_G) (cI cZ cJ : ClassId) (aw : Nat), aw < s.heap.size ∧ ∀ ad : Nat → Nat, ad z_WT = aw → z_E D cI cZ cJ ad (fun q => s.heap.size ≤ q) s := by
  have htz : ∀ w ∈ z_T, w.before args s = true := fun w hw => hts w (List.mem_filter.mp hw).1
  obtain ⟨c0, i0, k0⟩ := u_known (C := RX0) (T := TX0) (N := 9) (n := 9) htz (z_cl_ok 0 _ rfl).1 (htz _ (z_mT 139 (by decide +kernel) rfl))
  obtain ⟨c1, i1, k1⟩ := u_known (C := RX1) (T := TX1) (N := 9) (n := 9) htz (z_cl_ok 1 _ rfl).1 (htz _ (z_mT 180 (by decide +kernel) rfl))
  obtain ⟨c2, i2, k2⟩ := u_known (C := RX2) (T := TX2) (N := 8) (n := 8) htz (z_cl_ok 2 _ rfl).1 (htz _ (z_mT 44 (by decide +kernel) rfl))
  obtain ⟨c3, i3, k3⟩ := u_known (C := RX3) (T := TX3) (N := 8) (n := 8) htz (z_cl_ok 3 _ rfl).1 (htz _ (z_mT 106 (by decide +kernel) rfl))
  obtain ⟨c4, i4, k4⟩ := u_known (C := RX4) (T := TX4) (N := 12) (n := 12) htz (z_cl_ok 4 _ rfl).1 (htz _ (z_mT 222 (by decide +kernel) rfl))
  obtain ⟨c5, i5, k5⟩ := u_known (C := RX5) (T := TX5) (N := 5) (n := 5) htz (z_cl_ok 5 _ rfl).1 (htz _ (z_mT 81 (by decide +kernel) rfl))
  obtain ⟨c6, i6, k6⟩ := u_known (C := RX6) (T := TX6) (N := 9) (n := 9) htz (z_cl_ok 6 _ rfl).1 (htz _ (z_mT 36 (by decide +kernel) rfl))
  obtain ⟨cI, hI1, hI2⟩ := y_arr (ty := .int) (fun _ h => by cases h) (htz _ xa_int)
  obtain ⟨cZ, hZ1, hZ2⟩ := y_arr (ty := .boolean) (fun _ h => by cases h) (htz _ xa_boolean)
  obtain ⟨cJ, hJ1, hJ2⟩ := y_arr (ty := .long) (fun _ h => by cases h) (htz _ xa_long)
  obtain ⟨t, ht1, ht2⟩ := y_wt hg
  have hA : ∀ a : Nat, a < s.heap.size → ¬ (fun q => s.heap.size ≤ q) a := fun a h => Nat.not_le.mpr h
  refine ⟨(fun k => match k with
    | 0 => c0 | 1 => c1 | 2 => c2 | 3 => c3 | 4 => c4 | 5 => c5 | _ => c6, fun k => match k with
    | 0 => i0 | 1 => i1 | 2 => i2 | 3 => i3 | 4 => i4 | 5 => i5 | _ => i6), cI, cZ, cJ, t, ?_, fun ad had => ⟨⟨fun k q hq => ?_, fun k q hq => ?_⟩, y_nest hts, y_strs hts hg, ?_, ?_, ?_, ?_, y_ncs hg, y_cas hts, y_dec hts⟩⟩
  · obtain ⟨cell, h1, -⟩ := ht2
    exact (Array.getElem?_eq_some_iff.mp h1).1
  · match k, hq with
    | 0, hq => cases hq; exact k0
    | 1, hq => cases hq; exact k1
    | 2, hq => cases hq; exact k2
    | 3, hq => cases hq; exact k3
    | 4, hq => cases hq; exact k4
    | 5, hq => cases hq; exact k5
    | 6, hq => cases hq; exact k6
    | k + 7, hq => simp [z_cl] at hq
  · match k, hq with
    | 0, hq => cases hq; exact ⟨hI1, hI2⟩
    | 1, hq => cases hq; exact ⟨hZ1, hZ2⟩
    | 2, hq => cases hq; exact ⟨hJ1, hJ2⟩
    | k + 3, hq => simp at hq
  · exact vx_Zqof (y_T hts (i := 335) (by decide +kernel)) (y_T hts (i := 28) (by decide +kernel)) (y_at hg (i := 4) (by decide +kernel)) hA
  · exact vx_Zqof (y_T hts (i := 337) (by decide +kernel)) (y_T hts (i := 28) (by decide +kernel)) (y_at hg (i := 5) (by decide +kernel)) hA
  · rw [had]
    exact va_Zof (y_T hts (i := 900) (by decide +kernel)) (y_T hts (i := 21) (by decide +kernel)) ht1 hA
  · rw [had]
    exact ht2
