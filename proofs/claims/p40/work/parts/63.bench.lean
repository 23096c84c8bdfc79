/-! the constructor of Songlinebench -/
def x_no (l : List Nat) (o : Nat) : Bool := (x_fl o).all (fun f => f.all (fun u => decide (u ∉ l)))
def x_in (l : List Nat) (o : Nat) : Bool := (x_fl o).all (fun f => f.all (fun u => decide (u ∈ l)))
theorem x_no_of {l : List Nat} {o u : Nat} (h : x_no l o = true) (hu : some u ∈ x_fl o) : u ∉ l := by
  have := List.all_eq_true.mp h _ hu
  exact of_decide_eq_true this
theorem x_in_of {l : List Nat} {o u : Nat} (h : x_in l o = true) (hu : some u ∈ x_fl o) : u ∈ l := by
  have := List.all_eq_true.mp h _ hu
  exact of_decide_eq_true this
def x_mix (ad adt : Nat → Nat) (idst : List Nat) : Nat → Nat := fun a => if a ∈ idst then adt a else ad a
theorem x_mix_in {ad adt : Nat → Nat} {idst : List Nat} {a : Nat} (h : a ∈ idst) : x_mix ad adt idst a = adt a := if_pos h
theorem x_mix_no {ad adt : Nat → Nat} {idst : List Nat} {a : Nat} (h : a ∉ idst) : x_mix ad adt idst a = ad a := if_neg h
theorem x_mixL {cI cZ cJ : ClassId} {ad adt : Nat → Nat} {done idst : List Nat} (h1 : ∀ a ∈ done, a ∉ idst) (h2 : ∀ a ∈ done, a % 8 = 0 → x_no idst a = true) (h3 : ∀ a ∈ idst, a % 8 = 0 → x_in idst a = true) : x_L cI cZ cJ (x_mix ad adt idst) (done ++ idst) = x_L cI cZ cJ ad done ++ x_L cI cZ cJ adt idst := by
  have e1 : x_L cI cZ cJ (x_mix ad adt idst) done = x_L cI cZ cJ ad done := x_L_fr (fun a ha => ⟨x_mix_no (h1 a ha), fun h8 u hu => x_mix_no (x_no_of (h2 a ha h8) hu)⟩)
  have e2 : x_L cI cZ cJ (x_mix ad adt idst) idst = x_L cI cZ cJ adt idst := x_L_fr (fun a ha => ⟨x_mix_in ha, fun h8 u hu => x_mix_in (x_in_of (h3 a ha h8) hu)⟩)
  rw [← e1, ← e2]
  unfold x_L
  rw [List.map_append]
theorem x_fs_len {ad : Nat → Nat} {done : List Nat} {o : Nat} : (x_fs ad done o).length = (x_fl o).length := by
  unfold x_fs
  rw [List.length_map]
theorem x_fs_none {ad : Nat → Nat} {done : List Nat} {o k : Nat} (hk : (x_fl o)[k]? = some none) : (x_fs ad done o).set k (.int 0) = x_fs ad done o := by
  apply List.ext_getElem?
  intro j
  by_cases e : j = k
  · subst e
    rw [List.getElem?_set_self (by rw [x_fs_len]; exact (List.getElem?_eq_some_iff.mp hk).1)]
    unfold x_fs
    rw [List.getElem?_map, hk]
    rfl
  · rw [List.getElem?_set_ne (Ne.symm e)]
theorem x_hdk2 {done : List Nat} {t : Nat} (h : ∀ a ∈ done, a % 8 = 0 → x_no [t] a = true) : ∀ a ∈ done, a % 8 = 0 → ∀ u, some u ∈ x_fl a → u ≠ t := fun a ha h0 u hu z => x_no_of (h a ha h0) hu (List.mem_singleton.mpr z)
section XC
variable {p : Program} {l : Launch} {e : Env} {R : Room} {s : State} {m : MethodId} {args : Array Value} {below : List Frame} {meth : Method} {c : Code} {H : Heap} {locs : List Loc} {cells slots : Nat} {Q : State → Prop} {cc : ByteArray} {nL : Nat} {own : String} {D : va_G} {cI cZ cJ : ClassId} {A : Nat → Prop} {pc : Nat} {ls : Array Slot}
/-- this.f = new C() -/
theorem x_obj (F : CallFix p m c cc nL s args z_T own) (hinit : meth.name = "<init>") {ad : Nat → Nat} {done idst : List Nat} {h0 o t k idx1 idx3 N Nt nc ns : Nat} {T Tt : u_T} {C : String} {fty : FieldType}
    (hK : va_K D z_cl [(cI, .int), (cZ, .boolean), (cJ, .long)] s) (hNest : ∀ q ∈ z_nest, va_Nw (.methodLinkNest q.1 q.2.1 q.2.2.1 q.2.2.2) s) (hP : va_P D z_cl (x_W cI cZ cJ ad done h0 o) H) (hD : va_D A (x_W cI cZ cJ ad done h0 o)) (hS : va_S A s.heap H locs) (hA : ∀ q, s.heap.size ≤ q → A q) (hl : lv_has ls nL [(0, .ref h0)])
    (d0 : decode cc pc = .ok (.aload_n 0, 1)) (d1 : decode cc (pc + 1) = .ok (.new idx1, 3)) (d2 : decode cc (pc + 1 + 3) = .ok (.dup, 1)) (d4 : decode cc (pc + 1 + 3 + 1 + 3) = .ok (.putfield idx3, 3))
    (hct : z_cl[z_n t]? = some (C, Tt, Nt)) (ty : Nat → FieldType) (hty : ∀ k, k < Nt → parseFieldDescriptor (Tt k).2.2.1 = some (ty k)) (hcl : Jvm.Cond.classLink own idx1 C ∈ z_T) (hinst : Jvm.Cond.instantiable C Nt ∈ z_T) (hini : Jvm.Cond.initialized C ∈ z_T) (hfs : ∀ j, j < Nt → defaultValue (ty j) = vp_V (x_fs (fun _ => 0) [] t) j)
    (hrun : ∀ (q : Nat) (H : Heap) (locs : List Loc) (cells slots : Nat), PreS s H (va_Pc [.ref q] (x_B cI cZ cJ D q H.size t)) [.ref q] → cells + nc ≤ R.cells ∧ slots + ns ≤ R.slots → va_Run p l e R s m args below meth c H locs cells slots nc ns (F0 m (pc + 1 + 3 + 1) ls (.ref q :: .ref q :: [.ref h0])) (.ref q :: [.ref h0]) (x_Q cI cZ cJ D q H.size t idst (Value.ref q :: []).toArray) (va_A (x_c0 q t) H.size))
    (hc : z_cl[z_n o]? = some (own, T, N)) (hk : k < N) (hlink : Jvm.Cond.fieldLink own idx3 (T k).1 (T k).2.1 (T k).2.2.1 ∈ z_T) (hfin : (T k).2.2.2 = true) (hdecl : (T k).1 = own) (hd : parseFieldDescriptor (T k).2.2.1 = some fty) (hnw : ∀ q, narrow fty (.ref q) = .ref q) (hfit : ∀ q, fits fty (.ref q) = true)
    (hkt : (x_fl o)[k]? = some (some t)) (hu : ∀ j, (x_fl o)[j]? = some (some t) → j = k) (ht : t ∈ idst) (hn : ∀ u, some u ∈ x_fl o → u ≠ t → u ∉ idst) (h1 : ∀ a ∈ done, a ∉ idst) (h2 : ∀ a ∈ done, a % 8 = 0 → x_no idst a = true) (h3 : ∀ a ∈ idst, a % 8 = 0 → x_in idst a = true)
    (hcells : cells + 1 + nc ≤ R.cells) (hslots : slots + Nt + ns ≤ R.slots)
    (kk : ∀ (adt : Nat → Nat) (H1 : Heap) (locs1 : List Loc), va_P D z_cl (x_W cI cZ cJ (x_mix ad adt idst) (done ++ idst) h0 o) H1 → va_D A (x_W cI cZ cJ (x_mix ad adt idst) (done ++ idst) h0 o) → va_S A s.heap H1 locs1 → W p l e R s m args below meth c H1 locs1 (cells + 1 + nc) (slots + Nt + ns) Q (F0 m (pc + 11) ls [])) : W p l e R s m args below meth c H locs cells slots Q (F0 m pc ls []) := by
  obtain ⟨hx, hbb, hml, hown, hts⟩ := id F
  refine lv_aload_n hx hbb d0 rfl (lv_at hl 0 rfl) ?_
  refine x_make (rest := [.ref h0]) F hK hNest hP hD hS hA hct ty hty hcl hinst hini hfs d1 d2 hrun hcells hslots (fun q adt H1 locs1 hq hP1 hD1 hS1 => ?_)
  obtain ⟨hin, ⟨tyf, htyf⟩, hnm⟩ := z_cl_ok (z_n o) _ hc
  refine va_putF (D := D) (cl := z_cl) (ci := z_n o) (v := .ref q) (ty := fty) (C := own) (T := T) (N := N) (ref := (T k).1) hx hbb hts hin tyf htyf hnm hown hK hP1 hD1 hS1 0 rfl hc k hk (hts _ hlink) (fun _ h9 => h9) hfin hinit hdecl hd (hnw q) (hfit q) (by rw [x_fs_len]; exact (List.getElem?_eq_some_iff.mp hkt).1) d4 (fun H2 locs2 hP2 hD2 hS2 => ?_)
  have e1 : x_fs (x_mix ad adt idst) (done ++ idst) o = (x_fs ad done o).set k (.ref q) := x_fs_set hkt hu ht (by rw [x_mix_in ht, hq]) hn (fun u hu => x_mix_no (h1 u hu))
  have e2 := x_mixL (cI := cI) (cZ := cZ) (cJ := cJ) (ad := ad) (adt := adt) h1 h2 h3
  have hW : x_W cI cZ cJ (x_mix ad adt idst) (done ++ idst) h0 o = ((x_W cI cZ cJ ad done h0 o) ++ x_L cI cZ cJ adt idst).set 0 (h0, Sum.inr (z_n o, (x_fs ad done o).set k (.ref q))) := by
    unfold x_W
    rw [e1, e2]
    rfl
  have := kk adt H2 locs2 (by rw [hW]; exact hP2) (by rw [hW]; exact hD2) hS2
  exact this
end XC
theorem dX6_init_0 : decode cX6_init 0 = .ok (.aload_n 0, 1) := by decide +kernel
theorem dX6_init_1 : decode cX6_init 1 = .ok (.invokespecial 1, 3) := by decide +kernel
theorem dX6_init_4 : decode cX6_init 4 = .ok (.aload_n 0, 1) := by decide +kernel
theorem dX6_init_5 : decode cX6_init 5 = .ok (.new 7, 3) := by decide +kernel
theorem dX6_init_8 : decode cX6_init 8 = .ok (.dup, 1) := by decide +kernel
theorem dX6_init_9 : decode cX6_init 9 = .ok (.invokespecial 9, 3) := by decide +kernel
theorem dX6_init_12 : decode cX6_init 12 = .ok (.putfield 10, 3) := by decide +kernel
theorem dX6_init_15 : decode cX6_init 15 = .ok (.aload_n 0, 1) := by decide +kernel
theorem dX6_init_16 : decode cX6_init 16 = .ok (.new 16, 3) := by decide +kernel
theorem dX6_init_19 : decode cX6_init 19 = .ok (.dup, 1) := by decide +kernel
theorem dX6_init_20 : decode cX6_init 20 = .ok (.invokespecial 18, 3) := by decide +kernel
theorem dX6_init_23 : decode cX6_init 23 = .ok (.putfield 19, 3) := by decide +kernel
theorem dX6_init_26 : decode cX6_init 26 = .ok (.aload_n 0, 1) := by decide +kernel
theorem dX6_init_27 : decode cX6_init 27 = .ok (.new 23, 3) := by decide +kernel
theorem dX6_init_30 : decode cX6_init 30 = .ok (.dup, 1) := by decide +kernel
theorem dX6_init_31 : decode cX6_init 31 = .ok (.invokespecial 25, 3) := by decide +kernel
theorem dX6_init_34 : decode cX6_init 34 = .ok (.putfield 26, 3) := by decide +kernel
theorem dX6_init_37 : decode cX6_init 37 = .ok (.aload_n 0, 1) := by decide +kernel
theorem dX6_init_38 : decode cX6_init 38 = .ok (.new 30, 3) := by decide +kernel
theorem dX6_init_41 : decode cX6_init 41 = .ok (.dup, 1) := by decide +kernel
theorem dX6_init_42 : decode cX6_init 42 = .ok (.invokespecial 32, 3) := by decide +kernel
theorem dX6_init_45 : decode cX6_init 45 = .ok (.putfield 33, 3) := by decide +kernel
theorem dX6_init_48 : decode cX6_init 48 = .ok (.aload_n 0, 1) := by decide +kernel
theorem dX6_init_49 : decode cX6_init 49 = .ok (.new 37, 3) := by decide +kernel
theorem dX6_init_52 : decode cX6_init 52 = .ok (.dup, 1) := by decide +kernel
theorem dX6_init_53 : decode cX6_init 53 = .ok (.invokespecial 39, 3) := by decide +kernel
theorem dX6_init_56 : decode cX6_init 56 = .ok (.putfield 40, 3) := by decide +kernel
theorem dX6_init_59 : decode cX6_init 59 = .ok (.aload_n 0, 1) := by decide +kernel
theorem dX6_init_60 : decode cX6_init 60 = .ok (.new 44, 3) := by decide +kernel
theorem dX6_init_63 : decode cX6_init 63 = .ok (.dup, 1) := by decide +kernel
theorem dX6_init_64 : decode cX6_init 64 = .ok (.invokespecial 46, 3) := by decide +kernel
theorem dX6_init_67 : decode cX6_init 67 = .ok (.putfield 47, 3) := by decide +kernel
theorem dX6_init_70 : decode cX6_init 70 = .ok (.aload_n 0, 1) := by decide +kernel
theorem dX6_init_71 : decode cX6_init 71 = .ok (.bipush 16, 2) := by decide +kernel
theorem dX6_init_73 : decode cX6_init 73 = .ok (.newarray .int, 2) := by decide +kernel
theorem dX6_init_75 : decode cX6_init 75 = .ok (.putfield 51, 3) := by decide +kernel
theorem dX6_init_78 : decode cX6_init 78 = .ok (.aload_n 0, 1) := by decide +kernel
theorem dX6_init_79 : decode cX6_init 79 = .ok (.bipush 6, 2) := by decide +kernel
theorem dX6_init_81 : decode cX6_init 81 = .ok (.newarray .long, 2) := by decide +kernel
theorem dX6_init_83 : decode cX6_init 83 = .ok (.putfield 55, 3) := by decide +kernel
theorem dX6_init_86 : decode cX6_init 86 = .ok (.aload_n 0, 1) := by decide +kernel
theorem dX6_init_87 : decode cX6_init 87 = .ok (.iconst 0, 1) := by decide +kernel
theorem dX6_init_88 : decode cX6_init 88 = .ok (.putfield 59, 3) := by decide +kernel
theorem dX6_init_91 : decode cX6_init 91 = .ok (.return_, 1) := by decide +kernel
def xi_6 : List Nat := [2096, 4112, 20529, 22577, 24817, 26865, 28913, 30961, 6184, 32849, 34897, 37825, 39873, 8216, 41441, 43489, 45537, 47585, 49201, 51585, 53633, 10240, 55617, 57665, 59713, 61761, 63809, 65857, 67906, 69954, 12296, 71777, 73825, 75873, 77921, 79969, 82017, 84065, 86113, 14368, 88161, 90209, 92257, 94305, 96353, 98401, 100449, 102497, 104545, 106594, 108642, 16513, 18483]
theorem x_nk {o t : Nat} {idst : List Nat} (h : ∀ f ∈ x_fl o, f.all (fun u => decide (u = t ∨ u ∉ idst)) = true) : ∀ u, some u ∈ x_fl o → u ≠ t → u ∉ idst := fun u hu hne => by
  have := of_decide_eq_true (h _ hu)
  exact this.elim (fun z => absurd z hne) id
set_option maxRecDepth 20000 in
set_option maxHeartbeats 8000000 in
theorem kt_6 (l : Launch) : x_KT l yX6_init cX6_init 2096 xi_6 2 32 52 1355 := by
  intro D cI cZ cJ h0 sz
  refine Met.ofW (cc := cX6_init) (maxL := 1) (ret := none) (by decide) rfl ?_
  intro p e s m args below meth c s₁ B hml hv
  obtain ⟨rfl, hsz, hP, hK, hNest⟩ := hv
  subst hsz
  have hts0 := atoms_spec (ws := Jvm.Cond.code yX6_init cX6_init 1 none :: z_T) B.pre
  have hown : s.vm.findClass RX6 = some m.cls := findClass_of_methodNamed B.named
  have hr := B.returns
  have hlocks := B.notSynchronized
  have hin : meth.name = "<init>" := (name_of_methodNamed B.named B.method).1
  have hts : ∀ w ∈ z_T, w.before _ s = true := fun w hw => hts0 w (List.mem_cons_of_mem _ hw)
  have F : CallFix p m c cX6_init 1 s _ z_T RX6 := ⟨B.exec, B.bytes, hml, hown, hts⟩
  have hP : va_P D z_cl (x_W cI cZ cJ (fun _ => h0) [] h0 2096) s.heap := by rw [x_W_0]; exact hP
  have hD : va_D (va_A (x_c0 h0 2096) s.heap.size) (x_W cI cZ cJ (fun _ => h0) [] h0 2096) := by rw [x_W_0]; exact x_D0
  have hA : ∀ q : Nat, s.heap.size ≤ q → va_A (x_c0 h0 2096) s.heap.size q := fun q h => Or.inr h
  have hS : va_S (va_A (x_c0 h0 2096) s.heap.size) s.heap s.heap [] := va_S.rf
  have hl := lv_entry ([.ref h0]) (n := 1) (Nat.le_of_ble_eq_true rfl)
  rw [lg_entry_eq]
  generalize (lg_sl ([.ref h0]) ++ List.replicate (1 - (lg_sl ([.ref h0])).length) Slot.unset).toArray = ls at hl ⊢
  have hl : lv_has ls 1 [(0, .ref h0)] := hl
  refine lv_aload_n B.exec B.bytes dX6_init_0 rfl (lv_at hl 0 rfl) ?_
  refine W.objInit B.exec B.bytes hown (hts _ (z_mT 40 (by decide +kernel) rfl)) (hts _ (z_mT 41 (by decide +kernel) rfl)) (hts _ (z_mT 42 (by decide +kernel) rfl)) rfl (by rw [hml]; exact hl.1) rfl dX6_init_1 (Nat.le_of_ble_eq_true rfl) (Nat.le_of_ble_eq_true rfl) ?_
  refine W.eq (g2 := F0 m 4 ls []) rfl ?_
  refine x_obj (t := 4112) (k := 0) (idx1 := 7) (idx3 := 10) (N := 9) (Nt := 8) (nc := 6) (ns := 132) (T := TX6) (Tt := TX2) (C := RX2) (fty := .object "Songlinebench$Kin") (idst := xi_2) F hin hK hNest hP hD hS hA hl dX6_init_4 dX6_init_5 dX6_init_8 dX6_init_12 rfl tyX2 tyX2_ok (z_mT 43 (by decide +kernel) rfl) (z_mT 44 (by decide +kernel) rfl) (z_mT 22 (by decide +kernel) rfl) (by decide +kernel) (x_runN (idx := 9) (fr := 1) (lo := 12) (host := "Songlinebench") F (kt_2 l) hNest (List.mem_of_getElem? (i := 0) rfl) (z_mT 47 (by decide +kernel) rfl) (z_mT 22 (by decide +kernel) rfl) (by decide) rfl rfl (z_mT 46 (by decide +kernel) rfl) (Nat.le_of_ble_eq_true rfl) (Nat.le_of_ble_eq_true rfl) hl.1 (Nat.le_of_ble_eq_true rfl) dX6_init_9) rfl (by decide) (z_mT 275 (by decide +kernel) rfl) rfl rfl (by decide +kernel) (fun _ => rfl) (fun _ => rfl) rfl (x_uniq (by decide +kernel)) (by decide) (x_nk (by decide +kernel)) (by decide +kernel) (by decide +kernel) (by decide +kernel) (Nat.le_of_ble_eq_true rfl) (Nat.le_of_ble_eq_true rfl) (fun ad2 H locs hP hD hS => ?_)
  refine x_obj (t := 6184) (k := 1) (idx1 := 16) (idx3 := 19) (N := 9) (Nt := 5) (nc := 4) (ns := 260) (T := TX6) (Tt := TX5) (C := RX5) (fty := .object "Songlinebench$Stories") (idst := xi_5) F hin hK hNest hP hD hS hA hl dX6_init_15 dX6_init_16 dX6_init_19 dX6_init_23 rfl tyX5 tyX5_ok (z_mT 80 (by decide +kernel) rfl) (z_mT 81 (by decide +kernel) rfl) (z_mT 23 (by decide +kernel) rfl) (by decide +kernel) (x_runN (idx := 18) (fr := 1) (lo := 12) (host := "Songlinebench") F (kt_5 l) hNest (List.mem_of_getElem? (i := 1) rfl) (z_mT 84 (by decide +kernel) rfl) (z_mT 23 (by decide +kernel) rfl) (by decide) rfl rfl (z_mT 83 (by decide +kernel) rfl) (Nat.le_of_ble_eq_true rfl) (Nat.le_of_ble_eq_true rfl) hl.1 (Nat.le_of_ble_eq_true rfl) dX6_init_20) rfl (by decide) (z_mT 276 (by decide +kernel) rfl) rfl rfl (by decide +kernel) (fun _ => rfl) (fun _ => rfl) rfl (x_uniq (by decide +kernel)) (by decide) (x_nk (by decide +kernel)) (by decide +kernel) (by decide +kernel) (by decide +kernel) (Nat.le_of_ble_eq_true rfl) (Nat.le_of_ble_eq_true rfl) (fun ad5 H locs hP hD hS => ?_)
  refine x_obj (t := 8216) (k := 2) (idx1 := 23) (idx3 := 26) (N := 9) (Nt := 8) (nc := 7) (ns := 342) (T := TX6) (Tt := TX3) (C := RX3) (fty := .object "Songlinebench$Marks") (idst := xi_3) F hin hK hNest hP hD hS hA hl dX6_init_26 dX6_init_27 dX6_init_30 dX6_init_34 rfl tyX3 tyX3_ok (z_mT 105 (by decide +kernel) rfl) (z_mT 106 (by decide +kernel) rfl) (z_mT 24 (by decide +kernel) rfl) (by decide +kernel) (x_runN (idx := 25) (fr := 1) (lo := 12) (host := "Songlinebench") F (kt_3 l) hNest (List.mem_of_getElem? (i := 2) rfl) (z_mT 109 (by decide +kernel) rfl) (z_mT 24 (by decide +kernel) rfl) (by decide) rfl rfl (z_mT 108 (by decide +kernel) rfl) (Nat.le_of_ble_eq_true rfl) (Nat.le_of_ble_eq_true rfl) hl.1 (Nat.le_of_ble_eq_true rfl) dX6_init_31) rfl (by decide) (z_mT 277 (by decide +kernel) rfl) rfl rfl (by decide +kernel) (fun _ => rfl) (fun _ => rfl) rfl (x_uniq (by decide +kernel)) (by decide) (x_nk (by decide +kernel)) (by decide +kernel) (by decide +kernel) (by decide +kernel) (Nat.le_of_ble_eq_true rfl) (Nat.le_of_ble_eq_true rfl) (fun ad3 H locs hP hD hS => ?_)
  refine x_obj (t := 10240) (k := 3) (idx1 := 30) (idx3 := 33) (N := 9) (Nt := 9) (nc := 8) (ns := 320) (T := TX6) (Tt := TX0) (C := RX0) (fty := .object "Songlinebench$Acts") (idst := xi_0) F hin hK hNest hP hD hS hA hl dX6_init_37 dX6_init_38 dX6_init_41 dX6_init_45 rfl tyX0 tyX0_ok (z_mT 138 (by decide +kernel) rfl) (z_mT 139 (by decide +kernel) rfl) (z_mT 25 (by decide +kernel) rfl) (by decide +kernel) (x_runN (idx := 32) (fr := 1) (lo := 12) (host := "Songlinebench") F (kt_0 l) hNest (List.mem_of_getElem? (i := 3) rfl) (z_mT 142 (by decide +kernel) rfl) (z_mT 25 (by decide +kernel) rfl) (by decide) rfl rfl (z_mT 141 (by decide +kernel) rfl) (Nat.le_of_ble_eq_true rfl) (Nat.le_of_ble_eq_true rfl) hl.1 (Nat.le_of_ble_eq_true rfl) dX6_init_42) rfl (by decide) (z_mT 278 (by decide +kernel) rfl) rfl rfl (by decide +kernel) (fun _ => rfl) (fun _ => rfl) rfl (x_uniq (by decide +kernel)) (by decide) (x_nk (by decide +kernel)) (by decide +kernel) (by decide +kernel) (by decide +kernel) (Nat.le_of_ble_eq_true rfl) (Nat.le_of_ble_eq_true rfl) (fun ad0 H locs hP hD hS => ?_)
  refine x_obj (t := 12296) (k := 4) (idx1 := 37) (idx3 := 40) (N := 9) (Nt := 9) (nc := 8) (ns := 96) (T := TX6) (Tt := TX1) (C := RX1) (fty := .object "Songlinebench$Claims") (idst := xi_1) F hin hK hNest hP hD hS hA hl dX6_init_48 dX6_init_49 dX6_init_52 dX6_init_56 rfl tyX1 tyX1_ok (z_mT 179 (by decide +kernel) rfl) (z_mT 180 (by decide +kernel) rfl) (z_mT 26 (by decide +kernel) rfl) (by decide +kernel) (x_runN (idx := 39) (fr := 1) (lo := 12) (host := "Songlinebench") F (kt_1 l) hNest (List.mem_of_getElem? (i := 4) rfl) (z_mT 183 (by decide +kernel) rfl) (z_mT 26 (by decide +kernel) rfl) (by decide) rfl rfl (z_mT 182 (by decide +kernel) rfl) (Nat.le_of_ble_eq_true rfl) (Nat.le_of_ble_eq_true rfl) hl.1 (Nat.le_of_ble_eq_true rfl) dX6_init_53) rfl (by decide) (z_mT 279 (by decide +kernel) rfl) rfl rfl (by decide +kernel) (fun _ => rfl) (fun _ => rfl) rfl (x_uniq (by decide +kernel)) (by decide) (x_nk (by decide +kernel)) (by decide +kernel) (by decide +kernel) (by decide +kernel) (Nat.le_of_ble_eq_true rfl) (Nat.le_of_ble_eq_true rfl) (fun ad1 H locs hP hD hS => ?_)
  refine x_obj (t := 14368) (k := 5) (idx1 := 44) (idx3 := 47) (N := 9) (Nt := 12) (nc := 11) (ns := 132) (T := TX6) (Tt := TX4) (C := RX4) (fty := .object "Songlinebench$Notices") (idst := xi_4) F hin hK hNest hP hD hS hA hl dX6_init_59 dX6_init_60 dX6_init_63 dX6_init_67 rfl tyX4 tyX4_ok (z_mT 221 (by decide +kernel) rfl) (z_mT 222 (by decide +kernel) rfl) (z_mT 27 (by decide +kernel) rfl) (by decide +kernel) (x_runN (idx := 46) (fr := 1) (lo := 12) (host := "Songlinebench") F (kt_4 l) hNest (List.mem_of_getElem? (i := 5) rfl) (z_mT 225 (by decide +kernel) rfl) (z_mT 27 (by decide +kernel) rfl) (by decide) rfl rfl (z_mT 224 (by decide +kernel) rfl) (Nat.le_of_ble_eq_true rfl) (Nat.le_of_ble_eq_true rfl) hl.1 (Nat.le_of_ble_eq_true rfl) dX6_init_64) rfl (by decide) (z_mT 280 (by decide +kernel) rfl) rfl rfl (by decide +kernel) (fun _ => rfl) (fun _ => rfl) rfl (x_uniq (by decide +kernel)) (by decide) (x_nk (by decide +kernel)) (by decide +kernel) (by decide +kernel) (by decide +kernel) (Nat.le_of_ble_eq_true rfl) (Nat.le_of_ble_eq_true rfl) (fun ad4 H locs hP hD hS => ?_)
  refine x_arr (t := 16513) (k := 6) (idx := 51) (N := 9) (j := 0) (n := 16) (T := TX6) (at_ := .int) (ty := .int) (fty := .array .int) (cX := cI) (a0 := (16, .inl (x_0 16513))) F hin hK hP hD hS hA hl dX6_init_70 dX6_init_71 dX6_init_73 dX6_init_75 (by decide) rfl (fun _ h => by cases h) rfl (by decide) (fun _ => rfl) (fun _ => rfl) xa_int rfl (by decide) (z_mT 281 (by decide +kernel) rfl) rfl rfl (by decide +kernel) (fun _ => rfl) (fun _ => rfl) rfl (x_uniq (by decide +kernel)) (by decide) (x_hdk2 (by decide +kernel)) (Nat.le_of_ble_eq_true rfl) (Nat.le_of_ble_eq_true rfl) (fun q70 H locs hP hD hS => ?_)
  refine x_arr (t := 18483) (k := 7) (idx := 55) (N := 9) (j := 2) (n := 6) (T := TX6) (at_ := .long) (ty := .long) (fty := .array .long) (cX := cJ) (a0 := (6, .inr (.inl (x_0L 18483)))) F hin hK hP hD hS hA hl dX6_init_78 dX6_init_79 dX6_init_81 dX6_init_83 (by decide) rfl (fun _ h => by cases h) rfl (by decide) (fun _ => rfl) (fun _ => rfl) xa_long rfl (by decide) (z_mT 282 (by decide +kernel) rfl) rfl rfl (by decide +kernel) (fun _ => rfl) (fun _ => rfl) rfl (x_uniq (by decide +kernel)) (by decide) (x_hdk2 (by decide +kernel)) (Nat.le_of_ble_eq_true rfl) (Nat.le_of_ble_eq_true rfl) (fun q78 H locs hP hD hS => ?_)
  refine lv_aload_n B.exec B.bytes dX6_init_86 rfl (lv_at hl 0 rfl) ?_
  refine lv_iconst (v := 0) B.exec B.bytes dX6_init_87 (by decide) ?_
  obtain ⟨hinw, ⟨tyf, htyf⟩, hnm⟩ := z_cl_ok 6 (RX6, TX6, 9) rfl
  refine va_put (D := D) (cl := z_cl) (ci := 6) (v := .int 0) (ty := .int) (C := RX6) (T := TX6) (N := 9) (ref := (TX6 8).1) B.exec B.bytes hts hinw tyf htyf hnm hown hK hP hD hS 0 rfl rfl 8 (by decide) (hts _ (z_mT 283 (by decide +kernel) rfl)) (fun _ h9 => h9) rfl (by decide +kernel) rfl rfl (by rw [x_fs_len]; decide +kernel) dX6_init_88 (fun H locs hP hD hS => ?_)
  have hW : ∀ {ad : Nat → Nat} {done : List Nat}, (x_W cI cZ cJ ad done h0 2096).set 0 (h0, Sum.inr (6, (x_fs ad done 2096).set 8 (.int 0))) = x_W cI cZ cJ ad done h0 2096 := by
    intro ad done
    rw [x_fs_none (by decide +kernel)]
    rfl
  rw [hW] at hP hD
  refine W.widen (k := 52) (n := 1355) (Nat.le_of_ble_eq_true rfl) (Nat.le_of_ble_eq_true rfl) ?_
  have hP := x_Pend (ids := xi_6) hP rfl (by decide) (by decide +kernel) rfl
  have hD := x_Dend (ids := xi_6) hD rfl (by decide) (by decide +kernel) rfl
  exact W.vret B.exec B.bytes hr (fun t ht hW => ⟨⟨_, rfl, rfl, by rw [ht]; exact hP, hD⟩, hS.F ht⟩) hS.2.2 dX6_init_91
