/-! two objects out of the constructor; the law in a room that is large enough; p40 as it is printed is false -/
def R_law : String := "SonglinebenchLaw"
def lw_P (b : Addr) (xs : List Int32) (args : Array Value) (s : State) : Prop := args = #[.ref b] ∧ s.IntsAt b xs ∧ xs.length ≤ 260 ∧ (Jvm.Cond.and given_1 narrow_1).before args s = true
def w_ad (ad6 : Nat → Nat) (aw : Nat) : Nat → Nat := fun a => if a ∈ xi_6 then ad6 a else aw
theorem w_ad6 {ad6 : Nat → Nat} {aw a : Nat} (h : a ∈ xi_6) : w_ad ad6 aw a = ad6 a := if_pos h
theorem w_adW {ad6 : Nat → Nat} {aw : Nat} : w_ad ad6 aw z_WT = aw := if_neg (by decide +kernel)
theorem w_mem : ∀ a ∈ z_ids, a ∈ xi_6 := by decide +kernel
theorem w_in6 : ∀ a ∈ xi_6, a % 8 = 0 → x_in xi_6 a = true := by decide +kernel
theorem w_L {cI cZ cJ : ClassId} {ad6 : Nat → Nat} {aw : Nat} : x_L cI cZ cJ (w_ad ad6 aw) xi_6 = x_L cI cZ cJ ad6 xi_6 := x_L_fr (fun a ha => ⟨w_ad6 ha, fun h8 u hu => w_ad6 (x_in_of (w_in6 a ha h8) hu)⟩)
theorem w_zJ : z_J x_0 := ⟨⟨0, by decide, rfl⟩, ⟨0, by decide, rfl⟩, ⟨0, by decide, rfl⟩, ⟨0, by decide, rfl⟩, ⟨0, by decide, rfl⟩, ⟨0, by decide, rfl⟩, ⟨0, by decide, rfl⟩, ⟨0, by decide, rfl⟩, fun _ => vp_in_nI (n := 0) (by decide) (by decide), fun _ => ⟨0, by decide, rfl⟩, fun _ => ⟨0, by decide, rfl⟩, fun _ => vp_in_nI (n := 0) (by decide) (by decide)⟩
theorem w_join {D : va_G} {A : Nat → Prop} {cI cZ cJ : ClassId} {ad0 ad1 : Nat → Nat} {H : Heap} (hP : va_P D z_cl (x_L cI cZ cJ ad0 xi_6 ++ x_L cI cZ cJ ad1 xi_6) H) (hD : va_D A (x_L cI cZ cJ ad0 xi_6 ++ x_L cI cZ cJ ad1 xi_6)) (hw : ad0 z_WT = ad1 z_WT) : y_Wd D cI cZ cJ ad0 ad1 H ∧ y_Ad ad0 ad1 ∧ ∀ a ∈ z_ids, A (ad0 a) ∧ A (ad1 a) := by
  have hlen : ∀ ad : Nat → Nat, (x_L cI cZ cJ ad xi_6).length = xi_6.length := fun ad => List.length_map _
  have key0 : ∀ a, a ∈ z_ids → ∃ k : Nat, k < xi_6.length ∧ xi_6[k]? = some a ∧ (x_L cI cZ cJ ad0 xi_6 ++ x_L cI cZ cJ ad1 xi_6)[k]? = some (ad0 a, z_e cI cZ cJ ad0 x_0 x_0L a) := by
    intro a ha
    obtain ⟨k, hk⟩ := List.getElem?_of_mem (w_mem a ha)
    have hkl : k < xi_6.length := (List.getElem?_eq_some_iff.mp hk).1
    refine ⟨k, hkl, hk, ?_⟩
    rw [List.getElem?_append_left (by rw [hlen]; exact hkl)]
    unfold x_L
    rw [List.getElem?_map, hk]
    rfl
  have key1 : ∀ a, a ∈ z_ids → ∃ k : Nat, xi_6[k]? = some a ∧ (x_L cI cZ cJ ad0 xi_6 ++ x_L cI cZ cJ ad1 xi_6)[xi_6.length + k]? = some (ad1 a, z_e cI cZ cJ ad1 x_0 x_0L a) := by
    intro a ha
    obtain ⟨k, hk⟩ := List.getElem?_of_mem (w_mem a ha)
    refine ⟨k, hk, ?_⟩
    rw [List.getElem?_append_right (by rw [hlen]; exact Nat.le_add_right _ _), hlen, Nat.add_sub_cancel_left]
    unfold x_L
    rw [List.getElem?_map, hk]
    rfl
  refine ⟨⟨⟨x_0, x_0L, w_zJ, fun k q hq => ?_⟩, ⟨x_0, x_0L, w_zJ, fun k q hq => ?_⟩⟩, ⟨fun a ha a' ha' hh => ?_, fun a ha a' ha' hh => ?_, fun a ha a' ha' hh => ?_, hw⟩, fun a ha => ⟨?_, ?_⟩⟩
  · unfold z_w at hq
    rw [List.getElem?_map] at hq
    obtain ⟨a, h1, h2⟩ := Option.map_eq_some_iff.mp hq
    obtain ⟨j, -, -, hj⟩ := key0 a (List.mem_of_getElem? h1)
    rw [← h2]
    exact hP j _ hj
  · unfold z_w at hq
    rw [List.getElem?_map] at hq
    obtain ⟨a, h1, h2⟩ := Option.map_eq_some_iff.mp hq
    obtain ⟨j, -, hj⟩ := key1 a (List.mem_of_getElem? h1)
    rw [← h2]
    exact hP _ _ hj
  · obtain ⟨i, -, hi1, hi2⟩ := key0 a ha
    obtain ⟨j, -, hj1, hj2⟩ := key0 a' ha'
    have := hD.1 i j _ _ hi2 hj2 hh
    subst this
    exact Option.some.inj (hi1.symm.trans hj1)
  · obtain ⟨i, hi1, hi2⟩ := key1 a ha
    obtain ⟨j, hj1, hj2⟩ := key1 a' ha'
    have h9 := hD.1 _ _ _ _ hi2 hj2 hh
    have h8 : i = j := by omega
    subst h8
    exact Option.some.inj (hi1.symm.trans hj1)
  · obtain ⟨i, hil, -, hi2⟩ := key0 a ha
    obtain ⟨j, -, hj2⟩ := key1 a' ha'
    have h9 := hD.1 _ _ _ _ hi2 hj2 hh
    omega
  · obtain ⟨i, -, -, hi2⟩ := key0 a ha
    exact hD.2 i _ hi2
  · obtain ⟨i, -, hi2⟩ := key1 a ha
    exact hD.2 _ _ hi2
theorem dY_0 : decode cL_law 0 = .ok (.new 15, 3) := by decide +kernel
theorem dY_3 : decode cL_law 3 = .ok (.dup, 1) := by decide +kernel
theorem dY_4 : decode cL_law 4 = .ok (.invokespecial 186, 3) := by decide +kernel
theorem dY_7 : decode cL_law 7 = .ok (.astore_n 1, 1) := by decide +kernel
theorem dY_8 : decode cL_law 8 = .ok (.new 15, 3) := by decide +kernel
theorem dY_11 : decode cL_law 11 = .ok (.dup, 1) := by decide +kernel
theorem dY_12 : decode cL_law 12 = .ok (.invokespecial 186, 3) := by decide +kernel
theorem dY_15 : decode cL_law 15 = .ok (.astore_n 2, 1) := by decide +kernel
theorem y_flags {l : Launch} (h : l.flags = flags0) : l.stackTraces = false := by
  unfold Launch.stackTraces
  rw [h]
  decide
/-- a room that is large enough for the law, whatever the script -/
def R2 : Room := { frames := 12, cells := 470106, slots := 2822728, locals := 462 }
def ql : Array Value → State → Outcome → State → Prop := fun _ s oc t => ∃ (v : Option Value) (g : Nat), oc = .returned v ∧ pol s.heap.size v g ∧ g ≤ t.heap.size
def qx : String → State → State → Prop := fun _ _ _ => True
set_option maxRecDepth 20000 in
set_option maxHeartbeats 8000000 in
/-- the law, in that room, on every script: it throws, or answers otherwise than 1, or its end has at least 265 cells that are new -/
theorem y_law (l : Launch) (h9 : l.stackTraces = false) (b : Addr) (xs : List Int32) : vx_Met l x (Jvm.Cond.code x code maxLocals ret :: tables_1) R2 (lw_P b xs) ql qx 470106 2822728 (fun _ => True) := by
  refine vx_ofW (cc := code) (maxL := maxLocals) (ret := ret) (by decide) rfl ?_
  intro p e s m args below meth c s₁ B hml hex hv
  obtain ⟨rfl, hx0, hbd, hg⟩ := hv
  obtain ⟨scr, harrAt, hlist, hof, hsmall⟩ := hx0
  obtain ⟨hcb, hkn, -, -⟩ := State.arrayAt?_spec harrAt
  have hown : s.vm.findClass R_law = some m.cls := findClass_of_methodNamed B.named
  have hts0 : ∀ c ∈ (Jvm.Cond.code x code maxLocals ret :: tables_1), c.before #[Value.ref b] s = true := atoms_spec (ws := Jvm.Cond.code x code maxLocals ret :: tables_1) B.pre
  have hts : ∀ w ∈ lw_tbl, w.before #[Value.ref b] s = true := k2_hts_sels lw_privs (fun w hw => hts0 w (List.mem_cons_of_mem _ hw)) lw_privs_ok
  have hsz : scr.slots.size = xs.length := by rw [← Array.length_toList, hlist, List.length_map]
  have hval : ∀ j : Nat, j < xs.length → scr.slots[j]? = some (.int (xs.getD j 0)) := fun j hj => by
    rw [← Array.getElem?_toList, hlist]
    simp [hj]
  have hbl : b < s.heap.size := (Array.getElem?_eq_some_iff.mp hcb).1
  have hX : va_X b xs.length (fun j => xs.getD j 0) s s.heap := ⟨scr, hcb, hof, hkn, hsz, hval⟩
  have hL31 : xs.length < 2 ^ 31 := by omega
  have hr := B.returns
  have hlk := B.notSynchronized
  obtain ⟨D, cI, cZ, cJ, aw, haw, hE0⟩ := y_env hts hg
  have htz : ∀ w ∈ z_T, w.before #[Value.ref b] s = true := fun w hw => hts w (List.mem_filter.mp hw).1
  have F : CallFix p m c cL_law 8 s #[Value.ref b] z_T "SonglinebenchLaw" := ⟨B.exec, B.bytes, hml, hown, htz⟩
  obtain ⟨hK, hNest, -⟩ := hE0 (fun _ => aw) rfl
  have hA : ∀ q : Nat, s.heap.size ≤ q → (fun q => s.heap.size ≤ q) q := fun _ h => h
  have hP : va_P D z_cl [] s.heap := fun k q h => by simp at h
  have hD : va_D (fun q => s.heap.size ≤ q) [] := ⟨fun i j p q h => by simp at h, fun k q h => by simp at h⟩
  have hS : va_S (fun q => s.heap.size ≤ q) s.heap s.heap [] := va_S.rf
  have hl := lv_entry ([.ref b]) (n := 8) (Nat.le_of_ble_eq_true rfl)
  show W p l e _ s m #[Value.ref b] below meth c s.heap [] 0 0 _ (entryFrame m ([Value.ref b] : List Value).toArray 8)
  rw [lg_entry_eq]
  generalize (lg_sl ([.ref b]) ++ List.replicate (8 - (lg_sl ([.ref b])).length) Slot.unset).toArray = ls at hl ⊢
  have hl : lv_has ls 8 [(0, .ref b)] := hl
  refine x_make (ws := []) (t := 2096) (idx1 := 15) (N := 9) (nc := 52) (ns := 1355) (idst := xi_6) (C := RX6) (T := TX6) (rest := []) F hK hNest hP hD hS hA rfl tyX6 tyX6_ok (z_mT 35 (by decide +kernel) rfl) (z_mT 36 (by decide +kernel) rfl) (z_mT 21 (by decide +kernel) rfl) (by decide +kernel) dY_0 dY_3 (x_runS (idx := 186) (fr := 2) (lo := 32) F (kt_6 l) (z_mT 37 (by decide +kernel) rfl) (z_mT 39 (by decide +kernel) rfl) (z_mT 21 (by decide +kernel) rfl) (by decide) rfl rfl (z_mT 38 (by decide +kernel) rfl) (Nat.le_of_ble_eq_true rfl) (Nat.le_of_ble_eq_true rfl) hl.1 (Nat.le_of_ble_eq_true rfl) dY_4) (Nat.le_of_ble_eq_true rfl) (Nat.le_of_ble_eq_true rfl) (fun q6 ad6 H6 locs6 hq6 hP hD hS => ?_)
  refine lv_astore_n B.exec B.bytes dY_7 rfl hl (Nat.le_of_ble_eq_true rfl) rfl (fun ls hl => ?_)
  have hl : lv_has ls 8 [(1, .ref q6), (0, .ref b)] := hl
  refine x_make (ws := [] ++ x_L cI cZ cJ ad6 xi_6) (t := 2096) (idx1 := 15) (N := 9) (nc := 52) (ns := 1355) (idst := xi_6) (C := RX6) (T := TX6) (rest := []) F hK hNest hP hD hS hA rfl tyX6 tyX6_ok (z_mT 35 (by decide +kernel) rfl) (z_mT 36 (by decide +kernel) rfl) (z_mT 21 (by decide +kernel) rfl) (by decide +kernel) dY_8 dY_11 (x_runS (idx := 186) (fr := 2) (lo := 32) F (kt_6 l) (z_mT 37 (by decide +kernel) rfl) (z_mT 39 (by decide +kernel) rfl) (z_mT 21 (by decide +kernel) rfl) (by decide) rfl rfl (z_mT 38 (by decide +kernel) rfl) (Nat.le_of_ble_eq_true rfl) (Nat.le_of_ble_eq_true rfl) hl.1 (Nat.le_of_ble_eq_true rfl) dY_12) (Nat.le_of_ble_eq_true rfl) (Nat.le_of_ble_eq_true rfl) (fun q7 ad7 H7 locs7 hq7 hP hD hS => ?_)
  refine lv_astore_n B.exec B.bytes dY_15 rfl hl (Nat.le_of_ble_eq_true rfl) rfl (fun ls hl => ?_)
  have hl : lv_has ls 8 [(2, .ref q7), (1, .ref q6), (0, .ref b)] := hl
  rw [List.nil_append, ← w_L (ad6 := ad6) (aw := aw), ← w_L (ad6 := ad7) (aw := aw)] at hP hD
  obtain ⟨hWd, hAdj, hAd⟩ := w_join hP hD (w_adW.trans w_adW.symm)
  have C : y_C p s m #[Value.ref b] meth c cL_law 8 "SonglinebenchLaw" D cI cZ cJ (w_ad ad6 aw) (w_ad ad7 aw) (fun q => s.heap.size ≤ q) := ⟨F, hAdj, hAd, hA, hE0 _ w_adW, hlk⟩
  have hH : y_H p l e (headSpec (Jvm.Cond.code x code maxLocals ret :: tables_1) R2).room s m #[Value.ref b] below meth c 106 2728 (vx_MQ below ql qx #[Value.ref b] s 470106 2822728 (fun _ => True)) 8 (y_ad (w_ad ad6 aw) (w_ad ad7 aw) b) (fun q => s.heap.size ≤ q) (y_Wd D cI cZ cJ (w_ad ad6 aw) (w_ad ad7 aw)) cL_law 400 (GL_law (fun _ _ _ => True)) 470000 (pol s.heap.size) := by
    refine ⟨?_, ?_, ?_⟩
    · intro pc H locs ls v g u hd hv hu hp hW hg9 hS
      rcases hv with hv | ⟨-, hn⟩
      · cases hv
      · exact vx_ret (W.widen (k := 470106) (n := 2822728) (by omega) (by omega) (W.zret B.exec B.bytes (ty := .boolean) hr hn (fun t ht _ => ⟨_, g, rfl, hp, by rw [ht]; exact hg9⟩) (fun _ _ => trivial) hd))
    · intro pc H locs ls v g u hd hv
      cases hv
    · intro pc i j n sp as' r lv g u k hlm hd hf hn hrr hsp' hKK
      rcases law_calls l h9 _ _ (z_fnd_mem _ _ _ hf) with ⟨mc', sx', hq, hco'⟩ | ⟨h1, h2, h3⟩
      · dsimp only at hq hco'
        subst hq
        obtain ⟨hu, hs9⟩ := hsp'
        refine hco' p e _ s m _ below meth c 106 2728 _ cL_law 8 D cI cZ cJ (w_ad ad6 aw) (w_ad ad7 aw) b _ pc j as' r lv g u _ _ C (Nat.le_of_ble_eq_true rfl) (Nat.le_of_ble_eq_true rfl) (by show 106 + u + mc' ≤ 470106; omega) (by show 2728 + 6 * u + 6 * mc' ≤ 2822728; omega) hd hn hrr hs9 (fun v g' hnr hk => hKK v g' _ hnr hk) ?_
        intro E g' hk H locs ls q ce hW hg9 hS hl hcell hcv hcls
        exact vx_out (fun z hz => (hex z hz).elim) hlk hcell hcv hcls (fun t ht _ => trivial) (fun _ _ => trivial) (by omega) (by omega)
      · dsimp only at h1 h2 h3
        subst h3
        obtain ⟨hu, hs9⟩ := hsp'
        rcases hd with ⟨hd, hij, hj9⟩ | ⟨hd, hij⟩
        · omega
        · have hj : j = 187 := by omega
          subst hj
          exact y_cellV C hX hbl (Nat.not_le.mpr hbl) hL31 (Nat.le_of_ble_eq_true rfl) (Nat.le_of_ble_eq_true rfl) (by show 106 + u ≤ 470106; omega) (by show 2728 + 6 * u ≤ 2822728; omega) ks_L_187 hd hrr hs9 (fun v g' hnr hk => hKK v g' _ hnr hk)
  have hw := law_walk (y_V p l e (headSpec (Jvm.Cond.code x code maxLocals ret :: tables_1) R2).room s m #[Value.ref b] below meth c 106 2728 (vx_MQ below ql qx #[Value.ref b] s 470106 2822728 (fun _ => True)) 8 (y_ad (w_ad ad6 aw) (w_ad ad7 aw) b) (fun q => s.heap.size ≤ q) (y_Wd D cI cZ cJ (w_ad ad6 aw) (w_ad ad7 aw))) s.heap.size (fun cuts n pc lv st g u h => y_sound (cuts := cuts) F hH (y_cok_of (code := CL_law) rfl ck_law) (y_pok_of (c1 := [(69, 2194967296)]) (c2 := []) co_L lo_L rfl rfl (by decide +kernel)) (fun _ _ _ _ _ h => h) n pc lv st g u h) (fun _ _ _ _ _ _ h => y_V_keep h)
  refine hw _ _ ls hWd hS.1 hS ⟨hl.1, hl.2.1, fun q hq => ?_⟩
  have e6 : w_ad ad6 aw 2096 = q6 := (w_ad6 (by decide +kernel)).trans hq6
  have e7 : w_ad ad7 aw 2096 = q7 := (w_ad6 (by decide +kernel)).trans hq7
  have hq : q ∈ [(0, Value.ref b), (1, .ref (w_ad ad6 aw 2096)), (2, .ref (w_ad ad7 aw 2096))] := hq
  rw [e6, e7] at hq
  refine hl.2.2 q ?_
  simp only [List.mem_cons, List.not_mem_nil, or_false] at hq ⊢
  rcases hq with h | h | h
  · exact Or.inr (Or.inr h)
  · exact Or.inr (Or.inl h)
  · exact Or.inl h
