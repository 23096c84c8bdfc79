/-! cell: the law's script -/
def cl_P (b L : Nat) (xs : Nat → Int32) (sz : Nat) (U : State) : Prop := U.heap.size = sz ∧ va_X b L xs U U.heap ∧ b < U.heap.size
def cl_Q : Array Value → State → Outcome → State → Prop := fun _ st oc t => (∃ r : Int32, oc = .returned (some (.int r))) ∧ va_F (fun _ => False) st t
theorem cl_blind {b L : Nat} {xs : Nat → Int32} {sz : Nat} {av : List Value} : FrameBlind (va_Pc av (cl_P b L xs sz)) := by
  intro a U g mk h
  obtain ⟨h1, h2, h3, h4⟩ := h
  exact ⟨h1, h2, va_X.moved (u := U) (U := U.calling g mk a) (Vm.Alike.refl U.vm) h3, h4⟩
theorem dC_0 : decode cL_cell 0 = .ok (.iload_n 1, 1) := by decide +kernel
theorem dC_1 : decode cL_cell 1 = .ok (.aload_n 0, 1) := by decide +kernel
theorem dC_2 : decode cL_cell 2 = .ok (.arraylength, 1) := by decide +kernel
theorem dC_3 : decode cL_cell 3 = .ok (.if_icmp .ge 9, 3) := by decide +kernel
theorem dC_6 : decode cL_cell 6 = .ok (.aload_n 0, 1) := by decide +kernel
theorem dC_7 : decode cL_cell 7 = .ok (.iload_n 1, 1) := by decide +kernel
theorem dC_8 : decode cL_cell 8 = .ok (.iaload, 1) := by decide +kernel
theorem dC_9 : decode cL_cell 9 = .ok (.goto 18, 3) := by decide +kernel
theorem dC_12 : decode cL_cell 12 = .ok (.sipush 7919, 3) := by decide +kernel
theorem dC_15 : decode cL_cell 15 = .ok (.iload_n 1, 1) := by decide +kernel
theorem dC_16 : decode cL_cell 16 = .ok (.sipush 1801, 3) := by decide +kernel
theorem dC_19 : decode cL_cell 19 = .ok (.iadd, 1) := by decide +kernel
theorem dC_20 : decode cL_cell 20 = .ok (.imul, 1) := by decide +kernel
theorem dC_21 : decode cL_cell 21 = .ok (.iload_n 1, 1) := by decide +kernel
theorem dC_22 : decode cL_cell 22 = .ok (.sipush 4337, 3) := by decide +kernel
theorem dC_25 : decode cL_cell 25 = .ok (.iadd, 1) := by decide +kernel
theorem dC_26 : decode cL_cell 26 = .ok (.imul, 1) := by decide +kernel
theorem dC_27 : decode cL_cell 27 = .ok (.ireturn, 1) := by decide +kernel
set_option maxHeartbeats 2000000 in
theorem c_cell (l : Launch) (b L k : Nat) (xs : Nat → Int32) (hL : L < 2 ^ 31) (hk : k < 2 ^ 31) (sz : Nat) : Met l yL_cell (Jvm.Cond.code yL_cell cL_cell 2 (some .int) :: z_T) (y_rm 0 0 0) (va_Pc [.ref b, .int (nI k)] (cl_P b L xs sz)) cl_Q 0 0 (fun _ => False) := by
  refine Met.ofW (cc := cL_cell) (maxL := 2) (ret := some .int) (by decide) rfl ?_
  intro p e s m args below meth c s₁ B hml hv
  obtain ⟨rfl, hsz, hX, hbl⟩ := hv
  have hr := B.returns
  have hl := lv_entry ([.ref b, .int (nI k)]) (n := 2) (Nat.le_of_ble_eq_true rfl)
  rw [lg_entry_eq]
  generalize (lg_sl ([.ref b, .int (nI k)]) ++ List.replicate (2 - (lg_sl ([.ref b, .int (nI k)])).length) Slot.unset).toArray = ls at hl ⊢
  have hl : lv_has ls 2 [(0, .ref b), (1, .int (nI k))] := hl
  have hS : va_S (fun _ => False) s.heap s.heap [] := va_S.rf
  have hpost : ∀ (v : Int32) (t : State), t.heap = s.heap → s.WarmedH t.vm → cl_Q ([Value.ref b, .int (nI k)]).toArray s (.returned (some (.int v))) t := fun v t ht _ => ⟨⟨v, rfl⟩, hS.F ht⟩
  have hend : ∀ (v : Int32), W p l e (headSpec (Jvm.Cond.code yL_cell cL_cell 2 (some .int) :: z_T) (y_rm 0 0 0)).room s m ([Value.ref b, .int (nI k)]).toArray below meth c s.heap [] 0 0 (MQ below cl_Q ([Value.ref b, .int (nI k)]).toArray s 0 0 (fun _ => False)) (F0 m 27 ls [.int v]) := fun v => W.iret B.exec B.bytes hr (hpost v) hS.2.2 dC_27
  refine lv_iload_n B.exec B.bytes dC_0 rfl (lv_at hl 1 rfl) ?_
  refine lv_aload_n B.exec B.bytes dC_1 rfl (lv_at hl 0 rfl) ?_
  refine va_slen B.exec B.bytes hX hbl (fun h => h) hS dC_2 ?_
  refine lv_icmp_ge (tgt := 12) B.exec B.bytes dC_3 (by decide) (fun h => ?_) (fun h => ?_)
  · refine lv_sipush (v := nI 7919) B.exec B.bytes dC_12 (by decide) ?_
    refine lv_iload_n B.exec B.bytes dC_15 rfl (lv_at hl 1 rfl) ?_
    refine lv_sipush (v := nI 1801) B.exec B.bytes dC_16 (by decide) ?_
    refine lv_iadd B.exec B.bytes dC_19 ?_
    refine lv_imul B.exec B.bytes dC_20 ?_
    refine lv_iload_n B.exec B.bytes dC_21 rfl (lv_at hl 1 rfl) ?_
    refine lv_sipush (v := nI 4337) B.exec B.bytes dC_22 (by decide) ?_
    refine lv_iadd B.exec B.bytes dC_25 ?_
    refine lv_imul B.exec B.bytes dC_26 ?_
    exact hend _
  · refine lv_aload_n B.exec B.bytes dC_6 rfl (lv_at hl 0 rfl) ?_
    refine lv_iload_n B.exec B.bytes dC_7 rfl (lv_at hl 1 rfl) ?_
    have hin : vp_in (nI k) L := vp_in_nI (Nat.not_le.mp (fun q => h ((nI_leI hL hk).mpr q))) hL
    refine va_sld B.exec B.bytes hX hbl (fun h => h) hS hin dC_8 ?_
    refine lv_goto (tgt := 27) B.exec B.bytes dC_9 (by decide) ?_
    exact hend _
def sx_cell : y_SX := fun as g k _ => match as with
  | [.ref 2, .int x] => (∃ j : Nat, j < 2 ^ 31 ∧ x = nI j) ∧ ∀ r : Int32, k (some (.int r)) g
  | _ => False
set_option maxHeartbeats 2000000 in
theorem y_cellV {p : Program} {l : Launch} {e : Env} {R : Room} {s : State} {m : MethodId} {args : Array Value} {below : List Frame} {meth : Method} {c : Code} {c0 s0 : Nat} {Q : State → Prop} {cc : ByteArray} {nL : Nat} {own : String} {D : va_G} {cI cZ cJ : ClassId} {ad0 ad1 : Nat → Nat} {b9 L : Nat} {xs : Nat → Int32} {A : Nat → Prop} {pc i : Nat} {lv : z_LV} {as r : List Value} {g u : Nat} {k : y_PO} {kx : y_PX}
    (C : y_C p s m args meth c cc nL own D cI cZ cJ ad0 ad1 A) (hX : va_X b9 L xs s s.heap) (hbl : b9 < s.heap.size) (hbA : ¬ A b9) (hL : L < 2 ^ 31) (hfr : 1 ≤ R.frames) (hlo : 21 ≤ R.locals) (hcl : c0 + u ≤ R.cells) (hsl : s0 + 6 * u ≤ R.slots) (hV : z_kS own i yL_cell = true) (hd : decode cc pc = .ok (.invokestatic i, 3)) (hr : z_cs r ≤ 8) (hsp : sx_cell as g k kx)
    (hK : ∀ v g', (∀ a, v ≠ some (.ref a)) → k v g' → y_V p l e R s m args below meth c c0 s0 Q nL (y_ad ad0 ad1 b9) A (y_Wd D cI cZ cJ ad0 ad1) (pc + 3) lv (v.toList ++ r) g' (u + 0)) :
    y_V p l e R s m args below meth c c0 s0 Q nL (y_ad ad0 ad1 b9) A (y_Wd D cI cZ cJ ad0 ad1) pc lv (as.reverse ++ r) g u := by
  unfold sx_cell at hsp
  split at hsp
  · rename_i x
    obtain ⟨⟨j, hj, rfl⟩, hk⟩ := hsp
    intro H locs ls hW hg hS hl
    obtain ⟨⟨hx, hb, hml, hown, hts⟩, hAdj, hAd, hA, hE, hlk⟩ := id C
    simp only [z_kS, Bool.and_eq_true, decide_eq_true_eq] at hV
    obtain ⟨v1, v2⟩ := hV
    have hB := kb_L_cell
    simp only [z_kB, Bool.and_eq_true, decide_eq_true_eq] at hB
    obtain ⟨⟨⟨k1, k2⟩, k3⟩, k4⟩ := hB
    have hXH : va_X b9 L xs s H := hX.kept (hS.2.1 b9 hbl hbA)
    have hpre : PreS s H (va_Pc [.ref b9, .int (nI j)] (cl_P b9 L xs H.size)) [.ref b9, .int (nI j)] :=
      ⟨cl_blind, fun U hU hWm => ⟨rfl, by rw [hU], by rw [hU]; exact va_X.moved hWm.alike hXH, by rw [hU]; exact Nat.lt_of_lt_of_le hbl hS.1⟩⟩
    have hcb : CallB R s args own i yL_cell cL_cell 2 (some .int) (Jvm.Cond.code yL_cell cL_cell 2 (some .int) :: z_T) (y_rm 0 0 0) 0 0 2 :=
      ⟨rfl, rfl, (by show 0 + 1 ≤ R.frames; omega), (by show 8 + (2 + 11) + 0 ≤ R.locals; omega), y_words (y := yL_cell) hts k2, List.mem_cons_self, hts _ k2, hts _ k1, k3, fun sig h => by
        rw [h] at k4
        exact (Option.some.inj k4).symm, hts _ v1⟩
    have hrun := va_runS (g := F0 m pc ls (z_ts (y_ad ad0 ad1 b9) ([Value.ref 2, .int (nI j)].reverse ++ r))) (As := [.ref b9, .int (nI j)]) (rest := z_ts (y_ad ad0 ad1 b9) r) (nL := nL) (cells := c0 + u) (slots := s0 + 6 * u) (locs := locs) (p := p) (e := e) (below := below) (meth := meth) ⟨hx, hb, hml, hown, hts⟩ (c_cell l b9 L j xs hL hj H.size) ⟨hcb, hts _ v2⟩ hpre rfl rfl hl.1 rfl (lv_room (by rw [z_cs_sum]; exact hr)) hd ⟨hcl, hsl⟩
    intro T hT X
    obtain ⟨v, st₀, t, T', L9, h0, X', hL9, e1, e2, ⟨⟨r9, hv⟩, hF⟩, st⟩ := hrun T hT X
    cases hv
    have hkp : ∀ q : Nat, q < H.size → T'.heap[q]? = H[q]? := fun q hq => by
      rw [e1, ← h0]
      exact hF.2 q (by rw [h0]; exact hq) (fun h => h)
    have hW' : y_Wd D cI cZ cJ ad0 ad1 T'.heap := by
      obtain ⟨⟨S0, P0, hJ0, hP0⟩, ⟨S1, P1, hJ1, hP1⟩⟩ := hW
      exact ⟨⟨S0, P0, hJ0, hP0.kept (fun k q hk => hkp q.1 ((hP0 k q hk).lt))⟩, ⟨S1, P1, hJ1, hP1.kept (fun k q hk => hkp q.1 ((hP1 k q hk).lt))⟩⟩
    obtain ⟨t2, a1, b1⟩ := hK (some (.int r9)) g (fun a h => by cases h) (hk r9) T'.heap (locs ++ L9) ls hW' (Nat.le_trans hg (by rw [e1, ← h0]; exact hF.1)) (y_keepS (B := fun _ => False) (fun q h => h.elim) hS h0 e1 hF hL9) hl T' rfl (y_stand X' (by omega) (by omega))
    exact ⟨t2, st t2 a1, b1⟩
  · exact hsp.elim
