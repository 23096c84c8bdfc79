
/-! the law calls its own methods -/
def z_kC (y : MethodName) (b : ByteArray) (maxL : Nat) (hh : List (Nat × Nat × Nat × Nat)) (n : Nat) : Bool := decide (Jvm.Cond.initialized y.cls ∈ z_T) && decide (Jvm.Cond.codeWith y b maxL (some .int) hh ∈ z_T) && decide (y.cls ≠ "java/lang/invoke/MethodHandle" ∧ y.cls ≠ "java/lang/invoke/VarHandle") && decide ((parseMethodDescriptor y.desc).map (fun d => d.parameters.length) = some n)
theorem z_kC_mk {y : MethodName} {b : ByteArray} {maxL : Nat} {hh : List (Nat × Nat × Nat × Nat)} {n : Nat} (h1 : Jvm.Cond.initialized y.cls ∈ z_T) (h2 : Jvm.Cond.codeWith y b maxL (some .int) hh ∈ z_T) (h3 : y.cls ≠ "java/lang/invoke/MethodHandle" ∧ y.cls ≠ "java/lang/invoke/VarHandle") (h4 : (parseMethodDescriptor y.desc).map (fun d => d.parameters.length) = some n) : z_kC y b maxL hh n = true := by
  simp only [z_kC, Bool.and_eq_true, decide_eq_true_eq]
  exact ⟨⟨⟨h1, h2⟩, h3⟩, h4⟩
set_option maxHeartbeats 2000000 in
theorem z_callW {p : Program} {l : Launch} {e : Env} {R : Room} {s : State} {m : MethodId} {args : Array Value} {below : List Frame} {meth : Method} {c : Code} {cells slots : Nat} {Q : State → Prop} {cc : ByteArray} {nL : Nat} {own : String} {D : va_G} {cI cZ cJ : ClassId} {ad : Nat → Nat} {A : Nat → Prop} {sc : Option (Nat × (Nat → Int32))}
    {pc i n d : Nat} {lv : z_LV} {as r : List Value} {S : z_MI} {P : z_ML} {k : z_PO} {sp : z_SP} {y : MethodName} {b : ByteArray} {maxL : Nat} {hh : List (Nat × Nat × Nat × Nat)}
    (ct : z_CW l y b maxL hh sp d) (hB : z_kC y b maxL hh n = true) (hV : z_kS own i y = true) (C : z_C p s m args meth c cc nL own D cI cZ cJ ad A sc) (hd1 : d + 1 ≤ R.frames) (hd2 : 8 + (maxL + 11) + 28 * d ≤ R.locals) (hcl : cells + 1 ≤ R.cells) (hsl : slots + 6 ≤ R.slots)
    (hd : decode cc pc = .ok (.invokestatic i, 3)) (hn : as.length = n) (hr : z_cs r ≤ 8) (hsp : sp as S P k)
    (hK : ∀ v S' P', (∀ a, v ≠ some (.ref a)) → k v S' P' → z_V p l e R s m args below meth c (cells + 1) (slots + 6) Q nL D cI cZ cJ ad A (pc + 3) lv (v.toList ++ r) S' P') :
    z_V p l e R s m args below meth c cells slots Q nL D cI cZ cJ ad A pc lv (as.reverse ++ r) S P := by
  intro H locs ls hP hS hl hrl hrs
  obtain ⟨⟨hx, hb, hml, hown, hts⟩, hinj, hAd, hA, hE, hlk, hsc⟩ := id C
  obtain ⟨hrs1, hrs2⟩ := z_rs_app.mp hrs
  have hras : z_rs as = true := by
    rw [z_rs, List.all_reverse] at hrs1
    exact hrs1
  simp only [z_kS, Bool.and_eq_true, decide_eq_true_eq] at hV
  obtain ⟨v1, v2⟩ := hV
  simp only [z_kC, Bool.and_eq_true, decide_eq_true_eq] at hB
  obtain ⟨⟨⟨k1, k2⟩, k3⟩, k4⟩ := hB
  have hnl : (z_ts ad as).length = n := by simp only [z_ts, List.length_map]; exact hn
  have hcw : vx_CSW R s args own i y b maxL (some .int) hh (Jvm.Cond.codeWith y b maxL (some .int) hh :: z_T) (z_rmX d) 1 6 n := by
    refine ⟨⟨rfl, rfl, hd1, hd2, fun w hw a' U hW => ?_, List.mem_cons_self⟩, hts _ k2, hts _ k1, k3, fun sig h => ?_, hts _ v1, hts _ v2⟩
    · have hw' : w ∈ z_T := by
        rcases List.mem_cons.mp hw with rfl | h
        · exact k2
        · exact h
      exact word_at hW (z_T_good hw') (hts w hw')
    · rw [h] at k4
      exact (Option.some.inj k4).symm
  have hpre : PreS s H (va_Pc (z_ts ad as) (z_Pr D cI cZ cJ ad H.size S P)) (z_ts ad as) :=
    ⟨z_Pr_blind, fun U hU hW => z_Pr_call (av := z_ts ad as) hAd hA hE hP hS hU hW⟩
  have hstk : z_ts ad (as.reverse ++ r) = (z_ts ad as).reverse ++ z_ts ad r := by
    rw [z_ts_app, z_ts_rev]
  have hAA : ∀ q, z_AA ad H.size q → A q := fun q hq => by
    rcases hq with ⟨a, ha, rfl⟩ | hq
    · exact hAd a ha
    · exact hA q (Nat.le_trans hS.1 hq)
  have hrun := vx_runSX (g := F0 m pc ls (z_ts ad (as.reverse ++ r))) (As := z_ts ad as) (rest := z_ts ad r) (nL := nL) (cells := cells) (slots := slots) (locs := locs) (p := p) (e := e) (below := below) (meth := meth) ⟨hx, hb, hml, hown, hts⟩ (ct D cI cZ cJ ad H.size as S P k hinj hras hsp) hcw hpre rfl hnl hl.1 hstk (lv_room (by rw [z_cs_sum]; exact hr)) hd ⟨hcl, hsl⟩
  intro T hT X
  rcases hrun T hT X with ⟨v, st₀, t, T', L, h0, X', hL, e1, e2, ⟨⟨v', S', P', hv, hnr, hk, hP1⟩, hF⟩, st⟩ | ⟨q, st₀, t, T', L, E, ce, h0, X', hL, e1, e2, ⟨⟨S', P', hk, hP1⟩, hF⟩, hce, hcv, hcls, st⟩
  · cases hv
    obtain ⟨hz, hkp⟩ := hF
    rw [h0] at hz hkp
    obtain ⟨t2, a1, b1⟩ := hK v S' P' hnr hk T'.heap (locs ++ L) ls (by rw [e1]; exact hP1)
      ⟨Nat.le_trans hS.1 (by rw [e1]; exact hz), fun q h1 h2 => by rw [e1, hkp q (Nat.lt_of_lt_of_le h1 hS.1) (fun z => h2 (hAA q z))]; exact hS.2.1 q h1 h2, fun q hq => by
        rcases List.mem_append.mp hq with h | h
        · exact hS.2.2 q h
        · exact hAA _ (hL q h)⟩ hl hrl (z_rs_app.mpr ⟨z_rs_nr hnr, hrs2⟩) T' rfl X'
    refine ⟨t2, st t2 ?_, b1⟩
    rw [z_ts_app, z_ts_nr hnr] at a1
    exact a1
  · exact hk.elim

theorem kc_L_people : z_kC yL_people cL_people 4 hh_L_people 3 = true := z_kC_mk (z_mT 52 (by decide +kernel) rfl) (z_mT 339 (by decide +kernel) rfl) (by decide) (by decide +kernel)
theorem kc_L_person : z_kC yL_person cL_person 5 hh_L_person 4 = true := z_kC_mk (z_mT 52 (by decide +kernel) rfl) (z_mT 436 (by decide +kernel) rfl) (by decide) (by decide +kernel)
theorem kc_L_root : z_kC yL_root cL_root 6 hh_L_root 5 = true := z_kC_mk (z_mT 52 (by decide +kernel) rfl) (z_mT 474 (by decide +kernel) rfl) (by decide) (by decide +kernel)
theorem kc_L_adopt : z_kC yL_adopt cL_adopt 5 hh_L_adopt 4 = true := z_kC_mk (z_mT 52 (by decide +kernel) rfl) (z_mT 513 (by decide +kernel) rfl) (by decide) (by decide +kernel)
theorem kc_L_raise : z_kC yL_raise cL_raise 4 hh_L_raise 3 = true := z_kC_mk (z_mT 52 (by decide +kernel) rfl) (z_mT 522 (by decide +kernel) rfl) (by decide) (by decide +kernel)
theorem kc_L_members : z_kC yL_members cL_members 4 hh_L_members 3 = true := z_kC_mk (z_mT 52 (by decide +kernel) rfl) (z_mT 530 (by decide +kernel) rfl) (by decide) (by decide +kernel)
theorem kc_L_story : z_kC yL_story cL_story 4 hh_L_story 3 = true := z_kC_mk (z_mT 52 (by decide +kernel) rfl) (z_mT 538 (by decide +kernel) rfl) (by decide) (by decide +kernel)
theorem kc_L_part : z_kC yL_part cL_part 6 hh_L_part 5 = true := z_kC_mk (z_mT 52 (by decide +kernel) rfl) (z_mT 550 (by decide +kernel) rfl) (by decide) (by decide +kernel)
theorem kc_L_hears : z_kC yL_hears cL_hears 6 hh_L_hears 5 = true := z_kC_mk (z_mT 52 (by decide +kernel) rfl) (z_mT 571 (by decide +kernel) rfl) (by decide) (by decide +kernel)
theorem kc_L_told : z_kC yL_told cL_told 4 hh_L_told 3 = true := z_kC_mk (z_mT 52 (by decide +kernel) rfl) (z_mT 593 (by decide +kernel) rfl) (by decide) (by decide +kernel)
theorem kc_L_mark : z_kC yL_mark cL_mark 7 hh_L_mark 6 = true := z_kC_mk (z_mT 52 (by decide +kernel) rfl) (z_mT 606 (by decide +kernel) rfl) (by decide) (by decide +kernel)
theorem kc_L_explain : z_kC yL_explain cL_explain 6 hh_L_explain 5 = true := z_kC_mk (z_mT 52 (by decide +kernel) rfl) (z_mT 620 (by decide +kernel) rfl) (by decide) (by decide +kernel)
theorem kc_L_isProved : z_kC yL_isProved cL_isProved 5 hh_L_isProved 4 = true := z_kC_mk (z_mT 52 (by decide +kernel) rfl) (z_mT 633 (by decide +kernel) rfl) (by decide) (by decide +kernel)
theorem kc_L_act : z_kC yL_act cL_act 8 hh_L_act 7 = true := z_kC_mk (z_mT 52 (by decide +kernel) rfl) (z_mT 652 (by decide +kernel) rfl) (by decide) (by decide +kernel)
theorem kc_L_voids : z_kC yL_voids cL_voids 5 hh_L_voids 4 = true := z_kC_mk (z_mT 52 (by decide +kernel) rfl) (z_mT 678 (by decide +kernel) rfl) (by decide) (by decide +kernel)
theorem kc_L_giveUp : z_kC yL_giveUp cL_giveUp 4 hh_L_giveUp 3 = true := z_kC_mk (z_mT 52 (by decide +kernel) rfl) (z_mT 690 (by decide +kernel) rfl) (by decide) (by decide +kernel)
theorem kc_L_left : z_kC yL_left cL_left 5 hh_L_left 4 = true := z_kC_mk (z_mT 52 (by decide +kernel) rfl) (z_mT 698 (by decide +kernel) rfl) (by decide) (by decide +kernel)
theorem kc_L_leftAnew : z_kC yL_leftAnew cL_leftAnew 5 hh_L_leftAnew 4 = true := z_kC_mk (z_mT 52 (by decide +kernel) rfl) (z_mT 723 (by decide +kernel) rfl) (by decide) (by decide +kernel)
theorem kc_L_claim : z_kC yL_claim cL_claim 6 hh_L_claim 5 = true := z_kC_mk (z_mT 52 (by decide +kernel) rfl) (z_mT 734 (by decide +kernel) rfl) (by decide) (by decide +kernel)
theorem kc_L_vote : z_kC yL_vote cL_vote 5 hh_L_vote 4 = true := z_kC_mk (z_mT 52 (by decide +kernel) rfl) (z_mT 747 (by decide +kernel) rfl) (by decide) (by decide +kernel)
theorem kc_L_register : z_kC yL_register cL_register 4 hh_L_register 3 = true := z_kC_mk (z_mT 52 (by decide +kernel) rfl) (z_mT 760 (by decide +kernel) rfl) (by decide) (by decide +kernel)
theorem kc_L_determine : z_kC yL_determine cL_determine 4 hh_L_determine 3 = true := z_kC_mk (z_mT 52 (by decide +kernel) rfl) (z_mT 785 (by decide +kernel) rfl) (by decide) (by decide +kernel)
theorem kc_L_revise : z_kC yL_revise cL_revise 4 hh_L_revise 3 = true := z_kC_mk (z_mT 52 (by decide +kernel) rfl) (z_mT 797 (by decide +kernel) rfl) (by decide) (by decide +kernel)
theorem kc_L_ofClaim : z_kC yL_ofClaim cL_ofClaim 5 hh_L_ofClaim 4 = true := z_kC_mk (z_mT 52 (by decide +kernel) rfl) (z_mT 805 (by decide +kernel) rfl) (by decide) (by decide +kernel)
theorem kc_L_holders : z_kC yL_holders cL_holders 4 hh_L_holders 3 = true := z_kC_mk (z_mT 52 (by decide +kernel) rfl) (z_mT 822 (by decide +kernel) rfl) (by decide) (by decide +kernel)
theorem kc_L_may : z_kC yL_may cL_may 6 hh_L_may 5 = true := z_kC_mk (z_mT 52 (by decide +kernel) rfl) (z_mT 838 (by decide +kernel) rfl) (by decide) (by decide +kernel)
theorem kc_L_notice : z_kC yL_notice cL_notice 8 hh_L_notice 7 = true := z_kC_mk (z_mT 52 (by decide +kernel) rfl) (z_mT 859 (by decide +kernel) rfl) (by decide) (by decide +kernel)
theorem kc_L_agree : z_kC yL_agree cL_agree 5 hh_L_agree 4 = true := z_kC_mk (z_mT 52 (by decide +kernel) rfl) (z_mT 875 (by decide +kernel) rfl) (by decide) (by decide +kernel)
theorem kc_L_object : z_kC yL_object cL_object 4 hh_L_object 3 = true := z_kC_mk (z_mT 52 (by decide +kernel) rfl) (z_mT 896 (by decide +kernel) rfl) (by decide) (by decide +kernel)
theorem kc_L_decide : z_kC yL_decide cL_decide 5 hh_L_decide 4 = true := z_kC_mk (z_mT 52 (by decide +kernel) rfl) (z_mT 909 (by decide +kernel) rfl) (by decide) (by decide +kernel)
theorem kc_L_proceed : z_kC yL_proceed cL_proceed 4 hh_L_proceed 3 = true := z_kC_mk (z_mT 52 (by decide +kernel) rfl) (z_mT 922 (by decide +kernel) rfl) (by decide) (by decide +kernel)
theorem kc_L_ofNotice : z_kC yL_ofNotice cL_ofNotice 5 hh_L_ofNotice 4 = true := z_kC_mk (z_mT 52 (by decide +kernel) rfl) (z_mT 939 (by decide +kernel) rfl) (by decide) (by decide +kernel)
theorem kc_L_value : z_kC yL_value cL_value 5 hh_L_value 4 = true := z_kC_mk (z_mT 52 (by decide +kernel) rfl) (z_mT 946 (by decide +kernel) rfl) (by decide) (by decide +kernel)
theorem kc_L_owed : z_kC yL_owed cL_owed 4 hh_L_owed 3 = true := z_kC_mk (z_mT 52 (by decide +kernel) rfl) (z_mT 955 (by decide +kernel) rfl) (by decide) (by decide +kernel)
theorem kc_L_pay : z_kC yL_pay cL_pay 4 hh_L_pay 3 = true := z_kC_mk (z_mT 52 (by decide +kernel) rfl) (z_mT 994 (by decide +kernel) rfl) (by decide) (by decide +kernel)
theorem kc_L_paid : z_kC yL_paid cL_paid 4 hh_L_paid 3 = true := z_kC_mk (z_mT 52 (by decide +kernel) rfl) (z_mT 1006 (by decide +kernel) rfl) (by decide) (by decide +kernel)
theorem kc_L_pass : z_kC yL_pass cL_pass 4 hh_L_pass 3 = true := z_kC_mk (z_mT 52 (by decide +kernel) rfl) (z_mT 1013 (by decide +kernel) rfl) (by decide) (by decide +kernel)
